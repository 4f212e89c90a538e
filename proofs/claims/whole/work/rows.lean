section
-- ===== PART A: goes FIRST, ahead of the names: the tables' words, and 'selects' of the private methods out of them =====
/-- a private method of a class that the tables say can be made, by its rows of tables_1 -/
def lw_okq (q : MethodName × Nat) : Prop := (q.1.cls ≠ "java/lang/invoke/MethodHandle" ∧ q.1.cls ≠ "java/lang/invoke/VarHandle") ∧ Cond.instantiable q.1.cls q.2 ∈ tables_1 ∧ Cond.privateMethod q.1 ∈ tables_1 ∧ Cond.instanceMethod q.1 ∈ tables_1
theorem lw_p0 : lw_okq (⟨"PieceWays", "findPieces", "()V"⟩, 6) := ⟨⟨by decide +kernel, by decide +kernel⟩, List.mem_of_getElem? (i := 11) (by decide +kernel), List.mem_of_getElem? (i := 105) (by decide +kernel), List.mem_of_getElem? (i := 106) (by decide +kernel)⟩
theorem lw_p1 : lw_okq (⟨"PieceWays", "longestBlock", "(I)I"⟩, 6) := ⟨⟨by decide +kernel, by decide +kernel⟩, List.mem_of_getElem? (i := 11) (by decide +kernel), List.mem_of_getElem? (i := 113) (by decide +kernel), List.mem_of_getElem? (i := 114) (by decide +kernel)⟩
theorem lw_p2 : lw_okq (⟨"PieceWays", "alike", "(II)I"⟩, 6) := ⟨⟨by decide +kernel, by decide +kernel⟩, List.mem_of_getElem? (i := 11) (by decide +kernel), List.mem_of_getElem? (i := 117) (by decide +kernel), List.mem_of_getElem? (i := 118) (by decide +kernel)⟩
theorem lw_p3 : lw_okq (⟨"PieceWays$Pieces", "isThere", "(I)Z"⟩, 4) := ⟨⟨by decide +kernel, by decide +kernel⟩, List.mem_of_getElem? (i := 33) (by decide +kernel), List.mem_of_getElem? (i := 129) (by decide +kernel), List.mem_of_getElem? (i := 130) (by decide +kernel)⟩
theorem lw_p4 : lw_okq (⟨"PieceWays", "writeRow", "()V"⟩, 6) := ⟨⟨by decide +kernel, by decide +kernel⟩, List.mem_of_getElem? (i := 11) (by decide +kernel), List.mem_of_getElem? (i := 141) (by decide +kernel), List.mem_of_getElem? (i := 142) (by decide +kernel)⟩
theorem lw_p5 : lw_okq (⟨"java/lang/Throwable", "fillInStackTrace", "(I)Ljava/lang/Throwable;"⟩, 6) := ⟨⟨by decide +kernel, by decide +kernel⟩, List.mem_of_getElem? (i := 237) (by decide +kernel), List.mem_of_getElem? (i := 235) (by decide +kernel), List.mem_of_getElem? (i := 236) (by decide +kernel)⟩
theorem lw_p6 : lw_okq (⟨"PieceWaysModel", "alike", "(II)I"⟩, 10) := ⟨⟨by decide +kernel, by decide +kernel⟩, List.mem_of_getElem? (i := 266) (by decide +kernel), List.mem_of_getElem? (i := 319) (by decide +kernel), List.mem_of_getElem? (i := 320) (by decide +kernel)⟩
theorem lw_p7 : lw_okq (⟨"PieceWaysModel", "write", "(I)V"⟩, 10) := ⟨⟨by decide +kernel, by decide +kernel⟩, List.mem_of_getElem? (i := 266) (by decide +kernel), List.mem_of_getElem? (i := 323) (by decide +kernel), List.mem_of_getElem? (i := 324) (by decide +kernel)⟩
theorem lw_p8 : lw_okq (⟨"PieceWaysModel", "writeTwo", "(I)V"⟩, 10) := ⟨⟨by decide +kernel, by decide +kernel⟩, List.mem_of_getElem? (i := 266) (by decide +kernel), List.mem_of_getElem? (i := 327) (by decide +kernel), List.mem_of_getElem? (i := 328) (by decide +kernel)⟩
theorem lw_p9 : lw_okq (⟨"PieceWaysModel", "two", "(I)I"⟩, 10) := ⟨⟨by decide +kernel, by decide +kernel⟩, List.mem_of_getElem? (i := 266) (by decide +kernel), List.mem_of_getElem? (i := 331) (by decide +kernel), List.mem_of_getElem? (i := 332) (by decide +kernel)⟩
theorem lw_p10 : lw_okq (⟨"PieceWaysModel", "many", "(I)I"⟩, 10) := ⟨⟨by decide +kernel, by decide +kernel⟩, List.mem_of_getElem? (i := 266) (by decide +kernel), List.mem_of_getElem? (i := 339) (by decide +kernel), List.mem_of_getElem? (i := 340) (by decide +kernel)⟩
theorem lw_p11 : lw_okq (⟨"PieceWaysModel", "behind", "(I)I"⟩, 10) := ⟨⟨by decide +kernel, by decide +kernel⟩, List.mem_of_getElem? (i := 266) (by decide +kernel), List.mem_of_getElem? (i := 343) (by decide +kernel), List.mem_of_getElem? (i := 344) (by decide +kernel)⟩
def lw_privs_1 : List (MethodName × Nat) := [(⟨"PieceWays", "findPieces", "()V"⟩, 6), (⟨"PieceWays", "longestBlock", "(I)I"⟩, 6), (⟨"PieceWays", "alike", "(II)I"⟩, 6), (⟨"PieceWays$Pieces", "isThere", "(I)Z"⟩, 4), (⟨"PieceWays", "writeRow", "()V"⟩, 6), (⟨"java/lang/Throwable", "fillInStackTrace", "(I)Ljava/lang/Throwable;"⟩, 6), (⟨"PieceWaysModel", "alike", "(II)I"⟩, 10), (⟨"PieceWaysModel", "write", "(I)V"⟩, 10), (⟨"PieceWaysModel", "writeTwo", "(I)V"⟩, 10), (⟨"PieceWaysModel", "two", "(I)I"⟩, 10), (⟨"PieceWaysModel", "many", "(I)I"⟩, 10), (⟨"PieceWaysModel", "behind", "(I)I"⟩, 10)]
theorem lw_r1 : ∀ q ∈ lw_privs_1, lw_okq q := List.forall_mem_cons.mpr ⟨lw_p0, List.forall_mem_cons.mpr ⟨lw_p1, List.forall_mem_cons.mpr ⟨lw_p2, List.forall_mem_cons.mpr ⟨lw_p3, List.forall_mem_cons.mpr ⟨lw_p4, List.forall_mem_cons.mpr ⟨lw_p5, List.forall_mem_cons.mpr ⟨lw_p6, List.forall_mem_cons.mpr ⟨lw_p7, List.forall_mem_cons.mpr ⟨lw_p8, List.forall_mem_cons.mpr ⟨lw_p9, List.forall_mem_cons.mpr ⟨lw_p10, List.forall_mem_cons.mpr ⟨lw_p11, fun _ h => absurd h List.not_mem_nil⟩⟩⟩⟩⟩⟩⟩⟩⟩⟩⟩⟩
def lw_privs : List (MethodName × Nat) := lw_privs_1
def lw_tbl : List Cond := k2_sels lw_privs ++ tables_1
theorem lw_privs_ok : ∀ q ∈ lw_privs, lw_okq q := lw_r1
end
section
/-! ===== BEGIN words of one list among another's, by their places ===== -/
theorem goodIn_r {big : List Cond} (ws : List Cond) (ps : List Nat) (hp : ws = ps.filterMap (fun i => big[i]?)) (h : ws.all goodWord = true) : GoodIn big ws := by
  intro w hw
  have h1 := List.all_eq_true.mp h w hw
  rw [hp] at hw
  obtain ⟨i, -, hi⟩ := List.mem_filterMap.mp hw
  have hm : w ∈ big := by first | exact List.mem_of_getElem? hi | exact List.getElem?_mem hi
  exact ⟨hm, good_of_word h1⟩
theorem goodIn_app {big a b : List Cond} (ha : GoodIn big a) (hb : GoodIn big b) : GoodIn big (a ++ b) := fun w h => (List.mem_append.mp h).elim (ha w) (hb w)
theorem goodIn_ca {big a b : List Cond} {c : Cond} (ha : GoodIn big (c :: a)) (hb : GoodIn big b) : GoodIn big (c :: (a ++ b)) := fun w h => (List.mem_cons.mp h).elim (fun e => ha w (List.mem_cons.mpr (Or.inl e))) (fun h => (List.mem_append.mp h).elim (fun h => ha w (List.mem_cons.mpr (Or.inr h))) (hb w))
theorem goodIn_sub {big ws : List Cond} (hm : ∀ w ∈ ws, w ∈ big) (h : ws.all goodWord = true) : GoodIn big ws := fun w hw => ⟨hm w hw, good_of_word (List.all_eq_true.mp h w hw)⟩
/-! ===== END ===== -/

/-! ===== BEGIN exceptions that leave a method, and their catching by the caller (launches without stack traces) ===== -/
section VXA
/-! The laws vx_back, vx_callV, vx_callS, vx_callSW, vx_throw0, vx_throwS follow proofs of the library, with one case more: JvmDerived/Free/Laws.lean (Back.of_free), Shelf42/LK1.lean (callV, callS), Shelf/KitTraced.lean (throwNew0V, throwNewS). -/
/-- where a method has thrown q: the class by its name, the cell, what was written, the world -/
def vx_T (XC : String → State → State → Prop) (st : State) (q : Addr) (t : State) (mc ms : Nat) (free : Addr → Prop) : Prop :=
  ∃ (E : String) (ce : Cell) (L : List Loc), XC E st t ∧ t.heap[q]? = some ce ∧ ce.vm = .none ∧ st.vm.findClass E = some ce.cls ∧ st.WarmedH t.vm ∧ st.sameButNew ({ t with vm := st.vm } : State) L mc ms ∧ ∀ z ∈ L, free z.base
def vx_Q (Qc : Array Value → State → Outcome → State → Prop) (XC : String → State → State → Prop) (mc ms : Nat) (free : Addr → Prop) : Array Value → State → Outcome → State → Prop := fun a st o t =>
  (Qc a st o t ∧ ∃ L, FrameEnd st o t L mc ms ∧ ∀ q ∈ L, free q.base) ∨ ∃ q, o = .threw q ∧ vx_T XC st q t mc ms free
/-- a callee that returns or throws -/
def vx_Met (l : Launch) (y : MethodName) (ws : List Cond) (rm : Room) (Pc : Array Value → State → Prop) (Qc : Array Value → State → Outcome → State → Prop) (XC : String → State → State → Prop) (mc ms : Nat) (free : Addr → Prop) : Prop :=
  MetFree l y (headSpec ws rm) Pc (fun _ _ _ _ _ => True) (vx_Q Qc XC mc ms free)
def vx_Post (XC : String → State → State → Prop) (mc ms : Nat) (free : Addr → Prop) : Pt → Array Value → Addr → Pt → Prop := fun A a q B =>
  ∃ (g : JFrame) (mk : MethodId) (t : State) (L : List Loc) (E : String) (ce : Cell), B.U.heap = t.heap ∧ B.U.vm = t.vm ∧ XC E (A.U.calling g mk a) t ∧ t.heap[q]? = some ce ∧ ce.vm = .none ∧ A.U.vm.findClass E = some ce.cls ∧ B.locs = A.locs ++ L ∧ (∀ z ∈ L, free z.base) ∧ B.cells = A.cells + mc ∧ B.slots = A.slots + ms
def vx_Back (l : Launch) (R : Room) (p : Program) (e : Env) (below : List Frame) (s : State) (sargs : Array Value) (y : MethodName) (len W9 : Nat)
    (Pre : Pt → Array Value → Prop) (Post : Pt → Array Value → Option Value → Pt → Prop) (PostX : Pt → Array Value → Addr → Pt → Prop) : Prop :=
  ∀ (m : MethodId) (meth : Method) (c : Code) (A : Pt) (g : JFrame) (ig : Instr) (mk : MethodId) (a : Array Value),
    Stand p l e R s m sargs below meth c A.U A.locs A.cells A.slots → g.method = m → g.locals.size = c.maxLocals → decode c.code g.pc = .ok (ig, len) →
    2 * g.monitorRoom + (g.stack.map fun v => v.category).sum ≤ W9 → A.U.methodNamed? y = some mk → Pre A a →
    (∃ (v : Option Value) (B : Pt), Stand p l e R s m sargs below meth c B.U B.locs B.cells B.slots ∧ Post A a v B ∧
      Steps p.tables e below (doInvoke e (A.U.setTop g) [] mk a).1 (B.U.setTop { g with pc := g.pc + len, stack := v.toList ++ g.stack })) ∨
    (∃ (q : Addr) (B : Pt), Stand p l e R s m sargs below meth c B.U B.locs B.cells B.slots ∧ PostX A a q B ∧
      Steps p.tables e below (doInvoke e (A.U.setTop g) [] mk a).1 ((B.U.setTop g).pushFrame (.throwing q)))
section Payer
variable {l : Launch} {R : Room} {p : Program} {e : Env} {below : List Frame} {s : State} {sargs : Array Value} {y : MethodName} {len W9 : Nat}
theorem vx_back {ws : List Cond} {rm : Room} {Pc : Array Value → State → Prop} {Qc : Array Value → State → Outcome → State → Prop} {XC : String → State → State → Prop} {mc ms : Nat} {free : Addr → Prop} {bytes : ByteArray} {maxL : Nat} {ret : Option FieldType}
    (hM : vx_Met l y ws rm Pc Qc XC mc ms free) (hblind : FrameBlind Pc) (hrc : rm.cells = mc) (hrs : rm.slots = ms)
    (hframes : rm.frames + 1 ≤ R.frames) (hlocals : W9 + (maxL + 11) + rm.locals ≤ R.locals)
    (hws : ∀ w ∈ ws, ∀ a' U, s.WarmedH U.vm → w.before a' U = true) (hcode : Cond.code y bytes maxL ret ∈ ws) (hinit : ∀ a' U, s.WarmedH U.vm → (Cond.initialized y.cls).before a' U = true) :
    vx_Back l R p e below s sargs y len W9 (PreOf R mc ms Pc) (PostOf Qc mc ms free) (vx_Post XC mc ms free) := by
  intro m meth c A g ig mk a X hg hsize hdg hW hn hp
  have h1 : (headSpec ws rm).pre.before a A.U = true := atoms_intro fun w hw => hws w hw _ _ X.warmed
  have h2 : (Cond.code y bytes maxL ret).before a A.U = true := hws _ hcode _ _ X.warmed
  have h3 : (Cond.initialized y.cls).before a A.U = true := hinit _ _ X.warmed
  have h4 : A.cells + (headSpec ws rm).room.cells ≤ R.cells := by rw [show (headSpec ws rm).room.cells = mc from hrc]; exact hp.1
  have h5 : A.slots + (headSpec ws rm).room.slots ≤ R.slots := by rw [show (headSpec ws rm).room.slots = ms from hrs]; exact hp.2.1
  have hPc : Pc a (A.U.calling g mk a) := hblind _ _ _ _ hp.2.2
  obtain ⟨U, Ls, c0, s0⟩ := A
  dsimp only [Pt.U, Pt.locs, Pt.cells, Pt.slots] at h1 h2 h3 h4 h5 X hn hPc ⊢
  obtain ⟨methY, cY, hmY, hcY, -, hlY, -, -, -, -⟩ := Cond.code_spec hn h2
  obtain ⟨kY, hkY, -⟩ := className_of_methodNamed hn
  have hinitY : kY.init = .initialized := Cond.initialized_spec (findClass_of_methodNamed hn) hkY h3
  have h : At U g.method c below := by rw [hg]; exact X.here
  have hlocals9 : W9 + (maxL + 11) + (headSpec ws rm).room.locals ≤ R.locals := hlocals
  have happ : (headSpec ws rm).appliesLoose y e.platform (U.calling g mk a) = true :=
    Spec.appliesLoose_calling (g := g) h hdg hn hkY hinitY
      (X.room_calling (g := g) (R' := (headSpec ws rm).room) hsize hmY hcY hframes (by rw [hlY]; omega) h4 h5) h1
  obtain ⟨mid, hmid⟩ := h.above
  have hfr : (U.setTop g).frames = (.java g :: mid) ++ below := by rw [State.frames_setTop' g h.top, hmid]; rfl
  obtain ⟨o, s₂, hsteps, -, hend, hq⟩ := Steps.callFree hM p X.admits X.cas X.clock (acts := []) hfr happ hPc trivial
  have hq' : vx_Q Qc XC mc ms free a (U.calling g mk a) o s₂ := hq
  rw [State.frames_setTop' g h.top] at hend
  obtain ⟨g₀, hg0⟩ := Option.isSome_iff_exists.mp h.top
  obtain ⟨r, hr⟩ := State.topJava?_eq_some.mp hg0
  have hr' : (({ U with heap := s₂.heap, slotsUsed := s₂.slotsUsed } : State).setVm s₂.vm).frames = .java g₀ :: r := hr
  rcases hq' with ⟨hqc, L, hfe, hL⟩ | ⟨q, rfl, E, ce, L, hx, hce, hcv, hcl, hW₂, hsm, hL⟩
  · obtain ⟨⟨v, rfl⟩, hW₂, e2, q2, q3, q4, q5, q6⟩ := id hfe
    have e3 : s₂ = ({ (U.calling g mk a).setFrames s₂.frames with heap := s₂.heap, slotsUsed := s₂.slotsUsed } : State).setVm s₂.vm := by
      have : s₂ = ({ s₂ with vm := (U.calling g mk a).vm } : State).setVm s₂.vm := rfl
      rw [e2] at this
      exact this
    obtain ⟨c₂, i₂, len₂, hc₂, hd₂, hf₂⟩ := hend
    have hW' : U.WarmedH s₂.vm := hW₂
    have hcc : c₂ = c := by
      have h1 : s₂.code? g.method = U.code? g.method := by
        rw [State.code?_eq, State.code?_eq, hW'.alike.method?]
      exact Option.some.inj (hc₂.symm.trans (h1.trans h.code))
    subst hcc
    have hlen : len₂ = len := by rw [hdg] at hd₂; cases hd₂; rfl
    subst hlen
    have hs₂ : s₂ = (({ U with heap := s₂.heap, slotsUsed := s₂.slotsUsed } : State).setVm s₂.vm).setTop { g with pc := g.pc + len₂, stack := v.toList ++ g.stack } := by
      refine e3.trans ?_
      rw [hf₂, State.calling_eq h.top, State.setFrames_setFrames, State.setTop_of_frames _ hr', hr]
      rfl
    have hsame : U.sameButNew ({ U with heap := s₂.heap, slotsUsed := s₂.slotsUsed } : State) L mc ms := by
      refine ⟨?_, q2, q3, q4, q5, q6⟩
      obtain ⟨t, ht, -⟩ := State.frames_cons hr
      show ({ U with heap := s₂.heap, slotsUsed := s₂.slotsUsed } : State) = { U.setFrames U.frames with heap := s₂.heap, slotsUsed := s₂.slotsUsed }
      rw [State.setFrames_self ht]
    subst hg
    refine Or.inl ⟨v, ⟨(({ U with heap := s₂.heap, slotsUsed := s₂.slotsUsed } : State).setVm s₂.vm), Ls ++ L, c0 + mc, s0 + ms⟩,
      ⟨X.admits, X.cas, X.clock, X.frames, X.room, X.hears, X.method, X.code, (X.here.setHeapUsed s₂.heap s₂.slotsUsed).setVm hW'.alike, X.tail, State.WarmedH.trans X.warmed hW', X.limits, X.bytes, X.same.trans (hsame.setVm s.vm)⟩,
      ⟨g, mk, s₂, L, rfl, rfl, hqc, rfl, hL, rfl, rfl⟩, ?_⟩
    show Steps p.tables e below _ ((({ U with heap := s₂.heap, slotsUsed := s₂.slotsUsed } : State).setVm s₂.vm).setTop { g with pc := g.pc + len₂, stack := v.toList ++ g.stack })
    rw [← hs₂]
    exact hsteps
  · obtain ⟨e2, q2, q3, q4, q5, q6⟩ := id hsm
    have e3 : s₂ = ({ (U.calling g mk a).setFrames s₂.frames with heap := s₂.heap, slotsUsed := s₂.slotsUsed } : State).setVm s₂.vm := by
      have : s₂ = ({ s₂ with vm := (U.calling g mk a).vm } : State).setVm s₂.vm := rfl
      rw [e2] at this
      exact this
    have hf₂ : s₂.frames = .throwing q :: .java g :: U.frames.tail := hend
    have hW' : U.WarmedH s₂.vm := hW₂
    have hs₂ : s₂ = ((({ U with heap := s₂.heap, slotsUsed := s₂.slotsUsed } : State).setVm s₂.vm).setTop g).pushFrame (.throwing q) := by
      refine e3.trans ?_
      rw [hf₂, State.calling_eq h.top, State.setFrames_setFrames, State.pushFrame, State.frames_setTop _ hr', State.setTop_of_frames _ hr', State.setFrames_setFrames, hr]
      rfl
    have hsame : U.sameButNew ({ U with heap := s₂.heap, slotsUsed := s₂.slotsUsed } : State) L mc ms := by
      refine ⟨?_, q2, q3, q4, q5, q6⟩
      obtain ⟨t, ht, -⟩ := State.frames_cons hr
      show ({ U with heap := s₂.heap, slotsUsed := s₂.slotsUsed } : State) = { U.setFrames U.frames with heap := s₂.heap, slotsUsed := s₂.slotsUsed }
      rw [State.setFrames_self ht]
    subst hg
    refine Or.inr ⟨q, ⟨(({ U with heap := s₂.heap, slotsUsed := s₂.slotsUsed } : State).setVm s₂.vm), Ls ++ L, c0 + mc, s0 + ms⟩,
      ⟨X.admits, X.cas, X.clock, X.frames, X.room, X.hears, X.method, X.code, (X.here.setHeapUsed s₂.heap s₂.slotsUsed).setVm hW'.alike, X.tail, State.WarmedH.trans X.warmed hW', X.limits, X.bytes, X.same.trans (hsame.setVm s.vm)⟩,
      ⟨g, mk, s₂, L, E, ce, rfl, rfl, hx, hce, hcv, hcl, rfl, hL, rfl, rfl⟩, ?_⟩
    show Steps p.tables e below _ (((({ U with heap := s₂.heap, slotsUsed := s₂.slotsUsed } : State).setVm s₂.vm).setTop g).pushFrame (.throwing q))
    rw [← hs₂]
    exact hsteps
end Payer
section Calls
variable {p : Program} {l : Launch} {e : Env} {R : Room} {s : State} {m : MethodId} {args : Array Value} {below : List Frame} {meth : Method} {c : Code} {T : State} {locs : List Loc} {cells slots : Nat}
theorem vx_callV (X : Stand p l e R s m args below meth c T locs cells slots) (hexec : p.tables.exec = Jvm.exec) {own C : String} {index : Nat} {y : MethodName} {bytes : ByteArray} {maxL : Nat} {ret : Option FieldType}
    (hown : s.vm.findClass own = some m.cls) (hlink : (Cond.methodLink own index y).before args s = true) (hinst : (Cond.instanceMethod y).before args s = true) (hsel : (Cond.selects C y y).before args s = true)
    (hcode : (Cond.code y bytes maxL ret).before args s = true) (hy : y.cls ≠ "java/lang/invoke/MethodHandle" ∧ y.cls ≠ "java/lang/invoke/VarHandle")
    {W9 : Nat} {Pre : Pt → Array Value → Prop} {Post : Pt → Array Value → Option Value → Pt → Prop} {PostX : Pt → Array Value → Addr → Pt → Prop} (hK : vx_Back l R p e below s args y 3 W9 Pre Post PostX)
    {b : Addr} {cellB : Cell} (hcell : T.heap[b]? = some cellB) (hobj : cellB.vm.isStatics = false) (hcls : s.vm.findClass C = some cellB.cls)
    {g : JFrame} (hg : g.method = m) (hsize : g.locals.size = c.maxLocals) {argsL rest : List Value} (hlen : ∀ sig, parseMethodDescriptor y.desc = some sig → argsL.length = sig.parameters.length)
    (hstack : g.stack = argsL.reverse ++ .ref b :: rest) (hW : 2 * g.monitorRoom + (rest.map fun v => v.category).sum ≤ W9) (hdg : decode c.code g.pc = .ok (.invokevirtual index, 3))
    (hpre : ∀ vm₁, s.WarmedH vm₁ → Pre ⟨T.setVm vm₁, locs, cells, slots⟩ (Value.ref b :: argsL).toArray) :
    (∃ (v : Option Value) (vm₁ : Vm) (B : Pt), s.WarmedH vm₁ ∧ Stand p l e R s m args below meth c B.U B.locs B.cells B.slots ∧ Post ⟨T.setVm vm₁, locs, cells, slots⟩ (Value.ref b :: argsL).toArray v B ∧
      ∀ target, Steps p.tables e below (B.U.setTop { g with pc := g.pc + 3, stack := v.toList ++ rest }) target → Steps p.tables e below (T.setTop g) target) ∨
    (∃ (q : Addr) (vm₁ : Vm) (B : Pt), s.WarmedH vm₁ ∧ Stand p l e R s m args below meth c B.U B.locs B.cells B.slots ∧ PostX ⟨T.setVm vm₁, locs, cells, slots⟩ (Value.ref b :: argsL).toArray q B ∧
      Steps p.tables e below (T.setTop g) ((B.U.setTop { g with stack := rest }).pushFrame (.throwing q))) := by
  obtain ⟨mk, methM, hnamed, hmethM, hstM, habM⟩ := Cond.instanceMethod_spec hinst
  obtain ⟨methM', cM, hmethM', -, -, -, -, -, -, hsigM⟩ := Cond.code_spec hnamed hcode
  cases hmethM.symm.trans hmethM'
  obtain ⟨c2, r2, m2, q1, q2, q3, q4, kP, hkP, hkPi⟩ := Cond.selects_spec hsel
  cases hcls.symm.trans q1
  cases (State.methodFound?_of_named hnamed hy).symm.trans q2
  cases hnamed.symm.trans q3
  have hselP : selectMethod e.platform s.vm cellB.cls mk = .method mk := by rw [Launch.admits_selectMethod X.admits]; exact q4
  obtain ⟨vm₁, X₁, hstep₁⟩ := X.invokevirtual hexec hown hlink hnamed hmethM hstM hkP hkPi hy (a := b) (cell := cellB) hcell
    (fun z h => by rw [h] at hobj; cases hobj) hselP hmethM habM hkP hkPi (g := g) hg (argsL := argsL) (rest := rest) (hlen _ hsigM) hstack hdg
  rcases hK m meth c ⟨T.setVm vm₁, locs, cells, slots⟩ { g with stack := rest } (.invokevirtual index) mk (Value.ref b :: argsL).toArray X₁ hg hsize hdg hW (X₁.named hnamed) (hpre vm₁ X₁.warmed) with ⟨v, B, X', hpost, hsteps⟩ | ⟨q, B, X', hpost, hsteps⟩
  · exact Or.inl ⟨v, vm₁, B, X₁.warmed, X', hpost, fun target h => hstep₁ _ fun acts => by rw [doInvoke_state]; exact hsteps.trans h⟩
  · exact Or.inr ⟨q, vm₁, B, X₁.warmed, X', hpost, hstep₁ _ fun acts => by rw [doInvoke_state]; exact hsteps⟩
theorem vx_callS (X : Stand p l e R s m args below meth c T locs cells slots) (hexec : p.tables.exec = Jvm.exec) {own : String} {index : Nat} {y : MethodName} {bytes : ByteArray} {maxL : Nat} {ret : Option FieldType}
    (hown : s.vm.findClass own = some m.cls) (hlink : (Cond.methodLink own index y).before args s = true) (hstat : (Cond.static y).before args s = true) (hinit : (Cond.initialized y.cls).before args s = true)
    (hcode : (Cond.code y bytes maxL ret).before args s = true) (hy : y.cls ≠ "java/lang/invoke/MethodHandle" ∧ y.cls ≠ "java/lang/invoke/VarHandle")
    {W9 : Nat} {Pre : Pt → Array Value → Prop} {Post : Pt → Array Value → Option Value → Pt → Prop} {PostX : Pt → Array Value → Addr → Pt → Prop} (hK : vx_Back l R p e below s args y 3 W9 Pre Post PostX)
    {g : JFrame} (hg : g.method = m) (hsize : g.locals.size = c.maxLocals) {argsL rest : List Value} (hlen : ∀ sig, parseMethodDescriptor y.desc = some sig → argsL.length = sig.parameters.length)
    (hstack : g.stack = argsL.reverse ++ rest) (hW : 2 * g.monitorRoom + (rest.map fun v => v.category).sum ≤ W9) (hdg : decode c.code g.pc = .ok (.invokestatic index, 3))
    (hpre : ∀ vm₁, s.WarmedH vm₁ → Pre ⟨T.setVm vm₁, locs, cells, slots⟩ argsL.toArray) :
    (∃ (v : Option Value) (vm₁ : Vm) (B : Pt), s.WarmedH vm₁ ∧ Stand p l e R s m args below meth c B.U B.locs B.cells B.slots ∧ Post ⟨T.setVm vm₁, locs, cells, slots⟩ argsL.toArray v B ∧
      ∀ target, Steps p.tables e below (B.U.setTop { g with pc := g.pc + 3, stack := v.toList ++ rest }) target → Steps p.tables e below (T.setTop g) target) ∨
    (∃ (q : Addr) (vm₁ : Vm) (B : Pt), s.WarmedH vm₁ ∧ Stand p l e R s m args below meth c B.U B.locs B.cells B.slots ∧ PostX ⟨T.setVm vm₁, locs, cells, slots⟩ argsL.toArray q B ∧
      Steps p.tables e below (T.setTop g) ((B.U.setTop { g with stack := rest }).pushFrame (.throwing q))) := by
  obtain ⟨mk, hnamed⟩ := Cond.code_named hcode
  obtain ⟨methM, cM, hmethM, -, -, -, -, -, -, hsigM⟩ := Cond.code_spec hnamed hcode
  have hstatic : methM.isStatic = true := Cond.static_spec hnamed hmethM hstat
  obtain ⟨kP, hkP, -⟩ := className_of_methodNamed hnamed
  have hinitP : kP.init = .initialized := Cond.initialized_spec (findClass_of_methodNamed hnamed) hkP hinit
  obtain ⟨vm₁, X₁, hstep₁⟩ := X.invokestatic hexec hown hlink hnamed hmethM hstatic hkP hinitP hy (g := g) hg (argsL := argsL) (rest := rest) (hlen _ hsigM) hstack hdg
  rcases hK m meth c ⟨T.setVm vm₁, locs, cells, slots⟩ { g with stack := rest } (.invokestatic index) mk argsL.toArray X₁ hg hsize hdg hW (X₁.named hnamed) (hpre vm₁ X₁.warmed) with ⟨v, B, X', hpost, hsteps⟩ | ⟨q, B, X', hpost, hsteps⟩
  · exact Or.inl ⟨v, vm₁, B, X₁.warmed, X', hpost, fun target h => hstep₁ _ fun acts => by rw [doInvoke_state]; exact hsteps.trans h⟩
  · exact Or.inr ⟨q, vm₁, B, X₁.warmed, X', hpost, hstep₁ _ fun acts => by rw [doInvoke_state]; exact hsteps⟩
end Calls
theorem vx_cls {s : State} {T : State} {vm₁ : Vm} {E : String} {k : ClassId} (hW : s.WarmedH vm₁) (h : (T.setVm vm₁).vm.findClass E = some k) : s.vm.findClass E = some k := by
  have h1 : vm₁.findClass E = some k := h
  rw [hW.alike.findClass] at h1
  exact h1
/-- the method's frame g, with q thrown over it -/
def vx_W (p : Program) (l : Launch) (e : Env) (R : Room) (s : State) (m : MethodId) (args : Array Value) (below : List Frame) (meth : Method) (c : Code) (H : Heap) (locs : List Loc) (cells slots : Nat) (Q : State → Prop) (g : JFrame) (q : Addr) : Prop :=
  ∀ T : State, T.heap = H → Stand p l e R s m args below meth c T locs cells slots → ∃ t, Steps p.tables e below ((T.setTop g).pushFrame (.throwing q)) t ∧ Q t
def vx_Run (p : Program) (l : Launch) (e : Env) (R : Room) (s : State) (m : MethodId) (args : Array Value) (below : List Frame) (meth : Method) (c : Code) (H : Heap) (locs : List Loc) (cells slots mc ms : Nat) (g : JFrame) (rest : List Value) (Qa : State → Outcome → State → Prop) (XC : String → State → State → Prop) (free : Addr → Prop) : Prop :=
  ∀ T : State, T.heap = H → Stand p l e R s m args below meth c T locs cells slots →
    (∃ (v : Option Value) (st₀ t T' : State) (L : List Loc), st₀.heap = H ∧ Stand p l e R s m args below meth c T' (locs ++ L) (cells + mc) (slots + ms) ∧ (∀ q ∈ L, free q.base) ∧ T'.heap = t.heap ∧ T'.vm = t.vm ∧ Qa st₀ (.returned v) t ∧
      Goes p e below T g T' { g with pc := g.pc + 3, stack := v.toList ++ rest }) ∨
    (∃ (q : Addr) (st₀ t T' : State) (L : List Loc) (E : String) (ce : Cell), st₀.heap = H ∧ Stand p l e R s m args below meth c T' (locs ++ L) (cells + mc) (slots + ms) ∧ (∀ z ∈ L, free z.base) ∧ T'.heap = t.heap ∧ T'.vm = t.vm ∧ XC E st₀ t ∧ t.heap[q]? = some ce ∧ ce.vm = .none ∧ s.vm.findClass E = some ce.cls ∧
      Steps p.tables e below (T.setTop g) ((T'.setTop { g with stack := rest }).pushFrame (.throwing q)))
def vx_X {S : Type} (px : S → Prop) (B : String → S → State → Prop) (A : Nat → Prop) : String → State → State → Prop := fun E st t => ∃ u : S, px u ∧ B E u t ∧ va_F A st t
section Runs
variable {p : Program} {l : Launch} {e : Env} {R : Room} {s : State} {m : MethodId} {args : Array Value} {below : List Frame} {meth : Method} {c : Code} {H : Heap} {locs : List Loc} {cells slots : Nat}
variable {y : MethodName} {bytes cc : ByteArray} {maxL nL mc ms n index : Nat} {ret : Option FieldType} {ws : List Cond} {rm : Room} {Pc : Array Value → State → Prop} {Qc : Array Value → State → Outcome → State → Prop} {XC : String → State → State → Prop} {free : Addr → Prop} {Ts : List Cond} {own C : String} {b : Addr} {As rest : List Value} {g : JFrame}
theorem vx_callBack (cb : CallB R s args own index y bytes maxL ret ws rm mc ms n) (hM : vx_Met l y ws rm Pc Qc XC mc ms free) (hbl : FrameBlind Pc) : vx_Back l R p e below s args y 3 8 (PreOf R mc ms Pc) (PostOf Qc mc ms free) (vx_Post XC mc ms free) := by
  obtain ⟨hrc, hrs, hfr, hlo, hws, hcw, -, hini, -⟩ := cb
  exact vx_back (bytes := bytes) (maxL := maxL) (ret := ret) hM hbl hrc hrs hfr hlo hws hcw (fun a' U hW => word_at hW (Or.inl (by first | rfl | simp [Cond.onTables, Cond.keeps, Cond.steady])) hini)
theorem vx_runV (S : CallFix p m c cc nL s args Ts own) (hM : vx_Met l y ws rm Pc Qc XC mc ms free) (cw : CallW R s args own C index y bytes maxL ret ws rm mc ms n) (hp : PreV s H C b Pc As)
    (hg : g.method = m) (hn : As.length = n) (hsize : g.locals.size = nL) (hstack : g.stack = As.reverse ++ .ref b :: rest) (hW : 2 * g.monitorRoom + (rest.map fun v => v.category).sum ≤ 8) (hdg : decode cc g.pc = .ok (.invokevirtual index, 3)) (hf : cells + mc ≤ R.cells ∧ slots + ms ≤ R.slots) :
    vx_Run p l e R s m args below meth c H locs cells slots mc ms g rest (Qc (Value.ref b :: As).toArray) XC free := by
  have hK : vx_Back l R p e below s args y 3 8 (PreOf R mc ms Pc) (PostOf Qc mc ms free) (vx_Post XC mc ms free) := vx_callBack cw.1 hM hp.1
  obtain ⟨⟨-, -, -, -, -, -, hcode, -, hy, hlen, hl⟩, hin, hse⟩ := cw
  obtain ⟨hx, hb, hml, ho, -⟩ := S
  obtain ⟨-, ⟨cellB, hcB, hoB, hclB⟩, hPc⟩ := hp
  intro T hT X
  rcases vx_callV X hx (C := C) (bytes := bytes) (maxL := maxL) (ret := ret) ho hl hin hse hcode hy hK (by rw [hT]; exact hcB) hoB hclB hg (hsize.trans hml.symm) (argsL := As) (rest := rest) (fun sig h => hn.trans (hlen sig h)) hstack hW (by rw [hb]; exact hdg)
    (fun vm₁ hW₁ => ⟨hf.1, hf.2, hPc (T.setVm vm₁) hT hW₁⟩) with ⟨v, vm₁, ⟨U', l2, c2, s2⟩, hW₁, X', ⟨g', mk, t, L, e1, e2, hq, h1, hL, h2, h3⟩, st⟩ | ⟨q, vm₁, ⟨U', l2, c2, s2⟩, hW₁, X', ⟨g', mk, t, L, E, ce, e1, e2, hq, hce, hcv, hcl, h1, hL, h2, h3⟩, st⟩
  · dsimp only [Pt.U, Pt.locs, Pt.cells, Pt.slots] at X' e1 e2 h1 h2 h3 st
    subst h1; subst h2; subst h3
    exact Or.inl ⟨v, (T.setVm vm₁).calling g' mk (Value.ref b :: As).toArray, t, U', L, hT, X', hL, e1, e2, hq, st⟩
  · dsimp only [Pt.U, Pt.locs, Pt.cells, Pt.slots] at X' e1 e2 h1 h2 h3 st hcl
    subst h1; subst h2; subst h3
    exact Or.inr ⟨q, (T.setVm vm₁).calling g' mk (Value.ref b :: As).toArray, t, U', L, E, ce, hT, X', hL, e1, e2, hq, hce, hcv, vx_cls hW₁ hcl, st⟩
theorem vx_runS (S : CallFix p m c cc nL s args Ts own) (hM : vx_Met l y ws rm Pc Qc XC mc ms free) (cw : CallB R s args own index y bytes maxL ret ws rm mc ms n ∧ (Cond.static y).before args s = true) (hp : PreS s H Pc As)
    (hg : g.method = m) (hn : As.length = n) (hsize : g.locals.size = nL) (hstack : g.stack = As.reverse ++ rest) (hW : 2 * g.monitorRoom + (rest.map fun v => v.category).sum ≤ 8) (hdg : decode cc g.pc = .ok (.invokestatic index, 3)) (hf : cells + mc ≤ R.cells ∧ slots + ms ≤ R.slots) :
    vx_Run p l e R s m args below meth c H locs cells slots mc ms g rest (Qc As.toArray) XC free := by
  have hK : vx_Back l R p e below s args y 3 8 (PreOf R mc ms Pc) (PostOf Qc mc ms free) (vx_Post XC mc ms free) := vx_callBack cw.1 hM hp.1
  obtain ⟨⟨-, -, -, -, -, -, hcode, hini, hy, hlen, hl⟩, hstt⟩ := cw
  obtain ⟨hx, hb, hml, ho, -⟩ := S
  intro T hT X
  rcases vx_callS X hx (bytes := bytes) (maxL := maxL) (ret := ret) ho hl hstt hini hcode hy hK hg (hsize.trans hml.symm) (argsL := As) (rest := rest) (fun sig h => hn.trans (hlen sig h)) hstack hW (by rw [hb]; exact hdg)
    (fun vm₁ hW₁ => ⟨hf.1, hf.2, hp.2 (T.setVm vm₁) hT hW₁⟩) with ⟨v, vm₁, ⟨U', l2, c2, s2⟩, hW₁, X', ⟨g', mk, t, L, e1, e2, hq, h1, hL, h2, h3⟩, st⟩ | ⟨q, vm₁, ⟨U', l2, c2, s2⟩, hW₁, X', ⟨g', mk, t, L, E, ce, e1, e2, hq, hce, hcv, hcl, h1, hL, h2, h3⟩, st⟩
  · dsimp only [Pt.U, Pt.locs, Pt.cells, Pt.slots] at X' e1 e2 h1 h2 h3 st
    subst h1; subst h2; subst h3
    exact Or.inl ⟨v, (T.setVm vm₁).calling g' mk As.toArray, t, U', L, hT, X', hL, e1, e2, hq, st⟩
  · dsimp only [Pt.U, Pt.locs, Pt.cells, Pt.slots] at X' e1 e2 h1 h2 h3 st hcl
    subst h1; subst h2; subst h3
    exact Or.inr ⟨q, (T.setVm vm₁).calling g' mk As.toArray, t, U', L, E, ce, hT, X', hL, e1, e2, hq, hce, hcv, vx_cls hW₁ hcl, st⟩
end Runs
section Rows
variable {p : Program} {l : Launch} {e : Env} {R : Room} {s : State} {m : MethodId} {args : Array Value} {below : List Frame} {meth : Method} {c : Code} {H : Heap} {locs : List Loc} {cells slots : Nat} {Q : State → Prop}
variable {mc ms : Nat} {free : Addr → Prop} {A0 A1 : Nat → Prop} {H0 : Heap} {a : Array Value} {pc : Nat} {ls : Array Slot} {st0 rest : List Value}
theorem vx_keep {st₀ t T' : State} {L : List Loc} (h0 : st₀.heap = H) (e1 : T'.heap = t.heap) (hS : va_S A0 H0 H locs) (hA : ∀ q, q < H.size → A1 q → A0 q) (hf : ∀ q, free q → A0 q) (hL : ∀ q ∈ L, free q.base) (hF : va_F A1 st₀ t) :
    H.size ≤ T'.heap.size ∧ (∀ q : Nat, q < H.size → ¬ A1 q → T'.heap[q]? = H[q]?) ∧ va_S A0 H0 T'.heap (locs ++ L) := by
  obtain ⟨hz, hk⟩ := hF
  rw [h0] at hz hk
  exact ⟨by rw [e1]; exact hz, fun q h1 h2 => by rw [e1]; exact hk q h1 h2,
    ⟨Nat.le_trans hS.1 (by rw [e1]; exact hz), fun q h1 h2 => by rw [e1, hk q (Nat.lt_of_lt_of_le h1 hS.1) (fun z => h2 (hA q (Nat.lt_of_lt_of_le h1 hS.1) z))]; exact hS.2.1 q h1 h2, fun q hq => by
      rcases List.mem_append.mp hq with h | h
      · exact hS.2.2 q h
      · exact hf _ (hL q h)⟩⟩
theorem vx_calli {S SX : Type} {post : Int32 → S → Prop} {px : SX → Prop} {B : S → State → Prop} {BX : String → SX → State → Prop} {AX : Nat → Prop} (hr : vx_Run p l e R s m args below meth c H locs cells slots mc ms (F0 m pc ls st0) rest (va_Qi post B A1 a) (vx_X px BX AX) free) (hS : va_S A0 H0 H locs) (hA : ∀ q, q < H.size → A1 q → A0 q) (hf : ∀ q, free q → A0 q) (hAX : ∀ q, q < H.size → AX q → A0 q)
    (kx : ∀ (E : String) (ce : Cell) (q9 : Addr) (u : SX) (t : State) (H1 : Heap) (locs1 : List Loc), t.heap = H1 → s.vm.Alike t.vm → px u → BX E u t → H.size ≤ H1.size → (∀ q : Nat, q < H.size → ¬ AX q → H1[q]? = H[q]?) → va_S A0 H0 H1 locs1 → H1[q9]? = some ce → ce.vm = .none → s.vm.findClass E = some ce.cls → vx_W p l e R s m args below meth c H1 locs1 (cells + mc) (slots + ms) Q (F0 m pc ls rest) q9)
    (kk : ∀ (r : Int32) (u : S) (t : State) (H1 : Heap) (locs1 : List Loc), t.heap = H1 → s.vm.Alike t.vm → post r u → B u t → H.size ≤ H1.size → (∀ q : Nat, q < H.size → ¬ A1 q → H1[q]? = H[q]?) → va_S A0 H0 H1 locs1 → W p l e R s m args below meth c H1 locs1 (cells + mc) (slots + ms) Q (F0 m (pc + 3) ls (.int r :: rest))) : W p l e R s m args below meth c H locs cells slots Q (F0 m pc ls st0) := by
  intro T hT X
  rcases hr T hT X with ⟨v, st₀, t, T', L, h0, X', hL, e1, e2, ⟨⟨r, u, hv, hp, hb⟩, hF⟩, st⟩ | ⟨q, st₀, t, T', L, E, ce, h0, X', hL, e1, e2, ⟨u, hp, hb, hF⟩, hce, hcv, hcl, st⟩
  · cases hv
    obtain ⟨k1, k2, k3⟩ := vx_keep h0 e1 hS hA hf hL hF
    obtain ⟨t2, a1, b1⟩ := kk r u t T'.heap (locs ++ L) e1.symm (by rw [← e2]; exact X'.warmed.alike) hp hb k1 k2 k3 T' rfl X'
    exact ⟨t2, st t2 a1, b1⟩
  · obtain ⟨k1, k2, k3⟩ := vx_keep h0 e1 hS hAX hf hL hF
    obtain ⟨t2, a1, b1⟩ := kx E ce q u t T'.heap (locs ++ L) e1.symm (by rw [← e2]; exact X'.warmed.alike) hp hb k1 k2 k3 (by rw [e1]; exact hce) hcv hcl T' rfl X'
    exact ⟨t2, st.trans a1, b1⟩
theorem vx_calll {S SX : Type} {post : Int64 → S → Prop} {px : SX → Prop} {B : S → State → Prop} {BX : String → SX → State → Prop} {AX : Nat → Prop} (hr : vx_Run p l e R s m args below meth c H locs cells slots mc ms (F0 m pc ls st0) rest (va_Ql post B A1 a) (vx_X px BX AX) free) (hS : va_S A0 H0 H locs) (hA : ∀ q, q < H.size → A1 q → A0 q) (hf : ∀ q, free q → A0 q) (hAX : ∀ q, q < H.size → AX q → A0 q)
    (kx : ∀ (E : String) (ce : Cell) (q9 : Addr) (u : SX) (t : State) (H1 : Heap) (locs1 : List Loc), t.heap = H1 → s.vm.Alike t.vm → px u → BX E u t → H.size ≤ H1.size → (∀ q : Nat, q < H.size → ¬ AX q → H1[q]? = H[q]?) → va_S A0 H0 H1 locs1 → H1[q9]? = some ce → ce.vm = .none → s.vm.findClass E = some ce.cls → vx_W p l e R s m args below meth c H1 locs1 (cells + mc) (slots + ms) Q (F0 m pc ls rest) q9)
    (kk : ∀ (r : Int64) (u : S) (t : State) (H1 : Heap) (locs1 : List Loc), t.heap = H1 → s.vm.Alike t.vm → post r u → B u t → H.size ≤ H1.size → (∀ q : Nat, q < H.size → ¬ A1 q → H1[q]? = H[q]?) → va_S A0 H0 H1 locs1 → W p l e R s m args below meth c H1 locs1 (cells + mc) (slots + ms) Q (F0 m (pc + 3) ls (.long r :: rest))) : W p l e R s m args below meth c H locs cells slots Q (F0 m pc ls st0) := by
  intro T hT X
  rcases hr T hT X with ⟨v, st₀, t, T', L, h0, X', hL, e1, e2, ⟨⟨r, u, hv, hp, hb⟩, hF⟩, st⟩ | ⟨q, st₀, t, T', L, E, ce, h0, X', hL, e1, e2, ⟨u, hp, hb, hF⟩, hce, hcv, hcl, st⟩
  · cases hv
    obtain ⟨k1, k2, k3⟩ := vx_keep h0 e1 hS hA hf hL hF
    obtain ⟨t2, a1, b1⟩ := kk r u t T'.heap (locs ++ L) e1.symm (by rw [← e2]; exact X'.warmed.alike) hp hb k1 k2 k3 T' rfl X'
    exact ⟨t2, st t2 a1, b1⟩
  · obtain ⟨k1, k2, k3⟩ := vx_keep h0 e1 hS hAX hf hL hF
    obtain ⟨t2, a1, b1⟩ := kx E ce q u t T'.heap (locs ++ L) e1.symm (by rw [← e2]; exact X'.warmed.alike) hp hb k1 k2 k3 (by rw [e1]; exact hce) hcv hcl T' rfl X'
    exact ⟨t2, st.trans a1, b1⟩
theorem vx_callf {S SX : Type} {post : UInt32 → S → Prop} {px : SX → Prop} {B : S → State → Prop} {BX : String → SX → State → Prop} {AX : Nat → Prop} (hr : vx_Run p l e R s m args below meth c H locs cells slots mc ms (F0 m pc ls st0) rest (va_Qf post B A1 a) (vx_X px BX AX) free) (hS : va_S A0 H0 H locs) (hA : ∀ q, q < H.size → A1 q → A0 q) (hf : ∀ q, free q → A0 q) (hAX : ∀ q, q < H.size → AX q → A0 q)
    (kx : ∀ (E : String) (ce : Cell) (q9 : Addr) (u : SX) (t : State) (H1 : Heap) (locs1 : List Loc), t.heap = H1 → s.vm.Alike t.vm → px u → BX E u t → H.size ≤ H1.size → (∀ q : Nat, q < H.size → ¬ AX q → H1[q]? = H[q]?) → va_S A0 H0 H1 locs1 → H1[q9]? = some ce → ce.vm = .none → s.vm.findClass E = some ce.cls → vx_W p l e R s m args below meth c H1 locs1 (cells + mc) (slots + ms) Q (F0 m pc ls rest) q9)
    (kk : ∀ (r : UInt32) (u : S) (t : State) (H1 : Heap) (locs1 : List Loc), t.heap = H1 → s.vm.Alike t.vm → post r u → B u t → H.size ≤ H1.size → (∀ q : Nat, q < H.size → ¬ A1 q → H1[q]? = H[q]?) → va_S A0 H0 H1 locs1 → W p l e R s m args below meth c H1 locs1 (cells + mc) (slots + ms) Q (F0 m (pc + 3) ls (.float r :: rest))) : W p l e R s m args below meth c H locs cells slots Q (F0 m pc ls st0) := by
  intro T hT X
  rcases hr T hT X with ⟨v, st₀, t, T', L, h0, X', hL, e1, e2, ⟨⟨r, u, hv, hp, hb⟩, hF⟩, st⟩ | ⟨q, st₀, t, T', L, E, ce, h0, X', hL, e1, e2, ⟨u, hp, hb, hF⟩, hce, hcv, hcl, st⟩
  · cases hv
    obtain ⟨k1, k2, k3⟩ := vx_keep h0 e1 hS hA hf hL hF
    obtain ⟨t2, a1, b1⟩ := kk r u t T'.heap (locs ++ L) e1.symm (by rw [← e2]; exact X'.warmed.alike) hp hb k1 k2 k3 T' rfl X'
    exact ⟨t2, st t2 a1, b1⟩
  · obtain ⟨k1, k2, k3⟩ := vx_keep h0 e1 hS hAX hf hL hF
    obtain ⟨t2, a1, b1⟩ := kx E ce q u t T'.heap (locs ++ L) e1.symm (by rw [← e2]; exact X'.warmed.alike) hp hb k1 k2 k3 (by rw [e1]; exact hce) hcv hcl T' rfl X'
    exact ⟨t2, st.trans a1, b1⟩
theorem vx_calld {S SX : Type} {post : UInt64 → S → Prop} {px : SX → Prop} {B : S → State → Prop} {BX : String → SX → State → Prop} {AX : Nat → Prop} (hr : vx_Run p l e R s m args below meth c H locs cells slots mc ms (F0 m pc ls st0) rest (va_Qd post B A1 a) (vx_X px BX AX) free) (hS : va_S A0 H0 H locs) (hA : ∀ q, q < H.size → A1 q → A0 q) (hf : ∀ q, free q → A0 q) (hAX : ∀ q, q < H.size → AX q → A0 q)
    (kx : ∀ (E : String) (ce : Cell) (q9 : Addr) (u : SX) (t : State) (H1 : Heap) (locs1 : List Loc), t.heap = H1 → s.vm.Alike t.vm → px u → BX E u t → H.size ≤ H1.size → (∀ q : Nat, q < H.size → ¬ AX q → H1[q]? = H[q]?) → va_S A0 H0 H1 locs1 → H1[q9]? = some ce → ce.vm = .none → s.vm.findClass E = some ce.cls → vx_W p l e R s m args below meth c H1 locs1 (cells + mc) (slots + ms) Q (F0 m pc ls rest) q9)
    (kk : ∀ (r : UInt64) (u : S) (t : State) (H1 : Heap) (locs1 : List Loc), t.heap = H1 → s.vm.Alike t.vm → post r u → B u t → H.size ≤ H1.size → (∀ q : Nat, q < H.size → ¬ A1 q → H1[q]? = H[q]?) → va_S A0 H0 H1 locs1 → W p l e R s m args below meth c H1 locs1 (cells + mc) (slots + ms) Q (F0 m (pc + 3) ls (.double r :: rest))) : W p l e R s m args below meth c H locs cells slots Q (F0 m pc ls st0) := by
  intro T hT X
  rcases hr T hT X with ⟨v, st₀, t, T', L, h0, X', hL, e1, e2, ⟨⟨r, u, hv, hp, hb⟩, hF⟩, st⟩ | ⟨q, st₀, t, T', L, E, ce, h0, X', hL, e1, e2, ⟨u, hp, hb, hF⟩, hce, hcv, hcl, st⟩
  · cases hv
    obtain ⟨k1, k2, k3⟩ := vx_keep h0 e1 hS hA hf hL hF
    obtain ⟨t2, a1, b1⟩ := kk r u t T'.heap (locs ++ L) e1.symm (by rw [← e2]; exact X'.warmed.alike) hp hb k1 k2 k3 T' rfl X'
    exact ⟨t2, st t2 a1, b1⟩
  · obtain ⟨k1, k2, k3⟩ := vx_keep h0 e1 hS hAX hf hL hF
    obtain ⟨t2, a1, b1⟩ := kx E ce q u t T'.heap (locs ++ L) e1.symm (by rw [← e2]; exact X'.warmed.alike) hp hb k1 k2 k3 (by rw [e1]; exact hce) hcv hcl T' rfl X'
    exact ⟨t2, st.trans a1, b1⟩
theorem vx_callv {S SX : Type} {post : S → Prop} {px : SX → Prop} {B : S → State → Prop} {BX : String → SX → State → Prop} {AX : Nat → Prop} (hr : vx_Run p l e R s m args below meth c H locs cells slots mc ms (F0 m pc ls st0) rest (va_Qv post B A1 a) (vx_X px BX AX) free) (hS : va_S A0 H0 H locs) (hA : ∀ q, q < H.size → A1 q → A0 q) (hf : ∀ q, free q → A0 q) (hAX : ∀ q, q < H.size → AX q → A0 q)
    (kx : ∀ (E : String) (ce : Cell) (q9 : Addr) (u : SX) (t : State) (H1 : Heap) (locs1 : List Loc), t.heap = H1 → s.vm.Alike t.vm → px u → BX E u t → H.size ≤ H1.size → (∀ q : Nat, q < H.size → ¬ AX q → H1[q]? = H[q]?) → va_S A0 H0 H1 locs1 → H1[q9]? = some ce → ce.vm = .none → s.vm.findClass E = some ce.cls → vx_W p l e R s m args below meth c H1 locs1 (cells + mc) (slots + ms) Q (F0 m pc ls rest) q9)
    (kk : ∀ (u : S) (t : State) (H1 : Heap) (locs1 : List Loc), t.heap = H1 → s.vm.Alike t.vm → post u → B u t → H.size ≤ H1.size → (∀ q : Nat, q < H.size → ¬ A1 q → H1[q]? = H[q]?) → va_S A0 H0 H1 locs1 → W p l e R s m args below meth c H1 locs1 (cells + mc) (slots + ms) Q (F0 m (pc + 3) ls (rest))) : W p l e R s m args below meth c H locs cells slots Q (F0 m pc ls st0) := by
  intro T hT X
  rcases hr T hT X with ⟨v, st₀, t, T', L, h0, X', hL, e1, e2, ⟨⟨u, hv, hp, hb⟩, hF⟩, st⟩ | ⟨q, st₀, t, T', L, E, ce, h0, X', hL, e1, e2, ⟨u, hp, hb, hF⟩, hce, hcv, hcl, st⟩
  · cases hv
    obtain ⟨k1, k2, k3⟩ := vx_keep h0 e1 hS hA hf hL hF
    obtain ⟨t2, a1, b1⟩ := kk u t T'.heap (locs ++ L) e1.symm (by rw [← e2]; exact X'.warmed.alike) hp hb k1 k2 k3 T' rfl X'
    exact ⟨t2, st t2 a1, b1⟩
  · obtain ⟨k1, k2, k3⟩ := vx_keep h0 e1 hS hAX hf hL hF
    obtain ⟨t2, a1, b1⟩ := kx E ce q u t T'.heap (locs ++ L) e1.symm (by rw [← e2]; exact X'.warmed.alike) hp hb k1 k2 k3 (by rw [e1]; exact hce) hcv hcl T' rfl X'
    exact ⟨t2, st.trans a1, b1⟩
/-- caught by the row x of this method's table; the rows ahead don't take it -/
theorem vx_catch {own name : String} {E : String} {ce : Cell} {q : Addr} (hown : s.vm.findClass own = some m.cls) (pre : List ExceptionTableEntry) (x : ExceptionTableEntry) (suf : List ExceptionTableEntry) (hsplit : c.exceptionTable.toList = pre ++ x :: suf)
    (hpass : ∀ z ∈ pre, covers z pc = false ∨ (z.catchType ≠ 0 ∧ ∃ nm : String, (Cond.classLink own z.catchType nm).before args s = true ∧ va_Nc E nm s)) (hx : covers x pc = true) (h0 : x.catchType ≠ 0)
    (hlink : (Cond.classLink own x.catchType name).before args s = true) (hcast : (Cond.castable E name).before args s = true) (hcell : H[q]? = some ce) (hv : ce.vm = .none) (hcl : s.vm.findClass E = some ce.cls)
    (kk : W p l e R s m args below meth c H locs cells slots Q (F0 m x.handlerPc ls [.ref q])) : vx_W p l e R s m args below meth c H locs cells slots Q (F0 m pc ls rest) q := by
  intro T hT X
  have hpl : e.platform.magicAccessors = ({} : Platform).magicAccessors := by rw [X.admits.platform]
  obtain ⟨c3, c4, hc3, hc4, hasg⟩ := Cond.castable_spec hcast
  cases Option.some.inj (hc3.symm.trans hcl)
  obtain ⟨c5, hc5, hcl5⟩ := Cond.classLink_spec hown hlink e.platform hpl
  cases Option.some.inj (hc4.symm.trans hc5)
  obtain ⟨vm', X', st⟩ := X.thenCaughtThrough q (g := F0 m pc ls rest) rfl (Steps.refl _) (by rw [hT]; exact hcell) (by rw [hv]; rfl) (by obtain ⟨k9, h9, -⟩ := Vm.findClass_spec hcl; exact ⟨k9, h9⟩) pre x suf hsplit
    (fun z hz => by
      rcases hpass z hz with h | ⟨hz0, nm, hl1, hn1⟩
      · exact Or.inl h
      · obtain ⟨c6, hc6, hcl6⟩ := Cond.classLink_spec hown hl1 e.platform hpl
        obtain ⟨a8, b8, h1, h2, h3⟩ := hn1
        cases Option.some.inj (h1.symm.trans hcl)
        cases Option.some.inj (h2.symm.trans hc6)
        exact Or.inr ⟨hz0, _, hcl6, h3⟩) hx (Or.inr ⟨h0, c4, hcl5, hasg⟩)
  obtain ⟨t, a1, b1⟩ := kk (T.setVm vm') hT X'
  exact ⟨t, st.trans a1, b1⟩
end Rows
section Ends
variable {p : Program} {l : Launch} {e : Env} {R : Room} {s : State} {m : MethodId} {args : Array Value} {below : List Frame} {meth : Method} {c : Code} {H : Heap} {locs : List Loc} {cells slots : Nat} {Q : State → Prop}
variable {mc ms : Nat} {free : Addr → Prop} {A0 A1 : Nat → Prop} {H0 : Heap} {a : Array Value} {ls : Array Slot} {st0 rest : List Value}
variable {Qc : Array Value → State → Outcome → State → Prop} {XC : String → State → State → Prop}
/-- what a body that may throw owes at its end -/
def vx_MQ (below : List Frame) (Qc : Array Value → State → Outcome → State → Prop) (XC : String → State → State → Prop) (a : Array Value) (s : State) (mc ms : Nat) (free : Addr → Prop) : State → Prop := fun t =>
  ∃ o, t.status = .running ∧ Ended t below o ∧ vx_Q Qc XC mc ms free a s o t
theorem vx_ret {g : JFrame} {mc ms : Nat} (k : W p l e R s m args below meth c H locs cells slots (MQ below Qc args s mc ms free) g) : W p l e R s m args below meth c H locs cells slots (vx_MQ below Qc XC args s mc ms free) g := by
  intro T hT X
  obtain ⟨t, a1, o, b1, b2, b3, b4⟩ := k T hT X
  exact ⟨t, a1, o, b1, b2, Or.inl ⟨b3, b4⟩⟩
/-- not caught here: it goes on to the caller -/
theorem vx_widen {g : JFrame} {q : Addr} {k n : Nat} (h1 : cells ≤ k) (h2 : slots ≤ n) (kk : vx_W p l e R s m args below meth c H locs k n Q g q) : vx_W p l e R s m args below meth c H locs cells slots Q g q := fun T hT X => kk T hT (stand_widen X h1 h2)
theorem vx_out {pc : Nat} {E : String} {ce : Cell} {q : Addr} {mc ms : Nat} (hout : ∀ x ∈ c.exceptionTable.toList, covers x pc = false) (hlocks : meth.locks = false) (hcell : H[q]? = some ce) (hv : ce.vm = .none) (hcl : s.vm.findClass E = some ce.cls)
    (hx : ∀ t : State, t.heap = H → s.vm.Alike t.vm → XC E s t) (hf : ∀ z ∈ locs, free z.base) (hc : cells ≤ mc) (hs : slots ≤ ms) :
    vx_W p l e R s m args below meth c H locs cells slots (vx_MQ below Qc XC args s mc ms free) (F0 m pc ls rest) q := by
  intro T hT X
  obtain ⟨st1, hrun, hend, hW, hsm⟩ := X.leaveThrown q (g := F0 m pc ls rest) rfl rfl rfl hout hlocks
  have hcell9 : (T.setFrames (.throwing q :: below)).heap[q]? = some ce := by
    show T.heap[q]? = some ce
    rw [hT]; exact hcell
  exact ⟨_, st1, .threw q, hrun, hend, Or.inr ⟨q, rfl, E, ce, locs, hx _ hT hW.alike, hcell9, hv, hcl, hW, hsm.mono hc hs, hf⟩⟩
theorem vx_frame {U : State} {k n : Nat} (h : s.sameButNew ({ U with vm := s.vm } : State) locs k n) : s.heap.size ≤ U.heap.size ∧ ∀ q : Nat, q < s.heap.size → (∀ z ∈ locs, z.base ≠ q) → U.heap[q]? = s.heap[q]? := by
  obtain ⟨-, h2, -, -, -, h6⟩ := h
  refine ⟨h2, fun q hq hz => ?_⟩
  obtain ⟨c9, e1, e2, e3, e4⟩ := h6 q _ (Array.getElem?_eq_getElem hq)
  have hs : c9.slots = (s.heap[q]).slots := Array.ext_getElem? fun i => e4 i fun hm => hz _ hm rfl
  have h9 : c9 = s.heap[q] := by
    rw [hs] at e2
    exact e2
  have e5 : U.heap[q]? = some c9 := e1
  rw [e5, h9, Array.getElem?_eq_getElem hq]
/-- the words of a throw but the four that speak of the heap -/
def vx_no (w : Cond) : Bool := decide (w ≠ .isRef (.static Bundle.tN "UNASSIGNED_STACK" Bundle.steD)) && decide (w ≠ .isRef (.static Bundle.tN "SUPPRESSED_SENTINEL" Bundle.listD)) && decide (w ≠ .laysStatic Bundle.tN "UNASSIGNED_STACK" Bundle.steD) && decide (w ≠ .laysStatic Bundle.tN "SUPPRESSED_SENTINEL" Bundle.listD)
def vx_at0 (own : String) (ic : Nat) (X : String) (names : List String) : List Cond := (Bundle.ownAtoms0 own ic X names).filter vx_no
def vx_atS (own : String) (ic : Nat) (X : String) (names : List String) : List Cond := (Bundle.ownAtoms own ic X names).filter vx_no
/-- a word that the tables alone decide, or a good one -/
def vx_ot (w : Cond) : Bool := w.onTables || goodWord w
theorem vx_ot_at {args a' : Array Value} {s U : State} {w : Cond} (hW : s.WarmedH U.vm) (hvm : s.vm = U.vm) (hg : vx_ot w = true) (h : w.before args s = true) : w.before a' U = true := by
  simp only [vx_ot, Bool.or_eq_true] at hg
  rcases hg with hg | hg
  · exact va_tabs hg hvm h
  · exact word_at hW (good_of_word hg) h
/-- a list's words: the good ones out of the method's own list, the others by premises of their own -/
theorem vx_hat {args : Array Value} {s : State} {L B : List Cond} (h1 : ∀ w ∈ L.filter goodWord, w.before args s = true) (h2 : ∀ w ∈ L.filter (fun w => !goodWord w), w ∈ B) (h3 : ∀ w ∈ B, w.before args s = true) : ∀ w ∈ L, w.before args s = true := by
  intro w hw
  by_cases g : goodWord w = true
  · exact h1 w (List.mem_filter.mpr ⟨hw, g⟩)
  · refine h3 w (h2 w (List.mem_filter.mpr ⟨hw, ?_⟩))
    show (!goodWord w) = true
    cases hgw : goodWord w
    · rfl
    · exact absurd hgw g
theorem vx_c {args : Array Value} {s : State} {w : Cond} {B : List Cond} (h : w.before args s = true) (t : ∀ w ∈ B, w.before args s = true) : ∀ w' ∈ w :: B, w'.before args s = true := fun w' h' => (List.mem_cons.mp h').elim (fun e => by rw [e]; exact h) (t w')
theorem vx_n {args : Array Value} {s : State} : ∀ w ∈ ([] : List Cond), w.before args s = true := fun _ h => nomatch h
theorem vx_own {args : Array Value} {s : State} {L : List Cond} (h1 : ∀ w ∈ L.filter vx_no, w.before args s = true)
    (hU : (Cond.isRef (.static Bundle.tN "UNASSIGNED_STACK" Bundle.steD)).before args s = true) (hN : (Cond.isRef (.static Bundle.tN "SUPPRESSED_SENTINEL" Bundle.listD)).before args s = true)
    (lU : (Cond.laysStatic Bundle.tN "UNASSIGNED_STACK" Bundle.steD).before args s = true) (lN : (Cond.laysStatic Bundle.tN "SUPPRESSED_SENTINEL" Bundle.listD).before args s = true) : ∀ w ∈ L, w.before args s = true := by
  intro w hw
  by_cases e1 : w = .isRef (.static Bundle.tN "UNASSIGNED_STACK" Bundle.steD)
  · rw [e1]; exact hU
  · by_cases e2 : w = .isRef (.static Bundle.tN "SUPPRESSED_SENTINEL" Bundle.listD)
    · rw [e2]; exact hN
    · by_cases e3 : w = .laysStatic Bundle.tN "UNASSIGNED_STACK" Bundle.steD
      · rw [e3]; exact lU
      · by_cases e4 : w = .laysStatic Bundle.tN "SUPPRESSED_SENTINEL" Bundle.listD
        · rw [e4]; exact lN
        · exact h1 w (List.mem_filter.mpr ⟨hw, by unfold vx_no; rw [decide_eq_true e1, decide_eq_true e2, decide_eq_true e3, decide_eq_true e4]; rfl⟩)
/-- where a static field lies, its class's statics cell in H -/
def vx_L (C n d : String) (A : Nat → Prop) (U : State) (H : Heap) : Prop := ∃ (c : ClassId) (k : Class) (i : Nat) (f : Field) (a : Nat) (cell : Cell), U.vm.findClass C = some c ∧ U.fieldFound? C n d = some (c, k, i, f) ∧ f.isStatic = true ∧ k.statics = some a ∧ H[a]? = some cell ∧ cell.vm.isStatics = true ∧ cell.cls = c ∧ f.slot < cell.slots.size ∧ k.staticTypes[f.slot]? = some f.type ∧ ¬ A a
theorem vx_L.moved {C n d : String} {A : Nat → Prop} {u U : State} {H : Heap} (hvm : u.vm.Alike U.vm) (h : vx_L C n d A u H) : vx_L C n d A U H := by
  obtain ⟨c, k, i, f, a, cell, h1, h2, h3, h4, h5, h6, h7, h8, h9, h10⟩ := h
  obtain ⟨k', hi', he⟩ := State.fieldFound?_setVm hvm h2
  exact ⟨c, k', i, f, a, cell, by rw [hvm.findClass]; exact h1, hi', h3, by rw [he]; exact h4, h5, h6, h7, h8, by rw [he]; exact h9, h10⟩
theorem vx_L.kept {C n d : String} {A : Nat → Prop} {U : State} {H H1 : Heap} (h : vx_L C n d A U H) (hq : ∀ a : Nat, a < H.size → ¬ A a → H1[a]? = H[a]?) : vx_L C n d A U H1 := by
  obtain ⟨c, k, i, f, a, cell, h1, h2, h3, h4, h5, h6, h7, h8, h9, h10⟩ := h
  exact ⟨c, k, i, f, a, cell, h1, h2, h3, h4, by rw [hq a (Array.getElem?_eq_some_iff.mp h5).1 h10]; exact h5, h6, h7, h8, h9, h10⟩
theorem vx_L.narrow {C n d : String} {A B : Nat → Prop} {U : State} {H : Heap} (h : vx_L C n d A U H) (hAB : ∀ q, B q → A q) : vx_L C n d B U H := by
  obtain ⟨c, k, i, f, a, cell, h1, h2, h3, h4, h5, h6, h7, h8, h9, h10⟩ := h
  exact ⟨c, k, i, f, a, cell, h1, h2, h3, h4, h5, h6, h7, h8, h9, fun z => h10 (hAB _ z)⟩
theorem vx_L.word {C n d : String} {A : Nat → Prop} {s : State} {args : Array Value} (h : vx_L C n d A s s.heap) : (Cond.laysStatic C n d).before args s = true := by
  obtain ⟨c, k, i, f, a, cell, h1, h2, h3, h4, h5, h6, h7, h8, h9, -⟩ := h
  show (Cond.laysStatic C n d).holds args s none s [] = true
  exact Cond.laysStatic_of h1 h2 h3 h4 h5 h6 h7 h8 h9
/-- .. and what it holds: null or some reference -/
def vx_Zq (C n d : String) (A : Nat → Prop) (U : State) (H : Heap) : Prop := va_Zq C n d A U H ∧ vx_L C n d A U H
theorem vx_Zq.moved {C n d : String} {A : Nat → Prop} {u U : State} {H : Heap} (hvm : u.vm.Alike U.vm) (h : vx_Zq C n d A u H) : vx_Zq C n d A U H := ⟨va_Zq.moved hvm h.1, vx_L.moved hvm h.2⟩
theorem vx_Zq.kept {C n d : String} {A : Nat → Prop} {U : State} {H H1 : Heap} (h : vx_Zq C n d A U H) (hq : ∀ a : Nat, a < H.size → ¬ A a → H1[a]? = H[a]?) : vx_Zq C n d A U H1 := ⟨va_Zq.kept h.1 hq, vx_L.kept h.2 hq⟩
theorem vx_Zq.narrow {C n d : String} {A B : Nat → Prop} {U : State} {H : Heap} (h : vx_Zq C n d A U H) (hAB : ∀ q, B q → A q) : vx_Zq C n d B U H := ⟨va_Zq.narrow h.1 hAB, vx_L.narrow h.2 hAB⟩
theorem vx_Zqof {args : Array Value} {s : State} {C n d : String} {A : Nat → Prop} (hl : (Cond.laysStatic C n d).before args s = true) (hini : (Cond.initialized C).before args s = true) (h : (Cond.isRef (.static C n d)).before args s = true) (hA : ∀ a : Nat, a < s.heap.size → ¬ A a) : vx_Zq C n d A s s.heap := by
  refine ⟨va_Zqof hl hini h hA, ?_⟩
  obtain ⟨c, k, i, f, a, cell, h1, h2, h3, h4, h5, h6, h7, h8, h9⟩ := Cond.laysStatic_spec hl
  exact ⟨c, k, i, f, a, cell, h1, h2, h3, h4, h5, h6, h7, h8, h9, hA a (Array.getElem?_eq_some_iff.mp h5).1⟩
theorem vx_isRef {C n d : String} {v : Value} {A : Nat → Prop} {s : State} {args : Array Value} (h : va_Z C n d v A s s.heap) (hv : v.isRef = true) : (Cond.isRef (.static C n d)).before args s = true := by
  obtain ⟨cf, kf, fi, f, a, cell, h1, h2, h3, h4, h5, h6, h7, -⟩ := h
  have he : (Term.static C n d).eval args s none [] s = some v := by
    simp [Term.eval, State.fieldNamed?, h1, h2, h4, h5, h6, h7]
  simp only [Cond.before, Cond.holds, Cond.value, he]
  cases v <;> simp_all [Value.isRef]
theorem vx_isRefq {C n d : String} {A : Nat → Prop} {s : State} {args : Array Value} (h : va_Zq C n d A s s.heap) : (Cond.isRef (.static C n d)).before args s = true := by
  rcases h with h | ⟨t, h⟩
  · exact vx_isRef h rfl
  · exact vx_isRef h rfl
/-- the same frame, seen from here: as if the method were called anew in this heap -/
theorem vx_rebase {T : State} (X : Stand p l e R s m args below meth c T locs cells slots) {R' : Room} (hf : R'.frames ≤ R.frames) (hl : R'.locals ≤ R.locals) (hc : cells + R'.cells ≤ R.cells) (hs : slots + R'.slots ≤ R.slots) :
    Stand p l e R' ((T.setVm s.vm).setFrames (.invoking m args :: below)) m args below meth c T [] 0 0 := by
  have htop : (T.setVm s.vm).topJava?.isSome := X.here.top
  have hF : ((T.setVm s.vm).setFrames (.invoking m args :: below)).frames = .invoking m args :: below := State.frames_setFrames _ (State.cur_lt_of_top htop)
  obtain ⟨g₀, hg0⟩ := Option.isSome_iff_exists.mp htop
  obtain ⟨r, hr⟩ := State.topJava?_eq_some.mp hg0
  have hl9 : e.platform.stackLimits (T.setVm s.vm).me = e.platform.stackLimits s.me := X.limits
  have hb9 : (T.setVm s.vm).me.stackBytes = s.me.stackBytes := X.bytes
  refine ⟨X.admits, X.cas, X.clock, hF, ?_, X.hears, X.method, X.code, X.here, X.tail, X.warmed, ?_, ?_, ?_⟩
  · have h := X.room
    have hU : ((T.setVm s.vm).setFrames (.invoking m args :: below)).localsInUse = s.localsInUse := by
      rw [State.localsInUse_invoking hF (meth := meth) (c := c) X.method X.code, State.localsInUse_invoking X.frames X.method X.code]
    simp only [State.hasRoom, Bool.and_eq_true, decide_eq_true_eq] at h ⊢
    obtain ⟨⟨⟨⟨h1, h2, h3, h4, h5, h6⟩, h7⟩, h8⟩, h9⟩ := h
    rw [X.frames, List.length_cons] at h2 h3
    have q1 := X.heapSize
    have q2 := X.used
    simp only [hF, hU, List.length_cons, State.stackLimits_setFrames, State.stackBytes_setFrames, hl9, hb9]
    refine ⟨⟨⟨⟨by omega, by omega, by omega, by omega, by omega, h6⟩, ?_⟩, ?_⟩, X.book⟩
    · show T.heap.size + R'.cells ≤ e.platform.maxCells
      omega
    · show T.slotsUsed + R'.slots ≤ e.platform.maxSlots
      omega
  · rw [State.stackLimits_setFrames]; rfl
  · rw [State.stackBytes_setFrames]; rfl
  · refine ⟨?_, Nat.le_refl _, Nat.le_refl _, ?_, ?_, fun a c9 h9 => ⟨c9, h9, rfl, rfl, fun _ _ => rfl⟩⟩
    · obtain ⟨t, ht, -⟩ := State.frames_cons hr
      show T.setVm s.vm = { ((T.setVm s.vm).setFrames (.invoking m args :: below)).setFrames (T.setVm s.vm).frames with heap := T.heap, slotsUsed := T.slotsUsed }
      rw [State.setFrames_setFrames, State.setFrames_self ht]
      rfl
    · show T.slotsUsed = T.slotsUsed + ((T.heap.toList.drop T.heap.size).map (·.slots.size)).sum
      rw [List.drop_eq_nil_of_le (Nat.le_of_eq Array.length_toList)]
      rfl
    · show ((T.heap.toList.drop T.heap.size).map (·.slots.size)).sum ≤ 0
      rw [List.drop_eq_nil_of_le (Nat.le_of_eq Array.length_toList)]
      exact Nat.le_refl _
/-- 'throw new E()': new; dup; invokespecial; athrow -/
theorem vx_throw0 {cc : ByteArray} {pc : Nat} (hexec : p.tables.exec = Jvm.exec) (hb : c.code = cc) (hl : l.stackTraces = false) {own cls : String} {names : List String} {ik ic mc ms : Nat} {A : Nat → Prop}
    (hown : s.vm.findClass own = some m.cls) (hcls : Bundle.fit cls = true) (hnames : ∀ n ∈ names, Bundle.fit n = true)
    (hk : (Cond.classLink own ik cls).before args s = true) (hini : (Cond.initialized cls).before args s = true) (hat : ∀ w ∈ vx_at0 own ic cls names, w.before args s = true)
    (hgood : ∀ w ∈ Cond.classLink own ik cls :: Cond.initialized cls :: vx_at0 own ic cls names, vx_ot w = true)
    (hU : vx_Zq Bundle.tN "UNASSIGNED_STACK" Bundle.steD A s s.heap) (hN : vx_Zq Bundle.tN "SUPPRESSED_SENTINEL" Bundle.listD A s s.heap) (hS : va_S A s.heap H locs) (hsize : ls.size = c.maxLocals)
    (d0 : decode cc pc = .ok (.new ik, 3)) (d3 : decode cc (pc + 3) = .ok (.dup, 1)) (d4 : decode cc (pc + 4) = .ok (.invokespecial ic, 3)) (d7 : decode cc (pc + 7) = .ok (.athrow, 1))
    (hout : ∀ x ∈ c.exceptionTable.toList, covers x (pc + 7) = false)
    (hRframes : names.length + 3 < R.frames) (hRlocals : (rest.map fun v => v.category).sum + (13 * (names.length + 1) + 42) ≤ R.locals) (hRcells : cells + 1 ≤ R.cells) (hRslots : slots + 6 ≤ R.slots) (hlocks : meth.locks = false)
    (hx : ∀ t : State, s.vm.Alike t.vm → H.size ≤ t.heap.size → (∀ q : Nat, q < H.size → t.heap[q]? = H[q]?) → XC cls s t)
    (hf : ∀ z ∈ locs, free z.base) (hc : cells + 1 ≤ mc) (hs : slots + 6 ≤ ms) :
    W p l e R s m args below meth c H locs cells slots (vx_MQ below Qc XC args s mc ms free) (F0 m pc ls rest) := by
  intro T hT X
  have htr : e.platform.stackTraces = false := (show e.platform.stackTraces = l.stackTraces by rw [X.admits.platform]).trans hl
  have Y := vx_rebase X (R' := { frames := R.frames, locals := R.locals, cells := 1, slots := 6 }) (Nat.le_refl _) (Nat.le_refl _) hRcells hRslots
  obtain ⟨s', hA⟩ : ∃ z, z = (T.setVm s.vm).setFrames (.invoking m args :: below) := ⟨_, rfl⟩
  rw [← hA] at Y
  have hvm : s'.vm = s.vm := by rw [hA]; rfl
  have hhp : s'.heap = H := by rw [hA]; exact hT
  have hW0 : s.WarmedH s'.vm := by rw [hvm]; exact State.WarmedH.refl s
  have hat' : ∀ w ∈ vx_at0 own ic cls names, w.before args s' = true := fun w hw => vx_ot_at hW0 hvm.symm (hgood w (List.mem_cons_of_mem _ (List.mem_cons_of_mem _ hw))) (hat w hw)
  have hk' : (Cond.classLink own ik cls).before args s' = true := vx_ot_at hW0 hvm.symm (hgood _ List.mem_cons_self) hk
  have hini' : (Cond.initialized cls).before args s' = true := vx_ot_at hW0 hvm.symm (hgood _ (List.mem_cons_of_mem _ List.mem_cons_self)) hini
  have hU' : vx_Zq Bundle.tN "UNASSIGNED_STACK" Bundle.steD A s' s'.heap := by rw [hhp]; exact vx_Zq.moved hW0.alike (hU.kept hS.2.1)
  have hN' : vx_Zq Bundle.tN "SUPPRESSED_SENTINEL" Bundle.listD A s' s'.heap := by rw [hhp]; exact vx_Zq.moved hW0.alike (hN.kept hS.2.1)
  have h : ∀ w ∈ Bundle.ownAtoms0 own ic cls names, w.before args s' = true := vx_own hat' (vx_isRefq hU'.1) (vx_isRefq hN'.1) hU'.2.word hN'.2.word
  have hown' : s'.vm.findClass own = some m.cls := by rw [hvm]; exact hown
  have hins : (Cond.instantiable cls 6).before args s' = true := h _ (by simp [Bundle.ownAtoms0])
  obtain ⟨vm₁, cX, kX, hfX, hkX, -, -, X₁, st1⟩ := Y.newCold hexec (own := own) (C := cls) (index := ik) (n := 6) hown' hk' hins hini'
    (g := F0 m pc ls rest) rfl (by rw [hb]; exact d0) (Nat.le_refl _) (Nat.le_refl _)
  generalize hT1 : (T.setVm vm₁).pushCell { cls := cX, slots := kX.instanceTypes.map defaultValue, vm := .none } = T1 at X₁ st1
  have hcat : (Value.ref T.heap.size).category = 1 := rfl
  have hcellA : T1.heap[T.heap.size]? = some (freshCell cX kX) := by rw [← hT1]; exact State.heap_pushCell_size _ _
  have d3' : decode c.code (pc + 3) = .ok (.dup, 1) := by rw [hb]; exact d3
  obtain ⟨U, hsteps, hrun, hend, hW, hsame, ce, hce, hO⟩ := X₁.ctorThrow0 hexec htr (own := own) (cls := cls) (names := names) (ic := ic) hown' hcls hnames h (fun x hx => nomatch hx) hfX hkX hcellA (by rw [hhp, hT]; exact Nat.le_refl _)
    (g := { method := m, pc := pc + 4, locals := ls, stack := .ref T.heap.size :: .ref T.heap.size :: rest, locked := none }) rfl hsize rfl rfl (rest := rest) rfl
    (by rw [hb]; exact d4) (by rw [hb]; exact d7) hout hRframes (by simp only [List.map_cons, List.sum_cons, hcat]; omega) hlocks
  obtain ⟨f1, f2⟩ := vx_frame hsame
  rw [hhp] at f1 f2
  have hWs : s.WarmedH U.vm := State.WarmedH.trans hW0 hW
  have hcl : s.vm.findClass cls = some ce.cls := by
    have h9 := hO.cls
    rw [hvm] at h9
    exact h9
  have hall : s.sameButNew ({ U with vm := s.vm } : State) locs mc ms := by
    subst hA
    obtain ⟨e1, e2⟩ := hsame
    rw [State.setFrames_setFrames] at e1
    have h2 : (T.setVm s.vm).sameButNew ({ U with vm := s.vm } : State) [] (0 + 1) (0 + 6) := ⟨e1, e2⟩
    have h3 := X.same.trans h2
    rw [List.append_nil] at h3
    exact h3.mono hc hs
  refine ⟨U, ?_, .threw T.heap.size, hrun, hend, Or.inr ⟨T.heap.size, rfl, cls, ce, locs, hx U hWs.alike f1 (fun q hq => f2 q hq (fun z hz => nomatch hz)), hce, hO.vm, hcl, hWs, hall, hf⟩⟩
  refine st1 _ ?_
  show Steps p.tables e below (T1.setTop { method := m, pc := pc + 3, locals := ls, stack := .ref T.heap.size :: rest, locked := none }) _
  jvm_step X₁.here [X₁.here.top, hexec, d3', Value.category]
  exact hsteps
/-- 'throw new E("text")': new; dup; ldc; invokespecial; athrow -/
theorem vx_throwS {cc : ByteArray} {pc : Nat} (hexec : p.tables.exec = Jvm.exec) (hb : c.code = cc) (hl : l.stackTraces = false) {own cls text : String} {names : List String} {ik is ic mc ms sa : Nat} {A : Nat → Prop}
    (hown : s.vm.findClass own = some m.cls) (hcls : Bundle.fit cls = true) (hnames : ∀ n ∈ names, Bundle.fit n = true)
    (hk : (Cond.classLink own ik cls).before args s = true) (hini : (Cond.initialized cls).before args s = true) (hstr : vk_R own is text sa s) (hat : ∀ w ∈ vx_atS own ic cls names, w.before args s = true)
    (hgood : ∀ w ∈ Cond.classLink own ik cls :: Cond.initialized cls :: vx_atS own ic cls names, vx_ot w = true)
    (hU : vx_Zq Bundle.tN "UNASSIGNED_STACK" Bundle.steD A s s.heap) (hN : vx_Zq Bundle.tN "SUPPRESSED_SENTINEL" Bundle.listD A s s.heap) (hS : va_S A s.heap H locs) (hsize : ls.size = c.maxLocals)
    (d0 : decode cc pc = .ok (.new ik, 3)) (d3 : decode cc (pc + 3) = .ok (.dup, 1)) (d4 : decode cc (pc + 4) = .ok (.ldc is, 2)) (d6 : decode cc (pc + 6) = .ok (.invokespecial ic, 3)) (d9 : decode cc (pc + 9) = .ok (.athrow, 1))
    (hout : ∀ x ∈ c.exceptionTable.toList, covers x (pc + 9) = false)
    (hRframes : names.length + 3 < R.frames) (hRlocals : (rest.map fun v => v.category).sum + (13 * (names.length + 1) + 43) ≤ R.locals) (hRcells : cells + 1 ≤ R.cells) (hRslots : slots + 6 ≤ R.slots) (hlocks : meth.locks = false)
    (hx : ∀ t : State, s.vm.Alike t.vm → H.size ≤ t.heap.size → (∀ q : Nat, q < H.size → t.heap[q]? = H[q]?) → XC cls s t)
    (hf : ∀ z ∈ locs, free z.base) (hc : cells + 1 ≤ mc) (hs : slots + 6 ≤ ms) :
    W p l e R s m args below meth c H locs cells slots (vx_MQ below Qc XC args s mc ms free) (F0 m pc ls rest) := by
  intro T hT X
  have htr : e.platform.stackTraces = false := (show e.platform.stackTraces = l.stackTraces by rw [X.admits.platform]).trans hl
  have Y := vx_rebase X (R' := { frames := R.frames, locals := R.locals, cells := 1, slots := 6 }) (Nat.le_refl _) (Nat.le_refl _) hRcells hRslots
  obtain ⟨s', hA⟩ : ∃ z, z = (T.setVm s.vm).setFrames (.invoking m args :: below) := ⟨_, rfl⟩
  rw [← hA] at Y
  have hvm : s'.vm = s.vm := by rw [hA]; rfl
  have hhp : s'.heap = H := by rw [hA]; exact hT
  have hW0 : s.WarmedH s'.vm := by rw [hvm]; exact State.WarmedH.refl s
  have hat' : ∀ w ∈ vx_atS own ic cls names, w.before args s' = true := fun w hw => vx_ot_at hW0 hvm.symm (hgood w (List.mem_cons_of_mem _ (List.mem_cons_of_mem _ hw))) (hat w hw)
  have hk' : (Cond.classLink own ik cls).before args s' = true := vx_ot_at hW0 hvm.symm (hgood _ List.mem_cons_self) hk
  have hini' : (Cond.initialized cls).before args s' = true := vx_ot_at hW0 hvm.symm (hgood _ (List.mem_cons_of_mem _ List.mem_cons_self)) hini
  have hU' : vx_Zq Bundle.tN "UNASSIGNED_STACK" Bundle.steD A s' s'.heap := by rw [hhp]; exact vx_Zq.moved hW0.alike (hU.kept hS.2.1)
  have hN' : vx_Zq Bundle.tN "SUPPRESSED_SENTINEL" Bundle.listD A s' s'.heap := by rw [hhp]; exact vx_Zq.moved hW0.alike (hN.kept hS.2.1)
  have h : ∀ w ∈ Bundle.ownAtoms own ic cls names, w.before args s' = true := vx_own hat' (vx_isRefq hU'.1) (vx_isRefq hN'.1) hU'.2.word hN'.2.word
  have hown' : s'.vm.findClass own = some m.cls := by rw [hvm]; exact hown
  have hins : (Cond.instantiable cls 6).before args s' = true := h _ (by simp [Bundle.ownAtoms])
  obtain ⟨vm₁, cX, kX, hfX, hkX, -, -, X₁, st1⟩ := Y.newCold hexec (own := own) (C := cls) (index := ik) (n := 6) hown' hk' hins hini'
    (g := F0 m pc ls rest) rfl (by rw [hb]; exact d0) (Nat.le_refl _) (Nat.le_refl _)
  generalize hT1 : (T.setVm vm₁).pushCell { cls := cX, slots := kX.instanceTypes.map defaultValue, vm := .none } = T1 at X₁ st1
  have hcat : (Value.ref T.heap.size).category = 1 := rfl
  have hcellA : T1.heap[T.heap.size]? = some (freshCell cX kX) := by rw [← hT1]; exact State.heap_pushCell_size _ _
  have d3' : decode c.code (pc + 3) = .ok (.dup, 1) := by rw [hb]; exact d3
  have d4' : decode c.code (pc + 4) = .ok (.ldc is, 2) := by rw [hb]; exact d4
  have hstr' : vk_R own is text sa s' := vk_R.warm hW0 hstr
  obtain ⟨U, hsteps, hrun, hend, hW, hsame, ce, hce, hO⟩ := X₁.ctorThrowS hexec htr (own := own) (cls := cls) (names := names) (ic := ic) hown' hcls hnames h (fun x hx => nomatch hx) hfX hkX hcellA (by rw [hhp, hT]; exact Nat.le_refl _) (msg := .ref sa) rfl
    (g := { method := m, pc := pc + 6, locals := ls, stack := .ref sa :: .ref T.heap.size :: .ref T.heap.size :: rest, locked := none }) rfl hsize rfl rfl (rest := rest) rfl
    (by rw [hb]; exact d6) (by rw [hb]; exact d9) hout hRframes (by simp only [List.map_cons, List.sum_cons, hcat]; omega) hlocks
  obtain ⟨f1, f2⟩ := vx_frame hsame
  rw [hhp] at f1 f2
  have hWs : s.WarmedH U.vm := State.WarmedH.trans hW0 hW
  have hcl : s.vm.findClass cls = some ce.cls := by
    have h9 := hO.cls
    rw [hvm] at h9
    exact h9
  have hall : s.sameButNew ({ U with vm := s.vm } : State) locs mc ms := by
    subst hA
    obtain ⟨e1, e2⟩ := hsame
    rw [State.setFrames_setFrames] at e1
    have h2 : (T.setVm s.vm).sameButNew ({ U with vm := s.vm } : State) [] (0 + 1) (0 + 6) := ⟨e1, e2⟩
    have h3 := X.same.trans h2
    rw [List.append_nil] at h3
    exact h3.mono hc hs
  refine ⟨U, ?_, .threw T.heap.size, hrun, hend, Or.inr ⟨T.heap.size, rfl, cls, ce, locs, hx U hWs.alike f1 (fun q hq => f2 q hq (fun z hz => nomatch hz)), hce, hO.vm, hcl, hWs, hall, hf⟩⟩
  refine st1 _ ?_
  show Steps p.tables e below (T1.setTop { method := m, pc := pc + 3, locals := ls, stack := .ref T.heap.size :: rest, locked := none }) _
  jvm_step X₁.here [X₁.here.top, hexec, d3', Value.category]
  exact X₁.ldcString hexec (own := own) (text := text) (index := is) (a := sa) hown' hstr'.1 hstr'.2
    (g := { method := m, pc := pc + 4, locals := ls, stack := .ref T.heap.size :: .ref T.heap.size :: rest, locked := none }) rfl d4' _ hsteps
/-- 'throw new E("text")', the text by a wide index -/
theorem vx_throwSW {cc : ByteArray} {pc : Nat} (hexec : p.tables.exec = Jvm.exec) (hb : c.code = cc) (hl : l.stackTraces = false) {own cls text : String} {names : List String} {ik is ic mc ms sa : Nat} {A : Nat → Prop}
    (hown : s.vm.findClass own = some m.cls) (hcls : Bundle.fit cls = true) (hnames : ∀ n ∈ names, Bundle.fit n = true)
    (hk : (Cond.classLink own ik cls).before args s = true) (hini : (Cond.initialized cls).before args s = true) (hstr : vk_R own is text sa s) (hat : ∀ w ∈ vx_atS own ic cls names, w.before args s = true)
    (hgood : ∀ w ∈ Cond.classLink own ik cls :: Cond.initialized cls :: vx_atS own ic cls names, vx_ot w = true)
    (hU : vx_Zq Bundle.tN "UNASSIGNED_STACK" Bundle.steD A s s.heap) (hN : vx_Zq Bundle.tN "SUPPRESSED_SENTINEL" Bundle.listD A s s.heap) (hS : va_S A s.heap H locs) (hsize : ls.size = c.maxLocals)
    (d0 : decode cc pc = .ok (.new ik, 3)) (d3 : decode cc (pc + 3) = .ok (.dup, 1)) (d4 : decode cc (pc + 4) = .ok (.ldc_w is, 3)) (d7 : decode cc (pc + 7) = .ok (.invokespecial ic, 3)) (d10 : decode cc (pc + 10) = .ok (.athrow, 1))
    (hout : ∀ x ∈ c.exceptionTable.toList, covers x (pc + 10) = false)
    (hRframes : names.length + 3 < R.frames) (hRlocals : (rest.map fun v => v.category).sum + (13 * (names.length + 1) + 43) ≤ R.locals) (hRcells : cells + 1 ≤ R.cells) (hRslots : slots + 6 ≤ R.slots) (hlocks : meth.locks = false)
    (hx : ∀ t : State, s.vm.Alike t.vm → H.size ≤ t.heap.size → (∀ q : Nat, q < H.size → t.heap[q]? = H[q]?) → XC cls s t)
    (hf : ∀ z ∈ locs, free z.base) (hc : cells + 1 ≤ mc) (hs : slots + 6 ≤ ms) :
    W p l e R s m args below meth c H locs cells slots (vx_MQ below Qc XC args s mc ms free) (F0 m pc ls rest) := by
  intro T hT X
  have htr : e.platform.stackTraces = false := (show e.platform.stackTraces = l.stackTraces by rw [X.admits.platform]).trans hl
  have Y := vx_rebase X (R' := { frames := R.frames, locals := R.locals, cells := 1, slots := 6 }) (Nat.le_refl _) (Nat.le_refl _) hRcells hRslots
  obtain ⟨s', hA⟩ : ∃ z, z = (T.setVm s.vm).setFrames (.invoking m args :: below) := ⟨_, rfl⟩
  rw [← hA] at Y
  have hvm : s'.vm = s.vm := by rw [hA]; rfl
  have hhp : s'.heap = H := by rw [hA]; exact hT
  have hW0 : s.WarmedH s'.vm := by rw [hvm]; exact State.WarmedH.refl s
  have hat' : ∀ w ∈ vx_atS own ic cls names, w.before args s' = true := fun w hw => vx_ot_at hW0 hvm.symm (hgood w (List.mem_cons_of_mem _ (List.mem_cons_of_mem _ hw))) (hat w hw)
  have hk' : (Cond.classLink own ik cls).before args s' = true := vx_ot_at hW0 hvm.symm (hgood _ List.mem_cons_self) hk
  have hini' : (Cond.initialized cls).before args s' = true := vx_ot_at hW0 hvm.symm (hgood _ (List.mem_cons_of_mem _ List.mem_cons_self)) hini
  have hU' : vx_Zq Bundle.tN "UNASSIGNED_STACK" Bundle.steD A s' s'.heap := by rw [hhp]; exact vx_Zq.moved hW0.alike (hU.kept hS.2.1)
  have hN' : vx_Zq Bundle.tN "SUPPRESSED_SENTINEL" Bundle.listD A s' s'.heap := by rw [hhp]; exact vx_Zq.moved hW0.alike (hN.kept hS.2.1)
  have h : ∀ w ∈ Bundle.ownAtoms own ic cls names, w.before args s' = true := vx_own hat' (vx_isRefq hU'.1) (vx_isRefq hN'.1) hU'.2.word hN'.2.word
  have hown' : s'.vm.findClass own = some m.cls := by rw [hvm]; exact hown
  have hins : (Cond.instantiable cls 6).before args s' = true := h _ (by simp [Bundle.ownAtoms])
  obtain ⟨vm₁, cX, kX, hfX, hkX, -, -, X₁, st1⟩ := Y.newCold hexec (own := own) (C := cls) (index := ik) (n := 6) hown' hk' hins hini'
    (g := F0 m pc ls rest) rfl (by rw [hb]; exact d0) (Nat.le_refl _) (Nat.le_refl _)
  generalize hT1 : (T.setVm vm₁).pushCell { cls := cX, slots := kX.instanceTypes.map defaultValue, vm := .none } = T1 at X₁ st1
  have hcat : (Value.ref T.heap.size).category = 1 := rfl
  have hcellA : T1.heap[T.heap.size]? = some (freshCell cX kX) := by rw [← hT1]; exact State.heap_pushCell_size _ _
  have d3' : decode c.code (pc + 3) = .ok (.dup, 1) := by rw [hb]; exact d3
  have d4' : decode c.code (pc + 4) = .ok (.ldc_w is, 3) := by rw [hb]; exact d4
  have hstr' : vk_R own is text sa s' := vk_R.warm hW0 hstr
  obtain ⟨U, hsteps, hrun, hend, hW, hsame, ce, hce, hO⟩ := X₁.ctorThrowS hexec htr (own := own) (cls := cls) (names := names) (ic := ic) hown' hcls hnames h (fun x hx => nomatch hx) hfX hkX hcellA (by rw [hhp, hT]; exact Nat.le_refl _) (msg := .ref sa) rfl
    (g := { method := m, pc := pc + 7, locals := ls, stack := .ref sa :: .ref T.heap.size :: .ref T.heap.size :: rest, locked := none }) rfl hsize rfl rfl (rest := rest) rfl
    (by rw [hb]; exact d7) (by rw [hb]; exact d10) hout hRframes (by simp only [List.map_cons, List.sum_cons, hcat]; omega) hlocks
  obtain ⟨f1, f2⟩ := vx_frame hsame
  rw [hhp] at f1 f2
  have hWs : s.WarmedH U.vm := State.WarmedH.trans hW0 hW
  have hcl : s.vm.findClass cls = some ce.cls := by
    have h9 := hO.cls
    rw [hvm] at h9
    exact h9
  have hall : s.sameButNew ({ U with vm := s.vm } : State) locs mc ms := by
    subst hA
    obtain ⟨e1, e2⟩ := hsame
    rw [State.setFrames_setFrames] at e1
    have h2 : (T.setVm s.vm).sameButNew ({ U with vm := s.vm } : State) [] (0 + 1) (0 + 6) := ⟨e1, e2⟩
    have h3 := X.same.trans h2
    rw [List.append_nil] at h3
    exact h3.mono hc hs
  refine ⟨U, ?_, .threw T.heap.size, hrun, hend, Or.inr ⟨T.heap.size, rfl, cls, ce, locs, hx U hWs.alike f1 (fun q hq => f2 q hq (fun z hz => nomatch hz)), hce, hO.vm, hcl, hWs, hall, hf⟩⟩
  refine st1 _ ?_
  show Steps p.tables e below (T1.setTop { method := m, pc := pc + 3, locals := ls, stack := .ref T.heap.size :: rest, locked := none }) _
  jvm_step X₁.here [X₁.here.top, hexec, d3', Value.category]
  exact X₁.ldcStringW hexec (own := own) (text := text) (index := is) (a := sa) hown' hstr'.1 hstr'.2
    (g := { method := m, pc := pc + 4, locals := ls, stack := .ref T.heap.size :: .ref T.heap.size :: rest, locked := none }) rfl d4' _ hsteps
end Ends
section Bodies
variable {l : Launch}
theorem vx_ofW {y : MethodName} {ws ws' : List Cond} {rm : Room} {Pc : Array Value → State → Prop} {Qc : Array Value → State → Outcome → State → Prop} {XC : String → State → State → Prop} {mc ms : Nat} {free : Addr → Prop} {cc : ByteArray} {maxL : Nat} {ret : Option FieldType}
    (hy : plainName y.cls = true) (hw : ws = Cond.code y cc maxL ret :: ws')
    (body : ∀ p e s m args below meth c s₁, BodyLoose p l y (headSpec ws rm) cc maxL ret e s m args below meth c s₁ → c.maxLocals = maxL → (∀ x ∈ c.exceptionTable.toList, False) → Pc args s →
      W p l e (headSpec ws rm).room s m args below meth c s.heap [] 0 0 (vx_MQ below Qc XC args s mc ms free) (entryFrame m args maxL)) : vx_Met l y ws rm Pc Qc XC mc ms free := by
  refine MetFree.of_bodyS (code := cc) (maxLocals := maxL) (ret := ret) hy ?_ ?_
  · intro args s m h hn
    obtain ⟨meth, c, h1, h2, h3, h4, h5, h6, -, -⟩ := Cond.code_spec hn (atoms_spec (ws := ws) h _ (by rw [hw]; exact List.mem_cons_self))
    exact ⟨meth, c, h1, h2, h3, h4, h5, h6⟩
  · intro p e s m args below meth c s₁ B hml hP _
    have hh0 : s₁.heap = s.heap := by rw [B.state]; rfl
    have ht : ∀ x ∈ c.exceptionTable.toList, False := by
      obtain ⟨meth9, c9, h1, h2, -, -, -, -, h7, -⟩ := Cond.code_spec B.named (atoms_spec (ws := ws) B.pre _ (by rw [hw]; exact List.mem_cons_self))
      cases Option.some.inj (h1.symm.trans B.method)
      cases Option.some.inj (h2.symm.trans (Stand.of_body B).code)
      intro x hx
      rw [Array.isEmpty_iff.mp h7] at hx
      cases hx
    obtain ⟨t, a1, o, b1, b2, b3⟩ := body p e s m args below meth c s₁ B hml ht hP s₁ hh0 (Stand.of_body B)
    exact ⟨t, o, a1, b1, b2, b3⟩
/-- the table of a body with handlers -/
theorem vx_table {p : Program} {x y : MethodName} {S : Spec} {cc bytes : ByteArray} {maxL maxL' : Nat} {ret ret' : Option FieldType} {e : Env} {s s₁ : State} {m : MethodId} {args : Array Value} {below : List Frame} {meth : Method} {c : Code} {hh : List (Nat × Nat × Nat × Nat)}
    (B : BodyLoose p l y S cc maxL ret e s m args below meth c s₁) (h : (Cond.codeWith y bytes maxL' ret' hh).before args s = true) : c.exceptionTable.toList = tableOf hh := by
  obtain ⟨m9, meth9, c9, hn9, h1, h2, -, -, h6, -⟩ := Cond.codeWith_spec h
  cases Option.some.inj (hn9.symm.trans B.named)
  cases Option.some.inj (h1.symm.trans B.method)
  cases Option.some.inj (h2.symm.trans (Stand.of_body B).code)
  rw [← h6, table_eq]
end Bodies
end VXA
/-! ===== END ===== -/
/-! ===== BEGIN a static call of a method with an exception table ===== -/
section VXS
variable {p : Program} {l : Launch} {e : Env} {R : Room} {s : State} {m : MethodId} {args : Array Value} {below : List Frame} {meth : Method} {c : Code} {T : State} {H : Heap} {locs : List Loc} {cells slots : Nat}
abbrev vx_CSW (R : Room) (s : State) (args : Array Value) (own : String) (index : Nat) (y : MethodName) (bytes : ByteArray) (maxL : Nat) (ret : Option FieldType) (hh : List (Nat × Nat × Nat × Nat)) (ws : List Cond) (rm : Room) (mc ms n : Nat) : Prop :=
  (rm.cells = mc ∧ rm.slots = ms ∧ rm.frames + 1 ≤ R.frames ∧ 8 + (maxL + 11) + rm.locals ≤ R.locals ∧ (∀ w ∈ ws, ∀ (a' : Array Value) (U : State), s.WarmedH U.vm → w.before a' U = true) ∧ Cond.codeWith y bytes maxL ret hh ∈ ws) ∧
  (Cond.codeWith y bytes maxL ret hh).before args s = true ∧ (Cond.initialized y.cls).before args s = true ∧ (y.cls ≠ "java/lang/invoke/MethodHandle" ∧ y.cls ≠ "java/lang/invoke/VarHandle") ∧
  (∀ sig, parseMethodDescriptor y.desc = some sig → n = sig.parameters.length) ∧ (Cond.methodLink own index y).before args s = true ∧ (Cond.static y).before args s = true
theorem vx_cwSW {own : String} {index maxL mc ms : Nat} {y : MethodName} {bytes : ByteArray} {ret : Option FieldType} {hh : List (Nat × Nat × Nat × Nat)} {Ts ws ws' : List Cond} {rm : Room} (n : Nat) (ht : ∀ w ∈ Ts, w.before args s = true) (hT : GoodIn Ts (va_wsS own index y ws)) (hw : ws = Cond.codeWith y bytes maxL ret hh :: ws') (hrc : rm.cells = mc) (hrs : rm.slots = ms)
    (hd : y.cls ≠ "java/lang/invoke/MethodHandle" ∧ y.cls ≠ "java/lang/invoke/VarHandle" ∧ (parseMethodDescriptor y.desc).map (fun d => d.parameters.length) = some n) (hR : rm.frames + 1 ≤ R.frames ∧ 8 + (maxL + 11) + rm.locals ≤ R.locals) :
    vx_CSW R s args own index y bytes maxL ret hh ws rm mc ms n := by
  have ok : ∀ w ∈ va_wsS own index y ws, w.before args s = true := fun w h => ht w (hT w h).1
  have hG : GoodIn Ts ws := fun w h => hT w (by unfold va_wsS; exact List.mem_append_right _ h)
  have hc : Cond.codeWith y bytes maxL ret hh ∈ ws := by rw [hw]; exact List.mem_cons_self
  refine ⟨⟨hrc, hrs, hR.1, hR.2, pay_in ht hG, hc⟩, ht _ (hG _ hc).1, ok _ (by simp [va_wsS]), ⟨hd.1, hd.2.1⟩, fun sig h => ?_, ok _ (by simp [va_wsS]), ok _ (by simp [va_wsS])⟩
  have h2 := hd.2.2
  rw [h] at h2
  exact (Option.some.inj h2).symm
theorem vx_callSW (X : Stand p l e R s m args below meth c T locs cells slots) (hexec : p.tables.exec = Jvm.exec) {own : String} {index : Nat} {y : MethodName} {bytes : ByteArray} {maxL : Nat} {ret : Option FieldType} {hh : List (Nat × Nat × Nat × Nat)}
    (hown : s.vm.findClass own = some m.cls) (hlink : (Cond.methodLink own index y).before args s = true) (hstat : (Cond.static y).before args s = true) (hinit : (Cond.initialized y.cls).before args s = true)
    (hcode : (Cond.codeWith y bytes maxL ret hh).before args s = true) (hy : y.cls ≠ "java/lang/invoke/MethodHandle" ∧ y.cls ≠ "java/lang/invoke/VarHandle")
    {W9 : Nat} {Pre : Pt → Array Value → Prop} {Post : Pt → Array Value → Option Value → Pt → Prop} (hK : Back l R p e below s args y 3 W9 Pre Post)
    {g : JFrame} (hg : g.method = m) (hsize : g.locals.size = c.maxLocals) {argsL rest : List Value} (hlen : ∀ sig, parseMethodDescriptor y.desc = some sig → argsL.length = sig.parameters.length)
    (hstack : g.stack = argsL.reverse ++ rest) (hW : 2 * g.monitorRoom + (rest.map fun v => v.category).sum ≤ W9) (hdg : decode c.code g.pc = .ok (.invokestatic index, 3))
    (hpre : ∀ vm₁, s.WarmedH vm₁ → Pre ⟨T.setVm vm₁, locs, cells, slots⟩ argsL.toArray) :
    ∃ (v : Option Value) (vm₁ : Vm) (B : Pt), s.WarmedH vm₁ ∧ Stand p l e R s m args below meth c B.U B.locs B.cells B.slots ∧ Post ⟨T.setVm vm₁, locs, cells, slots⟩ argsL.toArray v B ∧
      ∀ target, Steps p.tables e below (B.U.setTop { g with pc := g.pc + 3, stack := v.toList ++ rest }) target → Steps p.tables e below (T.setTop g) target := by
  obtain ⟨mk, methM, cM, hnamed, hmethM, -, -, -, -, -, -, hsigM⟩ := Cond.codeWith_spec hcode
  have hstatic : methM.isStatic = true := Cond.static_spec hnamed hmethM hstat
  obtain ⟨kP, hkP, -⟩ := className_of_methodNamed hnamed
  have hinitP : kP.init = .initialized := Cond.initialized_spec (findClass_of_methodNamed hnamed) hkP hinit
  obtain ⟨vm₁, X₁, hstep₁⟩ := X.invokestatic hexec hown hlink hnamed hmethM hstatic hkP hinitP hy (g := g) hg (argsL := argsL) (rest := rest) (hlen _ hsigM) hstack hdg
  obtain ⟨v, B, X', hpost, hsteps⟩ := hK m meth c ⟨T.setVm vm₁, locs, cells, slots⟩ { g with stack := rest } (.invokestatic index) mk argsL.toArray X₁ hg hsize hdg hW (X₁.named hnamed) (hpre vm₁ X₁.warmed)
  exact ⟨v, vm₁, B, X₁.warmed, X', hpost, fun target h => hstep₁ _ fun acts => by rw [doInvoke_state]; exact hsteps.trans h⟩
theorem vx_runSW {y : MethodName} {bytes cc : ByteArray} {maxL nL mc ms n index : Nat} {ret : Option FieldType} {hh : List (Nat × Nat × Nat × Nat)} {ws : List Cond} {rm : Room} {Pc : Array Value → State → Prop} {Qc : Array Value → State → Outcome → State → Prop} {free : Addr → Prop} {Ts : List Cond} {own : String} {As rest : List Value} {g : JFrame}
    (S : CallFix p m c cc nL s args Ts own) (hM : Met l y ws rm Pc Qc mc ms free) (cw : vx_CSW R s args own index y bytes maxL ret hh ws rm mc ms n) (hp : PreS s H Pc As)
    (hg : g.method = m) (hn : As.length = n) (hsize : g.locals.size = nL) (hstack : g.stack = As.reverse ++ rest) (hW : 2 * g.monitorRoom + (rest.map fun v => v.category).sum ≤ 8) (hdg : decode cc g.pc = .ok (.invokestatic index, 3)) (hf : cells + mc ≤ R.cells ∧ slots + ms ≤ R.slots) :
    va_Run p l e R s m args below meth c H locs cells slots mc ms g rest (Qc As.toArray) (free) := by
  obtain ⟨⟨hrc, hrs, hfr, hlo, hws, hcw⟩, hcode, hini, hy, hlen, hl, hstt⟩ := cw
  have hK : Back l R p e below s args y 3 8 (PreOf R mc ms Pc) (PostOf Qc mc ms free) := va_backW (hh := hh) (bytes := bytes) (maxL := maxL) (ret := ret) hM hp.1 hrc hrs hfr hlo hws hcw (fun a' U hW => word_at hW (Or.inl (by first | rfl | simp [Cond.onTables, Cond.keeps, Cond.steady])) hini)
  obtain ⟨hx, hb, hml, ho, -⟩ := S
  intro T hT X
  obtain ⟨v, vm₁, ⟨U', l2, c2, s2⟩, hW₁, X', ⟨g', mk, t, L, e1, e2, hq, h1, hL, h2, h3⟩, st⟩ := vx_callSW X hx (hh := hh) (bytes := bytes) (maxL := maxL) (ret := ret) ho hl hstt hini hcode hy hK hg (hsize.trans hml.symm) (argsL := As) (rest := rest) (fun sig h => hn.trans (hlen sig h)) hstack hW (by rw [hb]; exact hdg)
    (fun vm₁ hW₁ => ⟨hf.1, hf.2, hp.2 (T.setVm vm₁) hT hW₁⟩)
  dsimp only [Pt.U, Pt.locs, Pt.cells, Pt.slots] at X' e1 e2 h1 h2 h3 st
  subst h1; subst h2; subst h3
  exact ⟨v, (T.setVm vm₁).calling g' mk As.toArray, t, U', L, hT, X', hL, e1, e2, hq, st⟩
/-- not caught here, past rows that name other classes: it goes on to the caller -/
theorem vx_outP {p : Program} {l : Launch} {e : Env} {R : Room} {s : State} {m : MethodId} {args : Array Value} {below : List Frame} {meth : Method} {c : Code} {H : Heap} {locs : List Loc} {cells slots : Nat} {free : Addr → Prop} {ls : Array Slot} {rest : List Value} {Qc : Array Value → State → Outcome → State → Prop} {XC : String → State → State → Prop}
    {pc : Nat} {own E : String} {ce : Cell} {q : Addr} {mc ms : Nat} (hown : s.vm.findClass own = some m.cls) (hlocks : meth.locks = false)
    (hpass : ∀ z ∈ c.exceptionTable.toList, covers z pc = false ∨ (z.catchType ≠ 0 ∧ ∃ nm : String, (Cond.classLink own z.catchType nm).before args s = true ∧ va_Nc E nm s)) (hcell : H[q]? = some ce) (hv : ce.vm = .none) (hcl : s.vm.findClass E = some ce.cls)
    (hx : ∀ t : State, t.heap = H → s.vm.Alike t.vm → XC E s t) (hf : ∀ z ∈ locs, free z.base) (hc : cells ≤ mc) (hs : slots ≤ ms) :
    vx_W p l e R s m args below meth c H locs cells slots (vx_MQ below Qc XC args s mc ms free) (F0 m pc ls rest) q := by
  intro T hT X
  have hpl : e.platform.magicAccessors = ({} : Platform).magicAccessors := by rw [X.admits.platform]
  obtain ⟨vm', hW', X', st⟩ := X.outThrough hlocks q (g := F0 m pc ls rest) rfl rfl rfl (cell := ce) (by rw [hT]; exact hcell) (by rw [hv]; rfl)
    (by obtain ⟨k9, h9, -⟩ := Vm.findClass_spec hcl; exact ⟨k9, h9⟩) (fun z hz => by
      rcases hpass z hz with h | ⟨hz0, nm, hl1, hn1⟩
      · exact Or.inl h
      · obtain ⟨c6, hc6, hcl6⟩ := Cond.classLink_spec hown hl1 e.platform hpl
        obtain ⟨a8, b8, h1, h2, h3⟩ := hn1
        cases Option.some.inj (h1.symm.trans hcl)
        cases Option.some.inj (h2.symm.trans hc6)
        exact Or.inr ⟨hz0, _, hcl6, h3⟩)
  obtain ⟨g₀, hfr⟩ := X'.frames_eq
  have hcell9 : ((T.setVm vm').setFrames (.throwing q :: below)).heap[q]? = some ce := by
    show T.heap[q]? = some ce
    rw [hT]; exact hcell
  have hend : Ended ((T.setVm vm').setFrames (.throwing q :: below)) below (.threw q) := State.frames_setFrames _ (State.cur_lt_of_frames hfr)
  refine ⟨(T.setVm vm').setFrames (.throwing q :: below), ?_, .threw q, X'.here.running, hend, Or.inr ⟨q, rfl, E, ce, locs, hx _ hT (X'.ends _).1.alike, hcell9, hv, hcl, (X'.ends _).1, (X'.ends _).2.mono hc hs, hf⟩⟩
  rw [X.pushThrowing_eq]
  exact st
/-- a thing of a world lies in the heap -/
theorem vx_lt {D : va_G} {cl : List vw_C} {ws : va_W} {H1 : Heap} (h : va_P D cl ws H1) {k : Nat} {q : Nat × va_E} (hk : ws[k]? = some q) : q.1 < H1.size := (h k q hk).lt
end VXS
/-! ===== END ===== -/
/-! ===== BEGIN methods with a table of their own: called by a name, returning or throwing ===== -/
section VXH
/-! vx_backW, vx_callVX, vx_callSX, vx_callVW, vx_runVW, vx_runVX, vx_runSX, vx_ofWH follow the same proofs as their sisters above (Free/Laws.lean, Shelf42/LK1.lean); vx_outP calls Shelf42/NT130.lean (outThrough). -/
section
variable {l : Launch} {R : Room} {p : Program} {e : Env} {below : List Frame} {s : State} {sargs : Array Value} {y : MethodName} {len W9 : Nat}
theorem vx_backW {ws : List Cond} {rm : Room} {Pc : Array Value → State → Prop} {Qc : Array Value → State → Outcome → State → Prop} {XC : String → State → State → Prop} {mc ms : Nat} {free : Addr → Prop} {bytes : ByteArray} {maxL : Nat} {ret : Option FieldType} {hh : List (Nat × Nat × Nat × Nat)}
    (hM : vx_Met l y ws rm Pc Qc XC mc ms free) (hblind : FrameBlind Pc) (hrc : rm.cells = mc) (hrs : rm.slots = ms)
    (hframes : rm.frames + 1 ≤ R.frames) (hlocals : W9 + (maxL + 11) + rm.locals ≤ R.locals)
    (hws : ∀ w ∈ ws, ∀ a' U, s.WarmedH U.vm → w.before a' U = true) (hcode : Cond.codeWith y bytes maxL ret hh ∈ ws) (hinit : ∀ a' U, s.WarmedH U.vm → (Cond.initialized y.cls).before a' U = true) :
    vx_Back l R p e below s sargs y len W9 (PreOf R mc ms Pc) (PostOf Qc mc ms free) (vx_Post XC mc ms free) := by
  intro m meth c A g ig mk a X hg hsize hdg hW hn hp
  have h1 : (headSpec ws rm).pre.before a A.U = true := atoms_intro fun w hw => hws w hw _ _ X.warmed
  have h2 : (Cond.codeWith y bytes maxL ret hh).before a A.U = true := hws _ hcode _ _ X.warmed
  have h3 : (Cond.initialized y.cls).before a A.U = true := hinit _ _ X.warmed
  have h4 : A.cells + (headSpec ws rm).room.cells ≤ R.cells := by rw [show (headSpec ws rm).room.cells = mc from hrc]; exact hp.1
  have h5 : A.slots + (headSpec ws rm).room.slots ≤ R.slots := by rw [show (headSpec ws rm).room.slots = ms from hrs]; exact hp.2.1
  have hPc : Pc a (A.U.calling g mk a) := hblind _ _ _ _ hp.2.2
  obtain ⟨U, Ls, c0, s0⟩ := A
  dsimp only [Pt.U, Pt.locs, Pt.cells, Pt.slots] at h1 h2 h3 h4 h5 X hn hPc ⊢
  obtain ⟨m9, methY, cY, hn9, hmY, hcY, -, hlY, -⟩ := Cond.codeWith_spec h2
  cases Option.some.inj (hn9.symm.trans hn)
  obtain ⟨kY, hkY, -⟩ := className_of_methodNamed hn
  have hinitY : kY.init = .initialized := Cond.initialized_spec (findClass_of_methodNamed hn) hkY h3
  have h : At U g.method c below := by rw [hg]; exact X.here
  have hlocals9 : W9 + (maxL + 11) + (headSpec ws rm).room.locals ≤ R.locals := hlocals
  have happ : (headSpec ws rm).appliesLoose y e.platform (U.calling g mk a) = true :=
    Spec.appliesLoose_calling (g := g) h hdg hn hkY hinitY
      (X.room_calling (g := g) (R' := (headSpec ws rm).room) hsize hmY hcY hframes (by rw [hlY]; omega) h4 h5) h1
  obtain ⟨mid, hmid⟩ := h.above
  have hfr : (U.setTop g).frames = (.java g :: mid) ++ below := by rw [State.frames_setTop' g h.top, hmid]; rfl
  obtain ⟨o, s₂, hsteps, -, hend, hq⟩ := Steps.callFree hM p X.admits X.cas X.clock (acts := []) hfr happ hPc trivial
  have hq' : vx_Q Qc XC mc ms free a (U.calling g mk a) o s₂ := hq
  rw [State.frames_setTop' g h.top] at hend
  obtain ⟨g₀, hg0⟩ := Option.isSome_iff_exists.mp h.top
  obtain ⟨r, hr⟩ := State.topJava?_eq_some.mp hg0
  have hr' : (({ U with heap := s₂.heap, slotsUsed := s₂.slotsUsed } : State).setVm s₂.vm).frames = .java g₀ :: r := hr
  rcases hq' with ⟨hqc, L, hfe, hL⟩ | ⟨q, rfl, E, ce, L, hx, hce, hcv, hcl, hW₂, hsm, hL⟩
  · obtain ⟨⟨v, rfl⟩, hW₂, e2, q2, q3, q4, q5, q6⟩ := id hfe
    have e3 : s₂ = ({ (U.calling g mk a).setFrames s₂.frames with heap := s₂.heap, slotsUsed := s₂.slotsUsed } : State).setVm s₂.vm := by
      have : s₂ = ({ s₂ with vm := (U.calling g mk a).vm } : State).setVm s₂.vm := rfl
      rw [e2] at this
      exact this
    obtain ⟨c₂, i₂, len₂, hc₂, hd₂, hf₂⟩ := hend
    have hW' : U.WarmedH s₂.vm := hW₂
    have hcc : c₂ = c := by
      have h1 : s₂.code? g.method = U.code? g.method := by
        rw [State.code?_eq, State.code?_eq, hW'.alike.method?]
      exact Option.some.inj (hc₂.symm.trans (h1.trans h.code))
    subst hcc
    have hlen : len₂ = len := by rw [hdg] at hd₂; cases hd₂; rfl
    subst hlen
    have hs₂ : s₂ = (({ U with heap := s₂.heap, slotsUsed := s₂.slotsUsed } : State).setVm s₂.vm).setTop { g with pc := g.pc + len₂, stack := v.toList ++ g.stack } := by
      refine e3.trans ?_
      rw [hf₂, State.calling_eq h.top, State.setFrames_setFrames, State.setTop_of_frames _ hr', hr]
      rfl
    have hsame : U.sameButNew ({ U with heap := s₂.heap, slotsUsed := s₂.slotsUsed } : State) L mc ms := by
      refine ⟨?_, q2, q3, q4, q5, q6⟩
      obtain ⟨t, ht, -⟩ := State.frames_cons hr
      show ({ U with heap := s₂.heap, slotsUsed := s₂.slotsUsed } : State) = { U.setFrames U.frames with heap := s₂.heap, slotsUsed := s₂.slotsUsed }
      rw [State.setFrames_self ht]
    subst hg
    refine Or.inl ⟨v, ⟨(({ U with heap := s₂.heap, slotsUsed := s₂.slotsUsed } : State).setVm s₂.vm), Ls ++ L, c0 + mc, s0 + ms⟩,
      ⟨X.admits, X.cas, X.clock, X.frames, X.room, X.hears, X.method, X.code, (X.here.setHeapUsed s₂.heap s₂.slotsUsed).setVm hW'.alike, X.tail, State.WarmedH.trans X.warmed hW', X.limits, X.bytes, X.same.trans (hsame.setVm s.vm)⟩,
      ⟨g, mk, s₂, L, rfl, rfl, hqc, rfl, hL, rfl, rfl⟩, ?_⟩
    show Steps p.tables e below _ ((({ U with heap := s₂.heap, slotsUsed := s₂.slotsUsed } : State).setVm s₂.vm).setTop { g with pc := g.pc + len₂, stack := v.toList ++ g.stack })
    rw [← hs₂]
    exact hsteps
  · obtain ⟨e2, q2, q3, q4, q5, q6⟩ := id hsm
    have e3 : s₂ = ({ (U.calling g mk a).setFrames s₂.frames with heap := s₂.heap, slotsUsed := s₂.slotsUsed } : State).setVm s₂.vm := by
      have : s₂ = ({ s₂ with vm := (U.calling g mk a).vm } : State).setVm s₂.vm := rfl
      rw [e2] at this
      exact this
    have hf₂ : s₂.frames = .throwing q :: .java g :: U.frames.tail := hend
    have hW' : U.WarmedH s₂.vm := hW₂
    have hs₂ : s₂ = ((({ U with heap := s₂.heap, slotsUsed := s₂.slotsUsed } : State).setVm s₂.vm).setTop g).pushFrame (.throwing q) := by
      refine e3.trans ?_
      rw [hf₂, State.calling_eq h.top, State.setFrames_setFrames, State.pushFrame, State.frames_setTop _ hr', State.setTop_of_frames _ hr', State.setFrames_setFrames, hr]
      rfl
    have hsame : U.sameButNew ({ U with heap := s₂.heap, slotsUsed := s₂.slotsUsed } : State) L mc ms := by
      refine ⟨?_, q2, q3, q4, q5, q6⟩
      obtain ⟨t, ht, -⟩ := State.frames_cons hr
      show ({ U with heap := s₂.heap, slotsUsed := s₂.slotsUsed } : State) = { U.setFrames U.frames with heap := s₂.heap, slotsUsed := s₂.slotsUsed }
      rw [State.setFrames_self ht]
    subst hg
    refine Or.inr ⟨q, ⟨(({ U with heap := s₂.heap, slotsUsed := s₂.slotsUsed } : State).setVm s₂.vm), Ls ++ L, c0 + mc, s0 + ms⟩,
      ⟨X.admits, X.cas, X.clock, X.frames, X.room, X.hears, X.method, X.code, (X.here.setHeapUsed s₂.heap s₂.slotsUsed).setVm hW'.alike, X.tail, State.WarmedH.trans X.warmed hW', X.limits, X.bytes, X.same.trans (hsame.setVm s.vm)⟩,
      ⟨g, mk, s₂, L, E, ce, rfl, rfl, hx, hce, hcv, hcl, rfl, hL, rfl, rfl⟩, ?_⟩
    show Steps p.tables e below _ (((({ U with heap := s₂.heap, slotsUsed := s₂.slotsUsed } : State).setVm s₂.vm).setTop g).pushFrame (.throwing q))
    rw [← hs₂]
    exact hsteps
end
variable {p : Program} {l : Launch} {e : Env} {R : Room} {s : State} {m : MethodId} {args : Array Value} {below : List Frame} {meth : Method} {c : Code} {T : State} {H : Heap} {locs : List Loc} {cells slots : Nat}
theorem vx_callVX (X : Stand p l e R s m args below meth c T locs cells slots) (hexec : p.tables.exec = Jvm.exec) {own C : String} {index : Nat} {y : MethodName} {bytes : ByteArray} {maxL : Nat} {ret : Option FieldType} {hh : List (Nat × Nat × Nat × Nat)}
    (hown : s.vm.findClass own = some m.cls) (hlink : (Cond.methodLink own index y).before args s = true) (hinst : (Cond.instanceMethod y).before args s = true) (hsel : (Cond.selects C y y).before args s = true)
    (hcode : (Cond.codeWith y bytes maxL ret hh).before args s = true) (hy : y.cls ≠ "java/lang/invoke/MethodHandle" ∧ y.cls ≠ "java/lang/invoke/VarHandle")
    {W9 : Nat} {Pre : Pt → Array Value → Prop} {Post : Pt → Array Value → Option Value → Pt → Prop} {PostX : Pt → Array Value → Addr → Pt → Prop} (hK : vx_Back l R p e below s args y 3 W9 Pre Post PostX)
    {b : Addr} {cellB : Cell} (hcell : T.heap[b]? = some cellB) (hobj : cellB.vm.isStatics = false) (hcls : s.vm.findClass C = some cellB.cls)
    {g : JFrame} (hg : g.method = m) (hsize : g.locals.size = c.maxLocals) {argsL rest : List Value} (hlen : ∀ sig, parseMethodDescriptor y.desc = some sig → argsL.length = sig.parameters.length)
    (hstack : g.stack = argsL.reverse ++ .ref b :: rest) (hW : 2 * g.monitorRoom + (rest.map fun v => v.category).sum ≤ W9) (hdg : decode c.code g.pc = .ok (.invokevirtual index, 3))
    (hpre : ∀ vm₁, s.WarmedH vm₁ → Pre ⟨T.setVm vm₁, locs, cells, slots⟩ (Value.ref b :: argsL).toArray) :
    (∃ (v : Option Value) (vm₁ : Vm) (B : Pt), s.WarmedH vm₁ ∧ Stand p l e R s m args below meth c B.U B.locs B.cells B.slots ∧ Post ⟨T.setVm vm₁, locs, cells, slots⟩ (Value.ref b :: argsL).toArray v B ∧
      ∀ target, Steps p.tables e below (B.U.setTop { g with pc := g.pc + 3, stack := v.toList ++ rest }) target → Steps p.tables e below (T.setTop g) target) ∨
    (∃ (q : Addr) (vm₁ : Vm) (B : Pt), s.WarmedH vm₁ ∧ Stand p l e R s m args below meth c B.U B.locs B.cells B.slots ∧ PostX ⟨T.setVm vm₁, locs, cells, slots⟩ (Value.ref b :: argsL).toArray q B ∧
      Steps p.tables e below (T.setTop g) ((B.U.setTop { g with stack := rest }).pushFrame (.throwing q))) := by
  obtain ⟨mk, methM, hnamed, hmethM, hstM, habM⟩ := Cond.instanceMethod_spec hinst
  obtain ⟨m8, methM', cM, hn8, hmethM', -, -, -, -, -, -, hsigM⟩ := Cond.codeWith_spec hcode
  cases Option.some.inj (hn8.symm.trans hnamed)
  cases hmethM.symm.trans hmethM'
  obtain ⟨c2, r2, m2, q1, q2, q3, q4, kP, hkP, hkPi⟩ := Cond.selects_spec hsel
  cases hcls.symm.trans q1
  cases (State.methodFound?_of_named hnamed hy).symm.trans q2
  cases hnamed.symm.trans q3
  have hselP : selectMethod e.platform s.vm cellB.cls mk = .method mk := by rw [Launch.admits_selectMethod X.admits]; exact q4
  obtain ⟨vm₁, X₁, hstep₁⟩ := X.invokevirtual hexec hown hlink hnamed hmethM hstM hkP hkPi hy (a := b) (cell := cellB) hcell
    (fun z h => by rw [h] at hobj; cases hobj) hselP hmethM habM hkP hkPi (g := g) hg (argsL := argsL) (rest := rest) (hlen _ hsigM) hstack hdg
  rcases hK m meth c ⟨T.setVm vm₁, locs, cells, slots⟩ { g with stack := rest } (.invokevirtual index) mk (Value.ref b :: argsL).toArray X₁ hg hsize hdg hW (X₁.named hnamed) (hpre vm₁ X₁.warmed) with ⟨v, B, X', hpost, hsteps⟩ | ⟨q, B, X', hpost, hsteps⟩
  · exact Or.inl ⟨v, vm₁, B, X₁.warmed, X', hpost, fun target h => hstep₁ _ fun acts => by rw [doInvoke_state]; exact hsteps.trans h⟩
  · exact Or.inr ⟨q, vm₁, B, X₁.warmed, X', hpost, hstep₁ _ fun acts => by rw [doInvoke_state]; exact hsteps⟩
theorem vx_callSX (X : Stand p l e R s m args below meth c T locs cells slots) (hexec : p.tables.exec = Jvm.exec) {own : String} {index : Nat} {y : MethodName} {bytes : ByteArray} {maxL : Nat} {ret : Option FieldType} {hh : List (Nat × Nat × Nat × Nat)}
    (hown : s.vm.findClass own = some m.cls) (hlink : (Cond.methodLink own index y).before args s = true) (hstat : (Cond.static y).before args s = true) (hinit : (Cond.initialized y.cls).before args s = true)
    (hcode : (Cond.codeWith y bytes maxL ret hh).before args s = true) (hy : y.cls ≠ "java/lang/invoke/MethodHandle" ∧ y.cls ≠ "java/lang/invoke/VarHandle")
    {W9 : Nat} {Pre : Pt → Array Value → Prop} {Post : Pt → Array Value → Option Value → Pt → Prop} {PostX : Pt → Array Value → Addr → Pt → Prop} (hK : vx_Back l R p e below s args y 3 W9 Pre Post PostX)
    {g : JFrame} (hg : g.method = m) (hsize : g.locals.size = c.maxLocals) {argsL rest : List Value} (hlen : ∀ sig, parseMethodDescriptor y.desc = some sig → argsL.length = sig.parameters.length)
    (hstack : g.stack = argsL.reverse ++ rest) (hW : 2 * g.monitorRoom + (rest.map fun v => v.category).sum ≤ W9) (hdg : decode c.code g.pc = .ok (.invokestatic index, 3))
    (hpre : ∀ vm₁, s.WarmedH vm₁ → Pre ⟨T.setVm vm₁, locs, cells, slots⟩ argsL.toArray) :
    (∃ (v : Option Value) (vm₁ : Vm) (B : Pt), s.WarmedH vm₁ ∧ Stand p l e R s m args below meth c B.U B.locs B.cells B.slots ∧ Post ⟨T.setVm vm₁, locs, cells, slots⟩ argsL.toArray v B ∧
      ∀ target, Steps p.tables e below (B.U.setTop { g with pc := g.pc + 3, stack := v.toList ++ rest }) target → Steps p.tables e below (T.setTop g) target) ∨
    (∃ (q : Addr) (vm₁ : Vm) (B : Pt), s.WarmedH vm₁ ∧ Stand p l e R s m args below meth c B.U B.locs B.cells B.slots ∧ PostX ⟨T.setVm vm₁, locs, cells, slots⟩ argsL.toArray q B ∧
      Steps p.tables e below (T.setTop g) ((B.U.setTop { g with stack := rest }).pushFrame (.throwing q))) := by
  obtain ⟨mk, methM, cM, hnamed, hmethM, -, -, -, -, -, -, hsigM⟩ := Cond.codeWith_spec hcode
  have hstatic : methM.isStatic = true := Cond.static_spec hnamed hmethM hstat
  obtain ⟨kP, hkP, -⟩ := className_of_methodNamed hnamed
  have hinitP : kP.init = .initialized := Cond.initialized_spec (findClass_of_methodNamed hnamed) hkP hinit
  obtain ⟨vm₁, X₁, hstep₁⟩ := X.invokestatic hexec hown hlink hnamed hmethM hstatic hkP hinitP hy (g := g) hg (argsL := argsL) (rest := rest) (hlen _ hsigM) hstack hdg
  rcases hK m meth c ⟨T.setVm vm₁, locs, cells, slots⟩ { g with stack := rest } (.invokestatic index) mk argsL.toArray X₁ hg hsize hdg hW (X₁.named hnamed) (hpre vm₁ X₁.warmed) with ⟨v, B, X', hpost, hsteps⟩ | ⟨q, B, X', hpost, hsteps⟩
  · exact Or.inl ⟨v, vm₁, B, X₁.warmed, X', hpost, fun target h => hstep₁ _ fun acts => by rw [doInvoke_state]; exact hsteps.trans h⟩
  · exact Or.inr ⟨q, vm₁, B, X₁.warmed, X', hpost, hstep₁ _ fun acts => by rw [doInvoke_state]; exact hsteps⟩
theorem vx_callVW (X : Stand p l e R s m args below meth c T locs cells slots) (hexec : p.tables.exec = Jvm.exec) {own C : String} {index : Nat} {y : MethodName} {bytes : ByteArray} {maxL : Nat} {ret : Option FieldType} {hh : List (Nat × Nat × Nat × Nat)}
    (hown : s.vm.findClass own = some m.cls) (hlink : (Cond.methodLink own index y).before args s = true) (hinst : (Cond.instanceMethod y).before args s = true) (hsel : (Cond.selects C y y).before args s = true)
    (hcode : (Cond.codeWith y bytes maxL ret hh).before args s = true) (hy : y.cls ≠ "java/lang/invoke/MethodHandle" ∧ y.cls ≠ "java/lang/invoke/VarHandle")
    {W9 : Nat} {Pre : Pt → Array Value → Prop} {Post : Pt → Array Value → Option Value → Pt → Prop} (hK : Back l R p e below s args y 3 W9 Pre Post)
    {b : Addr} {cellB : Cell} (hcell : T.heap[b]? = some cellB) (hobj : cellB.vm.isStatics = false) (hcls : s.vm.findClass C = some cellB.cls)
    {g : JFrame} (hg : g.method = m) (hsize : g.locals.size = c.maxLocals) {argsL rest : List Value} (hlen : ∀ sig, parseMethodDescriptor y.desc = some sig → argsL.length = sig.parameters.length)
    (hstack : g.stack = argsL.reverse ++ .ref b :: rest) (hW : 2 * g.monitorRoom + (rest.map fun v => v.category).sum ≤ W9) (hdg : decode c.code g.pc = .ok (.invokevirtual index, 3))
    (hpre : ∀ vm₁, s.WarmedH vm₁ → Pre ⟨T.setVm vm₁, locs, cells, slots⟩ (Value.ref b :: argsL).toArray) :
    ∃ (v : Option Value) (vm₁ : Vm) (B : Pt), s.WarmedH vm₁ ∧ Stand p l e R s m args below meth c B.U B.locs B.cells B.slots ∧ Post ⟨T.setVm vm₁, locs, cells, slots⟩ (Value.ref b :: argsL).toArray v B ∧
      ∀ target, Steps p.tables e below (B.U.setTop { g with pc := g.pc + 3, stack := v.toList ++ rest }) target → Steps p.tables e below (T.setTop g) target := by
  obtain ⟨mk, methM, hnamed, hmethM, hstM, habM⟩ := Cond.instanceMethod_spec hinst
  obtain ⟨m8, methM', cM, hn8, hmethM', -, -, -, -, -, -, hsigM⟩ := Cond.codeWith_spec hcode
  cases Option.some.inj (hn8.symm.trans hnamed)
  cases hmethM.symm.trans hmethM'
  obtain ⟨c2, r2, m2, q1, q2, q3, q4, kP, hkP, hkPi⟩ := Cond.selects_spec hsel
  cases hcls.symm.trans q1
  cases (State.methodFound?_of_named hnamed hy).symm.trans q2
  cases hnamed.symm.trans q3
  have hselP : selectMethod e.platform s.vm cellB.cls mk = .method mk := by rw [Launch.admits_selectMethod X.admits]; exact q4
  obtain ⟨vm₁, X₁, hstep₁⟩ := X.invokevirtual hexec hown hlink hnamed hmethM hstM hkP hkPi hy (a := b) (cell := cellB) hcell
    (fun z h => by rw [h] at hobj; cases hobj) hselP hmethM habM hkP hkPi (g := g) hg (argsL := argsL) (rest := rest) (hlen _ hsigM) hstack hdg
  obtain ⟨v, B, X', hpost, hsteps⟩ := hK m meth c ⟨T.setVm vm₁, locs, cells, slots⟩ { g with stack := rest } (.invokevirtual index) mk (Value.ref b :: argsL).toArray X₁ hg hsize hdg hW (X₁.named hnamed) (hpre vm₁ X₁.warmed)
  exact ⟨v, vm₁, B, X₁.warmed, X', hpost, fun target h => hstep₁ _ fun acts => by rw [doInvoke_state]; exact hsteps.trans h⟩
abbrev vx_CVW (R : Room) (s : State) (args : Array Value) (own C : String) (index : Nat) (y : MethodName) (bytes : ByteArray) (maxL : Nat) (ret : Option FieldType) (hh : List (Nat × Nat × Nat × Nat)) (ws : List Cond) (rm : Room) (mc ms n : Nat) : Prop :=
  (rm.cells = mc ∧ rm.slots = ms ∧ rm.frames + 1 ≤ R.frames ∧ 8 + (maxL + 11) + rm.locals ≤ R.locals ∧ (∀ w ∈ ws, ∀ (a' : Array Value) (U : State), s.WarmedH U.vm → w.before a' U = true) ∧ Cond.codeWith y bytes maxL ret hh ∈ ws) ∧
  (Cond.codeWith y bytes maxL ret hh).before args s = true ∧ (Cond.initialized y.cls).before args s = true ∧ (y.cls ≠ "java/lang/invoke/MethodHandle" ∧ y.cls ≠ "java/lang/invoke/VarHandle") ∧
  (∀ sig, parseMethodDescriptor y.desc = some sig → n = sig.parameters.length) ∧ (Cond.methodLink own index y).before args s = true ∧ (Cond.instanceMethod y).before args s = true ∧ (Cond.selects C y y).before args s = true
theorem vx_cwVW {own C : String} {index maxL mc ms : Nat} {y : MethodName} {bytes : ByteArray} {ret : Option FieldType} {hh : List (Nat × Nat × Nat × Nat)} {Ts ws ws' : List Cond} {rm : Room} (n : Nat) (ht : ∀ w ∈ Ts, w.before args s = true) (hT : GoodIn Ts (wsV own index C y ws)) (hw : ws = Cond.codeWith y bytes maxL ret hh :: ws') (hrc : rm.cells = mc) (hrs : rm.slots = ms)
    (hd : y.cls = C ∧ y.cls ≠ "java/lang/invoke/MethodHandle" ∧ y.cls ≠ "java/lang/invoke/VarHandle" ∧ (parseMethodDescriptor y.desc).map (fun d => d.parameters.length) = some n) (hR : rm.frames + 1 ≤ R.frames ∧ 8 + (maxL + 11) + rm.locals ≤ R.locals) :
    vx_CVW R s args own C index y bytes maxL ret hh ws rm mc ms n := by
  obtain ⟨hC, hd⟩ := hd
  subst hC
  have ok : ∀ w ∈ wsV own index y.cls y ws, w.before args s = true := fun w h => ht w (hT w h).1
  have hG : GoodIn Ts ws := fun w h => hT w (by unfold wsV; exact List.mem_append_right _ h)
  have hc : Cond.codeWith y bytes maxL ret hh ∈ ws := by rw [hw]; exact List.mem_cons_self
  refine ⟨⟨hrc, hrs, hR.1, hR.2, pay_in ht hG, hc⟩, ht _ (hG _ hc).1, ok _ (by simp [wsV]), ⟨hd.1, hd.2.1⟩, fun sig h => ?_, ok _ (by simp [wsV]), ok _ (by simp [wsV]), ok _ (by simp [wsV])⟩
  have h2 := hd.2.2
  rw [h] at h2
  exact (Option.some.inj h2).symm
theorem vx_runVW {y : MethodName} {bytes cc : ByteArray} {maxL nL mc ms n index : Nat} {ret : Option FieldType} {hh : List (Nat × Nat × Nat × Nat)} {ws : List Cond} {rm : Room} {Pc : Array Value → State → Prop} {Qc : Array Value → State → Outcome → State → Prop} {free : Addr → Prop} {Ts : List Cond} {own C : String} {b : Addr} {As rest : List Value} {g : JFrame}
    (S : CallFix p m c cc nL s args Ts own) (hM : Met l y ws rm Pc Qc mc ms free) (cw : vx_CVW R s args own C index y bytes maxL ret hh ws rm mc ms n) (hp : PreV s H C b Pc As)
    (hg : g.method = m) (hn : As.length = n) (hsize : g.locals.size = nL) (hstack : g.stack = As.reverse ++ .ref b :: rest) (hW : 2 * g.monitorRoom + (rest.map fun v => v.category).sum ≤ 8) (hdg : decode cc g.pc = .ok (.invokevirtual index, 3)) (hf : cells + mc ≤ R.cells ∧ slots + ms ≤ R.slots) :
    va_Run p l e R s m args below meth c H locs cells slots mc ms g rest (Qc (Value.ref b :: As).toArray) free := by
  obtain ⟨⟨hrc, hrs, hfr, hlo, hws, hcw⟩, hcode, hini, hy, hlen, hl, hin, hse⟩ := cw
  have hK : Back l R p e below s args y 3 8 (PreOf R mc ms Pc) (PostOf Qc mc ms free) := va_backW (hh := hh) (bytes := bytes) (maxL := maxL) (ret := ret) hM hp.1 hrc hrs hfr hlo hws hcw (fun a' U hW => word_at hW (Or.inl (by first | rfl | simp [Cond.onTables, Cond.keeps, Cond.steady])) hini)
  obtain ⟨hx, hb, hml, ho, -⟩ := S
  obtain ⟨-, ⟨cellB, hcB, hoB, hclB⟩, hPc⟩ := hp
  intro T hT X
  obtain ⟨v, vm₁, ⟨U', l2, c2, s2⟩, hW₁, X', ⟨g', mk, t, L, e1, e2, hq, h1, hL, h2, h3⟩, st⟩ := vx_callVW X hx (C := C) (hh := hh) (bytes := bytes) (maxL := maxL) (ret := ret) ho hl hin hse hcode hy hK (by rw [hT]; exact hcB) hoB hclB hg (hsize.trans hml.symm) (argsL := As) (rest := rest) (fun sig h => hn.trans (hlen sig h)) hstack hW (by rw [hb]; exact hdg)
    (fun vm₁ hW₁ => ⟨hf.1, hf.2, hPc (T.setVm vm₁) hT hW₁⟩)
  dsimp only [Pt.U, Pt.locs, Pt.cells, Pt.slots] at X' e1 e2 h1 h2 h3 st
  subst h1; subst h2; subst h3
  exact ⟨v, (T.setVm vm₁).calling g' mk (Value.ref b :: As).toArray, t, U', L, hT, X', hL, e1, e2, hq, st⟩
section
variable {y : MethodName} {bytes cc : ByteArray} {maxL nL mc ms n index : Nat} {ret : Option FieldType} {ws : List Cond} {rm : Room} {Pc : Array Value → State → Prop} {Qc : Array Value → State → Outcome → State → Prop} {XC : String → State → State → Prop} {free : Addr → Prop} {Ts : List Cond} {own C : String} {b : Addr} {As rest : List Value} {g : JFrame}
theorem vx_runVX {hh : List (Nat × Nat × Nat × Nat)} (S : CallFix p m c cc nL s args Ts own) (hM : vx_Met l y ws rm Pc Qc XC mc ms free) (cw : vx_CVW R s args own C index y bytes maxL ret hh ws rm mc ms n) (hp : PreV s H C b Pc As)
    (hg : g.method = m) (hn : As.length = n) (hsize : g.locals.size = nL) (hstack : g.stack = As.reverse ++ .ref b :: rest) (hW : 2 * g.monitorRoom + (rest.map fun v => v.category).sum ≤ 8) (hdg : decode cc g.pc = .ok (.invokevirtual index, 3)) (hf : cells + mc ≤ R.cells ∧ slots + ms ≤ R.slots) :
    vx_Run p l e R s m args below meth c H locs cells slots mc ms g rest (Qc (Value.ref b :: As).toArray) XC free := by
  obtain ⟨⟨hrc, hrs, hfr, hlo, hws, hcw⟩, hcode, hini, hy, hlen, hl, hin, hse⟩ := cw
  have hK : vx_Back l R p e below s args y 3 8 (PreOf R mc ms Pc) (PostOf Qc mc ms free) (vx_Post XC mc ms free) := vx_backW (hh := hh) (bytes := bytes) (maxL := maxL) (ret := ret) hM hp.1 hrc hrs hfr hlo hws hcw (fun a' U hW => word_at hW (Or.inl (by first | rfl | simp [Cond.onTables, Cond.keeps, Cond.steady])) hini)
  obtain ⟨hx, hb, hml, ho, -⟩ := S
  obtain ⟨-, ⟨cellB, hcB, hoB, hclB⟩, hPc⟩ := hp
  intro T hT X
  rcases vx_callVX X hx (C := C) (hh := hh) (bytes := bytes) (maxL := maxL) (ret := ret) ho hl hin hse hcode hy hK (by rw [hT]; exact hcB) hoB hclB hg (hsize.trans hml.symm) (argsL := As) (rest := rest) (fun sig h => hn.trans (hlen sig h)) hstack hW (by rw [hb]; exact hdg)
    (fun vm₁ hW₁ => ⟨hf.1, hf.2, hPc (T.setVm vm₁) hT hW₁⟩) with ⟨v, vm₁, ⟨U', l2, c2, s2⟩, hW₁, X', ⟨g', mk, t, L, e1, e2, hq, h1, hL, h2, h3⟩, st⟩ | ⟨q, vm₁, ⟨U', l2, c2, s2⟩, hW₁, X', ⟨g', mk, t, L, E, ce, e1, e2, hq, hce, hcv, hcl, h1, hL, h2, h3⟩, st⟩
  · dsimp only [Pt.U, Pt.locs, Pt.cells, Pt.slots] at X' e1 e2 h1 h2 h3 st
    subst h1; subst h2; subst h3
    exact Or.inl ⟨v, (T.setVm vm₁).calling g' mk (Value.ref b :: As).toArray, t, U', L, hT, X', hL, e1, e2, hq, st⟩
  · dsimp only [Pt.U, Pt.locs, Pt.cells, Pt.slots] at X' e1 e2 h1 h2 h3 st hcl
    subst h1; subst h2; subst h3
    exact Or.inr ⟨q, (T.setVm vm₁).calling g' mk (Value.ref b :: As).toArray, t, U', L, E, ce, hT, X', hL, e1, e2, hq, hce, hcv, vx_cls hW₁ hcl, st⟩
theorem vx_runSX {hh : List (Nat × Nat × Nat × Nat)} (S : CallFix p m c cc nL s args Ts own) (hM : vx_Met l y ws rm Pc Qc XC mc ms free) (cw : vx_CSW R s args own index y bytes maxL ret hh ws rm mc ms n) (hp : PreS s H Pc As)
    (hg : g.method = m) (hn : As.length = n) (hsize : g.locals.size = nL) (hstack : g.stack = As.reverse ++ rest) (hW : 2 * g.monitorRoom + (rest.map fun v => v.category).sum ≤ 8) (hdg : decode cc g.pc = .ok (.invokestatic index, 3)) (hf : cells + mc ≤ R.cells ∧ slots + ms ≤ R.slots) :
    vx_Run p l e R s m args below meth c H locs cells slots mc ms g rest (Qc As.toArray) XC free := by
  obtain ⟨⟨hrc, hrs, hfr, hlo, hws, hcw⟩, hcode, hini, hy, hlen, hl, hstt⟩ := cw
  have hK : vx_Back l R p e below s args y 3 8 (PreOf R mc ms Pc) (PostOf Qc mc ms free) (vx_Post XC mc ms free) := vx_backW (hh := hh) (bytes := bytes) (maxL := maxL) (ret := ret) hM hp.1 hrc hrs hfr hlo hws hcw (fun a' U hW => word_at hW (Or.inl (by first | rfl | simp [Cond.onTables, Cond.keeps, Cond.steady])) hini)
  obtain ⟨hx, hb, hml, ho, -⟩ := S
  intro T hT X
  rcases vx_callSX X hx (hh := hh) (bytes := bytes) (maxL := maxL) (ret := ret) ho hl hstt hini hcode hy hK hg (hsize.trans hml.symm) (argsL := As) (rest := rest) (fun sig h => hn.trans (hlen sig h)) hstack hW (by rw [hb]; exact hdg)
    (fun vm₁ hW₁ => ⟨hf.1, hf.2, hp.2 (T.setVm vm₁) hT hW₁⟩) with ⟨v, vm₁, ⟨U', l2, c2, s2⟩, hW₁, X', ⟨g', mk, t, L, e1, e2, hq, h1, hL, h2, h3⟩, st⟩ | ⟨q, vm₁, ⟨U', l2, c2, s2⟩, hW₁, X', ⟨g', mk, t, L, E, ce, e1, e2, hq, hce, hcv, hcl, h1, hL, h2, h3⟩, st⟩
  · dsimp only [Pt.U, Pt.locs, Pt.cells, Pt.slots] at X' e1 e2 h1 h2 h3 st
    subst h1; subst h2; subst h3
    exact Or.inl ⟨v, (T.setVm vm₁).calling g' mk As.toArray, t, U', L, hT, X', hL, e1, e2, hq, st⟩
  · dsimp only [Pt.U, Pt.locs, Pt.cells, Pt.slots] at X' e1 e2 h1 h2 h3 st hcl
    subst h1; subst h2; subst h3
    exact Or.inr ⟨q, (T.setVm vm₁).calling g' mk As.toArray, t, U', L, E, ce, hT, X', hL, e1, e2, hq, hce, hcv, vx_cls hW₁ hcl, st⟩
end
end VXH
theorem vx_ofWH {l : Launch} {y : MethodName} {ws ws' : List Cond} {rm : Room} {Pc : Array Value → State → Prop} {Qc : Array Value → State → Outcome → State → Prop} {XC : String → State → State → Prop} {mc ms : Nat} {free : Addr → Prop} {cc : ByteArray} {maxL : Nat} {ret : Option FieldType} {hh : List (Nat × Nat × Nat × Nat)}
    (hy : plainName y.cls = true) (hw : ws = Cond.codeWith y cc maxL ret hh :: ws')
    (body : ∀ p e s m args below meth c s₁, BodyLoose p l y (headSpec ws rm) cc maxL ret e s m args below meth c s₁ → c.maxLocals = maxL → Pc args s →
      W p l e (headSpec ws rm).room s m args below meth c s.heap [] 0 0 (vx_MQ below Qc XC args s mc ms free) (entryFrame m args maxL)) : vx_Met l y ws rm Pc Qc XC mc ms free := by
  refine MetFree.of_bodyS (code := cc) (maxLocals := maxL) (ret := ret) hy ?_ ?_
  · intro args s m h hn
    obtain ⟨m9, meth, c, hn9, h1, h2, h3, h4, -, h5, h6, -⟩ := Cond.codeWith_spec (atoms_spec (ws := ws) h _ (by rw [hw]; exact List.mem_cons_self))
    cases hn.symm.trans hn9
    exact ⟨meth, c, h1, h2, h3, h4, h5, h6⟩
  · intro p e s m args below meth c s₁ B hml hP _
    have hh0 : s₁.heap = s.heap := by rw [B.state]; rfl
    obtain ⟨t, a1, o, b1, b2, b3⟩ := body p e s m args below meth c s₁ B hml hP s₁ hh0 (Stand.of_body B)
    exact ⟨t, o, a1, b1, b2, b3⟩
/-! ===== END ===== -/
end
section
/-! ===== BEGIN printed: names, fields, word lists, decode rows ===== -/
def RX0 : String := "PieceWays$Bytes"
def TX0 : u_T := fun k => match k with
  | 0 => ("PieceWays$Bytes", "held", "[B", true)
  | _ => ("PieceWays$Bytes", "used", "I", false)
def tyX0 : Nat → FieldType := fun k => match k with
  | 0 => .array .byte
  | _ => .int
abbrev wsX00 : List Cond := u_ws RX0 TX0 2
theorem nmX0 : ∀ a, a < 2 → ∀ b, b < 2 → a ≠ b → (TX0 a).2.1 ≠ (TX0 b).2.1 := by decide +kernel
theorem tyX0_ok : ∀ k, k < 2 → parseFieldDescriptor (TX0 k).2.2.1 = some (tyX0 k) := by decide +kernel
abbrev cX0_init : ByteArray := prog_2_method_1_code
def yX0_init : MethodName := ⟨RX0, "<init>", "()V"⟩
abbrev cX0_length : ByteArray := prog_2_method_2_code
def yX0_length : MethodName := ⟨RX0, "length", "()I"⟩
abbrev cX0_at : ByteArray := prog_2_method_3_code
def yX0_at : MethodName := ⟨RX0, "at", "(I)I"⟩
abbrev cX0_empty : ByteArray := prog_2_method_4_code
def yX0_empty : MethodName := ⟨RX0, "empty", "()V"⟩
abbrev cX0_add : ByteArray := prog_2_method_5_code
def yX0_add : MethodName := ⟨RX0, "add", "(I)V"⟩
abbrev cX0_addTwo : ByteArray := prog_2_method_6_code
def yX0_addTwo : MethodName := ⟨RX0, "addTwo", "(I)V"⟩
abbrev cX0_addFrom : ByteArray := prog_2_method_7_code
def yX0_addFrom : MethodName := ⟨RX0, "addFrom", "(LPieceWays$Bytes;II)V"⟩
def RX1 : String := "PieceWays$Pieces"
def TX1 : u_T := fun k => match k with
  | 0 => ("PieceWays$Pieces", "kinds", "[I", true)
  | 1 => ("PieceWays$Pieces", "begins", "[I", true)
  | 2 => ("PieceWays$Pieces", "lengths", "[I", true)
  | _ => ("PieceWays$Pieces", "used", "I", false)
def tyX1 : Nat → FieldType := fun k => match k with
  | 0 => .array .int
  | 1 => .array .int
  | 2 => .array .int
  | _ => .int
abbrev wsX10 : List Cond := u_ws RX1 TX1 4
theorem nmX1 : ∀ a, a < 4 → ∀ b, b < 4 → a ≠ b → (TX1 a).2.1 ≠ (TX1 b).2.1 := by decide +kernel
theorem tyX1_ok : ∀ k, k < 4 → parseFieldDescriptor (TX1 k).2.2.1 = some (tyX1 k) := by decide +kernel
abbrev cX1_init : ByteArray := prog_3_method_1_code
def yX1_init : MethodName := ⟨RX1, "<init>", "()V"⟩
abbrev cX1_number : ByteArray := prog_3_method_2_code
def yX1_number : MethodName := ⟨RX1, "number", "()I"⟩
abbrev cX1_kind : ByteArray := prog_3_method_3_code
def yX1_kind : MethodName := ⟨RX1, "kind", "(I)I"⟩
abbrev cX1_begin : ByteArray := prog_3_method_4_code
def yX1_begin : MethodName := ⟨RX1, "begin", "(I)I"⟩
abbrev cX1_length : ByteArray := prog_3_method_5_code
def yX1_length : MethodName := ⟨RX1, "length", "(I)I"⟩
abbrev cX1_empty : ByteArray := prog_3_method_6_code
def yX1_empty : MethodName := ⟨RX1, "empty", "()V"⟩
abbrev cX1_add : ByteArray := prog_3_method_7_code
def yX1_add : MethodName := ⟨RX1, "add", "(III)V"⟩
abbrev cX1_addPlainByte : ByteArray := prog_3_method_8_code
def yX1_addPlainByte : MethodName := ⟨RX1, "addPlainByte", "(I)V"⟩
abbrev cX1_copiedEnd : ByteArray := prog_3_method_9_code
def yX1_copiedEnd : MethodName := ⟨RX1, "copiedEnd", "()I"⟩
abbrev cX1_isThere : ByteArray := prog_3_method_10_code
def yX1_isThere : MethodName := ⟨RX1, "isThere", "(I)Z"⟩
def RX2 : String := "PieceWays"
def TX2 : u_T := fun k => match k with
  | 0 => ("PieceWays", "base", "LPieceWays$Bytes;", true)
  | 1 => ("PieceWays", "target", "LPieceWays$Bytes;", true)
  | 2 => ("PieceWays", "result", "LPieceWays$Bytes;", true)
  | 3 => ("PieceWays", "pieces", "LPieceWays$Pieces;", true)
  | 4 => ("PieceWays", "targetThen", "LPieceWays$Bytes;", true)
  | _ => ("PieceWays", "row", "LPieceWays$Bytes;", true)
def tyX2 : Nat → FieldType := fun k => match k with
  | 0 => .object "PieceWays$Bytes"
  | 1 => .object "PieceWays$Bytes"
  | 2 => .object "PieceWays$Bytes"
  | 3 => .object "PieceWays$Pieces"
  | 4 => .object "PieceWays$Bytes"
  | _ => .object "PieceWays$Bytes"
abbrev wsX20 : List Cond := u_ws RX2 TX2 6
theorem nmX2 : ∀ a, a < 6 → ∀ b, b < 6 → a ≠ b → (TX2 a).2.1 ≠ (TX2 b).2.1 := by decide +kernel
theorem tyX2_ok : ∀ k, k < 6 → parseFieldDescriptor (TX2 k).2.2.1 = some (tyX2 k) := by decide +kernel
abbrev cX2_init : ByteArray := prog_1_method_1_code
def yX2_init : MethodName := ⟨RX2, "<init>", "()V"⟩
abbrev cX2_put : ByteArray := prog_1_method_2_code
def yX2_put : MethodName := ⟨RX2, "put", "(ZJI)Z"⟩
abbrev cX2_clear : ByteArray := prog_1_method_3_code
def yX2_clear : MethodName := ⟨RX2, "clear", "(Z)V"⟩
abbrev cX2_make : ByteArray := prog_1_method_4_code
def yX2_make : MethodName := ⟨RX2, "make", "()I"⟩
abbrev cX2_piece : ByteArray := prog_1_method_5_code
def yX2_piece : MethodName := ⟨RX2, "piece", "(II)I"⟩
abbrev cX2_size : ByteArray := prog_1_method_6_code
def yX2_size : MethodName := ⟨RX2, "size", "()I"⟩
abbrev cX2_way : ByteArray := prog_1_method_7_code
def yX2_way : MethodName := ⟨RX2, "way", "(I)I"⟩
abbrev cX2_go : ByteArray := prog_1_method_8_code
def yX2_go : MethodName := ⟨RX2, "go", "()I"⟩
abbrev cX2_result : ByteArray := prog_1_method_9_code
def yX2_result : MethodName := ⟨RX2, "result", "(I)I"⟩
abbrev cX2_count : ByteArray := prog_1_method_10_code
def yX2_count : MethodName := ⟨RX2, "count", "(I)I"⟩
abbrev cX2_findPieces : ByteArray := prog_1_method_11_code
def yX2_findPieces : MethodName := ⟨RX2, "findPieces", "()V"⟩
abbrev cX2_longestBlock : ByteArray := prog_1_method_12_code
def yX2_longestBlock : MethodName := ⟨RX2, "longestBlock", "(I)I"⟩
abbrev cX2_alike : ByteArray := prog_1_method_13_code
def yX2_alike : MethodName := ⟨RX2, "alike", "(II)I"⟩
abbrev cX2_writeRow : ByteArray := prog_1_method_14_code
def yX2_writeRow : MethodName := ⟨RX2, "writeRow", "()V"⟩
def RJ9 : String := "java/lang/Math"
def TJ9 : u_T := fun k => match k with
  | _ => ("", "", "", false)
def tyJ9 : Nat → FieldType := fun k => match k with
  | _ => .int
abbrev wsJ90 : List Cond := u_ws RJ9 TJ9 0
theorem nmJ9 : ∀ a, a < 0 → ∀ b, b < 0 → a ≠ b → (TJ9 a).2.1 ≠ (TJ9 b).2.1 := by decide +kernel
theorem tyJ9_ok : ∀ k, k < 0 → parseFieldDescriptor (TJ9 k).2.2.1 = some (tyJ9 k) := by decide +kernel
abbrev cJ9_max_7cf53 : ByteArray := prog_8_method_65_code
def yJ9_max_7cf53 : MethodName := ⟨RJ9, "max", "(II)I"⟩
abbrev cJ9_min_7cf53 : ByteArray := prog_8_method_69_code
def yJ9_min_7cf53 : MethodName := ⟨RJ9, "min", "(II)I"⟩
def RJ0 : String := "java/lang/String"
def TJ0 : u_T := fun k => match k with
  | _ => ("", "", "", false)
def tyJ0 : Nat → FieldType := fun k => match k with
  | _ => .int
abbrev wsJ00 : List Cond := u_ws RJ0 TJ0 0
theorem nmJ0 : ∀ a, a < 0 → ∀ b, b < 0 → a ≠ b → (TJ0 a).2.1 ≠ (TJ0 b).2.1 := by decide +kernel
theorem tyJ0_ok : ∀ k, k < 0 → parseFieldDescriptor (TJ0 k).2.2.1 = some (tyJ0 k) := by decide +kernel
def RL : String := "PieceWaysLaw"
abbrev cL_go : ByteArray := method_3_code
def yL_go : MethodName := ⟨RL, "go", "(LPieceWays;[J)I"⟩
abbrev cL_law : ByteArray := code
def yL_law : MethodName := ⟨RL, "law", "([I)Z"⟩
def wsX0_init : List Cond := .code yX0_init cX0_init 1 none :: ([.methodLink RX0 3 objectInit, .instanceMethod objectInit, .code objectInit ⟨#[0xb1]⟩ 1 none, .arrayClass .byte, .fieldLink RX0 9 "PieceWays$Bytes" "held" "[B", .fieldLink RX0 15 "PieceWays$Bytes" "used" "I"] ++ wsX00)
def wsX0_length : List Cond := .code yX0_length cX0_length 1 (some .int) :: ([.fieldLink RX0 15 "PieceWays$Bytes" "used" "I"] ++ wsX00)
def wsX0_at : List Cond := .code yX0_at cX0_at 2 (some .int) :: ([.fieldLink RX0 15 "PieceWays$Bytes" "used" "I", .fieldLink RX0 9 "PieceWays$Bytes" "held" "[B"] ++ wsX00)
def wsX0_empty : List Cond := .code yX0_empty cX0_empty 1 none :: ([.fieldLink RX0 15 "PieceWays$Bytes" "used" "I"] ++ wsX00)
def wsX0_add : List Cond := .code yX0_add cX0_add 2 none :: ([.fieldLink RX0 15 "PieceWays$Bytes" "used" "I", .fieldLink RX0 9 "PieceWays$Bytes" "held" "[B"] ++ wsX00)
def wsX0_addTwo : List Cond := .code yX0_addTwo cX0_addTwo 2 none :: ([.methodLink RX0 19 yX0_add, .instanceMethod yX0_add, .selects RX0 yX0_add yX0_add, .initialized RX0, .code yX0_add cX0_add 2 none, .fieldLink RX0 15 "PieceWays$Bytes" "used" "I", .fieldLink RX0 9 "PieceWays$Bytes" "held" "[B"] ++ wsX00)
def wsX0_addFrom : List Cond := .code yX0_addFrom cX0_addFrom 5 none :: ([.methodLink RX0 23 yX0_at, .instanceMethod yX0_at, .selects RX0 yX0_at yX0_at, .initialized RX0, .code yX0_at cX0_at 2 (some .int), .fieldLink RX0 15 "PieceWays$Bytes" "used" "I", .fieldLink RX0 9 "PieceWays$Bytes" "held" "[B", .methodLink RX0 19 yX0_add, .instanceMethod yX0_add, .selects RX0 yX0_add yX0_add, .code yX0_add cX0_add 2 none] ++ wsX00)
def wsX1_init : List Cond := .code yX1_init cX1_init 1 none :: ([.methodLink RX1 3 objectInit, .instanceMethod objectInit, .code objectInit ⟨#[0xb1]⟩ 1 none, .arrayClass .int, .fieldLink RX1 9 "PieceWays$Pieces" "kinds" "[I", .fieldLink RX1 15 "PieceWays$Pieces" "begins" "[I", .fieldLink RX1 18 "PieceWays$Pieces" "lengths" "[I", .fieldLink RX1 21 "PieceWays$Pieces" "used" "I"] ++ wsX10)
def wsX1_number : List Cond := .code yX1_number cX1_number 1 (some .int) :: ([.fieldLink RX1 21 "PieceWays$Pieces" "used" "I"] ++ wsX10)
def wsX1_isThere : List Cond := .code yX1_isThere cX1_isThere 2 (some .boolean) :: ([.fieldLink RX1 21 "PieceWays$Pieces" "used" "I"] ++ wsX10)
def wsX1_kind : List Cond := .code yX1_kind cX1_kind 2 (some .int) :: ([.fieldLink RX1 9 "PieceWays$Pieces" "kinds" "[I", .methodLink RX1 25 yX1_isThere, .instanceMethod yX1_isThere, .selects RX1 yX1_isThere yX1_isThere, .initialized RX1, .code yX1_isThere cX1_isThere 2 (some .boolean), .fieldLink RX1 21 "PieceWays$Pieces" "used" "I"] ++ wsX10)
def wsX1_begin : List Cond := .code yX1_begin cX1_begin 2 (some .int) :: ([.fieldLink RX1 15 "PieceWays$Pieces" "begins" "[I", .methodLink RX1 25 yX1_isThere, .instanceMethod yX1_isThere, .selects RX1 yX1_isThere yX1_isThere, .initialized RX1, .code yX1_isThere cX1_isThere 2 (some .boolean), .fieldLink RX1 21 "PieceWays$Pieces" "used" "I"] ++ wsX10)
def wsX1_length : List Cond := .code yX1_length cX1_length 2 (some .int) :: ([.fieldLink RX1 18 "PieceWays$Pieces" "lengths" "[I", .methodLink RX1 25 yX1_isThere, .instanceMethod yX1_isThere, .selects RX1 yX1_isThere yX1_isThere, .initialized RX1, .code yX1_isThere cX1_isThere 2 (some .boolean), .fieldLink RX1 21 "PieceWays$Pieces" "used" "I"] ++ wsX10)
def wsX1_empty : List Cond := .code yX1_empty cX1_empty 1 none :: ([.fieldLink RX1 21 "PieceWays$Pieces" "used" "I"] ++ wsX10)
def wsX1_add : List Cond := .code yX1_add cX1_add 4 none :: ([.fieldLink RX1 21 "PieceWays$Pieces" "used" "I", .fieldLink RX1 9 "PieceWays$Pieces" "kinds" "[I", .fieldLink RX1 15 "PieceWays$Pieces" "begins" "[I", .fieldLink RX1 18 "PieceWays$Pieces" "lengths" "[I"] ++ wsX10)
def wsX1_addPlainByte : List Cond := .code yX1_addPlainByte cX1_addPlainByte 3 none :: ([.fieldLink RX1 21 "PieceWays$Pieces" "used" "I", .fieldLink RX1 9 "PieceWays$Pieces" "kinds" "[I", .fieldLink RX1 18 "PieceWays$Pieces" "lengths" "[I", .methodLink RX1 25 yX1_isThere, .instanceMethod yX1_isThere, .selects RX1 yX1_isThere yX1_isThere, .initialized RX1, .code yX1_isThere cX1_isThere 2 (some .boolean), .methodLink RX1 29 yX1_add, .instanceMethod yX1_add, .selects RX1 yX1_add yX1_add, .code yX1_add cX1_add 4 none, .fieldLink RX1 15 "PieceWays$Pieces" "begins" "[I"] ++ wsX10)
def wsX1_copiedEnd_r1 : List Cond := [Cond.fieldLink RX1 21 "PieceWays$Pieces" "used" "I", Cond.methodLink RX1 43 Lib.Math.max.name, Cond.static Lib.Math.max.name, Cond.initialized "java/lang/Math", Cond.code Lib.Math.max.name Lib.Math.max.code 2 (some .int), Cond.methodLink RX1 33 yX1_kind, Cond.instanceMethod yX1_kind, Cond.selects RX1 yX1_kind yX1_kind, Cond.initialized RX1, Cond.code yX1_kind cX1_kind 2 (some .int), Cond.fieldLink RX1 9 "PieceWays$Pieces" "kinds" "[I", Cond.methodLink RX1 25 yX1_isThere, Cond.instanceMethod yX1_isThere, Cond.selects RX1 yX1_isThere yX1_isThere, Cond.code yX1_isThere cX1_isThere 2 (some .boolean), Cond.methodLink RX1 37 yX1_begin, Cond.instanceMethod yX1_begin, Cond.selects RX1 yX1_begin yX1_begin, Cond.code yX1_begin cX1_begin 2 (some .int), Cond.fieldLink RX1 15 "PieceWays$Pieces" "begins" "[I", Cond.methodLink RX1 40 yX1_length, Cond.instanceMethod yX1_length, Cond.selects RX1 yX1_length yX1_length, Cond.code yX1_length cX1_length 2 (some .int)]
def wsX1_copiedEnd_r2 : List Cond := [Cond.fieldLink RX1 18 "PieceWays$Pieces" "lengths" "[I"]
def wsX1_copiedEnd : List Cond := .code yX1_copiedEnd cX1_copiedEnd 3 (some .int) :: ((wsX1_copiedEnd_r1 ++ wsX1_copiedEnd_r2) ++ wsX10)
def wsX2_init_r1 : List Cond := [Cond.methodLink RX2 1 objectInit, Cond.instanceMethod objectInit, Cond.code objectInit ⟨#[0xb1]⟩ 1 none, Cond.classLink RX2 7 RX0, Cond.instantiable RX0 2, Cond.initialized RX0, Cond.fieldLink RX2 10 "PieceWays" "base" "LPieceWays$Bytes;", Cond.fieldLink RX2 16 "PieceWays" "target" "LPieceWays$Bytes;", Cond.fieldLink RX2 19 "PieceWays" "result" "LPieceWays$Bytes;", Cond.classLink RX2 22 RX1, Cond.instantiable RX1 4, Cond.initialized RX1, Cond.fieldLink RX2 25 "PieceWays" "pieces" "LPieceWays$Pieces;", Cond.fieldLink RX2 29 "PieceWays" "targetThen" "LPieceWays$Bytes;", Cond.fieldLink RX2 32 "PieceWays" "row" "LPieceWays$Bytes;", Cond.instanceMethod yX0_init, Cond.code yX0_init cX0_init 1 none, Cond.methodLink RX0 3 objectInit, Cond.arrayClass .byte, Cond.fieldLink RX0 9 "PieceWays$Bytes" "held" "[B", Cond.fieldLink RX0 15 "PieceWays$Bytes" "used" "I", Cond.instanceMethod yX1_init, Cond.code yX1_init cX1_init 1 none, Cond.methodLink RX1 3 objectInit]
def wsX2_init_r2 : List Cond := [Cond.arrayClass .int, Cond.fieldLink RX1 9 "PieceWays$Pieces" "kinds" "[I", Cond.fieldLink RX1 15 "PieceWays$Pieces" "begins" "[I", Cond.fieldLink RX1 18 "PieceWays$Pieces" "lengths" "[I", Cond.fieldLink RX1 21 "PieceWays$Pieces" "used" "I"]
def wsX2_init : List Cond := .code yX2_init cX2_init 1 none :: ((wsX2_init_r1 ++ wsX2_init_r2) ++ wsX00 ++ wsX20 ++ wsX10)
def wsX2_put : List Cond := .code yX2_put cX2_put 7 (some .boolean) :: ([.fieldLink RX2 16 "PieceWays" "target" "LPieceWays$Bytes;", .fieldLink RX2 10 "PieceWays" "base" "LPieceWays$Bytes;", .methodLink RX2 35 yX0_length, .instanceMethod yX0_length, .selects RX0 yX0_length yX0_length, .initialized RX0, .code yX0_length cX0_length 1 (some .int), .fieldLink RX0 15 "PieceWays$Bytes" "used" "I", .methodLink RX2 39 yX0_add, .instanceMethod yX0_add, .selects RX0 yX0_add yX0_add, .code yX0_add cX0_add 2 none, .fieldLink RX0 9 "PieceWays$Bytes" "held" "[B"] ++ wsX20 ++ wsX00)
def wsX2_clear : List Cond := .code yX2_clear cX2_clear 3 none :: ([.fieldLink RX2 16 "PieceWays" "target" "LPieceWays$Bytes;", .fieldLink RX2 10 "PieceWays" "base" "LPieceWays$Bytes;", .methodLink RX2 43 yX0_empty, .instanceMethod yX0_empty, .selects RX0 yX0_empty yX0_empty, .initialized RX0, .code yX0_empty cX0_empty 1 none, .fieldLink RX0 15 "PieceWays$Bytes" "used" "I"] ++ wsX20 ++ wsX00)
def wsX2_alike : List Cond := .code yX2_alike cX2_alike 5 (some .int) :: ([.fieldLink RX2 10 "PieceWays" "base" "LPieceWays$Bytes;", .fieldLink RX2 16 "PieceWays" "target" "LPieceWays$Bytes;", .methodLink RX2 100 Lib.Math.min.name, .static Lib.Math.min.name, .initialized "java/lang/Math", .code Lib.Math.min.name Lib.Math.min.code 2 (some .int), .methodLink RX2 35 yX0_length, .instanceMethod yX0_length, .selects RX0 yX0_length yX0_length, .initialized RX0, .code yX0_length cX0_length 1 (some .int), .fieldLink RX0 15 "PieceWays$Bytes" "used" "I", .methodLink RX2 68 yX0_at, .instanceMethod yX0_at, .selects RX0 yX0_at yX0_at, .code yX0_at cX0_at 2 (some .int), .fieldLink RX0 9 "PieceWays$Bytes" "held" "[B"] ++ wsX20 ++ wsX00)
def wsX2_longestBlock : List Cond := .code yX2_longestBlock cX2_longestBlock 6 (some .int) :: ([.fieldLink RX2 10 "PieceWays" "base" "LPieceWays$Bytes;", .methodLink RX2 35 yX0_length, .instanceMethod yX0_length, .selects RX0 yX0_length yX0_length, .initialized RX0, .code yX0_length cX0_length 1 (some .int), .fieldLink RX0 15 "PieceWays$Bytes" "used" "I", .methodLink RX2 88 yX2_alike, .instanceMethod yX2_alike, .selects RX2 yX2_alike yX2_alike, .initialized RX2, .code yX2_alike cX2_alike 5 (some .int), .fieldLink RX2 16 "PieceWays" "target" "LPieceWays$Bytes;", .methodLink RX2 100 Lib.Math.min.name, .static Lib.Math.min.name, .initialized "java/lang/Math", .code Lib.Math.min.name Lib.Math.min.code 2 (some .int), .methodLink RX2 68 yX0_at, .instanceMethod yX0_at, .selects RX0 yX0_at yX0_at, .code yX0_at cX0_at 2 (some .int), .fieldLink RX0 9 "PieceWays$Bytes" "held" "[B"] ++ wsX20 ++ wsX00)
def wsX2_findPieces_r1 : List Cond := [Cond.fieldLink RX2 25 "PieceWays" "pieces" "LPieceWays$Pieces;", Cond.fieldLink RX2 16 "PieceWays" "target" "LPieceWays$Bytes;", Cond.methodLink RX2 95 Lib.Math.max.name, Cond.static Lib.Math.max.name, Cond.initialized "java/lang/Math", Cond.code Lib.Math.max.name Lib.Math.max.code 2 (some .int), Cond.methodLink RX2 81 yX1_empty, Cond.instanceMethod yX1_empty, Cond.selects RX1 yX1_empty yX1_empty, Cond.initialized RX1, Cond.code yX1_empty cX1_empty 1 none, Cond.fieldLink RX1 21 "PieceWays$Pieces" "used" "I", Cond.methodLink RX2 35 yX0_length, Cond.instanceMethod yX0_length, Cond.selects RX0 yX0_length yX0_length, Cond.initialized RX0, Cond.code yX0_length cX0_length 1 (some .int), Cond.fieldLink RX0 15 "PieceWays$Bytes" "used" "I", Cond.methodLink RX2 82 yX2_longestBlock, Cond.instanceMethod yX2_longestBlock, Cond.selects RX2 yX2_longestBlock yX2_longestBlock, Cond.initialized RX2, Cond.code yX2_longestBlock cX2_longestBlock 6 (some .int), Cond.fieldLink RX2 10 "PieceWays" "base" "LPieceWays$Bytes;"]
def wsX2_findPieces_r2 : List Cond := [Cond.methodLink RX2 88 yX2_alike, Cond.instanceMethod yX2_alike, Cond.selects RX2 yX2_alike yX2_alike, Cond.code yX2_alike cX2_alike 5 (some .int), Cond.methodLink RX2 100 Lib.Math.min.name, Cond.static Lib.Math.min.name, Cond.code Lib.Math.min.name Lib.Math.min.code 2 (some .int), Cond.methodLink RX2 68 yX0_at, Cond.instanceMethod yX0_at, Cond.selects RX0 yX0_at yX0_at, Cond.code yX0_at cX0_at 2 (some .int), Cond.fieldLink RX0 9 "PieceWays$Bytes" "held" "[B", Cond.methodLink RX2 85 yX1_addPlainByte, Cond.instanceMethod yX1_addPlainByte, Cond.selects RX1 yX1_addPlainByte yX1_addPlainByte, Cond.code yX1_addPlainByte cX1_addPlainByte 3 none, Cond.fieldLink RX1 9 "PieceWays$Pieces" "kinds" "[I", Cond.fieldLink RX1 18 "PieceWays$Pieces" "lengths" "[I", Cond.methodLink RX1 25 yX1_isThere, Cond.instanceMethod yX1_isThere, Cond.selects RX1 yX1_isThere yX1_isThere, Cond.code yX1_isThere cX1_isThere 2 (some .boolean), Cond.methodLink RX1 29 yX1_add, Cond.instanceMethod yX1_add]
def wsX2_findPieces_r3 : List Cond := [Cond.selects RX1 yX1_add yX1_add, Cond.code yX1_add cX1_add 4 none, Cond.fieldLink RX1 15 "PieceWays$Pieces" "begins" "[I", Cond.methodLink RX2 92 yX1_add]
def wsX2_findPieces : List Cond := .code yX2_findPieces cX2_findPieces 4 none :: ((wsX2_findPieces_r1 ++ (wsX2_findPieces_r2 ++ wsX2_findPieces_r3)) ++ wsX20 ++ wsX10 ++ wsX00)
def wsX2_writeRow_r1 : List Cond := [Cond.fieldLink RX2 32 "PieceWays" "row" "LPieceWays$Bytes;", Cond.fieldLink RX2 25 "PieceWays" "pieces" "LPieceWays$Pieces;", Cond.fieldLink RX2 29 "PieceWays" "targetThen" "LPieceWays$Bytes;", Cond.methodLink RX2 43 yX0_empty, Cond.instanceMethod yX0_empty, Cond.selects RX0 yX0_empty yX0_empty, Cond.initialized RX0, Cond.code yX0_empty cX0_empty 1 none, Cond.fieldLink RX0 15 "PieceWays$Bytes" "used" "I", Cond.methodLink RX2 56 yX1_number, Cond.instanceMethod yX1_number, Cond.selects RX1 yX1_number yX1_number, Cond.initialized RX1, Cond.code yX1_number cX1_number 1 (some .int), Cond.fieldLink RX1 21 "PieceWays$Pieces" "used" "I", Cond.methodLink RX2 59 yX1_kind, Cond.instanceMethod yX1_kind, Cond.selects RX1 yX1_kind yX1_kind, Cond.code yX1_kind cX1_kind 2 (some .int), Cond.fieldLink RX1 9 "PieceWays$Pieces" "kinds" "[I", Cond.methodLink RX1 25 yX1_isThere, Cond.instanceMethod yX1_isThere, Cond.selects RX1 yX1_isThere yX1_isThere, Cond.code yX1_isThere cX1_isThere 2 (some .boolean)]
def wsX2_writeRow_r2 : List Cond := [Cond.methodLink RX2 39 yX0_add, Cond.instanceMethod yX0_add, Cond.selects RX0 yX0_add yX0_add, Cond.code yX0_add cX0_add 2 none, Cond.fieldLink RX0 9 "PieceWays$Bytes" "held" "[B", Cond.methodLink RX2 63 yX1_begin, Cond.instanceMethod yX1_begin, Cond.selects RX1 yX1_begin yX1_begin, Cond.code yX1_begin cX1_begin 2 (some .int), Cond.fieldLink RX1 15 "PieceWays$Pieces" "begins" "[I", Cond.methodLink RX2 103 yX0_addTwo, Cond.instanceMethod yX0_addTwo, Cond.selects RX0 yX0_addTwo yX0_addTwo, Cond.code yX0_addTwo cX0_addTwo 2 none, Cond.methodLink RX0 19 yX0_add, Cond.methodLink RX2 66 yX1_length, Cond.instanceMethod yX1_length, Cond.selects RX1 yX1_length yX1_length, Cond.code yX1_length cX1_length 2 (some .int), Cond.fieldLink RX1 18 "PieceWays$Pieces" "lengths" "[I", Cond.methodLink RX2 46 yX0_addFrom, Cond.instanceMethod yX0_addFrom, Cond.selects RX0 yX0_addFrom yX0_addFrom, Cond.code yX0_addFrom cX0_addFrom 5 none]
def wsX2_writeRow_r3 : List Cond := [Cond.methodLink RX0 23 yX0_at, Cond.instanceMethod yX0_at, Cond.selects RX0 yX0_at yX0_at, Cond.code yX0_at cX0_at 2 (some .int)]
def wsX2_writeRow : List Cond := .code yX2_writeRow cX2_writeRow 2 none :: ((wsX2_writeRow_r1 ++ (wsX2_writeRow_r2 ++ wsX2_writeRow_r3)) ++ wsX20 ++ wsX00 ++ wsX10)
def wsX2_make_r1 : List Cond := [Cond.fieldLink RX2 29 "PieceWays" "targetThen" "LPieceWays$Bytes;", Cond.fieldLink RX2 16 "PieceWays" "target" "LPieceWays$Bytes;", Cond.fieldLink RX2 25 "PieceWays" "pieces" "LPieceWays$Pieces;", Cond.methodLink RX2 43 yX0_empty, Cond.instanceMethod yX0_empty, Cond.selects RX0 yX0_empty yX0_empty, Cond.initialized RX0, Cond.code yX0_empty cX0_empty 1 none, Cond.fieldLink RX0 15 "PieceWays$Bytes" "used" "I", Cond.methodLink RX2 35 yX0_length, Cond.instanceMethod yX0_length, Cond.selects RX0 yX0_length yX0_length, Cond.code yX0_length cX0_length 1 (some .int), Cond.methodLink RX2 46 yX0_addFrom, Cond.instanceMethod yX0_addFrom, Cond.selects RX0 yX0_addFrom yX0_addFrom, Cond.code yX0_addFrom cX0_addFrom 5 none, Cond.methodLink RX0 23 yX0_at, Cond.instanceMethod yX0_at, Cond.selects RX0 yX0_at yX0_at, Cond.code yX0_at cX0_at 2 (some .int), Cond.fieldLink RX0 9 "PieceWays$Bytes" "held" "[B", Cond.methodLink RX0 19 yX0_add, Cond.instanceMethod yX0_add]
def wsX2_make_r2 : List Cond := [Cond.selects RX0 yX0_add yX0_add, Cond.code yX0_add cX0_add 2 none, Cond.methodLink RX2 50 yX2_findPieces, Cond.instanceMethod yX2_findPieces, Cond.selects RX2 yX2_findPieces yX2_findPieces, Cond.initialized RX2, Cond.code yX2_findPieces cX2_findPieces 4 none, Cond.methodLink RX2 95 Lib.Math.max.name, Cond.static Lib.Math.max.name, Cond.initialized "java/lang/Math", Cond.code Lib.Math.max.name Lib.Math.max.code 2 (some .int), Cond.methodLink RX2 81 yX1_empty, Cond.instanceMethod yX1_empty, Cond.selects RX1 yX1_empty yX1_empty, Cond.initialized RX1, Cond.code yX1_empty cX1_empty 1 none, Cond.fieldLink RX1 21 "PieceWays$Pieces" "used" "I", Cond.methodLink RX2 82 yX2_longestBlock, Cond.instanceMethod yX2_longestBlock, Cond.selects RX2 yX2_longestBlock yX2_longestBlock, Cond.code yX2_longestBlock cX2_longestBlock 6 (some .int), Cond.fieldLink RX2 10 "PieceWays" "base" "LPieceWays$Bytes;", Cond.methodLink RX2 88 yX2_alike, Cond.instanceMethod yX2_alike]
def wsX2_make_r3 : List Cond := [Cond.selects RX2 yX2_alike yX2_alike, Cond.code yX2_alike cX2_alike 5 (some .int), Cond.methodLink RX2 100 Lib.Math.min.name, Cond.static Lib.Math.min.name, Cond.code Lib.Math.min.name Lib.Math.min.code 2 (some .int), Cond.methodLink RX2 68 yX0_at, Cond.methodLink RX2 85 yX1_addPlainByte, Cond.instanceMethod yX1_addPlainByte, Cond.selects RX1 yX1_addPlainByte yX1_addPlainByte, Cond.code yX1_addPlainByte cX1_addPlainByte 3 none, Cond.fieldLink RX1 9 "PieceWays$Pieces" "kinds" "[I", Cond.fieldLink RX1 18 "PieceWays$Pieces" "lengths" "[I", Cond.methodLink RX1 25 yX1_isThere, Cond.instanceMethod yX1_isThere, Cond.selects RX1 yX1_isThere yX1_isThere, Cond.code yX1_isThere cX1_isThere 2 (some .boolean), Cond.methodLink RX1 29 yX1_add, Cond.instanceMethod yX1_add, Cond.selects RX1 yX1_add yX1_add, Cond.code yX1_add cX1_add 4 none, Cond.fieldLink RX1 15 "PieceWays$Pieces" "begins" "[I", Cond.methodLink RX2 92 yX1_add, Cond.methodLink RX2 53 yX2_writeRow, Cond.instanceMethod yX2_writeRow]
def wsX2_make_r4 : List Cond := [Cond.selects RX2 yX2_writeRow yX2_writeRow, Cond.code yX2_writeRow cX2_writeRow 2 none, Cond.fieldLink RX2 32 "PieceWays" "row" "LPieceWays$Bytes;", Cond.methodLink RX2 56 yX1_number, Cond.instanceMethod yX1_number, Cond.selects RX1 yX1_number yX1_number, Cond.code yX1_number cX1_number 1 (some .int), Cond.methodLink RX2 59 yX1_kind, Cond.instanceMethod yX1_kind, Cond.selects RX1 yX1_kind yX1_kind, Cond.code yX1_kind cX1_kind 2 (some .int), Cond.methodLink RX2 39 yX0_add, Cond.methodLink RX2 63 yX1_begin, Cond.instanceMethod yX1_begin, Cond.selects RX1 yX1_begin yX1_begin, Cond.code yX1_begin cX1_begin 2 (some .int), Cond.methodLink RX2 103 yX0_addTwo, Cond.instanceMethod yX0_addTwo, Cond.selects RX0 yX0_addTwo yX0_addTwo, Cond.code yX0_addTwo cX0_addTwo 2 none, Cond.methodLink RX2 66 yX1_length, Cond.instanceMethod yX1_length, Cond.selects RX1 yX1_length yX1_length, Cond.code yX1_length cX1_length 2 (some .int)]
def wsX2_make : List Cond := .code yX2_make cX2_make 1 (some .int) :: ((wsX2_make_r1 ++ (wsX2_make_r2 ++ (wsX2_make_r3 ++ wsX2_make_r4))) ++ wsX20 ++ wsX00 ++ wsX10)
def wsX2_piece : List Cond := .code yX2_piece cX2_piece 3 (some .int) :: ([.fieldLink RX2 25 "PieceWays" "pieces" "LPieceWays$Pieces;", .methodLink RX2 59 yX1_kind, .instanceMethod yX1_kind, .selects RX1 yX1_kind yX1_kind, .initialized RX1, .code yX1_kind cX1_kind 2 (some .int), .fieldLink RX1 9 "PieceWays$Pieces" "kinds" "[I", .methodLink RX1 25 yX1_isThere, .instanceMethod yX1_isThere, .selects RX1 yX1_isThere yX1_isThere, .code yX1_isThere cX1_isThere 2 (some .boolean), .fieldLink RX1 21 "PieceWays$Pieces" "used" "I", .methodLink RX2 63 yX1_begin, .instanceMethod yX1_begin, .selects RX1 yX1_begin yX1_begin, .code yX1_begin cX1_begin 2 (some .int), .fieldLink RX1 15 "PieceWays$Pieces" "begins" "[I", .methodLink RX2 66 yX1_length, .instanceMethod yX1_length, .selects RX1 yX1_length yX1_length, .code yX1_length cX1_length 2 (some .int), .fieldLink RX1 18 "PieceWays$Pieces" "lengths" "[I"] ++ wsX20 ++ wsX10)
def wsX2_size : List Cond := .code yX2_size cX2_size 1 (some .int) :: ([.fieldLink RX2 32 "PieceWays" "row" "LPieceWays$Bytes;", .methodLink RX2 35 yX0_length, .instanceMethod yX0_length, .selects RX0 yX0_length yX0_length, .initialized RX0, .code yX0_length cX0_length 1 (some .int), .fieldLink RX0 15 "PieceWays$Bytes" "used" "I"] ++ wsX20 ++ wsX00)
def wsX2_way : List Cond := .code yX2_way cX2_way 2 (some .int) :: ([.fieldLink RX2 32 "PieceWays" "row" "LPieceWays$Bytes;", .methodLink RX2 68 yX0_at, .instanceMethod yX0_at, .selects RX0 yX0_at yX0_at, .initialized RX0, .code yX0_at cX0_at 2 (some .int), .fieldLink RX0 15 "PieceWays$Bytes" "used" "I", .fieldLink RX0 9 "PieceWays$Bytes" "held" "[B"] ++ wsX20 ++ wsX00)
def wsX2_go_r1 : List Cond := [Cond.classLink RX2 74 "java/lang/IllegalStateException", Cond.initialized "java/lang/IllegalStateException", Cond.fieldLink RX2 25 "PieceWays" "pieces" "LPieceWays$Pieces;", Cond.fieldLink RX2 10 "PieceWays" "base" "LPieceWays$Bytes;", Cond.fieldLink RX2 19 "PieceWays" "result" "LPieceWays$Bytes;", Cond.fieldLink RX2 29 "PieceWays" "targetThen" "LPieceWays$Bytes;", Cond.methodLink RX2 71 yX1_copiedEnd, Cond.instanceMethod yX1_copiedEnd, Cond.selects RX1 yX1_copiedEnd yX1_copiedEnd, Cond.initialized RX1, Cond.code yX1_copiedEnd cX1_copiedEnd 3 (some .int), Cond.fieldLink RX1 21 "PieceWays$Pieces" "used" "I", Cond.methodLink RX1 43 Lib.Math.max.name, Cond.static Lib.Math.max.name, Cond.initialized "java/lang/Math", Cond.code Lib.Math.max.name Lib.Math.max.code 2 (some .int), Cond.methodLink RX1 33 yX1_kind, Cond.instanceMethod yX1_kind, Cond.selects RX1 yX1_kind yX1_kind, Cond.code yX1_kind cX1_kind 2 (some .int), Cond.fieldLink RX1 9 "PieceWays$Pieces" "kinds" "[I", Cond.methodLink RX1 25 yX1_isThere, Cond.instanceMethod yX1_isThere, Cond.selects RX1 yX1_isThere yX1_isThere]
def wsX2_go_r2 : List Cond := [Cond.code yX1_isThere cX1_isThere 2 (some .boolean), Cond.methodLink RX1 37 yX1_begin, Cond.instanceMethod yX1_begin, Cond.selects RX1 yX1_begin yX1_begin, Cond.code yX1_begin cX1_begin 2 (some .int), Cond.fieldLink RX1 15 "PieceWays$Pieces" "begins" "[I", Cond.methodLink RX1 40 yX1_length, Cond.instanceMethod yX1_length, Cond.selects RX1 yX1_length yX1_length, Cond.code yX1_length cX1_length 2 (some .int), Cond.fieldLink RX1 18 "PieceWays$Pieces" "lengths" "[I", Cond.methodLink RX2 35 yX0_length, Cond.instanceMethod yX0_length, Cond.selects RX0 yX0_length yX0_length, Cond.initialized RX0, Cond.code yX0_length cX0_length 1 (some .int), Cond.fieldLink RX0 15 "PieceWays$Bytes" "used" "I", Cond.methodLink RX2 43 yX0_empty, Cond.instanceMethod yX0_empty, Cond.selects RX0 yX0_empty yX0_empty, Cond.code yX0_empty cX0_empty 1 none, Cond.methodLink RX2 56 yX1_number, Cond.instanceMethod yX1_number, Cond.selects RX1 yX1_number yX1_number]
def wsX2_go_r3 : List Cond := [Cond.code yX1_number cX1_number 1 (some .int), Cond.methodLink RX2 59 yX1_kind, Cond.methodLink RX2 63 yX1_begin, Cond.methodLink RX2 66 yX1_length, Cond.methodLink RX2 46 yX0_addFrom, Cond.instanceMethod yX0_addFrom, Cond.selects RX0 yX0_addFrom yX0_addFrom, Cond.code yX0_addFrom cX0_addFrom 5 none, Cond.methodLink RX0 23 yX0_at, Cond.instanceMethod yX0_at, Cond.selects RX0 yX0_at yX0_at, Cond.code yX0_at cX0_at 2 (some .int), Cond.fieldLink RX0 9 "PieceWays$Bytes" "held" "[B", Cond.methodLink RX0 19 yX0_add, Cond.instanceMethod yX0_add, Cond.selects RX0 yX0_add yX0_add, Cond.code yX0_add cX0_add 2 none]
def wsX2_go : List Cond := .code yX2_go cX2_go 3 (some .int) :: ((wsX2_go_r1 ++ (wsX2_go_r2 ++ wsX2_go_r3)) ++ wsX20 ++ wsX10 ++ wsX00 ++ (vx_atS RX2 78 "java/lang/IllegalStateException" ["java/lang/RuntimeException", "java/lang/Exception"]).filter goodWord)
def wsX2_result : List Cond := .code yX2_result cX2_result 2 (some .int) :: ([.fieldLink RX2 19 "PieceWays" "result" "LPieceWays$Bytes;", .methodLink RX2 68 yX0_at, .instanceMethod yX0_at, .selects RX0 yX0_at yX0_at, .initialized RX0, .code yX0_at cX0_at 2 (some .int), .fieldLink RX0 15 "PieceWays$Bytes" "used" "I", .fieldLink RX0 9 "PieceWays$Bytes" "held" "[B"] ++ wsX20 ++ wsX00)
def wsX2_count : List Cond := .code yX2_count cX2_count 2 (some .int) :: ([.fieldLink RX2 10 "PieceWays" "base" "LPieceWays$Bytes;", .fieldLink RX2 16 "PieceWays" "target" "LPieceWays$Bytes;", .fieldLink RX2 19 "PieceWays" "result" "LPieceWays$Bytes;", .methodLink RX2 35 yX0_length, .instanceMethod yX0_length, .selects RX0 yX0_length yX0_length, .initialized RX0, .code yX0_length cX0_length 1 (some .int), .fieldLink RX0 15 "PieceWays$Bytes" "used" "I"] ++ wsX20 ++ wsX00)
def wsJ9_max_7cf53 : List Cond := .code yJ9_max_7cf53 cJ9_max_7cf53 2 (some .int) :: ([])
def wsJ9_min_7cf53 : List Cond := .code yJ9_min_7cf53 cJ9_min_7cf53 2 (some .int) :: ([])
def wsL_go_r1 : List Cond := [Cond.classLink RL 13 "java/lang/IllegalStateException", Cond.methodLink RL 7 yX2_go, Cond.instanceMethod yX2_go, Cond.selects RX2 yX2_go yX2_go, Cond.initialized RX2, Cond.code yX2_go cX2_go 3 (some .int), Cond.classLink RX2 74 "java/lang/IllegalStateException", Cond.initialized "java/lang/IllegalStateException", Cond.fieldLink RX2 25 "PieceWays" "pieces" "LPieceWays$Pieces;", Cond.fieldLink RX2 10 "PieceWays" "base" "LPieceWays$Bytes;", Cond.fieldLink RX2 19 "PieceWays" "result" "LPieceWays$Bytes;", Cond.fieldLink RX2 29 "PieceWays" "targetThen" "LPieceWays$Bytes;", Cond.methodLink RX2 71 yX1_copiedEnd, Cond.instanceMethod yX1_copiedEnd, Cond.selects RX1 yX1_copiedEnd yX1_copiedEnd, Cond.initialized RX1, Cond.code yX1_copiedEnd cX1_copiedEnd 3 (some .int), Cond.fieldLink RX1 21 "PieceWays$Pieces" "used" "I", Cond.methodLink RX1 43 Lib.Math.max.name, Cond.static Lib.Math.max.name, Cond.initialized "java/lang/Math", Cond.code Lib.Math.max.name Lib.Math.max.code 2 (some .int), Cond.methodLink RX1 33 yX1_kind, Cond.instanceMethod yX1_kind]
def wsL_go_r2 : List Cond := [Cond.selects RX1 yX1_kind yX1_kind, Cond.code yX1_kind cX1_kind 2 (some .int), Cond.fieldLink RX1 9 "PieceWays$Pieces" "kinds" "[I", Cond.methodLink RX1 25 yX1_isThere, Cond.instanceMethod yX1_isThere, Cond.selects RX1 yX1_isThere yX1_isThere, Cond.code yX1_isThere cX1_isThere 2 (some .boolean), Cond.methodLink RX1 37 yX1_begin, Cond.instanceMethod yX1_begin, Cond.selects RX1 yX1_begin yX1_begin, Cond.code yX1_begin cX1_begin 2 (some .int), Cond.fieldLink RX1 15 "PieceWays$Pieces" "begins" "[I", Cond.methodLink RX1 40 yX1_length, Cond.instanceMethod yX1_length, Cond.selects RX1 yX1_length yX1_length, Cond.code yX1_length cX1_length 2 (some .int), Cond.fieldLink RX1 18 "PieceWays$Pieces" "lengths" "[I", Cond.methodLink RX2 35 yX0_length, Cond.instanceMethod yX0_length, Cond.selects RX0 yX0_length yX0_length, Cond.initialized RX0, Cond.code yX0_length cX0_length 1 (some .int), Cond.fieldLink RX0 15 "PieceWays$Bytes" "used" "I", Cond.methodLink RX2 43 yX0_empty]
def wsL_go_r3 : List Cond := [Cond.instanceMethod yX0_empty, Cond.selects RX0 yX0_empty yX0_empty, Cond.code yX0_empty cX0_empty 1 none, Cond.methodLink RX2 56 yX1_number, Cond.instanceMethod yX1_number, Cond.selects RX1 yX1_number yX1_number, Cond.code yX1_number cX1_number 1 (some .int), Cond.methodLink RX2 59 yX1_kind, Cond.methodLink RX2 63 yX1_begin, Cond.methodLink RX2 66 yX1_length, Cond.methodLink RX2 46 yX0_addFrom, Cond.instanceMethod yX0_addFrom, Cond.selects RX0 yX0_addFrom yX0_addFrom, Cond.code yX0_addFrom cX0_addFrom 5 none, Cond.methodLink RX0 23 yX0_at, Cond.instanceMethod yX0_at, Cond.selects RX0 yX0_at yX0_at, Cond.code yX0_at cX0_at 2 (some .int), Cond.fieldLink RX0 9 "PieceWays$Bytes" "held" "[B", Cond.methodLink RX0 19 yX0_add, Cond.instanceMethod yX0_add, Cond.selects RX0 yX0_add yX0_add, Cond.code yX0_add cX0_add 2 none]
def wsL_go : List Cond := .codeWith yL_go cL_go 3 (some .int) [(0, 8, 11, 13)] :: ((wsL_go_r1 ++ (wsL_go_r2 ++ wsL_go_r3)) ++ wsX20 ++ wsX10 ++ wsX00 ++ (vx_atS RX2 78 "java/lang/IllegalStateException" ["java/lang/RuntimeException", "java/lang/Exception"]).filter goodWord)
theorem dX0_init_0 : decode cX0_init 0 = .ok (.aload_n 0, 1) := by decide +kernel
theorem dX0_init_1 : decode cX0_init 1 = .ok (.invokespecial 3, 3) := by decide +kernel
theorem dX0_init_4 : decode cX0_init 4 = .ok (.aload_n 0, 1) := by decide +kernel
theorem dX0_init_5 : decode cX0_init 5 = .ok (.sipush 603, 3) := by decide +kernel
theorem dX0_init_8 : decode cX0_init 8 = .ok (.newarray .byte, 2) := by decide +kernel
theorem dX0_init_10 : decode cX0_init 10 = .ok (.putfield 9, 3) := by decide +kernel
theorem dX0_init_13 : decode cX0_init 13 = .ok (.aload_n 0, 1) := by decide +kernel
theorem dX0_init_14 : decode cX0_init 14 = .ok (.iconst 0, 1) := by decide +kernel
theorem dX0_init_15 : decode cX0_init 15 = .ok (.putfield 15, 3) := by decide +kernel
theorem dX0_init_18 : decode cX0_init 18 = .ok (.return_, 1) := by decide +kernel
theorem dX0_length_0 : decode cX0_length 0 = .ok (.aload_n 0, 1) := by decide +kernel
theorem dX0_length_1 : decode cX0_length 1 = .ok (.getfield 15, 3) := by decide +kernel
theorem dX0_length_4 : decode cX0_length 4 = .ok (.ireturn, 1) := by decide +kernel
theorem dX0_at_0 : decode cX0_at 0 = .ok (.iload_n 1, 1) := by decide +kernel
theorem dX0_at_1 : decode cX0_at 1 = .ok (.ifCond .lt 20, 3) := by decide +kernel
theorem dX0_at_4 : decode cX0_at 4 = .ok (.iload_n 1, 1) := by decide +kernel
theorem dX0_at_5 : decode cX0_at 5 = .ok (.aload_n 0, 1) := by decide +kernel
theorem dX0_at_6 : decode cX0_at 6 = .ok (.getfield 15, 3) := by decide +kernel
theorem dX0_at_9 : decode cX0_at 9 = .ok (.if_icmp .ge 12, 3) := by decide +kernel
theorem dX0_at_12 : decode cX0_at 12 = .ok (.iload_n 1, 1) := by decide +kernel
theorem dX0_at_13 : decode cX0_at 13 = .ok (.aload_n 0, 1) := by decide +kernel
theorem dX0_at_14 : decode cX0_at 14 = .ok (.getfield 9, 3) := by decide +kernel
theorem dX0_at_17 : decode cX0_at 17 = .ok (.arraylength, 1) := by decide +kernel
theorem dX0_at_18 : decode cX0_at 18 = .ok (.if_icmp .lt 5, 3) := by decide +kernel
theorem dX0_at_21 : decode cX0_at 21 = .ok (.iconst (-1), 1) := by decide +kernel
theorem dX0_at_22 : decode cX0_at 22 = .ok (.ireturn, 1) := by decide +kernel
theorem dX0_at_23 : decode cX0_at 23 = .ok (.aload_n 0, 1) := by decide +kernel
theorem dX0_at_24 : decode cX0_at 24 = .ok (.getfield 9, 3) := by decide +kernel
theorem dX0_at_27 : decode cX0_at 27 = .ok (.iload_n 1, 1) := by decide +kernel
theorem dX0_at_28 : decode cX0_at 28 = .ok (.baload, 1) := by decide +kernel
theorem dX0_at_29 : decode cX0_at 29 = .ok (.sipush 255, 3) := by decide +kernel
theorem dX0_at_32 : decode cX0_at 32 = .ok (.iand, 1) := by decide +kernel
theorem dX0_at_33 : decode cX0_at 33 = .ok (.ireturn, 1) := by decide +kernel
theorem dX0_empty_0 : decode cX0_empty 0 = .ok (.aload_n 0, 1) := by decide +kernel
theorem dX0_empty_1 : decode cX0_empty 1 = .ok (.iconst 0, 1) := by decide +kernel
theorem dX0_empty_2 : decode cX0_empty 2 = .ok (.putfield 15, 3) := by decide +kernel
theorem dX0_empty_5 : decode cX0_empty 5 = .ok (.return_, 1) := by decide +kernel
theorem dX0_add_0 : decode cX0_add 0 = .ok (.aload_n 0, 1) := by decide +kernel
theorem dX0_add_1 : decode cX0_add 1 = .ok (.getfield 15, 3) := by decide +kernel
theorem dX0_add_4 : decode cX0_add 4 = .ok (.ifCond .lt 15, 3) := by decide +kernel
theorem dX0_add_7 : decode cX0_add 7 = .ok (.aload_n 0, 1) := by decide +kernel
theorem dX0_add_8 : decode cX0_add 8 = .ok (.getfield 15, 3) := by decide +kernel
theorem dX0_add_11 : decode cX0_add 11 = .ok (.aload_n 0, 1) := by decide +kernel
theorem dX0_add_12 : decode cX0_add 12 = .ok (.getfield 9, 3) := by decide +kernel
theorem dX0_add_15 : decode cX0_add 15 = .ok (.arraylength, 1) := by decide +kernel
theorem dX0_add_16 : decode cX0_add 16 = .ok (.if_icmp .lt 4, 3) := by decide +kernel
theorem dX0_add_19 : decode cX0_add 19 = .ok (.return_, 1) := by decide +kernel
theorem dX0_add_20 : decode cX0_add 20 = .ok (.aload_n 0, 1) := by decide +kernel
theorem dX0_add_21 : decode cX0_add 21 = .ok (.getfield 9, 3) := by decide +kernel
theorem dX0_add_24 : decode cX0_add 24 = .ok (.aload_n 0, 1) := by decide +kernel
theorem dX0_add_25 : decode cX0_add 25 = .ok (.getfield 15, 3) := by decide +kernel
theorem dX0_add_28 : decode cX0_add 28 = .ok (.iload_n 1, 1) := by decide +kernel
theorem dX0_add_29 : decode cX0_add 29 = .ok (.i2b, 1) := by decide +kernel
theorem dX0_add_30 : decode cX0_add 30 = .ok (.bastore, 1) := by decide +kernel
theorem dX0_add_31 : decode cX0_add 31 = .ok (.aload_n 0, 1) := by decide +kernel
theorem dX0_add_32 : decode cX0_add 32 = .ok (.dup, 1) := by decide +kernel
theorem dX0_add_33 : decode cX0_add 33 = .ok (.getfield 15, 3) := by decide +kernel
theorem dX0_add_36 : decode cX0_add 36 = .ok (.iconst 1, 1) := by decide +kernel
theorem dX0_add_37 : decode cX0_add 37 = .ok (.iadd, 1) := by decide +kernel
theorem dX0_add_38 : decode cX0_add 38 = .ok (.putfield 15, 3) := by decide +kernel
theorem dX0_add_41 : decode cX0_add 41 = .ok (.return_, 1) := by decide +kernel
set_option maxRecDepth 20000 in
theorem ggX0_addTwo_X0_add : GoodIn wsX0_addTwo wsX0_add := goodIn_r _ [5, 6, 7, 8, 9] (by decide +kernel) (by decide +kernel)
set_option maxRecDepth 20000 in
theorem gX0_addTwo_X0_add : GoodIn wsX0_addTwo (wsV RX0 19 RX0 yX0_add wsX0_add) := goodIn_app (goodIn_of _ (by decide +kernel)) ggX0_addTwo_X0_add
theorem dX0_addTwo_0 : decode cX0_addTwo 0 = .ok (.aload_n 0, 1) := by decide +kernel
theorem dX0_addTwo_1 : decode cX0_addTwo 1 = .ok (.iload_n 1, 1) := by decide +kernel
theorem dX0_addTwo_2 : decode cX0_addTwo 2 = .ok (.bipush 8, 2) := by decide +kernel
theorem dX0_addTwo_4 : decode cX0_addTwo 4 = .ok (.ishr, 1) := by decide +kernel
theorem dX0_addTwo_5 : decode cX0_addTwo 5 = .ok (.invokevirtual 19, 3) := by decide +kernel
theorem dX0_addTwo_8 : decode cX0_addTwo 8 = .ok (.aload_n 0, 1) := by decide +kernel
theorem dX0_addTwo_9 : decode cX0_addTwo 9 = .ok (.iload_n 1, 1) := by decide +kernel
theorem dX0_addTwo_10 : decode cX0_addTwo 10 = .ok (.invokevirtual 19, 3) := by decide +kernel
theorem dX0_addTwo_13 : decode cX0_addTwo 13 = .ok (.return_, 1) := by decide +kernel
set_option maxRecDepth 20000 in
theorem ggX0_addFrom_X0_at : GoodIn wsX0_addFrom wsX0_at := goodIn_r _ [5, 6, 7, 12, 13] (by decide +kernel) (by decide +kernel)
set_option maxRecDepth 20000 in
theorem gX0_addFrom_X0_at : GoodIn wsX0_addFrom (wsV RX0 23 RX0 yX0_at wsX0_at) := goodIn_app (goodIn_of _ (by decide +kernel)) ggX0_addFrom_X0_at
set_option maxRecDepth 20000 in
theorem ggX0_addFrom_X0_add : GoodIn wsX0_addFrom wsX0_add := goodIn_r _ [11, 6, 7, 12, 13] (by decide +kernel) (by decide +kernel)
set_option maxRecDepth 20000 in
theorem gX0_addFrom_X0_add : GoodIn wsX0_addFrom (wsV RX0 19 RX0 yX0_add wsX0_add) := goodIn_app (goodIn_of _ (by decide +kernel)) ggX0_addFrom_X0_add
theorem dX0_addFrom_0 : decode cX0_addFrom 0 = .ok (.iconst 0, 1) := by decide +kernel
theorem dX0_addFrom_1 : decode cX0_addFrom 1 = .ok (.istore 4, 2) := by decide +kernel
theorem dX0_addFrom_3 : decode cX0_addFrom 3 = .ok (.iload 4, 2) := by decide +kernel
theorem dX0_addFrom_5 : decode cX0_addFrom 5 = .ok (.iload_n 3, 1) := by decide +kernel
theorem dX0_addFrom_6 : decode cX0_addFrom 6 = .ok (.if_icmp .ge 21, 3) := by decide +kernel
theorem dX0_addFrom_9 : decode cX0_addFrom 9 = .ok (.aload_n 0, 1) := by decide +kernel
theorem dX0_addFrom_10 : decode cX0_addFrom 10 = .ok (.aload_n 1, 1) := by decide +kernel
theorem dX0_addFrom_11 : decode cX0_addFrom 11 = .ok (.iload_n 2, 1) := by decide +kernel
theorem dX0_addFrom_12 : decode cX0_addFrom 12 = .ok (.iload 4, 2) := by decide +kernel
theorem dX0_addFrom_14 : decode cX0_addFrom 14 = .ok (.iadd, 1) := by decide +kernel
theorem dX0_addFrom_15 : decode cX0_addFrom 15 = .ok (.invokevirtual 23, 3) := by decide +kernel
theorem dX0_addFrom_18 : decode cX0_addFrom 18 = .ok (.invokevirtual 19, 3) := by decide +kernel
theorem dX0_addFrom_21 : decode cX0_addFrom 21 = .ok (.iinc 4 1, 3) := by decide +kernel
theorem dX0_addFrom_24 : decode cX0_addFrom 24 = .ok (.goto (-21), 3) := by decide +kernel
theorem dX0_addFrom_27 : decode cX0_addFrom 27 = .ok (.return_, 1) := by decide +kernel
theorem dX1_init_0 : decode cX1_init 0 = .ok (.aload_n 0, 1) := by decide +kernel
theorem dX1_init_1 : decode cX1_init 1 = .ok (.invokespecial 3, 3) := by decide +kernel
theorem dX1_init_4 : decode cX1_init 4 = .ok (.aload_n 0, 1) := by decide +kernel
theorem dX1_init_5 : decode cX1_init 5 = .ok (.sipush 133, 3) := by decide +kernel
theorem dX1_init_8 : decode cX1_init 8 = .ok (.newarray .int, 2) := by decide +kernel
theorem dX1_init_10 : decode cX1_init 10 = .ok (.putfield 9, 3) := by decide +kernel
theorem dX1_init_13 : decode cX1_init 13 = .ok (.aload_n 0, 1) := by decide +kernel
theorem dX1_init_14 : decode cX1_init 14 = .ok (.sipush 133, 3) := by decide +kernel
theorem dX1_init_17 : decode cX1_init 17 = .ok (.newarray .int, 2) := by decide +kernel
theorem dX1_init_19 : decode cX1_init 19 = .ok (.putfield 15, 3) := by decide +kernel
theorem dX1_init_22 : decode cX1_init 22 = .ok (.aload_n 0, 1) := by decide +kernel
theorem dX1_init_23 : decode cX1_init 23 = .ok (.sipush 133, 3) := by decide +kernel
theorem dX1_init_26 : decode cX1_init 26 = .ok (.newarray .int, 2) := by decide +kernel
theorem dX1_init_28 : decode cX1_init 28 = .ok (.putfield 18, 3) := by decide +kernel
theorem dX1_init_31 : decode cX1_init 31 = .ok (.aload_n 0, 1) := by decide +kernel
theorem dX1_init_32 : decode cX1_init 32 = .ok (.iconst 0, 1) := by decide +kernel
theorem dX1_init_33 : decode cX1_init 33 = .ok (.putfield 21, 3) := by decide +kernel
theorem dX1_init_36 : decode cX1_init 36 = .ok (.return_, 1) := by decide +kernel
theorem dX1_number_0 : decode cX1_number 0 = .ok (.aload_n 0, 1) := by decide +kernel
theorem dX1_number_1 : decode cX1_number 1 = .ok (.getfield 21, 3) := by decide +kernel
theorem dX1_number_4 : decode cX1_number 4 = .ok (.ireturn, 1) := by decide +kernel
set_option maxRecDepth 20000 in
theorem ggX1_kind_X1_isThere : GoodIn wsX1_kind wsX1_isThere := goodIn_r _ [6, 7, 8, 9, 10, 11] (by decide +kernel) (by decide +kernel)
set_option maxRecDepth 20000 in
theorem gX1_kind_X1_isThere : GoodIn wsX1_kind (wsV RX1 25 RX1 yX1_isThere wsX1_isThere) := goodIn_app (goodIn_of _ (by decide +kernel)) ggX1_kind_X1_isThere
theorem dX1_kind_0 : decode cX1_kind 0 = .ok (.aload_n 0, 1) := by decide +kernel
theorem dX1_kind_1 : decode cX1_kind 1 = .ok (.iload_n 1, 1) := by decide +kernel
theorem dX1_kind_2 : decode cX1_kind 2 = .ok (.invokevirtual 25, 3) := by decide +kernel
theorem dX1_kind_5 : decode cX1_kind 5 = .ok (.ifCond .eq 12, 3) := by decide +kernel
theorem dX1_kind_8 : decode cX1_kind 8 = .ok (.aload_n 0, 1) := by decide +kernel
theorem dX1_kind_9 : decode cX1_kind 9 = .ok (.getfield 9, 3) := by decide +kernel
theorem dX1_kind_12 : decode cX1_kind 12 = .ok (.iload_n 1, 1) := by decide +kernel
theorem dX1_kind_13 : decode cX1_kind 13 = .ok (.iaload, 1) := by decide +kernel
theorem dX1_kind_14 : decode cX1_kind 14 = .ok (.goto 4, 3) := by decide +kernel
theorem dX1_kind_17 : decode cX1_kind 17 = .ok (.iconst (-1), 1) := by decide +kernel
theorem dX1_kind_18 : decode cX1_kind 18 = .ok (.ireturn, 1) := by decide +kernel
set_option maxRecDepth 20000 in
theorem ggX1_begin_X1_isThere : GoodIn wsX1_begin wsX1_isThere := goodIn_r _ [6, 7, 8, 9, 10, 11] (by decide +kernel) (by decide +kernel)
set_option maxRecDepth 20000 in
theorem gX1_begin_X1_isThere : GoodIn wsX1_begin (wsV RX1 25 RX1 yX1_isThere wsX1_isThere) := goodIn_app (goodIn_of _ (by decide +kernel)) ggX1_begin_X1_isThere
theorem dX1_begin_0 : decode cX1_begin 0 = .ok (.aload_n 0, 1) := by decide +kernel
theorem dX1_begin_1 : decode cX1_begin 1 = .ok (.iload_n 1, 1) := by decide +kernel
theorem dX1_begin_2 : decode cX1_begin 2 = .ok (.invokevirtual 25, 3) := by decide +kernel
theorem dX1_begin_5 : decode cX1_begin 5 = .ok (.ifCond .eq 12, 3) := by decide +kernel
theorem dX1_begin_8 : decode cX1_begin 8 = .ok (.aload_n 0, 1) := by decide +kernel
theorem dX1_begin_9 : decode cX1_begin 9 = .ok (.getfield 15, 3) := by decide +kernel
theorem dX1_begin_12 : decode cX1_begin 12 = .ok (.iload_n 1, 1) := by decide +kernel
theorem dX1_begin_13 : decode cX1_begin 13 = .ok (.iaload, 1) := by decide +kernel
theorem dX1_begin_14 : decode cX1_begin 14 = .ok (.goto 4, 3) := by decide +kernel
theorem dX1_begin_17 : decode cX1_begin 17 = .ok (.iconst (-1), 1) := by decide +kernel
theorem dX1_begin_18 : decode cX1_begin 18 = .ok (.ireturn, 1) := by decide +kernel
set_option maxRecDepth 20000 in
theorem ggX1_length_X1_isThere : GoodIn wsX1_length wsX1_isThere := goodIn_r _ [6, 7, 8, 9, 10, 11] (by decide +kernel) (by decide +kernel)
set_option maxRecDepth 20000 in
theorem gX1_length_X1_isThere : GoodIn wsX1_length (wsV RX1 25 RX1 yX1_isThere wsX1_isThere) := goodIn_app (goodIn_of _ (by decide +kernel)) ggX1_length_X1_isThere
theorem dX1_length_0 : decode cX1_length 0 = .ok (.aload_n 0, 1) := by decide +kernel
theorem dX1_length_1 : decode cX1_length 1 = .ok (.iload_n 1, 1) := by decide +kernel
theorem dX1_length_2 : decode cX1_length 2 = .ok (.invokevirtual 25, 3) := by decide +kernel
theorem dX1_length_5 : decode cX1_length 5 = .ok (.ifCond .eq 12, 3) := by decide +kernel
theorem dX1_length_8 : decode cX1_length 8 = .ok (.aload_n 0, 1) := by decide +kernel
theorem dX1_length_9 : decode cX1_length 9 = .ok (.getfield 18, 3) := by decide +kernel
theorem dX1_length_12 : decode cX1_length 12 = .ok (.iload_n 1, 1) := by decide +kernel
theorem dX1_length_13 : decode cX1_length 13 = .ok (.iaload, 1) := by decide +kernel
theorem dX1_length_14 : decode cX1_length 14 = .ok (.goto 4, 3) := by decide +kernel
theorem dX1_length_17 : decode cX1_length 17 = .ok (.iconst (-1), 1) := by decide +kernel
theorem dX1_length_18 : decode cX1_length 18 = .ok (.ireturn, 1) := by decide +kernel
theorem dX1_empty_0 : decode cX1_empty 0 = .ok (.aload_n 0, 1) := by decide +kernel
theorem dX1_empty_1 : decode cX1_empty 1 = .ok (.iconst 0, 1) := by decide +kernel
theorem dX1_empty_2 : decode cX1_empty 2 = .ok (.putfield 21, 3) := by decide +kernel
theorem dX1_empty_5 : decode cX1_empty 5 = .ok (.return_, 1) := by decide +kernel
theorem dX1_add_0 : decode cX1_add 0 = .ok (.aload_n 0, 1) := by decide +kernel
theorem dX1_add_1 : decode cX1_add 1 = .ok (.getfield 21, 3) := by decide +kernel
theorem dX1_add_4 : decode cX1_add 4 = .ok (.ifCond .lt 13, 3) := by decide +kernel
theorem dX1_add_7 : decode cX1_add 7 = .ok (.aload_n 0, 1) := by decide +kernel
theorem dX1_add_8 : decode cX1_add 8 = .ok (.getfield 21, 3) := by decide +kernel
theorem dX1_add_11 : decode cX1_add 11 = .ok (.sipush 133, 3) := by decide +kernel
theorem dX1_add_14 : decode cX1_add 14 = .ok (.if_icmp .lt 4, 3) := by decide +kernel
theorem dX1_add_17 : decode cX1_add 17 = .ok (.return_, 1) := by decide +kernel
theorem dX1_add_18 : decode cX1_add 18 = .ok (.aload_n 0, 1) := by decide +kernel
theorem dX1_add_19 : decode cX1_add 19 = .ok (.getfield 9, 3) := by decide +kernel
theorem dX1_add_22 : decode cX1_add 22 = .ok (.aload_n 0, 1) := by decide +kernel
theorem dX1_add_23 : decode cX1_add 23 = .ok (.getfield 21, 3) := by decide +kernel
theorem dX1_add_26 : decode cX1_add 26 = .ok (.iload_n 1, 1) := by decide +kernel
theorem dX1_add_27 : decode cX1_add 27 = .ok (.iastore, 1) := by decide +kernel
theorem dX1_add_28 : decode cX1_add 28 = .ok (.aload_n 0, 1) := by decide +kernel
theorem dX1_add_29 : decode cX1_add 29 = .ok (.getfield 15, 3) := by decide +kernel
theorem dX1_add_32 : decode cX1_add 32 = .ok (.aload_n 0, 1) := by decide +kernel
theorem dX1_add_33 : decode cX1_add 33 = .ok (.getfield 21, 3) := by decide +kernel
theorem dX1_add_36 : decode cX1_add 36 = .ok (.iload_n 2, 1) := by decide +kernel
theorem dX1_add_37 : decode cX1_add 37 = .ok (.iastore, 1) := by decide +kernel
theorem dX1_add_38 : decode cX1_add 38 = .ok (.aload_n 0, 1) := by decide +kernel
theorem dX1_add_39 : decode cX1_add 39 = .ok (.getfield 18, 3) := by decide +kernel
theorem dX1_add_42 : decode cX1_add 42 = .ok (.aload_n 0, 1) := by decide +kernel
theorem dX1_add_43 : decode cX1_add 43 = .ok (.getfield 21, 3) := by decide +kernel
theorem dX1_add_46 : decode cX1_add 46 = .ok (.iload_n 3, 1) := by decide +kernel
theorem dX1_add_47 : decode cX1_add 47 = .ok (.iastore, 1) := by decide +kernel
theorem dX1_add_48 : decode cX1_add 48 = .ok (.aload_n 0, 1) := by decide +kernel
theorem dX1_add_49 : decode cX1_add 49 = .ok (.dup, 1) := by decide +kernel
theorem dX1_add_50 : decode cX1_add 50 = .ok (.getfield 21, 3) := by decide +kernel
theorem dX1_add_53 : decode cX1_add 53 = .ok (.iconst 1, 1) := by decide +kernel
theorem dX1_add_54 : decode cX1_add 54 = .ok (.iadd, 1) := by decide +kernel
theorem dX1_add_55 : decode cX1_add 55 = .ok (.putfield 21, 3) := by decide +kernel
theorem dX1_add_58 : decode cX1_add 58 = .ok (.return_, 1) := by decide +kernel
set_option maxRecDepth 20000 in
theorem ggX1_addPlainByte_X1_isThere : GoodIn wsX1_addPlainByte wsX1_isThere := goodIn_r _ [8, 1, 14, 15, 16, 17] (by decide +kernel) (by decide +kernel)
set_option maxRecDepth 20000 in
theorem gX1_addPlainByte_X1_isThere : GoodIn wsX1_addPlainByte (wsV RX1 25 RX1 yX1_isThere wsX1_isThere) := goodIn_app (goodIn_of _ (by decide +kernel)) ggX1_addPlainByte_X1_isThere
set_option maxRecDepth 20000 in
theorem ggX1_addPlainByte_X1_add : GoodIn wsX1_addPlainByte wsX1_add := goodIn_r _ [12, 1, 2, 13, 3, 14, 15, 16, 17] (by decide +kernel) (by decide +kernel)
set_option maxRecDepth 20000 in
theorem gX1_addPlainByte_X1_add : GoodIn wsX1_addPlainByte (wsV RX1 29 RX1 yX1_add wsX1_add) := goodIn_app (goodIn_of _ (by decide +kernel)) ggX1_addPlainByte_X1_add
theorem dX1_addPlainByte_0 : decode cX1_addPlainByte 0 = .ok (.aload_n 0, 1) := by decide +kernel
theorem dX1_addPlainByte_1 : decode cX1_addPlainByte 1 = .ok (.getfield 21, 3) := by decide +kernel
theorem dX1_addPlainByte_4 : decode cX1_addPlainByte 4 = .ok (.iconst 1, 1) := by decide +kernel
theorem dX1_addPlainByte_5 : decode cX1_addPlainByte 5 = .ok (.isub, 1) := by decide +kernel
theorem dX1_addPlainByte_6 : decode cX1_addPlainByte 6 = .ok (.istore_n 2, 1) := by decide +kernel
theorem dX1_addPlainByte_7 : decode cX1_addPlainByte 7 = .ok (.aload_n 0, 1) := by decide +kernel
theorem dX1_addPlainByte_8 : decode cX1_addPlainByte 8 = .ok (.iload_n 2, 1) := by decide +kernel
theorem dX1_addPlainByte_9 : decode cX1_addPlainByte 9 = .ok (.invokevirtual 25, 3) := by decide +kernel
theorem dX1_addPlainByte_12 : decode cX1_addPlainByte 12 = .ok (.ifCond .eq 26, 3) := by decide +kernel
theorem dX1_addPlainByte_15 : decode cX1_addPlainByte 15 = .ok (.aload_n 0, 1) := by decide +kernel
theorem dX1_addPlainByte_16 : decode cX1_addPlainByte 16 = .ok (.getfield 9, 3) := by decide +kernel
theorem dX1_addPlainByte_19 : decode cX1_addPlainByte 19 = .ok (.iload_n 2, 1) := by decide +kernel
theorem dX1_addPlainByte_20 : decode cX1_addPlainByte 20 = .ok (.iaload, 1) := by decide +kernel
theorem dX1_addPlainByte_21 : decode cX1_addPlainByte 21 = .ok (.iconst 2, 1) := by decide +kernel
theorem dX1_addPlainByte_22 : decode cX1_addPlainByte 22 = .ok (.if_icmp .ne 16, 3) := by decide +kernel
theorem dX1_addPlainByte_25 : decode cX1_addPlainByte 25 = .ok (.aload_n 0, 1) := by decide +kernel
theorem dX1_addPlainByte_26 : decode cX1_addPlainByte 26 = .ok (.getfield 18, 3) := by decide +kernel
theorem dX1_addPlainByte_29 : decode cX1_addPlainByte 29 = .ok (.iload_n 2, 1) := by decide +kernel
theorem dX1_addPlainByte_30 : decode cX1_addPlainByte 30 = .ok (.dup2, 1) := by decide +kernel
theorem dX1_addPlainByte_31 : decode cX1_addPlainByte 31 = .ok (.iaload, 1) := by decide +kernel
theorem dX1_addPlainByte_32 : decode cX1_addPlainByte 32 = .ok (.iconst 1, 1) := by decide +kernel
theorem dX1_addPlainByte_33 : decode cX1_addPlainByte 33 = .ok (.iadd, 1) := by decide +kernel
theorem dX1_addPlainByte_34 : decode cX1_addPlainByte 34 = .ok (.iastore, 1) := by decide +kernel
theorem dX1_addPlainByte_35 : decode cX1_addPlainByte 35 = .ok (.goto 10, 3) := by decide +kernel
theorem dX1_addPlainByte_38 : decode cX1_addPlainByte 38 = .ok (.aload_n 0, 1) := by decide +kernel
theorem dX1_addPlainByte_39 : decode cX1_addPlainByte 39 = .ok (.iconst 2, 1) := by decide +kernel
theorem dX1_addPlainByte_40 : decode cX1_addPlainByte 40 = .ok (.iload_n 1, 1) := by decide +kernel
theorem dX1_addPlainByte_41 : decode cX1_addPlainByte 41 = .ok (.iconst 1, 1) := by decide +kernel
theorem dX1_addPlainByte_42 : decode cX1_addPlainByte 42 = .ok (.invokevirtual 29, 3) := by decide +kernel
theorem dX1_addPlainByte_45 : decode cX1_addPlainByte 45 = .ok (.return_, 1) := by decide +kernel
set_option maxRecDepth 20000 in
theorem ggX1_copiedEnd_X1_kind : GoodIn wsX1_copiedEnd wsX1_kind := goodIn_r _ [10, 11, 12, 13, 14, 9, 15, 1, 26, 27, 28, 29] (by decide +kernel) (by decide +kernel)
set_option maxRecDepth 20000 in
theorem gX1_copiedEnd_X1_kind : GoodIn wsX1_copiedEnd (wsV RX1 33 RX1 yX1_kind wsX1_kind) := goodIn_app (goodIn_of _ (by decide +kernel)) ggX1_copiedEnd_X1_kind
set_option maxRecDepth 20000 in
theorem ggX1_copiedEnd_X1_begin : GoodIn wsX1_copiedEnd wsX1_begin := goodIn_r _ [19, 20, 12, 13, 14, 9, 15, 1, 26, 27, 28, 29] (by decide +kernel) (by decide +kernel)
set_option maxRecDepth 20000 in
theorem gX1_copiedEnd_X1_begin : GoodIn wsX1_copiedEnd (wsV RX1 37 RX1 yX1_begin wsX1_begin) := goodIn_app (goodIn_of _ (by decide +kernel)) ggX1_copiedEnd_X1_begin
set_option maxRecDepth 20000 in
theorem ggX1_copiedEnd_X1_length : GoodIn wsX1_copiedEnd wsX1_length := goodIn_r _ [24, 25, 12, 13, 14, 9, 15, 1, 26, 27, 28, 29] (by decide +kernel) (by decide +kernel)
set_option maxRecDepth 20000 in
theorem gX1_copiedEnd_X1_length : GoodIn wsX1_copiedEnd (wsV RX1 40 RX1 yX1_length wsX1_length) := goodIn_app (goodIn_of _ (by decide +kernel)) ggX1_copiedEnd_X1_length
theorem dX1_copiedEnd_0 : decode cX1_copiedEnd 0 = .ok (.iconst 0, 1) := by decide +kernel
theorem dX1_copiedEnd_1 : decode cX1_copiedEnd 1 = .ok (.istore_n 1, 1) := by decide +kernel
theorem dX1_copiedEnd_2 : decode cX1_copiedEnd 2 = .ok (.iconst 0, 1) := by decide +kernel
theorem dX1_copiedEnd_3 : decode cX1_copiedEnd 3 = .ok (.istore_n 2, 1) := by decide +kernel
theorem dX1_copiedEnd_4 : decode cX1_copiedEnd 4 = .ok (.iload_n 2, 1) := by decide +kernel
theorem dX1_copiedEnd_5 : decode cX1_copiedEnd 5 = .ok (.aload_n 0, 1) := by decide +kernel
theorem dX1_copiedEnd_6 : decode cX1_copiedEnd 6 = .ok (.getfield 21, 3) := by decide +kernel
theorem dX1_copiedEnd_9 : decode cX1_copiedEnd 9 = .ok (.if_icmp .ge 34, 3) := by decide +kernel
theorem dX1_copiedEnd_12 : decode cX1_copiedEnd 12 = .ok (.aload_n 0, 1) := by decide +kernel
theorem dX1_copiedEnd_13 : decode cX1_copiedEnd 13 = .ok (.iload_n 2, 1) := by decide +kernel
theorem dX1_copiedEnd_14 : decode cX1_copiedEnd 14 = .ok (.invokevirtual 33, 3) := by decide +kernel
theorem dX1_copiedEnd_17 : decode cX1_copiedEnd 17 = .ok (.iconst 1, 1) := by decide +kernel
theorem dX1_copiedEnd_18 : decode cX1_copiedEnd 18 = .ok (.if_icmp .ne 19, 3) := by decide +kernel
theorem dX1_copiedEnd_21 : decode cX1_copiedEnd 21 = .ok (.iload_n 1, 1) := by decide +kernel
theorem dX1_copiedEnd_22 : decode cX1_copiedEnd 22 = .ok (.aload_n 0, 1) := by decide +kernel
theorem dX1_copiedEnd_23 : decode cX1_copiedEnd 23 = .ok (.iload_n 2, 1) := by decide +kernel
theorem dX1_copiedEnd_24 : decode cX1_copiedEnd 24 = .ok (.invokevirtual 37, 3) := by decide +kernel
theorem dX1_copiedEnd_27 : decode cX1_copiedEnd 27 = .ok (.aload_n 0, 1) := by decide +kernel
theorem dX1_copiedEnd_28 : decode cX1_copiedEnd 28 = .ok (.iload_n 2, 1) := by decide +kernel
theorem dX1_copiedEnd_29 : decode cX1_copiedEnd 29 = .ok (.invokevirtual 40, 3) := by decide +kernel
theorem dX1_copiedEnd_32 : decode cX1_copiedEnd 32 = .ok (.iadd, 1) := by decide +kernel
theorem dX1_copiedEnd_33 : decode cX1_copiedEnd 33 = .ok (.invokestatic 43, 3) := by decide +kernel
theorem dX1_copiedEnd_36 : decode cX1_copiedEnd 36 = .ok (.istore_n 1, 1) := by decide +kernel
theorem dX1_copiedEnd_37 : decode cX1_copiedEnd 37 = .ok (.iinc 2 1, 3) := by decide +kernel
theorem dX1_copiedEnd_40 : decode cX1_copiedEnd 40 = .ok (.goto (-36), 3) := by decide +kernel
theorem dX1_copiedEnd_43 : decode cX1_copiedEnd 43 = .ok (.iload_n 1, 1) := by decide +kernel
theorem dX1_copiedEnd_44 : decode cX1_copiedEnd 44 = .ok (.ireturn, 1) := by decide +kernel
theorem dX1_isThere_0 : decode cX1_isThere 0 = .ok (.iload_n 1, 1) := by decide +kernel
theorem dX1_isThere_1 : decode cX1_isThere 1 = .ok (.ifCond .lt 22, 3) := by decide +kernel
theorem dX1_isThere_4 : decode cX1_isThere 4 = .ok (.iload_n 1, 1) := by decide +kernel
theorem dX1_isThere_5 : decode cX1_isThere 5 = .ok (.aload_n 0, 1) := by decide +kernel
theorem dX1_isThere_6 : decode cX1_isThere 6 = .ok (.getfield 21, 3) := by decide +kernel
theorem dX1_isThere_9 : decode cX1_isThere 9 = .ok (.if_icmp .ge 14, 3) := by decide +kernel
theorem dX1_isThere_12 : decode cX1_isThere 12 = .ok (.iload_n 1, 1) := by decide +kernel
theorem dX1_isThere_13 : decode cX1_isThere 13 = .ok (.sipush 133, 3) := by decide +kernel
theorem dX1_isThere_16 : decode cX1_isThere 16 = .ok (.if_icmp .ge 7, 3) := by decide +kernel
theorem dX1_isThere_19 : decode cX1_isThere 19 = .ok (.iconst 1, 1) := by decide +kernel
theorem dX1_isThere_20 : decode cX1_isThere 20 = .ok (.goto 4, 3) := by decide +kernel
theorem dX1_isThere_23 : decode cX1_isThere 23 = .ok (.iconst 0, 1) := by decide +kernel
theorem dX1_isThere_24 : decode cX1_isThere 24 = .ok (.ireturn, 1) := by decide +kernel
set_option maxRecDepth 20000 in
theorem ggX2_init_X0_init : GoodIn wsX2_init wsX0_init := goodIn_r _ [17, 18, 2, 3, 19, 20, 21, 30, 31] (by decide +kernel) (by decide +kernel)
set_option maxRecDepth 20000 in
theorem gX2_init_X0_init_n9 : GoodIn wsX2_init (wsX0_init) := ggX2_init_X0_init
set_option maxRecDepth 20000 in
theorem ggX2_init_X1_init : GoodIn wsX2_init wsX1_init := goodIn_r _ [23, 24, 2, 3, 25, 26, 27, 28, 29, 38, 39, 40, 41] (by decide +kernel) (by decide +kernel)
set_option maxRecDepth 20000 in
theorem gX2_init_X1_init_n24 : GoodIn wsX2_init (wsX1_init) := ggX2_init_X1_init
theorem dX2_init_0 : decode cX2_init 0 = .ok (.aload_n 0, 1) := by decide +kernel
theorem dX2_init_1 : decode cX2_init 1 = .ok (.invokespecial 1, 3) := by decide +kernel
theorem dX2_init_4 : decode cX2_init 4 = .ok (.aload_n 0, 1) := by decide +kernel
theorem dX2_init_5 : decode cX2_init 5 = .ok (.new 7, 3) := by decide +kernel
theorem dX2_init_8 : decode cX2_init 8 = .ok (.dup, 1) := by decide +kernel
theorem dX2_init_9 : decode cX2_init 9 = .ok (.invokespecial 9, 3) := by decide +kernel
theorem dX2_init_12 : decode cX2_init 12 = .ok (.putfield 10, 3) := by decide +kernel
theorem dX2_init_15 : decode cX2_init 15 = .ok (.aload_n 0, 1) := by decide +kernel
theorem dX2_init_16 : decode cX2_init 16 = .ok (.new 7, 3) := by decide +kernel
theorem dX2_init_19 : decode cX2_init 19 = .ok (.dup, 1) := by decide +kernel
theorem dX2_init_20 : decode cX2_init 20 = .ok (.invokespecial 9, 3) := by decide +kernel
theorem dX2_init_23 : decode cX2_init 23 = .ok (.putfield 16, 3) := by decide +kernel
theorem dX2_init_26 : decode cX2_init 26 = .ok (.aload_n 0, 1) := by decide +kernel
theorem dX2_init_27 : decode cX2_init 27 = .ok (.new 7, 3) := by decide +kernel
theorem dX2_init_30 : decode cX2_init 30 = .ok (.dup, 1) := by decide +kernel
theorem dX2_init_31 : decode cX2_init 31 = .ok (.invokespecial 9, 3) := by decide +kernel
theorem dX2_init_34 : decode cX2_init 34 = .ok (.putfield 19, 3) := by decide +kernel
theorem dX2_init_37 : decode cX2_init 37 = .ok (.aload_n 0, 1) := by decide +kernel
theorem dX2_init_38 : decode cX2_init 38 = .ok (.new 22, 3) := by decide +kernel
theorem dX2_init_41 : decode cX2_init 41 = .ok (.dup, 1) := by decide +kernel
theorem dX2_init_42 : decode cX2_init 42 = .ok (.invokespecial 24, 3) := by decide +kernel
theorem dX2_init_45 : decode cX2_init 45 = .ok (.putfield 25, 3) := by decide +kernel
theorem dX2_init_48 : decode cX2_init 48 = .ok (.aload_n 0, 1) := by decide +kernel
theorem dX2_init_49 : decode cX2_init 49 = .ok (.new 7, 3) := by decide +kernel
theorem dX2_init_52 : decode cX2_init 52 = .ok (.dup, 1) := by decide +kernel
theorem dX2_init_53 : decode cX2_init 53 = .ok (.invokespecial 9, 3) := by decide +kernel
theorem dX2_init_56 : decode cX2_init 56 = .ok (.putfield 29, 3) := by decide +kernel
theorem dX2_init_59 : decode cX2_init 59 = .ok (.aload_n 0, 1) := by decide +kernel
theorem dX2_init_60 : decode cX2_init 60 = .ok (.new 7, 3) := by decide +kernel
theorem dX2_init_63 : decode cX2_init 63 = .ok (.dup, 1) := by decide +kernel
theorem dX2_init_64 : decode cX2_init 64 = .ok (.invokespecial 9, 3) := by decide +kernel
theorem dX2_init_67 : decode cX2_init 67 = .ok (.putfield 32, 3) := by decide +kernel
theorem dX2_init_70 : decode cX2_init 70 = .ok (.return_, 1) := by decide +kernel
set_option maxRecDepth 20000 in
theorem ggX2_put_X0_length : GoodIn wsX2_put wsX0_length := goodIn_r _ [7, 8, 20, 21] (by decide +kernel) (by decide +kernel)
set_option maxRecDepth 20000 in
theorem gX2_put_X0_length : GoodIn wsX2_put (wsV RX2 35 RX0 yX0_length wsX0_length) := goodIn_app (goodIn_of _ (by decide +kernel)) ggX2_put_X0_length
set_option maxRecDepth 20000 in
theorem ggX2_put_X0_add : GoodIn wsX2_put wsX0_add := goodIn_r _ [12, 8, 13, 20, 21] (by decide +kernel) (by decide +kernel)
set_option maxRecDepth 20000 in
theorem gX2_put_X0_add : GoodIn wsX2_put (wsV RX2 39 RX0 yX0_add wsX0_add) := goodIn_app (goodIn_of _ (by decide +kernel)) ggX2_put_X0_add
theorem dX2_put_0 : decode cX2_put 0 = .ok (.iload_n 1, 1) := by decide +kernel
theorem dX2_put_1 : decode cX2_put 1 = .ok (.ifCond .eq 10, 3) := by decide +kernel
theorem dX2_put_4 : decode cX2_put 4 = .ok (.aload_n 0, 1) := by decide +kernel
theorem dX2_put_5 : decode cX2_put 5 = .ok (.getfield 16, 3) := by decide +kernel
theorem dX2_put_8 : decode cX2_put 8 = .ok (.goto 7, 3) := by decide +kernel
theorem dX2_put_11 : decode cX2_put 11 = .ok (.aload_n 0, 1) := by decide +kernel
theorem dX2_put_12 : decode cX2_put 12 = .ok (.getfield 10, 3) := by decide +kernel
theorem dX2_put_15 : decode cX2_put 15 = .ok (.astore 5, 2) := by decide +kernel
theorem dX2_put_17 : decode cX2_put 17 = .ok (.iload 4, 2) := by decide +kernel
theorem dX2_put_19 : decode cX2_put 19 = .ok (.ifCond .lt 24, 3) := by decide +kernel
theorem dX2_put_22 : decode cX2_put 22 = .ok (.iload 4, 2) := by decide +kernel
theorem dX2_put_24 : decode cX2_put 24 = .ok (.bipush 8, 2) := by decide +kernel
theorem dX2_put_26 : decode cX2_put 26 = .ok (.if_icmp .gt 17, 3) := by decide +kernel
theorem dX2_put_29 : decode cX2_put 29 = .ok (.iload 4, 2) := by decide +kernel
theorem dX2_put_31 : decode cX2_put 31 = .ok (.sipush 600, 3) := by decide +kernel
theorem dX2_put_34 : decode cX2_put 34 = .ok (.aload 5, 2) := by decide +kernel
theorem dX2_put_36 : decode cX2_put 36 = .ok (.invokevirtual 35, 3) := by decide +kernel
theorem dX2_put_39 : decode cX2_put 39 = .ok (.isub, 1) := by decide +kernel
theorem dX2_put_40 : decode cX2_put 40 = .ok (.if_icmp .le 5, 3) := by decide +kernel
theorem dX2_put_43 : decode cX2_put 43 = .ok (.iconst 0, 1) := by decide +kernel
theorem dX2_put_44 : decode cX2_put 44 = .ok (.ireturn, 1) := by decide +kernel
theorem dX2_put_45 : decode cX2_put 45 = .ok (.iload 4, 2) := by decide +kernel
theorem dX2_put_47 : decode cX2_put 47 = .ok (.iconst 1, 1) := by decide +kernel
theorem dX2_put_48 : decode cX2_put 48 = .ok (.isub, 1) := by decide +kernel
theorem dX2_put_49 : decode cX2_put 49 = .ok (.istore 6, 2) := by decide +kernel
theorem dX2_put_51 : decode cX2_put 51 = .ok (.iload 6, 2) := by decide +kernel
theorem dX2_put_53 : decode cX2_put 53 = .ok (.ifCond .lt 22, 3) := by decide +kernel
theorem dX2_put_56 : decode cX2_put 56 = .ok (.aload 5, 2) := by decide +kernel
theorem dX2_put_58 : decode cX2_put 58 = .ok (.lload_n 2, 1) := by decide +kernel
theorem dX2_put_59 : decode cX2_put 59 = .ok (.bipush 8, 2) := by decide +kernel
theorem dX2_put_61 : decode cX2_put 61 = .ok (.iload 6, 2) := by decide +kernel
theorem dX2_put_63 : decode cX2_put 63 = .ok (.imul, 1) := by decide +kernel
theorem dX2_put_64 : decode cX2_put 64 = .ok (.lushr, 1) := by decide +kernel
theorem dX2_put_65 : decode cX2_put 65 = .ok (.l2i, 1) := by decide +kernel
theorem dX2_put_66 : decode cX2_put 66 = .ok (.invokevirtual 39, 3) := by decide +kernel
theorem dX2_put_69 : decode cX2_put 69 = .ok (.iinc 6 (-1), 3) := by decide +kernel
theorem dX2_put_72 : decode cX2_put 72 = .ok (.goto (-21), 3) := by decide +kernel
theorem dX2_put_75 : decode cX2_put 75 = .ok (.iconst 1, 1) := by decide +kernel
theorem dX2_put_76 : decode cX2_put 76 = .ok (.ireturn, 1) := by decide +kernel
set_option maxRecDepth 20000 in
theorem ggX2_clear_X0_empty : GoodIn wsX2_clear wsX0_empty := goodIn_r _ [7, 8, 15, 16] (by decide +kernel) (by decide +kernel)
set_option maxRecDepth 20000 in
theorem gX2_clear_X0_empty : GoodIn wsX2_clear (wsV RX2 43 RX0 yX0_empty wsX0_empty) := goodIn_app (goodIn_of _ (by decide +kernel)) ggX2_clear_X0_empty
theorem dX2_clear_0 : decode cX2_clear 0 = .ok (.iload_n 1, 1) := by decide +kernel
theorem dX2_clear_1 : decode cX2_clear 1 = .ok (.ifCond .eq 10, 3) := by decide +kernel
theorem dX2_clear_4 : decode cX2_clear 4 = .ok (.aload_n 0, 1) := by decide +kernel
theorem dX2_clear_5 : decode cX2_clear 5 = .ok (.getfield 16, 3) := by decide +kernel
theorem dX2_clear_8 : decode cX2_clear 8 = .ok (.goto 7, 3) := by decide +kernel
theorem dX2_clear_11 : decode cX2_clear 11 = .ok (.aload_n 0, 1) := by decide +kernel
theorem dX2_clear_12 : decode cX2_clear 12 = .ok (.getfield 10, 3) := by decide +kernel
theorem dX2_clear_15 : decode cX2_clear 15 = .ok (.astore_n 2, 1) := by decide +kernel
theorem dX2_clear_16 : decode cX2_clear 16 = .ok (.aload_n 2, 1) := by decide +kernel
theorem dX2_clear_17 : decode cX2_clear 17 = .ok (.invokevirtual 43, 3) := by decide +kernel
theorem dX2_clear_20 : decode cX2_clear 20 = .ok (.return_, 1) := by decide +kernel
set_option maxRecDepth 20000 in
theorem ggX2_make_X0_empty : GoodIn wsX2_make wsX0_empty := goodIn_r _ [8, 9, 103, 104] (by decide +kernel) (by decide +kernel)
set_option maxRecDepth 20000 in
theorem gX2_make_X0_empty : GoodIn wsX2_make (wsV RX2 43 RX0 yX0_empty wsX0_empty) := goodIn_app (goodIn_of _ (by decide +kernel)) ggX2_make_X0_empty
set_option maxRecDepth 20000 in
theorem ggX2_make_X0_length : GoodIn wsX2_make wsX0_length := goodIn_r _ [13, 9, 103, 104] (by decide +kernel) (by decide +kernel)
set_option maxRecDepth 20000 in
theorem gX2_make_X0_length : GoodIn wsX2_make (wsV RX2 35 RX0 yX0_length wsX0_length) := goodIn_app (goodIn_of _ (by decide +kernel)) ggX2_make_X0_length
set_option maxRecDepth 20000 in
theorem ggX2_make_X0_addFrom : GoodIn wsX2_make wsX0_addFrom := goodIn_r _ [17, 18, 19, 20, 7, 21, 9, 22, 23, 24, 25, 26, 103, 104] (by decide +kernel) (by decide +kernel)
set_option maxRecDepth 20000 in
theorem gX2_make_X0_addFrom : GoodIn wsX2_make (wsV RX2 46 RX0 yX0_addFrom wsX0_addFrom) := goodIn_app (goodIn_of _ (by decide +kernel)) ggX2_make_X0_addFrom
set_option maxRecDepth 20000 in
theorem ggX2_make_X2_findPieces : GoodIn wsX2_make wsX2_findPieces := goodIn_r _ [31, 3, 2, 32, 33, 34, 35, 36, 37, 38, 39, 40, 41, 10, 11, 12, 7, 13, 9, 42, 43, 44, 30, 45, 46, 47, 48, 49, 50, 51, 52, 53, 54, 19, 20, 21, 22, 55, 56, 57, 58, 59, 60, 61, 62, 63, 64, 65, 66, 67, 68, 69, 70, 97, 98, 99, 100, 101, 102, 105, 106, 107, 108, 103, 104] (by decide +kernel) (by decide +kernel)
set_option maxRecDepth 20000 in
theorem gX2_make_X2_findPieces : GoodIn wsX2_make (wsV RX2 50 RX2 yX2_findPieces wsX2_findPieces) := goodIn_app (goodIn_of _ (by decide +kernel)) ggX2_make_X2_findPieces
set_option maxRecDepth 20000 in
theorem ggX2_make_X2_writeRow : GoodIn wsX2_make wsX2_writeRow := goodIn_r _ [74, 75, 3, 1, 4, 5, 6, 7, 8, 9, 76, 77, 78, 39, 79, 41, 80, 81, 82, 83, 59, 61, 62, 63, 64, 84, 24, 25, 26, 22, 85, 86, 87, 88, 69, 89, 90, 91, 92, 23, 93, 94, 95, 96, 60, 14, 15, 16, 17, 18, 19, 20, 21, 97, 98, 99, 100, 101, 102, 103, 104, 105, 106, 107, 108] (by decide +kernel) (by decide +kernel)
set_option maxRecDepth 20000 in
theorem gX2_make_X2_writeRow : GoodIn wsX2_make (wsV RX2 53 RX2 yX2_writeRow wsX2_writeRow) := goodIn_app (goodIn_of _ (by decide +kernel)) ggX2_make_X2_writeRow
set_option maxRecDepth 20000 in
theorem ggX2_make_X1_number : GoodIn wsX2_make wsX1_number := goodIn_r _ [79, 41, 105, 106, 107, 108] (by decide +kernel) (by decide +kernel)
set_option maxRecDepth 20000 in
theorem gX2_make_X1_number : GoodIn wsX2_make (wsV RX2 56 RX1 yX1_number wsX1_number) := goodIn_app (goodIn_of _ (by decide +kernel)) ggX2_make_X1_number
theorem dX2_make_0 : decode cX2_make 0 = .ok (.aload_n 0, 1) := by decide +kernel
theorem dX2_make_1 : decode cX2_make 1 = .ok (.getfield 29, 3) := by decide +kernel
theorem dX2_make_4 : decode cX2_make 4 = .ok (.invokevirtual 43, 3) := by decide +kernel
theorem dX2_make_7 : decode cX2_make 7 = .ok (.aload_n 0, 1) := by decide +kernel
theorem dX2_make_8 : decode cX2_make 8 = .ok (.getfield 29, 3) := by decide +kernel
theorem dX2_make_11 : decode cX2_make 11 = .ok (.aload_n 0, 1) := by decide +kernel
theorem dX2_make_12 : decode cX2_make 12 = .ok (.getfield 16, 3) := by decide +kernel
theorem dX2_make_15 : decode cX2_make 15 = .ok (.iconst 0, 1) := by decide +kernel
theorem dX2_make_16 : decode cX2_make 16 = .ok (.aload_n 0, 1) := by decide +kernel
theorem dX2_make_17 : decode cX2_make 17 = .ok (.getfield 16, 3) := by decide +kernel
theorem dX2_make_20 : decode cX2_make 20 = .ok (.invokevirtual 35, 3) := by decide +kernel
theorem dX2_make_23 : decode cX2_make 23 = .ok (.invokevirtual 46, 3) := by decide +kernel
theorem dX2_make_26 : decode cX2_make 26 = .ok (.aload_n 0, 1) := by decide +kernel
theorem dX2_make_27 : decode cX2_make 27 = .ok (.invokevirtual 50, 3) := by decide +kernel
theorem dX2_make_30 : decode cX2_make 30 = .ok (.aload_n 0, 1) := by decide +kernel
theorem dX2_make_31 : decode cX2_make 31 = .ok (.invokevirtual 53, 3) := by decide +kernel
theorem dX2_make_34 : decode cX2_make 34 = .ok (.aload_n 0, 1) := by decide +kernel
theorem dX2_make_35 : decode cX2_make 35 = .ok (.getfield 25, 3) := by decide +kernel
theorem dX2_make_38 : decode cX2_make 38 = .ok (.invokevirtual 56, 3) := by decide +kernel
theorem dX2_make_41 : decode cX2_make 41 = .ok (.ireturn, 1) := by decide +kernel
set_option maxRecDepth 20000 in
theorem ggX2_piece_X1_kind : GoodIn wsX2_piece wsX1_kind := goodIn_r _ [6, 7, 8, 9, 10, 5, 11, 12, 29, 30, 31, 32] (by decide +kernel) (by decide +kernel)
set_option maxRecDepth 20000 in
theorem gX2_piece_X1_kind : GoodIn wsX2_piece (wsV RX2 59 RX1 yX1_kind wsX1_kind) := goodIn_app (goodIn_of _ (by decide +kernel)) ggX2_piece_X1_kind
set_option maxRecDepth 20000 in
theorem ggX2_piece_X1_begin : GoodIn wsX2_piece wsX1_begin := goodIn_r _ [16, 17, 8, 9, 10, 5, 11, 12, 29, 30, 31, 32] (by decide +kernel) (by decide +kernel)
set_option maxRecDepth 20000 in
theorem gX2_piece_X1_begin : GoodIn wsX2_piece (wsV RX2 63 RX1 yX1_begin wsX1_begin) := goodIn_app (goodIn_of _ (by decide +kernel)) ggX2_piece_X1_begin
set_option maxRecDepth 20000 in
theorem ggX2_piece_X1_length : GoodIn wsX2_piece wsX1_length := goodIn_r _ [21, 22, 8, 9, 10, 5, 11, 12, 29, 30, 31, 32] (by decide +kernel) (by decide +kernel)
set_option maxRecDepth 20000 in
theorem gX2_piece_X1_length : GoodIn wsX2_piece (wsV RX2 66 RX1 yX1_length wsX1_length) := goodIn_app (goodIn_of _ (by decide +kernel)) ggX2_piece_X1_length
theorem dX2_piece_0 : decode cX2_piece 0 = .ok (.iload_n 2, 1) := by decide +kernel
theorem dX2_piece_1 : decode cX2_piece 1 = .ok (.tableswitch 54 0 2 #[27, 36, 45], 27) := by decide +kernel
theorem dX2_piece_28 : decode cX2_piece 28 = .ok (.aload_n 0, 1) := by decide +kernel
theorem dX2_piece_29 : decode cX2_piece 29 = .ok (.getfield 25, 3) := by decide +kernel
theorem dX2_piece_32 : decode cX2_piece 32 = .ok (.iload_n 1, 1) := by decide +kernel
theorem dX2_piece_33 : decode cX2_piece 33 = .ok (.invokevirtual 59, 3) := by decide +kernel
theorem dX2_piece_36 : decode cX2_piece 36 = .ok (.ireturn, 1) := by decide +kernel
theorem dX2_piece_37 : decode cX2_piece 37 = .ok (.aload_n 0, 1) := by decide +kernel
theorem dX2_piece_38 : decode cX2_piece 38 = .ok (.getfield 25, 3) := by decide +kernel
theorem dX2_piece_41 : decode cX2_piece 41 = .ok (.iload_n 1, 1) := by decide +kernel
theorem dX2_piece_42 : decode cX2_piece 42 = .ok (.invokevirtual 63, 3) := by decide +kernel
theorem dX2_piece_45 : decode cX2_piece 45 = .ok (.ireturn, 1) := by decide +kernel
theorem dX2_piece_46 : decode cX2_piece 46 = .ok (.aload_n 0, 1) := by decide +kernel
theorem dX2_piece_47 : decode cX2_piece 47 = .ok (.getfield 25, 3) := by decide +kernel
theorem dX2_piece_50 : decode cX2_piece 50 = .ok (.iload_n 1, 1) := by decide +kernel
theorem dX2_piece_51 : decode cX2_piece 51 = .ok (.invokevirtual 66, 3) := by decide +kernel
theorem dX2_piece_54 : decode cX2_piece 54 = .ok (.ireturn, 1) := by decide +kernel
theorem dX2_piece_55 : decode cX2_piece 55 = .ok (.iconst (-1), 1) := by decide +kernel
theorem dX2_piece_56 : decode cX2_piece 56 = .ok (.ireturn, 1) := by decide +kernel
set_option maxRecDepth 20000 in
theorem ggX2_size_X0_length : GoodIn wsX2_size wsX0_length := goodIn_r _ [6, 7, 14, 15] (by decide +kernel) (by decide +kernel)
set_option maxRecDepth 20000 in
theorem gX2_size_X0_length : GoodIn wsX2_size (wsV RX2 35 RX0 yX0_length wsX0_length) := goodIn_app (goodIn_of _ (by decide +kernel)) ggX2_size_X0_length
theorem dX2_size_0 : decode cX2_size 0 = .ok (.aload_n 0, 1) := by decide +kernel
theorem dX2_size_1 : decode cX2_size 1 = .ok (.getfield 32, 3) := by decide +kernel
theorem dX2_size_4 : decode cX2_size 4 = .ok (.invokevirtual 35, 3) := by decide +kernel
theorem dX2_size_7 : decode cX2_size 7 = .ok (.ireturn, 1) := by decide +kernel
set_option maxRecDepth 20000 in
theorem ggX2_way_X0_at : GoodIn wsX2_way wsX0_at := goodIn_r _ [6, 7, 8, 15, 16] (by decide +kernel) (by decide +kernel)
set_option maxRecDepth 20000 in
theorem gX2_way_X0_at : GoodIn wsX2_way (wsV RX2 68 RX0 yX0_at wsX0_at) := goodIn_app (goodIn_of _ (by decide +kernel)) ggX2_way_X0_at
theorem dX2_way_0 : decode cX2_way 0 = .ok (.aload_n 0, 1) := by decide +kernel
theorem dX2_way_1 : decode cX2_way 1 = .ok (.getfield 32, 3) := by decide +kernel
theorem dX2_way_4 : decode cX2_way 4 = .ok (.iload_n 1, 1) := by decide +kernel
theorem dX2_way_5 : decode cX2_way 5 = .ok (.invokevirtual 68, 3) := by decide +kernel
theorem dX2_way_8 : decode cX2_way 8 = .ok (.ireturn, 1) := by decide +kernel
set_option maxRecDepth 20000 in
theorem ggX2_go_X1_copiedEnd : GoodIn wsX2_go wsX1_copiedEnd := goodIn_r _ [11, 12, 13, 14, 15, 16, 17, 18, 19, 10, 20, 21, 22, 23, 24, 25, 26, 27, 28, 29, 30, 31, 32, 33, 34, 35, 72, 73, 74, 75] (by decide +kernel) (by decide +kernel)
set_option maxRecDepth 20000 in
theorem gX2_go_X1_copiedEnd : GoodIn wsX2_go (wsV RX2 71 RX1 yX1_copiedEnd wsX1_copiedEnd) := goodIn_app (goodIn_of _ (by decide +kernel)) ggX2_go_X1_copiedEnd
set_option maxRecDepth 20000 in
theorem ggX2_go_X0_length : GoodIn wsX2_go wsX0_length := goodIn_r _ [40, 41, 76, 77] (by decide +kernel) (by decide +kernel)
set_option maxRecDepth 20000 in
theorem gX2_go_X0_length : GoodIn wsX2_go (wsV RX2 35 RX0 yX0_length wsX0_length) := goodIn_app (goodIn_of _ (by decide +kernel)) ggX2_go_X0_length
set_option maxRecDepth 20000 in
theorem ggX2_go_X0_empty : GoodIn wsX2_go wsX0_empty := goodIn_r _ [45, 41, 76, 77] (by decide +kernel) (by decide +kernel)
set_option maxRecDepth 20000 in
theorem gX2_go_X0_empty : GoodIn wsX2_go (wsV RX2 43 RX0 yX0_empty wsX0_empty) := goodIn_app (goodIn_of _ (by decide +kernel)) ggX2_go_X0_empty
set_option maxRecDepth 20000 in
theorem ggX2_go_X1_number : GoodIn wsX2_go wsX1_number := goodIn_r _ [49, 12, 72, 73, 74, 75] (by decide +kernel) (by decide +kernel)
set_option maxRecDepth 20000 in
theorem gX2_go_X1_number : GoodIn wsX2_go (wsV RX2 56 RX1 yX1_number wsX1_number) := goodIn_app (goodIn_of _ (by decide +kernel)) ggX2_go_X1_number
set_option maxRecDepth 20000 in
theorem ggX2_go_X1_kind : GoodIn wsX2_go wsX1_kind := goodIn_r _ [20, 21, 22, 23, 24, 10, 25, 12, 72, 73, 74, 75] (by decide +kernel) (by decide +kernel)
set_option maxRecDepth 20000 in
theorem gX2_go_X1_kind : GoodIn wsX2_go (wsV RX2 59 RX1 yX1_kind wsX1_kind) := goodIn_app (goodIn_of _ (by decide +kernel)) ggX2_go_X1_kind
set_option maxRecDepth 20000 in
theorem ggX2_go_X1_begin : GoodIn wsX2_go wsX1_begin := goodIn_r _ [29, 30, 22, 23, 24, 10, 25, 12, 72, 73, 74, 75] (by decide +kernel) (by decide +kernel)
set_option maxRecDepth 20000 in
theorem gX2_go_X1_begin : GoodIn wsX2_go (wsV RX2 63 RX1 yX1_begin wsX1_begin) := goodIn_app (goodIn_of _ (by decide +kernel)) ggX2_go_X1_begin
set_option maxRecDepth 20000 in
theorem ggX2_go_X1_length : GoodIn wsX2_go wsX1_length := goodIn_r _ [34, 35, 22, 23, 24, 10, 25, 12, 72, 73, 74, 75] (by decide +kernel) (by decide +kernel)
set_option maxRecDepth 20000 in
theorem gX2_go_X1_length : GoodIn wsX2_go (wsV RX2 66 RX1 yX1_length wsX1_length) := goodIn_app (goodIn_of _ (by decide +kernel)) ggX2_go_X1_length
set_option maxRecDepth 20000 in
theorem ggX2_go_X0_addFrom : GoodIn wsX2_go wsX0_addFrom := goodIn_r _ [56, 57, 58, 59, 39, 60, 41, 61, 62, 63, 64, 65, 76, 77] (by decide +kernel) (by decide +kernel)
set_option maxRecDepth 20000 in
theorem gX2_go_X0_addFrom : GoodIn wsX2_go (wsV RX2 46 RX0 yX0_addFrom wsX0_addFrom) := goodIn_app (goodIn_of _ (by decide +kernel)) ggX2_go_X0_addFrom
theorem dX2_go_0 : decode cX2_go 0 = .ok (.aload_n 0, 1) := by decide +kernel
theorem dX2_go_1 : decode cX2_go 1 = .ok (.getfield 25, 3) := by decide +kernel
theorem dX2_go_4 : decode cX2_go 4 = .ok (.invokevirtual 71, 3) := by decide +kernel
theorem dX2_go_7 : decode cX2_go 7 = .ok (.aload_n 0, 1) := by decide +kernel
theorem dX2_go_8 : decode cX2_go 8 = .ok (.getfield 10, 3) := by decide +kernel
theorem dX2_go_11 : decode cX2_go 11 = .ok (.invokevirtual 35, 3) := by decide +kernel
theorem dX2_go_14 : decode cX2_go 14 = .ok (.if_icmp .le 13, 3) := by decide +kernel
theorem dX2_go_17 : decode cX2_go 17 = .ok (.new 74, 3) := by decide +kernel
theorem dX2_go_20 : decode cX2_go 20 = .ok (.dup, 1) := by decide +kernel
theorem dX2_go_21 : decode cX2_go 21 = .ok (.ldc 76, 2) := by decide +kernel
theorem dX2_go_23 : decode cX2_go 23 = .ok (.invokespecial 78, 3) := by decide +kernel
theorem dX2_go_26 : decode cX2_go 26 = .ok (.athrow, 1) := by decide +kernel
theorem dX2_go_27 : decode cX2_go 27 = .ok (.aload_n 0, 1) := by decide +kernel
theorem dX2_go_28 : decode cX2_go 28 = .ok (.getfield 19, 3) := by decide +kernel
theorem dX2_go_31 : decode cX2_go 31 = .ok (.invokevirtual 43, 3) := by decide +kernel
theorem dX2_go_34 : decode cX2_go 34 = .ok (.iconst 0, 1) := by decide +kernel
theorem dX2_go_35 : decode cX2_go 35 = .ok (.istore_n 1, 1) := by decide +kernel
theorem dX2_go_36 : decode cX2_go 36 = .ok (.iload_n 1, 1) := by decide +kernel
theorem dX2_go_37 : decode cX2_go 37 = .ok (.aload_n 0, 1) := by decide +kernel
theorem dX2_go_38 : decode cX2_go 38 = .ok (.getfield 25, 3) := by decide +kernel
theorem dX2_go_41 : decode cX2_go 41 = .ok (.invokevirtual 56, 3) := by decide +kernel
theorem dX2_go_44 : decode cX2_go 44 = .ok (.if_icmp .ge 57, 3) := by decide +kernel
theorem dX2_go_47 : decode cX2_go 47 = .ok (.aload_n 0, 1) := by decide +kernel
theorem dX2_go_48 : decode cX2_go 48 = .ok (.getfield 25, 3) := by decide +kernel
theorem dX2_go_51 : decode cX2_go 51 = .ok (.iload_n 1, 1) := by decide +kernel
theorem dX2_go_52 : decode cX2_go 52 = .ok (.invokevirtual 59, 3) := by decide +kernel
theorem dX2_go_55 : decode cX2_go 55 = .ok (.iconst 1, 1) := by decide +kernel
theorem dX2_go_56 : decode cX2_go 56 = .ok (.if_icmp .ne 10, 3) := by decide +kernel
theorem dX2_go_59 : decode cX2_go 59 = .ok (.aload_n 0, 1) := by decide +kernel
theorem dX2_go_60 : decode cX2_go 60 = .ok (.getfield 10, 3) := by decide +kernel
theorem dX2_go_63 : decode cX2_go 63 = .ok (.goto 7, 3) := by decide +kernel
theorem dX2_go_66 : decode cX2_go 66 = .ok (.aload_n 0, 1) := by decide +kernel
theorem dX2_go_67 : decode cX2_go 67 = .ok (.getfield 29, 3) := by decide +kernel
theorem dX2_go_70 : decode cX2_go 70 = .ok (.astore_n 2, 1) := by decide +kernel
theorem dX2_go_71 : decode cX2_go 71 = .ok (.aload_n 0, 1) := by decide +kernel
theorem dX2_go_72 : decode cX2_go 72 = .ok (.getfield 19, 3) := by decide +kernel
theorem dX2_go_75 : decode cX2_go 75 = .ok (.aload_n 2, 1) := by decide +kernel
theorem dX2_go_76 : decode cX2_go 76 = .ok (.aload_n 0, 1) := by decide +kernel
theorem dX2_go_77 : decode cX2_go 77 = .ok (.getfield 25, 3) := by decide +kernel
theorem dX2_go_80 : decode cX2_go 80 = .ok (.iload_n 1, 1) := by decide +kernel
theorem dX2_go_81 : decode cX2_go 81 = .ok (.invokevirtual 63, 3) := by decide +kernel
theorem dX2_go_84 : decode cX2_go 84 = .ok (.aload_n 0, 1) := by decide +kernel
theorem dX2_go_85 : decode cX2_go 85 = .ok (.getfield 25, 3) := by decide +kernel
theorem dX2_go_88 : decode cX2_go 88 = .ok (.iload_n 1, 1) := by decide +kernel
theorem dX2_go_89 : decode cX2_go 89 = .ok (.invokevirtual 66, 3) := by decide +kernel
theorem dX2_go_92 : decode cX2_go 92 = .ok (.invokevirtual 46, 3) := by decide +kernel
theorem dX2_go_95 : decode cX2_go 95 = .ok (.iinc 1 1, 3) := by decide +kernel
theorem dX2_go_98 : decode cX2_go 98 = .ok (.goto (-62), 3) := by decide +kernel
theorem dX2_go_101 : decode cX2_go 101 = .ok (.aload_n 0, 1) := by decide +kernel
theorem dX2_go_102 : decode cX2_go 102 = .ok (.getfield 19, 3) := by decide +kernel
theorem dX2_go_105 : decode cX2_go 105 = .ok (.invokevirtual 35, 3) := by decide +kernel
theorem dX2_go_108 : decode cX2_go 108 = .ok (.ireturn, 1) := by decide +kernel
set_option maxRecDepth 20000 in
theorem ggX2_result_X0_at : GoodIn wsX2_result wsX0_at := goodIn_r _ [6, 7, 8, 15, 16] (by decide +kernel) (by decide +kernel)
set_option maxRecDepth 20000 in
theorem gX2_result_X0_at : GoodIn wsX2_result (wsV RX2 68 RX0 yX0_at wsX0_at) := goodIn_app (goodIn_of _ (by decide +kernel)) ggX2_result_X0_at
theorem dX2_result_0 : decode cX2_result 0 = .ok (.aload_n 0, 1) := by decide +kernel
theorem dX2_result_1 : decode cX2_result 1 = .ok (.getfield 19, 3) := by decide +kernel
theorem dX2_result_4 : decode cX2_result 4 = .ok (.iload_n 1, 1) := by decide +kernel
theorem dX2_result_5 : decode cX2_result 5 = .ok (.invokevirtual 68, 3) := by decide +kernel
theorem dX2_result_8 : decode cX2_result 8 = .ok (.ireturn, 1) := by decide +kernel
set_option maxRecDepth 20000 in
theorem ggX2_count_X0_length : GoodIn wsX2_count wsX0_length := goodIn_r _ [8, 9, 16, 17] (by decide +kernel) (by decide +kernel)
set_option maxRecDepth 20000 in
theorem gX2_count_X0_length : GoodIn wsX2_count (wsV RX2 35 RX0 yX0_length wsX0_length) := goodIn_app (goodIn_of _ (by decide +kernel)) ggX2_count_X0_length
theorem dX2_count_0 : decode cX2_count 0 = .ok (.iload_n 1, 1) := by decide +kernel
theorem dX2_count_1 : decode cX2_count 1 = .ok (.tableswitch 51 0 2 #[27, 35, 43], 27) := by decide +kernel
theorem dX2_count_28 : decode cX2_count 28 = .ok (.aload_n 0, 1) := by decide +kernel
theorem dX2_count_29 : decode cX2_count 29 = .ok (.getfield 10, 3) := by decide +kernel
theorem dX2_count_32 : decode cX2_count 32 = .ok (.invokevirtual 35, 3) := by decide +kernel
theorem dX2_count_35 : decode cX2_count 35 = .ok (.ireturn, 1) := by decide +kernel
theorem dX2_count_36 : decode cX2_count 36 = .ok (.aload_n 0, 1) := by decide +kernel
theorem dX2_count_37 : decode cX2_count 37 = .ok (.getfield 16, 3) := by decide +kernel
theorem dX2_count_40 : decode cX2_count 40 = .ok (.invokevirtual 35, 3) := by decide +kernel
theorem dX2_count_43 : decode cX2_count 43 = .ok (.ireturn, 1) := by decide +kernel
theorem dX2_count_44 : decode cX2_count 44 = .ok (.aload_n 0, 1) := by decide +kernel
theorem dX2_count_45 : decode cX2_count 45 = .ok (.getfield 19, 3) := by decide +kernel
theorem dX2_count_48 : decode cX2_count 48 = .ok (.invokevirtual 35, 3) := by decide +kernel
theorem dX2_count_51 : decode cX2_count 51 = .ok (.ireturn, 1) := by decide +kernel
theorem dX2_count_52 : decode cX2_count 52 = .ok (.iconst (-1), 1) := by decide +kernel
theorem dX2_count_53 : decode cX2_count 53 = .ok (.ireturn, 1) := by decide +kernel
set_option maxRecDepth 20000 in
theorem ggX2_findPieces_X1_empty : GoodIn wsX2_findPieces wsX1_empty := goodIn_r _ [11, 12, 59, 60, 61, 62] (by decide +kernel) (by decide +kernel)
set_option maxRecDepth 20000 in
theorem gX2_findPieces_X1_empty : GoodIn wsX2_findPieces (wsV RX2 81 RX1 yX1_empty wsX1_empty) := goodIn_app (goodIn_of _ (by decide +kernel)) ggX2_findPieces_X1_empty
set_option maxRecDepth 20000 in
theorem ggX2_findPieces_X0_length : GoodIn wsX2_findPieces wsX0_length := goodIn_r _ [17, 18, 63, 64] (by decide +kernel) (by decide +kernel)
set_option maxRecDepth 20000 in
theorem gX2_findPieces_X0_length : GoodIn wsX2_findPieces (wsV RX2 35 RX0 yX0_length wsX0_length) := goodIn_app (goodIn_of _ (by decide +kernel)) ggX2_findPieces_X0_length
set_option maxRecDepth 20000 in
theorem ggX2_findPieces_X2_longestBlock : GoodIn wsX2_findPieces wsX2_longestBlock := goodIn_r _ [23, 24, 13, 14, 15, 16, 17, 18, 25, 26, 27, 22, 28, 2, 29, 30, 5, 31, 32, 33, 34, 35, 36, 53, 54, 55, 56, 57, 58, 63, 64] (by decide +kernel) (by decide +kernel)
set_option maxRecDepth 20000 in
theorem gX2_findPieces_X2_longestBlock : GoodIn wsX2_findPieces (wsV RX2 82 RX2 yX2_longestBlock wsX2_longestBlock) := goodIn_app (goodIn_of _ (by decide +kernel)) ggX2_findPieces_X2_longestBlock
set_option maxRecDepth 20000 in
theorem ggX2_findPieces_X1_addPlainByte : GoodIn wsX2_findPieces wsX1_addPlainByte := goodIn_r _ [40, 12, 41, 42, 43, 44, 45, 10, 46, 47, 48, 49, 50, 51, 59, 60, 61, 62] (by decide +kernel) (by decide +kernel)
set_option maxRecDepth 20000 in
theorem gX2_findPieces_X1_addPlainByte : GoodIn wsX2_findPieces (wsV RX2 85 RX1 yX1_addPlainByte wsX1_addPlainByte) := goodIn_app (goodIn_of _ (by decide +kernel)) ggX2_findPieces_X1_addPlainByte
set_option maxRecDepth 20000 in
theorem ggX2_findPieces_X2_alike : GoodIn wsX2_findPieces wsX2_alike := goodIn_r _ [28, 24, 2, 29, 30, 5, 31, 13, 14, 15, 16, 17, 18, 32, 33, 34, 35, 36, 53, 54, 55, 56, 57, 58, 63, 64] (by decide +kernel) (by decide +kernel)
set_option maxRecDepth 20000 in
theorem gX2_findPieces_X2_alike : GoodIn wsX2_findPieces (wsV RX2 88 RX2 yX2_alike wsX2_alike) := goodIn_app (goodIn_of _ (by decide +kernel)) ggX2_findPieces_X2_alike
set_option maxRecDepth 20000 in
theorem ggX2_findPieces_X1_add : GoodIn wsX2_findPieces wsX1_add := goodIn_r _ [50, 12, 41, 51, 42, 59, 60, 61, 62] (by decide +kernel) (by decide +kernel)
set_option maxRecDepth 20000 in
theorem gX2_findPieces_X1_add : GoodIn wsX2_findPieces (wsV RX2 92 RX1 yX1_add wsX1_add) := goodIn_app (goodIn_of _ (by decide +kernel)) ggX2_findPieces_X1_add
theorem dX2_findPieces_0 : decode cX2_findPieces 0 = .ok (.aload_n 0, 1) := by decide +kernel
theorem dX2_findPieces_1 : decode cX2_findPieces 1 = .ok (.getfield 25, 3) := by decide +kernel
theorem dX2_findPieces_4 : decode cX2_findPieces 4 = .ok (.invokevirtual 81, 3) := by decide +kernel
theorem dX2_findPieces_7 : decode cX2_findPieces 7 = .ok (.iconst 0, 1) := by decide +kernel
theorem dX2_findPieces_8 : decode cX2_findPieces 8 = .ok (.istore_n 1, 1) := by decide +kernel
theorem dX2_findPieces_9 : decode cX2_findPieces 9 = .ok (.iload_n 1, 1) := by decide +kernel
theorem dX2_findPieces_10 : decode cX2_findPieces 10 = .ok (.aload_n 0, 1) := by decide +kernel
theorem dX2_findPieces_11 : decode cX2_findPieces 11 = .ok (.getfield 16, 3) := by decide +kernel
theorem dX2_findPieces_14 : decode cX2_findPieces 14 = .ok (.invokevirtual 35, 3) := by decide +kernel
theorem dX2_findPieces_17 : decode cX2_findPieces 17 = .ok (.if_icmp .ge 57, 3) := by decide +kernel
theorem dX2_findPieces_20 : decode cX2_findPieces 20 = .ok (.aload_n 0, 1) := by decide +kernel
theorem dX2_findPieces_21 : decode cX2_findPieces 21 = .ok (.iload_n 1, 1) := by decide +kernel
theorem dX2_findPieces_22 : decode cX2_findPieces 22 = .ok (.invokevirtual 82, 3) := by decide +kernel
theorem dX2_findPieces_25 : decode cX2_findPieces 25 = .ok (.istore_n 2, 1) := by decide +kernel
theorem dX2_findPieces_26 : decode cX2_findPieces 26 = .ok (.iload_n 2, 1) := by decide +kernel
theorem dX2_findPieces_27 : decode cX2_findPieces 27 = .ok (.iconst (-1), 1) := by decide +kernel
theorem dX2_findPieces_28 : decode cX2_findPieces 28 = .ok (.if_icmp .ne 17, 3) := by decide +kernel
theorem dX2_findPieces_31 : decode cX2_findPieces 31 = .ok (.aload_n 0, 1) := by decide +kernel
theorem dX2_findPieces_32 : decode cX2_findPieces 32 = .ok (.getfield 25, 3) := by decide +kernel
theorem dX2_findPieces_35 : decode cX2_findPieces 35 = .ok (.iload_n 1, 1) := by decide +kernel
theorem dX2_findPieces_36 : decode cX2_findPieces 36 = .ok (.invokevirtual 85, 3) := by decide +kernel
theorem dX2_findPieces_39 : decode cX2_findPieces 39 = .ok (.iinc 1 1, 3) := by decide +kernel
theorem dX2_findPieces_42 : decode cX2_findPieces 42 = .ok (.goto 29, 3) := by decide +kernel
theorem dX2_findPieces_45 : decode cX2_findPieces 45 = .ok (.aload_n 0, 1) := by decide +kernel
theorem dX2_findPieces_46 : decode cX2_findPieces 46 = .ok (.iload_n 2, 1) := by decide +kernel
theorem dX2_findPieces_47 : decode cX2_findPieces 47 = .ok (.iload_n 1, 1) := by decide +kernel
theorem dX2_findPieces_48 : decode cX2_findPieces 48 = .ok (.invokevirtual 88, 3) := by decide +kernel
theorem dX2_findPieces_51 : decode cX2_findPieces 51 = .ok (.istore_n 3, 1) := by decide +kernel
theorem dX2_findPieces_52 : decode cX2_findPieces 52 = .ok (.aload_n 0, 1) := by decide +kernel
theorem dX2_findPieces_53 : decode cX2_findPieces 53 = .ok (.getfield 25, 3) := by decide +kernel
theorem dX2_findPieces_56 : decode cX2_findPieces 56 = .ok (.iconst 1, 1) := by decide +kernel
theorem dX2_findPieces_57 : decode cX2_findPieces 57 = .ok (.iload_n 2, 1) := by decide +kernel
theorem dX2_findPieces_58 : decode cX2_findPieces 58 = .ok (.iload_n 3, 1) := by decide +kernel
theorem dX2_findPieces_59 : decode cX2_findPieces 59 = .ok (.invokevirtual 92, 3) := by decide +kernel
theorem dX2_findPieces_62 : decode cX2_findPieces 62 = .ok (.iload_n 1, 1) := by decide +kernel
theorem dX2_findPieces_63 : decode cX2_findPieces 63 = .ok (.iload_n 3, 1) := by decide +kernel
theorem dX2_findPieces_64 : decode cX2_findPieces 64 = .ok (.bipush 8, 2) := by decide +kernel
theorem dX2_findPieces_66 : decode cX2_findPieces 66 = .ok (.invokestatic 95, 3) := by decide +kernel
theorem dX2_findPieces_69 : decode cX2_findPieces 69 = .ok (.iadd, 1) := by decide +kernel
theorem dX2_findPieces_70 : decode cX2_findPieces 70 = .ok (.istore_n 1, 1) := by decide +kernel
theorem dX2_findPieces_71 : decode cX2_findPieces 71 = .ok (.goto (-62), 3) := by decide +kernel
theorem dX2_findPieces_74 : decode cX2_findPieces 74 = .ok (.return_, 1) := by decide +kernel
set_option maxRecDepth 20000 in
theorem ggX2_longestBlock_X0_length : GoodIn wsX2_longestBlock wsX0_length := goodIn_r _ [6, 7, 29, 30] (by decide +kernel) (by decide +kernel)
set_option maxRecDepth 20000 in
theorem gX2_longestBlock_X0_length : GoodIn wsX2_longestBlock (wsV RX2 35 RX0 yX0_length wsX0_length) := goodIn_app (goodIn_of _ (by decide +kernel)) ggX2_longestBlock_X0_length
set_option maxRecDepth 20000 in
theorem ggX2_longestBlock_X2_alike : GoodIn wsX2_longestBlock wsX2_alike := goodIn_r _ [12, 1, 13, 14, 15, 16, 17, 2, 3, 4, 5, 6, 7, 18, 19, 20, 21, 22, 23, 24, 25, 26, 27, 28, 29, 30] (by decide +kernel) (by decide +kernel)
set_option maxRecDepth 20000 in
theorem gX2_longestBlock_X2_alike : GoodIn wsX2_longestBlock (wsV RX2 88 RX2 yX2_alike wsX2_alike) := goodIn_app (goodIn_of _ (by decide +kernel)) ggX2_longestBlock_X2_alike
theorem dX2_longestBlock_0 : decode cX2_longestBlock 0 = .ok (.iconst (-1), 1) := by decide +kernel
theorem dX2_longestBlock_1 : decode cX2_longestBlock 1 = .ok (.istore_n 2, 1) := by decide +kernel
theorem dX2_longestBlock_2 : decode cX2_longestBlock 2 = .ok (.bipush 7, 2) := by decide +kernel
theorem dX2_longestBlock_4 : decode cX2_longestBlock 4 = .ok (.istore_n 3, 1) := by decide +kernel
theorem dX2_longestBlock_5 : decode cX2_longestBlock 5 = .ok (.iconst 0, 1) := by decide +kernel
theorem dX2_longestBlock_6 : decode cX2_longestBlock 6 = .ok (.istore 4, 2) := by decide +kernel
theorem dX2_longestBlock_8 : decode cX2_longestBlock 8 = .ok (.iload 4, 2) := by decide +kernel
theorem dX2_longestBlock_10 : decode cX2_longestBlock 10 = .ok (.bipush 8, 2) := by decide +kernel
theorem dX2_longestBlock_12 : decode cX2_longestBlock 12 = .ok (.iadd, 1) := by decide +kernel
theorem dX2_longestBlock_13 : decode cX2_longestBlock 13 = .ok (.aload_n 0, 1) := by decide +kernel
theorem dX2_longestBlock_14 : decode cX2_longestBlock 14 = .ok (.getfield 10, 3) := by decide +kernel
theorem dX2_longestBlock_17 : decode cX2_longestBlock 17 = .ok (.invokevirtual 35, 3) := by decide +kernel
theorem dX2_longestBlock_20 : decode cX2_longestBlock 20 = .ok (.if_icmp .gt 30, 3) := by decide +kernel
theorem dX2_longestBlock_23 : decode cX2_longestBlock 23 = .ok (.aload_n 0, 1) := by decide +kernel
theorem dX2_longestBlock_24 : decode cX2_longestBlock 24 = .ok (.iload 4, 2) := by decide +kernel
theorem dX2_longestBlock_26 : decode cX2_longestBlock 26 = .ok (.iload_n 1, 1) := by decide +kernel
theorem dX2_longestBlock_27 : decode cX2_longestBlock 27 = .ok (.invokevirtual 88, 3) := by decide +kernel
theorem dX2_longestBlock_30 : decode cX2_longestBlock 30 = .ok (.istore 5, 2) := by decide +kernel
theorem dX2_longestBlock_32 : decode cX2_longestBlock 32 = .ok (.iload 5, 2) := by decide +kernel
theorem dX2_longestBlock_34 : decode cX2_longestBlock 34 = .ok (.iload_n 3, 1) := by decide +kernel
theorem dX2_longestBlock_35 : decode cX2_longestBlock 35 = .ok (.if_icmp .le 9, 3) := by decide +kernel
theorem dX2_longestBlock_38 : decode cX2_longestBlock 38 = .ok (.iload 5, 2) := by decide +kernel
theorem dX2_longestBlock_40 : decode cX2_longestBlock 40 = .ok (.istore_n 3, 1) := by decide +kernel
theorem dX2_longestBlock_41 : decode cX2_longestBlock 41 = .ok (.iload 4, 2) := by decide +kernel
theorem dX2_longestBlock_43 : decode cX2_longestBlock 43 = .ok (.istore_n 2, 1) := by decide +kernel
theorem dX2_longestBlock_44 : decode cX2_longestBlock 44 = .ok (.iinc 4 8, 3) := by decide +kernel
theorem dX2_longestBlock_47 : decode cX2_longestBlock 47 = .ok (.goto (-39), 3) := by decide +kernel
theorem dX2_longestBlock_50 : decode cX2_longestBlock 50 = .ok (.iload_n 2, 1) := by decide +kernel
theorem dX2_longestBlock_51 : decode cX2_longestBlock 51 = .ok (.ireturn, 1) := by decide +kernel
set_option maxRecDepth 20000 in
theorem ggX2_alike_X0_length : GoodIn wsX2_alike wsX0_length := goodIn_r _ [11, 12, 24, 25] (by decide +kernel) (by decide +kernel)
set_option maxRecDepth 20000 in
theorem gX2_alike_X0_length : GoodIn wsX2_alike (wsV RX2 35 RX0 yX0_length wsX0_length) := goodIn_app (goodIn_of _ (by decide +kernel)) ggX2_alike_X0_length
set_option maxRecDepth 20000 in
theorem ggX2_alike_X0_at : GoodIn wsX2_alike wsX0_at := goodIn_r _ [16, 12, 17, 24, 25] (by decide +kernel) (by decide +kernel)
set_option maxRecDepth 20000 in
theorem gX2_alike_X0_at : GoodIn wsX2_alike (wsV RX2 68 RX0 yX0_at wsX0_at) := goodIn_app (goodIn_of _ (by decide +kernel)) ggX2_alike_X0_at
theorem dX2_alike_0 : decode cX2_alike 0 = .ok (.aload_n 0, 1) := by decide +kernel
theorem dX2_alike_1 : decode cX2_alike 1 = .ok (.getfield 10, 3) := by decide +kernel
theorem dX2_alike_4 : decode cX2_alike 4 = .ok (.invokevirtual 35, 3) := by decide +kernel
theorem dX2_alike_7 : decode cX2_alike 7 = .ok (.iload_n 1, 1) := by decide +kernel
theorem dX2_alike_8 : decode cX2_alike 8 = .ok (.isub, 1) := by decide +kernel
theorem dX2_alike_9 : decode cX2_alike 9 = .ok (.aload_n 0, 1) := by decide +kernel
theorem dX2_alike_10 : decode cX2_alike 10 = .ok (.getfield 16, 3) := by decide +kernel
theorem dX2_alike_13 : decode cX2_alike 13 = .ok (.invokevirtual 35, 3) := by decide +kernel
theorem dX2_alike_16 : decode cX2_alike 16 = .ok (.iload_n 2, 1) := by decide +kernel
theorem dX2_alike_17 : decode cX2_alike 17 = .ok (.isub, 1) := by decide +kernel
theorem dX2_alike_18 : decode cX2_alike 18 = .ok (.invokestatic 100, 3) := by decide +kernel
theorem dX2_alike_21 : decode cX2_alike 21 = .ok (.istore_n 3, 1) := by decide +kernel
theorem dX2_alike_22 : decode cX2_alike 22 = .ok (.iconst 0, 1) := by decide +kernel
theorem dX2_alike_23 : decode cX2_alike 23 = .ok (.istore 4, 2) := by decide +kernel
theorem dX2_alike_25 : decode cX2_alike 25 = .ok (.iload 4, 2) := by decide +kernel
theorem dX2_alike_27 : decode cX2_alike 27 = .ok (.iload_n 3, 1) := by decide +kernel
theorem dX2_alike_28 : decode cX2_alike 28 = .ok (.if_icmp .ge 34, 3) := by decide +kernel
theorem dX2_alike_31 : decode cX2_alike 31 = .ok (.aload_n 0, 1) := by decide +kernel
theorem dX2_alike_32 : decode cX2_alike 32 = .ok (.getfield 10, 3) := by decide +kernel
theorem dX2_alike_35 : decode cX2_alike 35 = .ok (.iload_n 1, 1) := by decide +kernel
theorem dX2_alike_36 : decode cX2_alike 36 = .ok (.iload 4, 2) := by decide +kernel
theorem dX2_alike_38 : decode cX2_alike 38 = .ok (.iadd, 1) := by decide +kernel
theorem dX2_alike_39 : decode cX2_alike 39 = .ok (.invokevirtual 68, 3) := by decide +kernel
theorem dX2_alike_42 : decode cX2_alike 42 = .ok (.aload_n 0, 1) := by decide +kernel
theorem dX2_alike_43 : decode cX2_alike 43 = .ok (.getfield 16, 3) := by decide +kernel
theorem dX2_alike_46 : decode cX2_alike 46 = .ok (.iload_n 2, 1) := by decide +kernel
theorem dX2_alike_47 : decode cX2_alike 47 = .ok (.iload 4, 2) := by decide +kernel
theorem dX2_alike_49 : decode cX2_alike 49 = .ok (.iadd, 1) := by decide +kernel
theorem dX2_alike_50 : decode cX2_alike 50 = .ok (.invokevirtual 68, 3) := by decide +kernel
theorem dX2_alike_53 : decode cX2_alike 53 = .ok (.if_icmp .ne 9, 3) := by decide +kernel
theorem dX2_alike_56 : decode cX2_alike 56 = .ok (.iinc 4 1, 3) := by decide +kernel
theorem dX2_alike_59 : decode cX2_alike 59 = .ok (.goto (-34), 3) := by decide +kernel
theorem dX2_alike_62 : decode cX2_alike 62 = .ok (.iload 4, 2) := by decide +kernel
theorem dX2_alike_64 : decode cX2_alike 64 = .ok (.ireturn, 1) := by decide +kernel
set_option maxRecDepth 20000 in
theorem ggX2_writeRow_X0_empty : GoodIn wsX2_writeRow wsX0_empty := goodIn_r _ [8, 9, 59, 60] (by decide +kernel) (by decide +kernel)
set_option maxRecDepth 20000 in
theorem gX2_writeRow_X0_empty : GoodIn wsX2_writeRow (wsV RX2 43 RX0 yX0_empty wsX0_empty) := goodIn_app (goodIn_of _ (by decide +kernel)) ggX2_writeRow_X0_empty
set_option maxRecDepth 20000 in
theorem ggX2_writeRow_X1_number : GoodIn wsX2_writeRow wsX1_number := goodIn_r _ [14, 15, 61, 62, 63, 64] (by decide +kernel) (by decide +kernel)
set_option maxRecDepth 20000 in
theorem gX2_writeRow_X1_number : GoodIn wsX2_writeRow (wsV RX2 56 RX1 yX1_number wsX1_number) := goodIn_app (goodIn_of _ (by decide +kernel)) ggX2_writeRow_X1_number
set_option maxRecDepth 20000 in
theorem ggX2_writeRow_X1_kind : GoodIn wsX2_writeRow wsX1_kind := goodIn_r _ [19, 20, 21, 22, 23, 13, 24, 15, 61, 62, 63, 64] (by decide +kernel) (by decide +kernel)
set_option maxRecDepth 20000 in
theorem gX2_writeRow_X1_kind : GoodIn wsX2_writeRow (wsV RX2 59 RX1 yX1_kind wsX1_kind) := goodIn_app (goodIn_of _ (by decide +kernel)) ggX2_writeRow_X1_kind
set_option maxRecDepth 20000 in
theorem ggX2_writeRow_X0_add : GoodIn wsX2_writeRow wsX0_add := goodIn_r _ [28, 9, 29, 59, 60] (by decide +kernel) (by decide +kernel)
set_option maxRecDepth 20000 in
theorem gX2_writeRow_X0_add : GoodIn wsX2_writeRow (wsV RX2 39 RX0 yX0_add wsX0_add) := goodIn_app (goodIn_of _ (by decide +kernel)) ggX2_writeRow_X0_add
set_option maxRecDepth 20000 in
theorem ggX2_writeRow_X1_begin : GoodIn wsX2_writeRow wsX1_begin := goodIn_r _ [33, 34, 21, 22, 23, 13, 24, 15, 61, 62, 63, 64] (by decide +kernel) (by decide +kernel)
set_option maxRecDepth 20000 in
theorem gX2_writeRow_X1_begin : GoodIn wsX2_writeRow (wsV RX2 63 RX1 yX1_begin wsX1_begin) := goodIn_app (goodIn_of _ (by decide +kernel)) ggX2_writeRow_X1_begin
set_option maxRecDepth 20000 in
theorem ggX2_writeRow_X0_addTwo : GoodIn wsX2_writeRow wsX0_addTwo := goodIn_r _ [38, 39, 26, 27, 7, 28, 9, 29, 59, 60] (by decide +kernel) (by decide +kernel)
set_option maxRecDepth 20000 in
theorem gX2_writeRow_X0_addTwo : GoodIn wsX2_writeRow (wsV RX2 103 RX0 yX0_addTwo wsX0_addTwo) := goodIn_app (goodIn_of _ (by decide +kernel)) ggX2_writeRow_X0_addTwo
set_option maxRecDepth 20000 in
theorem ggX2_writeRow_X1_length : GoodIn wsX2_writeRow wsX1_length := goodIn_r _ [43, 44, 21, 22, 23, 13, 24, 15, 61, 62, 63, 64] (by decide +kernel) (by decide +kernel)
set_option maxRecDepth 20000 in
theorem gX2_writeRow_X1_length : GoodIn wsX2_writeRow (wsV RX2 66 RX1 yX1_length wsX1_length) := goodIn_app (goodIn_of _ (by decide +kernel)) ggX2_writeRow_X1_length
set_option maxRecDepth 20000 in
theorem ggX2_writeRow_X0_addFrom : GoodIn wsX2_writeRow wsX0_addFrom := goodIn_r _ [48, 49, 50, 51, 7, 52, 9, 29, 39, 26, 27, 28, 59, 60] (by decide +kernel) (by decide +kernel)
set_option maxRecDepth 20000 in
theorem gX2_writeRow_X0_addFrom : GoodIn wsX2_writeRow (wsV RX2 46 RX0 yX0_addFrom wsX0_addFrom) := goodIn_app (goodIn_of _ (by decide +kernel)) ggX2_writeRow_X0_addFrom
theorem dX2_writeRow_0 : decode cX2_writeRow 0 = .ok (.aload_n 0, 1) := by decide +kernel
theorem dX2_writeRow_1 : decode cX2_writeRow 1 = .ok (.getfield 32, 3) := by decide +kernel
theorem dX2_writeRow_4 : decode cX2_writeRow 4 = .ok (.invokevirtual 43, 3) := by decide +kernel
theorem dX2_writeRow_7 : decode cX2_writeRow 7 = .ok (.iconst 0, 1) := by decide +kernel
theorem dX2_writeRow_8 : decode cX2_writeRow 8 = .ok (.istore_n 1, 1) := by decide +kernel
theorem dX2_writeRow_9 : decode cX2_writeRow 9 = .ok (.iload_n 1, 1) := by decide +kernel
theorem dX2_writeRow_10 : decode cX2_writeRow 10 = .ok (.aload_n 0, 1) := by decide +kernel
theorem dX2_writeRow_11 : decode cX2_writeRow 11 = .ok (.getfield 25, 3) := by decide +kernel
theorem dX2_writeRow_14 : decode cX2_writeRow 14 = .ok (.invokevirtual 56, 3) := by decide +kernel
theorem dX2_writeRow_17 : decode cX2_writeRow 17 = .ok (.if_icmp .ge 111, 3) := by decide +kernel
theorem dX2_writeRow_20 : decode cX2_writeRow 20 = .ok (.aload_n 0, 1) := by decide +kernel
theorem dX2_writeRow_21 : decode cX2_writeRow 21 = .ok (.getfield 32, 3) := by decide +kernel
theorem dX2_writeRow_24 : decode cX2_writeRow 24 = .ok (.aload_n 0, 1) := by decide +kernel
theorem dX2_writeRow_25 : decode cX2_writeRow 25 = .ok (.getfield 25, 3) := by decide +kernel
theorem dX2_writeRow_28 : decode cX2_writeRow 28 = .ok (.iload_n 1, 1) := by decide +kernel
theorem dX2_writeRow_29 : decode cX2_writeRow 29 = .ok (.invokevirtual 59, 3) := by decide +kernel
theorem dX2_writeRow_32 : decode cX2_writeRow 32 = .ok (.invokevirtual 39, 3) := by decide +kernel
theorem dX2_writeRow_35 : decode cX2_writeRow 35 = .ok (.aload_n 0, 1) := by decide +kernel
theorem dX2_writeRow_36 : decode cX2_writeRow 36 = .ok (.getfield 25, 3) := by decide +kernel
theorem dX2_writeRow_39 : decode cX2_writeRow 39 = .ok (.iload_n 1, 1) := by decide +kernel
theorem dX2_writeRow_40 : decode cX2_writeRow 40 = .ok (.invokevirtual 59, 3) := by decide +kernel
theorem dX2_writeRow_43 : decode cX2_writeRow 43 = .ok (.iconst 1, 1) := by decide +kernel
theorem dX2_writeRow_44 : decode cX2_writeRow 44 = .ok (.if_icmp .ne 36, 3) := by decide +kernel
theorem dX2_writeRow_47 : decode cX2_writeRow 47 = .ok (.aload_n 0, 1) := by decide +kernel
theorem dX2_writeRow_48 : decode cX2_writeRow 48 = .ok (.getfield 32, 3) := by decide +kernel
theorem dX2_writeRow_51 : decode cX2_writeRow 51 = .ok (.aload_n 0, 1) := by decide +kernel
theorem dX2_writeRow_52 : decode cX2_writeRow 52 = .ok (.getfield 25, 3) := by decide +kernel
theorem dX2_writeRow_55 : decode cX2_writeRow 55 = .ok (.iload_n 1, 1) := by decide +kernel
theorem dX2_writeRow_56 : decode cX2_writeRow 56 = .ok (.invokevirtual 63, 3) := by decide +kernel
theorem dX2_writeRow_59 : decode cX2_writeRow 59 = .ok (.invokevirtual 103, 3) := by decide +kernel
theorem dX2_writeRow_62 : decode cX2_writeRow 62 = .ok (.aload_n 0, 1) := by decide +kernel
theorem dX2_writeRow_63 : decode cX2_writeRow 63 = .ok (.getfield 32, 3) := by decide +kernel
theorem dX2_writeRow_66 : decode cX2_writeRow 66 = .ok (.aload_n 0, 1) := by decide +kernel
theorem dX2_writeRow_67 : decode cX2_writeRow 67 = .ok (.getfield 25, 3) := by decide +kernel
theorem dX2_writeRow_70 : decode cX2_writeRow 70 = .ok (.iload_n 1, 1) := by decide +kernel
theorem dX2_writeRow_71 : decode cX2_writeRow 71 = .ok (.invokevirtual 66, 3) := by decide +kernel
theorem dX2_writeRow_74 : decode cX2_writeRow 74 = .ok (.invokevirtual 103, 3) := by decide +kernel
theorem dX2_writeRow_77 : decode cX2_writeRow 77 = .ok (.goto 45, 3) := by decide +kernel
theorem dX2_writeRow_80 : decode cX2_writeRow 80 = .ok (.aload_n 0, 1) := by decide +kernel
theorem dX2_writeRow_81 : decode cX2_writeRow 81 = .ok (.getfield 32, 3) := by decide +kernel
theorem dX2_writeRow_84 : decode cX2_writeRow 84 = .ok (.aload_n 0, 1) := by decide +kernel
theorem dX2_writeRow_85 : decode cX2_writeRow 85 = .ok (.getfield 25, 3) := by decide +kernel
theorem dX2_writeRow_88 : decode cX2_writeRow 88 = .ok (.iload_n 1, 1) := by decide +kernel
theorem dX2_writeRow_89 : decode cX2_writeRow 89 = .ok (.invokevirtual 66, 3) := by decide +kernel
theorem dX2_writeRow_92 : decode cX2_writeRow 92 = .ok (.invokevirtual 103, 3) := by decide +kernel
theorem dX2_writeRow_95 : decode cX2_writeRow 95 = .ok (.aload_n 0, 1) := by decide +kernel
theorem dX2_writeRow_96 : decode cX2_writeRow 96 = .ok (.getfield 32, 3) := by decide +kernel
theorem dX2_writeRow_99 : decode cX2_writeRow 99 = .ok (.aload_n 0, 1) := by decide +kernel
theorem dX2_writeRow_100 : decode cX2_writeRow 100 = .ok (.getfield 29, 3) := by decide +kernel
theorem dX2_writeRow_103 : decode cX2_writeRow 103 = .ok (.aload_n 0, 1) := by decide +kernel
theorem dX2_writeRow_104 : decode cX2_writeRow 104 = .ok (.getfield 25, 3) := by decide +kernel
theorem dX2_writeRow_107 : decode cX2_writeRow 107 = .ok (.iload_n 1, 1) := by decide +kernel
theorem dX2_writeRow_108 : decode cX2_writeRow 108 = .ok (.invokevirtual 63, 3) := by decide +kernel
theorem dX2_writeRow_111 : decode cX2_writeRow 111 = .ok (.aload_n 0, 1) := by decide +kernel
theorem dX2_writeRow_112 : decode cX2_writeRow 112 = .ok (.getfield 25, 3) := by decide +kernel
theorem dX2_writeRow_115 : decode cX2_writeRow 115 = .ok (.iload_n 1, 1) := by decide +kernel
theorem dX2_writeRow_116 : decode cX2_writeRow 116 = .ok (.invokevirtual 66, 3) := by decide +kernel
theorem dX2_writeRow_119 : decode cX2_writeRow 119 = .ok (.invokevirtual 46, 3) := by decide +kernel
theorem dX2_writeRow_122 : decode cX2_writeRow 122 = .ok (.iinc 1 1, 3) := by decide +kernel
theorem dX2_writeRow_125 : decode cX2_writeRow 125 = .ok (.goto (-116), 3) := by decide +kernel
theorem dX2_writeRow_128 : decode cX2_writeRow 128 = .ok (.return_, 1) := by decide +kernel
theorem dJ9_max_7cf53_0 : decode cJ9_max_7cf53 0 = .ok (.iload_n 0, 1) := by decide +kernel
theorem dJ9_max_7cf53_1 : decode cJ9_max_7cf53 1 = .ok (.iload_n 1, 1) := by decide +kernel
theorem dJ9_max_7cf53_2 : decode cJ9_max_7cf53 2 = .ok (.if_icmp .lt 7, 3) := by decide +kernel
theorem dJ9_max_7cf53_5 : decode cJ9_max_7cf53 5 = .ok (.iload_n 0, 1) := by decide +kernel
theorem dJ9_max_7cf53_6 : decode cJ9_max_7cf53 6 = .ok (.goto 4, 3) := by decide +kernel
theorem dJ9_max_7cf53_9 : decode cJ9_max_7cf53 9 = .ok (.iload_n 1, 1) := by decide +kernel
theorem dJ9_max_7cf53_10 : decode cJ9_max_7cf53 10 = .ok (.ireturn, 1) := by decide +kernel
theorem dJ9_min_7cf53_0 : decode cJ9_min_7cf53 0 = .ok (.iload_n 0, 1) := by decide +kernel
theorem dJ9_min_7cf53_1 : decode cJ9_min_7cf53 1 = .ok (.iload_n 1, 1) := by decide +kernel
theorem dJ9_min_7cf53_2 : decode cJ9_min_7cf53 2 = .ok (.if_icmp .gt 7, 3) := by decide +kernel
theorem dJ9_min_7cf53_5 : decode cJ9_min_7cf53 5 = .ok (.iload_n 0, 1) := by decide +kernel
theorem dJ9_min_7cf53_6 : decode cJ9_min_7cf53 6 = .ok (.goto 4, 3) := by decide +kernel
theorem dJ9_min_7cf53_9 : decode cJ9_min_7cf53 9 = .ok (.iload_n 1, 1) := by decide +kernel
theorem dJ9_min_7cf53_10 : decode cJ9_min_7cf53 10 = .ok (.ireturn, 1) := by decide +kernel
set_option maxRecDepth 20000 in
theorem ggL_go_X2_go : GoodIn wsL_go wsX2_go := goodIn_ca (goodIn_r _ [6, 7, 8, 9, 10, 11, 12, 13, 14, 15, 16, 17, 18, 19, 20, 21, 22, 23, 24, 25, 26, 27, 28, 29, 30, 31, 32, 33, 34, 35, 36, 37, 38, 39, 40, 41, 42, 43, 44, 45, 46, 47, 48, 49, 50, 51, 52, 53, 54, 55, 56, 57, 58, 59, 60, 61, 62, 63, 64, 65, 66, 67, 68, 69, 70, 71, 72, 73, 74, 75, 76, 77, 78, 79, 80, 81, 82, 83] (by decide +kernel) (by decide +kernel)) (goodIn_sub (fun _ h => List.mem_cons_of_mem _ (List.mem_append_right _ h)) (by decide +kernel))
set_option maxRecDepth 20000 in
theorem gL_go_X2_go : GoodIn wsL_go (wsV RL 7 RX2 yX2_go wsX2_go) := goodIn_app (goodIn_of _ (by decide +kernel)) ggL_go_X2_go
theorem dL_go_0 : decode cL_go 0 = .ok (.aload_n 1, 1) := by decide +kernel
theorem dL_go_1 : decode cL_go 1 = .ok (.iconst 0, 1) := by decide +kernel
theorem dL_go_2 : decode cL_go 2 = .ok (.aload_n 0, 1) := by decide +kernel
theorem dL_go_3 : decode cL_go 3 = .ok (.invokevirtual 7, 3) := by decide +kernel
theorem dL_go_6 : decode cL_go 6 = .ok (.i2l, 1) := by decide +kernel
theorem dL_go_7 : decode cL_go 7 = .ok (.lastore, 1) := by decide +kernel
theorem dL_go_8 : decode cL_go 8 = .ok (.goto 6, 3) := by decide +kernel
theorem dL_go_11 : decode cL_go 11 = .ok (.astore_n 2, 1) := by decide +kernel
theorem dL_go_12 : decode cL_go 12 = .ok (.iconst 1, 1) := by decide +kernel
theorem dL_go_13 : decode cL_go 13 = .ok (.ireturn, 1) := by decide +kernel
theorem dL_go_14 : decode cL_go 14 = .ok (.iconst 0, 1) := by decide +kernel
theorem dL_go_15 : decode cL_go 15 = .ok (.ireturn, 1) := by decide +kernel
theorem dL_law_0 : decode cL_law 0 = .ok (.new 8, 3) := by decide +kernel
theorem dL_law_3 : decode cL_law 3 = .ok (.dup, 1) := by decide +kernel
theorem dL_law_4 : decode cL_law 4 = .ok (.invokespecial 15, 3) := by decide +kernel
theorem dL_law_7 : decode cL_law 7 = .ok (.astore_n 1, 1) := by decide +kernel
theorem dL_law_8 : decode cL_law 8 = .ok (.new 16, 3) := by decide +kernel
theorem dL_law_11 : decode cL_law 11 = .ok (.dup, 1) := by decide +kernel
theorem dL_law_12 : decode cL_law 12 = .ok (.invokespecial 18, 3) := by decide +kernel
theorem dL_law_15 : decode cL_law 15 = .ok (.astore_n 2, 1) := by decide +kernel
theorem dL_law_16 : decode cL_law 16 = .ok (.iconst 1, 1) := by decide +kernel
theorem dL_law_17 : decode cL_law 17 = .ok (.newarray .long, 2) := by decide +kernel
theorem dL_law_19 : decode cL_law 19 = .ok (.astore_n 3, 1) := by decide +kernel
theorem dL_law_20 : decode cL_law 20 = .ok (.iconst 0, 1) := by decide +kernel
theorem dL_law_21 : decode cL_law 21 = .ok (.istore 4, 2) := by decide +kernel
theorem dL_law_23 : decode cL_law 23 = .ok (.iload 4, 2) := by decide +kernel
theorem dL_law_25 : decode cL_law 25 = .ok (.aload_n 0, 1) := by decide +kernel
theorem dL_law_26 : decode cL_law 26 = .ok (.arraylength, 1) := by decide +kernel
theorem dL_law_27 : decode cL_law 27 = .ok (.iconst 5, 1) := by decide +kernel
theorem dL_law_28 : decode cL_law 28 = .ok (.isub, 1) := by decide +kernel
theorem dL_law_29 : decode cL_law 29 = .ok (.if_icmp .gt 383, 3) := by decide +kernel
theorem dL_law_32 : decode cL_law 32 = .ok (.aload_n 0, 1) := by decide +kernel
theorem dL_law_33 : decode cL_law 33 = .ok (.iload 4, 2) := by decide +kernel
theorem dL_law_35 : decode cL_law 35 = .ok (.iaload, 1) := by decide +kernel
theorem dL_law_36 : decode cL_law 36 = .ok (.bipush 15, 2) := by decide +kernel
theorem dL_law_38 : decode cL_law 38 = .ok (.iand, 1) := by decide +kernel
theorem dL_law_39 : decode cL_law 39 = .ok (.tableswitch 367 0 8 #[49, 146, 185, 198, 235, 248, 273, 317, 342], 49) := by decide +kernel
theorem dL_law_88 : decode cL_law 88 = .ok (.aload_n 1, 1) := by decide +kernel
theorem dL_law_89 : decode cL_law 89 = .ok (.aload_n 0, 1) := by decide +kernel
theorem dL_law_90 : decode cL_law 90 = .ok (.iload 4, 2) := by decide +kernel
theorem dL_law_92 : decode cL_law 92 = .ok (.iconst 1, 1) := by decide +kernel
theorem dL_law_93 : decode cL_law 93 = .ok (.iadd, 1) := by decide +kernel
theorem dL_law_94 : decode cL_law 94 = .ok (.iaload, 1) := by decide +kernel
theorem dL_law_95 : decode cL_law 95 = .ok (.ifCond .eq 7, 3) := by decide +kernel
theorem dL_law_98 : decode cL_law 98 = .ok (.iconst 1, 1) := by decide +kernel
theorem dL_law_99 : decode cL_law 99 = .ok (.goto 4, 3) := by decide +kernel
theorem dL_law_102 : decode cL_law 102 = .ok (.iconst 0, 1) := by decide +kernel
theorem dL_law_103 : decode cL_law 103 = .ok (.aload_n 0, 1) := by decide +kernel
theorem dL_law_104 : decode cL_law 104 = .ok (.iload 4, 2) := by decide +kernel
theorem dL_law_106 : decode cL_law 106 = .ok (.iconst 2, 1) := by decide +kernel
theorem dL_law_107 : decode cL_law 107 = .ok (.iadd, 1) := by decide +kernel
theorem dL_law_108 : decode cL_law 108 = .ok (.iaload, 1) := by decide +kernel
theorem dL_law_109 : decode cL_law 109 = .ok (.i2l, 1) := by decide +kernel
theorem dL_law_110 : decode cL_law 110 = .ok (.bipush 32, 2) := by decide +kernel
theorem dL_law_112 : decode cL_law 112 = .ok (.lshl, 1) := by decide +kernel
theorem dL_law_113 : decode cL_law 113 = .ok (.aload_n 0, 1) := by decide +kernel
theorem dL_law_114 : decode cL_law 114 = .ok (.iload 4, 2) := by decide +kernel
theorem dL_law_116 : decode cL_law 116 = .ok (.iconst 3, 1) := by decide +kernel
theorem dL_law_117 : decode cL_law 117 = .ok (.iadd, 1) := by decide +kernel
theorem dL_law_118 : decode cL_law 118 = .ok (.iaload, 1) := by decide +kernel
theorem dL_law_119 : decode cL_law 119 = .ok (.i2l, 1) := by decide +kernel
theorem dL_law_120 : decode cL_law 120 = .ok (.ldc2_w 19, 3) := by decide +kernel
theorem dL_law_123 : decode cL_law 123 = .ok (.land, 1) := by decide +kernel
theorem dL_law_124 : decode cL_law 124 = .ok (.lor, 1) := by decide +kernel
theorem dL_law_125 : decode cL_law 125 = .ok (.aload_n 0, 1) := by decide +kernel
theorem dL_law_126 : decode cL_law 126 = .ok (.iload 4, 2) := by decide +kernel
theorem dL_law_128 : decode cL_law 128 = .ok (.iconst 4, 1) := by decide +kernel
theorem dL_law_129 : decode cL_law 129 = .ok (.iadd, 1) := by decide +kernel
theorem dL_law_130 : decode cL_law 130 = .ok (.iaload, 1) := by decide +kernel
theorem dL_law_131 : decode cL_law 131 = .ok (.invokevirtual 21, 3) := by decide +kernel
theorem dL_law_134 : decode cL_law 134 = .ok (.aload_n 2, 1) := by decide +kernel
theorem dL_law_135 : decode cL_law 135 = .ok (.aload_n 0, 1) := by decide +kernel
theorem dL_law_136 : decode cL_law 136 = .ok (.iload 4, 2) := by decide +kernel
theorem dL_law_138 : decode cL_law 138 = .ok (.iconst 1, 1) := by decide +kernel
theorem dL_law_139 : decode cL_law 139 = .ok (.iadd, 1) := by decide +kernel
theorem dL_law_140 : decode cL_law 140 = .ok (.iaload, 1) := by decide +kernel
theorem dL_law_141 : decode cL_law 141 = .ok (.ifCond .eq 7, 3) := by decide +kernel
theorem dL_law_144 : decode cL_law 144 = .ok (.iconst 1, 1) := by decide +kernel
theorem dL_law_145 : decode cL_law 145 = .ok (.goto 4, 3) := by decide +kernel
theorem dL_law_148 : decode cL_law 148 = .ok (.iconst 0, 1) := by decide +kernel
theorem dL_law_149 : decode cL_law 149 = .ok (.aload_n 0, 1) := by decide +kernel
theorem dL_law_150 : decode cL_law 150 = .ok (.iload 4, 2) := by decide +kernel
theorem dL_law_152 : decode cL_law 152 = .ok (.iconst 2, 1) := by decide +kernel
theorem dL_law_153 : decode cL_law 153 = .ok (.iadd, 1) := by decide +kernel
theorem dL_law_154 : decode cL_law 154 = .ok (.iaload, 1) := by decide +kernel
theorem dL_law_155 : decode cL_law 155 = .ok (.i2l, 1) := by decide +kernel
theorem dL_law_156 : decode cL_law 156 = .ok (.bipush 32, 2) := by decide +kernel
theorem dL_law_158 : decode cL_law 158 = .ok (.lshl, 1) := by decide +kernel
theorem dL_law_159 : decode cL_law 159 = .ok (.aload_n 0, 1) := by decide +kernel
theorem dL_law_160 : decode cL_law 160 = .ok (.iload 4, 2) := by decide +kernel
theorem dL_law_162 : decode cL_law 162 = .ok (.iconst 3, 1) := by decide +kernel
theorem dL_law_163 : decode cL_law 163 = .ok (.iadd, 1) := by decide +kernel
theorem dL_law_164 : decode cL_law 164 = .ok (.iaload, 1) := by decide +kernel
theorem dL_law_165 : decode cL_law 165 = .ok (.i2l, 1) := by decide +kernel
theorem dL_law_166 : decode cL_law 166 = .ok (.ldc2_w 19, 3) := by decide +kernel
theorem dL_law_169 : decode cL_law 169 = .ok (.land, 1) := by decide +kernel
theorem dL_law_170 : decode cL_law 170 = .ok (.lor, 1) := by decide +kernel
theorem dL_law_171 : decode cL_law 171 = .ok (.aload_n 0, 1) := by decide +kernel
theorem dL_law_172 : decode cL_law 172 = .ok (.iload 4, 2) := by decide +kernel
theorem dL_law_174 : decode cL_law 174 = .ok (.iconst 4, 1) := by decide +kernel
theorem dL_law_175 : decode cL_law 175 = .ok (.iadd, 1) := by decide +kernel
theorem dL_law_176 : decode cL_law 176 = .ok (.iaload, 1) := by decide +kernel
theorem dL_law_177 : decode cL_law 177 = .ok (.invokevirtual 25, 3) := by decide +kernel
theorem dL_law_180 : decode cL_law 180 = .ok (.if_icmp .eq 226, 3) := by decide +kernel
theorem dL_law_183 : decode cL_law 183 = .ok (.iconst 0, 1) := by decide +kernel
theorem dL_law_184 : decode cL_law 184 = .ok (.ireturn, 1) := by decide +kernel
theorem dL_law_185 : decode cL_law 185 = .ok (.aload_n 1, 1) := by decide +kernel
theorem dL_law_186 : decode cL_law 186 = .ok (.aload_n 0, 1) := by decide +kernel
theorem dL_law_187 : decode cL_law 187 = .ok (.iload 4, 2) := by decide +kernel
theorem dL_law_189 : decode cL_law 189 = .ok (.iconst 1, 1) := by decide +kernel
theorem dL_law_190 : decode cL_law 190 = .ok (.iadd, 1) := by decide +kernel
theorem dL_law_191 : decode cL_law 191 = .ok (.iaload, 1) := by decide +kernel
theorem dL_law_192 : decode cL_law 192 = .ok (.ifCond .eq 7, 3) := by decide +kernel
theorem dL_law_195 : decode cL_law 195 = .ok (.iconst 1, 1) := by decide +kernel
theorem dL_law_196 : decode cL_law 196 = .ok (.goto 4, 3) := by decide +kernel
theorem dL_law_199 : decode cL_law 199 = .ok (.iconst 0, 1) := by decide +kernel
theorem dL_law_200 : decode cL_law 200 = .ok (.invokevirtual 26, 3) := by decide +kernel
theorem dL_law_203 : decode cL_law 203 = .ok (.aload_n 2, 1) := by decide +kernel
theorem dL_law_204 : decode cL_law 204 = .ok (.aload_n 0, 1) := by decide +kernel
theorem dL_law_205 : decode cL_law 205 = .ok (.iload 4, 2) := by decide +kernel
theorem dL_law_207 : decode cL_law 207 = .ok (.iconst 1, 1) := by decide +kernel
theorem dL_law_208 : decode cL_law 208 = .ok (.iadd, 1) := by decide +kernel
theorem dL_law_209 : decode cL_law 209 = .ok (.iaload, 1) := by decide +kernel
theorem dL_law_210 : decode cL_law 210 = .ok (.ifCond .eq 7, 3) := by decide +kernel
theorem dL_law_213 : decode cL_law 213 = .ok (.iconst 1, 1) := by decide +kernel
theorem dL_law_214 : decode cL_law 214 = .ok (.goto 4, 3) := by decide +kernel
theorem dL_law_217 : decode cL_law 217 = .ok (.iconst 0, 1) := by decide +kernel
theorem dL_law_218 : decode cL_law 218 = .ok (.invokevirtual 30, 3) := by decide +kernel
theorem dL_law_221 : decode cL_law 221 = .ok (.goto 185, 3) := by decide +kernel
theorem dL_law_224 : decode cL_law 224 = .ok (.aload_n 1, 1) := by decide +kernel
theorem dL_law_225 : decode cL_law 225 = .ok (.invokevirtual 31, 3) := by decide +kernel
theorem dL_law_228 : decode cL_law 228 = .ok (.aload_n 2, 1) := by decide +kernel
theorem dL_law_229 : decode cL_law 229 = .ok (.invokevirtual 34, 3) := by decide +kernel
theorem dL_law_232 : decode cL_law 232 = .ok (.if_icmp .eq 174, 3) := by decide +kernel
theorem dL_law_235 : decode cL_law 235 = .ok (.iconst 0, 1) := by decide +kernel
theorem dL_law_236 : decode cL_law 236 = .ok (.ireturn, 1) := by decide +kernel
theorem dL_law_237 : decode cL_law 237 = .ok (.aload_n 1, 1) := by decide +kernel
theorem dL_law_238 : decode cL_law 238 = .ok (.aload_n 0, 1) := by decide +kernel
theorem dL_law_239 : decode cL_law 239 = .ok (.iload 4, 2) := by decide +kernel
theorem dL_law_241 : decode cL_law 241 = .ok (.iconst 1, 1) := by decide +kernel
theorem dL_law_242 : decode cL_law 242 = .ok (.iadd, 1) := by decide +kernel
theorem dL_law_243 : decode cL_law 243 = .ok (.iaload, 1) := by decide +kernel
theorem dL_law_244 : decode cL_law 244 = .ok (.aload_n 0, 1) := by decide +kernel
theorem dL_law_245 : decode cL_law 245 = .ok (.iload 4, 2) := by decide +kernel
theorem dL_law_247 : decode cL_law 247 = .ok (.iconst 2, 1) := by decide +kernel
theorem dL_law_248 : decode cL_law 248 = .ok (.iadd, 1) := by decide +kernel
theorem dL_law_249 : decode cL_law 249 = .ok (.iaload, 1) := by decide +kernel
theorem dL_law_250 : decode cL_law 250 = .ok (.invokevirtual 35, 3) := by decide +kernel
theorem dL_law_253 : decode cL_law 253 = .ok (.aload_n 2, 1) := by decide +kernel
theorem dL_law_254 : decode cL_law 254 = .ok (.aload_n 0, 1) := by decide +kernel
theorem dL_law_255 : decode cL_law 255 = .ok (.iload 4, 2) := by decide +kernel
theorem dL_law_257 : decode cL_law 257 = .ok (.iconst 1, 1) := by decide +kernel
theorem dL_law_258 : decode cL_law 258 = .ok (.iadd, 1) := by decide +kernel
theorem dL_law_259 : decode cL_law 259 = .ok (.iaload, 1) := by decide +kernel
theorem dL_law_260 : decode cL_law 260 = .ok (.aload_n 0, 1) := by decide +kernel
theorem dL_law_261 : decode cL_law 261 = .ok (.iload 4, 2) := by decide +kernel
theorem dL_law_263 : decode cL_law 263 = .ok (.iconst 2, 1) := by decide +kernel
theorem dL_law_264 : decode cL_law 264 = .ok (.iadd, 1) := by decide +kernel
theorem dL_law_265 : decode cL_law 265 = .ok (.iaload, 1) := by decide +kernel
theorem dL_law_266 : decode cL_law 266 = .ok (.invokevirtual 39, 3) := by decide +kernel
theorem dL_law_269 : decode cL_law 269 = .ok (.if_icmp .eq 137, 3) := by decide +kernel
theorem dL_law_272 : decode cL_law 272 = .ok (.iconst 0, 1) := by decide +kernel
theorem dL_law_273 : decode cL_law 273 = .ok (.ireturn, 1) := by decide +kernel
theorem dL_law_274 : decode cL_law 274 = .ok (.aload_n 1, 1) := by decide +kernel
theorem dL_law_275 : decode cL_law 275 = .ok (.invokevirtual 40, 3) := by decide +kernel
theorem dL_law_278 : decode cL_law 278 = .ok (.aload_n 2, 1) := by decide +kernel
theorem dL_law_279 : decode cL_law 279 = .ok (.invokevirtual 43, 3) := by decide +kernel
theorem dL_law_282 : decode cL_law 282 = .ok (.if_icmp .eq 124, 3) := by decide +kernel
theorem dL_law_285 : decode cL_law 285 = .ok (.iconst 0, 1) := by decide +kernel
theorem dL_law_286 : decode cL_law 286 = .ok (.ireturn, 1) := by decide +kernel
theorem dL_law_287 : decode cL_law 287 = .ok (.aload_n 1, 1) := by decide +kernel
theorem dL_law_288 : decode cL_law 288 = .ok (.aload_n 0, 1) := by decide +kernel
theorem dL_law_289 : decode cL_law 289 = .ok (.iload 4, 2) := by decide +kernel
theorem dL_law_291 : decode cL_law 291 = .ok (.iconst 1, 1) := by decide +kernel
theorem dL_law_292 : decode cL_law 292 = .ok (.iadd, 1) := by decide +kernel
theorem dL_law_293 : decode cL_law 293 = .ok (.iaload, 1) := by decide +kernel
theorem dL_law_294 : decode cL_law 294 = .ok (.invokevirtual 44, 3) := by decide +kernel
theorem dL_law_297 : decode cL_law 297 = .ok (.aload_n 2, 1) := by decide +kernel
theorem dL_law_298 : decode cL_law 298 = .ok (.aload_n 0, 1) := by decide +kernel
theorem dL_law_299 : decode cL_law 299 = .ok (.iload 4, 2) := by decide +kernel
theorem dL_law_301 : decode cL_law 301 = .ok (.iconst 1, 1) := by decide +kernel
theorem dL_law_302 : decode cL_law 302 = .ok (.iadd, 1) := by decide +kernel
theorem dL_law_303 : decode cL_law 303 = .ok (.iaload, 1) := by decide +kernel
theorem dL_law_304 : decode cL_law 304 = .ok (.invokevirtual 48, 3) := by decide +kernel
theorem dL_law_307 : decode cL_law 307 = .ok (.if_icmp .eq 99, 3) := by decide +kernel
theorem dL_law_310 : decode cL_law 310 = .ok (.iconst 0, 1) := by decide +kernel
theorem dL_law_311 : decode cL_law 311 = .ok (.ireturn, 1) := by decide +kernel
theorem dL_law_312 : decode cL_law 312 = .ok (.aload_n 1, 1) := by decide +kernel
theorem dL_law_313 : decode cL_law 313 = .ok (.aload_n 3, 1) := by decide +kernel
theorem dL_law_314 : decode cL_law 314 = .ok (.invokestatic 49, 3) := by decide +kernel
theorem dL_law_317 : decode cL_law 317 = .ok (.istore 5, 2) := by decide +kernel
theorem dL_law_319 : decode cL_law 319 = .ok (.aload_n 2, 1) := by decide +kernel
theorem dL_law_320 : decode cL_law 320 = .ok (.invokevirtual 54, 3) := by decide +kernel
theorem dL_law_323 : decode cL_law 323 = .ok (.istore 6, 2) := by decide +kernel
theorem dL_law_325 : decode cL_law 325 = .ok (.aload_n 2, 1) := by decide +kernel
theorem dL_law_326 : decode cL_law 326 = .ok (.invokevirtual 55, 3) := by decide +kernel
theorem dL_law_329 : decode cL_law 329 = .ok (.iload 5, 2) := by decide +kernel
theorem dL_law_331 : decode cL_law 331 = .ok (.if_icmp .eq 5, 3) := by decide +kernel
theorem dL_law_334 : decode cL_law 334 = .ok (.iconst 0, 1) := by decide +kernel
theorem dL_law_335 : decode cL_law 335 = .ok (.ireturn, 1) := by decide +kernel
theorem dL_law_336 : decode cL_law 336 = .ok (.iload 5, 2) := by decide +kernel
theorem dL_law_338 : decode cL_law 338 = .ok (.ifCond .ne 15, 3) := by decide +kernel
theorem dL_law_341 : decode cL_law 341 = .ok (.aload_n 3, 1) := by decide +kernel
theorem dL_law_342 : decode cL_law 342 = .ok (.iconst 0, 1) := by decide +kernel
theorem dL_law_343 : decode cL_law 343 = .ok (.laload, 1) := by decide +kernel
theorem dL_law_344 : decode cL_law 344 = .ok (.iload 6, 2) := by decide +kernel
theorem dL_law_346 : decode cL_law 346 = .ok (.i2l, 1) := by decide +kernel
theorem dL_law_347 : decode cL_law 347 = .ok (.lcmp, 1) := by decide +kernel
theorem dL_law_348 : decode cL_law 348 = .ok (.ifCond .eq 5, 3) := by decide +kernel
theorem dL_law_351 : decode cL_law 351 = .ok (.iconst 0, 1) := by decide +kernel
theorem dL_law_352 : decode cL_law 352 = .ok (.ireturn, 1) := by decide +kernel
theorem dL_law_353 : decode cL_law 353 = .ok (.goto 53, 3) := by decide +kernel
theorem dL_law_356 : decode cL_law 356 = .ok (.aload_n 1, 1) := by decide +kernel
theorem dL_law_357 : decode cL_law 357 = .ok (.aload_n 0, 1) := by decide +kernel
theorem dL_law_358 : decode cL_law 358 = .ok (.iload 4, 2) := by decide +kernel
theorem dL_law_360 : decode cL_law 360 = .ok (.iconst 1, 1) := by decide +kernel
theorem dL_law_361 : decode cL_law 361 = .ok (.iadd, 1) := by decide +kernel
theorem dL_law_362 : decode cL_law 362 = .ok (.iaload, 1) := by decide +kernel
theorem dL_law_363 : decode cL_law 363 = .ok (.invokevirtual 58, 3) := by decide +kernel
theorem dL_law_366 : decode cL_law 366 = .ok (.aload_n 2, 1) := by decide +kernel
theorem dL_law_367 : decode cL_law 367 = .ok (.aload_n 0, 1) := by decide +kernel
theorem dL_law_368 : decode cL_law 368 = .ok (.iload 4, 2) := by decide +kernel
theorem dL_law_370 : decode cL_law 370 = .ok (.iconst 1, 1) := by decide +kernel
theorem dL_law_371 : decode cL_law 371 = .ok (.iadd, 1) := by decide +kernel
theorem dL_law_372 : decode cL_law 372 = .ok (.iaload, 1) := by decide +kernel
theorem dL_law_373 : decode cL_law 373 = .ok (.invokevirtual 61, 3) := by decide +kernel
theorem dL_law_376 : decode cL_law 376 = .ok (.if_icmp .eq 30, 3) := by decide +kernel
theorem dL_law_379 : decode cL_law 379 = .ok (.iconst 0, 1) := by decide +kernel
theorem dL_law_380 : decode cL_law 380 = .ok (.ireturn, 1) := by decide +kernel
theorem dL_law_381 : decode cL_law 381 = .ok (.aload_n 1, 1) := by decide +kernel
theorem dL_law_382 : decode cL_law 382 = .ok (.aload_n 0, 1) := by decide +kernel
theorem dL_law_383 : decode cL_law 383 = .ok (.iload 4, 2) := by decide +kernel
theorem dL_law_385 : decode cL_law 385 = .ok (.iconst 1, 1) := by decide +kernel
theorem dL_law_386 : decode cL_law 386 = .ok (.iadd, 1) := by decide +kernel
theorem dL_law_387 : decode cL_law 387 = .ok (.iaload, 1) := by decide +kernel
theorem dL_law_388 : decode cL_law 388 = .ok (.invokevirtual 62, 3) := by decide +kernel
theorem dL_law_391 : decode cL_law 391 = .ok (.aload_n 2, 1) := by decide +kernel
theorem dL_law_392 : decode cL_law 392 = .ok (.aload_n 0, 1) := by decide +kernel
theorem dL_law_393 : decode cL_law 393 = .ok (.iload 4, 2) := by decide +kernel
theorem dL_law_395 : decode cL_law 395 = .ok (.iconst 1, 1) := by decide +kernel
theorem dL_law_396 : decode cL_law 396 = .ok (.iadd, 1) := by decide +kernel
theorem dL_law_397 : decode cL_law 397 = .ok (.iaload, 1) := by decide +kernel
theorem dL_law_398 : decode cL_law 398 = .ok (.invokevirtual 65, 3) := by decide +kernel
theorem dL_law_401 : decode cL_law 401 = .ok (.if_icmp .eq 5, 3) := by decide +kernel
theorem dL_law_404 : decode cL_law 404 = .ok (.iconst 0, 1) := by decide +kernel
theorem dL_law_405 : decode cL_law 405 = .ok (.ireturn, 1) := by decide +kernel
theorem dL_law_406 : decode cL_law 406 = .ok (.iinc 4 5, 3) := by decide +kernel
theorem dL_law_409 : decode cL_law 409 = .ok (.goto (-386), 3) := by decide +kernel
theorem dL_law_412 : decode cL_law 412 = .ok (.iconst 1, 1) := by decide +kernel
theorem dL_law_413 : decode cL_law 413 = .ok (.ireturn, 1) := by decide +kernel
theorem inX0 : ∀ w ∈ wsX00, w ∈ lw_tbl := by decide +kernel
theorem inX1 : ∀ w ∈ wsX10, w ∈ lw_tbl := by decide +kernel
theorem inX2 : ∀ w ∈ wsX20, w ∈ lw_tbl := by decide +kernel
end
section
def RX3 : String := "PieceWaysModel"
def TX3 : u_T := fun k => match k with
  | 0 => ("PieceWaysModel", "thrownCode", "I", false)
  | 1 => ("PieceWaysModel", "base", "[I", true)
  | 2 => ("PieceWaysModel", "bases", "I", false)
  | 3 => ("PieceWaysModel", "target", "[I", true)
  | 4 => ("PieceWaysModel", "targets", "I", false)
  | 5 => ("PieceWaysModel", "row", "[I", true)
  | 6 => ("PieceWaysModel", "size", "I", false)
  | 7 => ("PieceWaysModel", "result", "[I", true)
  | 8 => ("PieceWaysModel", "results", "I", false)
  | _ => ("PieceWaysModel", "next", "[I", true)
def tyX3 : Nat → FieldType := fun k => match k with
  | 0 => .int
  | 1 => .array .int
  | 2 => .int
  | 3 => .array .int
  | 4 => .int
  | 5 => .array .int
  | 6 => .int
  | 7 => .array .int
  | 8 => .int
  | _ => .array .int
abbrev wsX30 : List Cond := u_ws RX3 TX3 10
theorem nmX3 : ∀ a, a < 10 → ∀ b, b < 10 → a ≠ b → (TX3 a).2.1 ≠ (TX3 b).2.1 := by decide +kernel
theorem tyX3_ok : ∀ k, k < 10 → parseFieldDescriptor (TX3 k).2.2.1 = some (tyX3 k) := by decide +kernel
theorem inX3 : ∀ w ∈ wsX30, w ∈ lw_tbl := by decide +kernel
abbrev cX3_init : ByteArray := prog_5_method_1_code
def yX3_init : MethodName := ⟨RX3, "<init>", "()V"⟩
abbrev cX3_write : ByteArray := prog_5_method_2_code
def yX3_write : MethodName := ⟨RX3, "write", "(I)V"⟩
abbrev cX3_writeTwo : ByteArray := prog_5_method_3_code
def yX3_writeTwo : MethodName := ⟨RX3, "writeTwo", "(I)V"⟩
abbrev cX3_two : ByteArray := prog_5_method_4_code
def yX3_two : MethodName := ⟨RX3, "two", "(I)I"⟩
abbrev cX3_alike : ByteArray := prog_5_method_5_code
def yX3_alike : MethodName := ⟨RX3, "alike", "(II)I"⟩
abbrev cX3_behind : ByteArray := prog_5_method_6_code
def yX3_behind : MethodName := ⟨RX3, "behind", "(I)I"⟩
abbrev cX3_many : ByteArray := prog_5_method_7_code
def yX3_many : MethodName := ⟨RX3, "many", "(I)I"⟩
abbrev cX3_thrown : ByteArray := prog_5_method_8_code
def yX3_thrown : MethodName := ⟨RX3, "thrown", "()I"⟩
abbrev cX3_put : ByteArray := prog_5_method_9_code
def yX3_put : MethodName := ⟨RX3, "put", "(ZJI)Z"⟩
abbrev cX3_clear : ByteArray := prog_5_method_10_code
def yX3_clear : MethodName := ⟨RX3, "clear", "(Z)V"⟩
abbrev cX3_make : ByteArray := prog_5_method_11_code
def yX3_make : MethodName := ⟨RX3, "make", "()I"⟩
abbrev cX3_piece : ByteArray := prog_5_method_12_code
def yX3_piece : MethodName := ⟨RX3, "piece", "(II)I"⟩
abbrev cX3_size : ByteArray := prog_5_method_13_code
def yX3_size : MethodName := ⟨RX3, "size", "()I"⟩
abbrev cX3_way : ByteArray := prog_5_method_14_code
def yX3_way : MethodName := ⟨RX3, "way", "(I)I"⟩
abbrev cX3_go : ByteArray := prog_5_method_15_code
def yX3_go : MethodName := ⟨RX3, "go", "()I"⟩
abbrev cX3_result : ByteArray := prog_5_method_16_code
def yX3_result : MethodName := ⟨RX3, "result", "(I)I"⟩
abbrev cX3_count : ByteArray := prog_5_method_17_code
def yX3_count : MethodName := ⟨RX3, "count", "(I)I"⟩
def wsX3_init : List Cond := .code yX3_init cX3_init 1 none :: ([.methodLink RX3 1 objectInit, .instanceMethod objectInit, .code objectInit ⟨#[0xb1]⟩ 1 none, .fieldLink RX3 7 "PieceWaysModel" "thrownCode" "I", .arrayClass .int, .fieldLink RX3 13 "PieceWaysModel" "base" "[I", .fieldLink RX3 17 "PieceWaysModel" "bases" "I", .fieldLink RX3 20 "PieceWaysModel" "target" "[I", .fieldLink RX3 23 "PieceWaysModel" "targets" "I", .fieldLink RX3 26 "PieceWaysModel" "row" "[I", .fieldLink RX3 29 "PieceWaysModel" "size" "I", .fieldLink RX3 32 "PieceWaysModel" "result" "[I", .fieldLink RX3 35 "PieceWaysModel" "results" "I", .fieldLink RX3 38 "PieceWaysModel" "next" "[I"] ++ wsX30)
def wsX3_write : List Cond := .code yX3_write cX3_write 2 none :: ([.fieldLink RX3 26 "PieceWaysModel" "row" "[I", .fieldLink RX3 29 "PieceWaysModel" "size" "I"] ++ wsX30)
def wsX3_writeTwo : List Cond := .code yX3_writeTwo cX3_writeTwo 2 none :: ([.methodLink RX3 41 yX3_write, .instanceMethod yX3_write, .selects RX3 yX3_write yX3_write, .initialized RX3, .code yX3_write cX3_write 2 none, .fieldLink RX3 26 "PieceWaysModel" "row" "[I", .fieldLink RX3 29 "PieceWaysModel" "size" "I"] ++ wsX30)
def wsX3_two : List Cond := .code yX3_two cX3_two 2 (some .int) :: ([.fieldLink RX3 26 "PieceWaysModel" "row" "[I"] ++ wsX30)
def wsX3_alike : List Cond := .code yX3_alike cX3_alike 4 (some .int) :: ([.fieldLink RX3 17 "PieceWaysModel" "bases" "I", .fieldLink RX3 23 "PieceWaysModel" "targets" "I", .fieldLink RX3 13 "PieceWaysModel" "base" "[I", .fieldLink RX3 20 "PieceWaysModel" "target" "[I"] ++ wsX30)
def wsX3_behind : List Cond := .code yX3_behind cX3_behind 2 (some .int) :: ([.fieldLink RX3 26 "PieceWaysModel" "row" "[I", .methodLink RX3 45 yX3_two, .instanceMethod yX3_two, .selects RX3 yX3_two yX3_two, .initialized RX3, .code yX3_two cX3_two 2 (some .int)] ++ wsX30)
def wsX3_many : List Cond := .code yX3_many cX3_many 2 (some .int) :: ([.fieldLink RX3 26 "PieceWaysModel" "row" "[I", .methodLink RX3 45 yX3_two, .instanceMethod yX3_two, .selects RX3 yX3_two yX3_two, .initialized RX3, .code yX3_two cX3_two 2 (some .int)] ++ wsX30)
def wsX3_thrown : List Cond := .code yX3_thrown cX3_thrown 1 (some .int) :: ([.fieldLink RX3 7 "PieceWaysModel" "thrownCode" "I"] ++ wsX30)
def wsX3_put : List Cond := .code yX3_put cX3_put 8 (some .boolean) :: ([.fieldLink RX3 7 "PieceWaysModel" "thrownCode" "I", .fieldLink RX3 23 "PieceWaysModel" "targets" "I", .fieldLink RX3 17 "PieceWaysModel" "bases" "I", .fieldLink RX3 20 "PieceWaysModel" "target" "[I", .fieldLink RX3 13 "PieceWaysModel" "base" "[I"] ++ wsX30)
def wsX3_clear : List Cond := .code yX3_clear cX3_clear 2 none :: ([.fieldLink RX3 7 "PieceWaysModel" "thrownCode" "I", .fieldLink RX3 23 "PieceWaysModel" "targets" "I", .fieldLink RX3 17 "PieceWaysModel" "bases" "I"] ++ wsX30)
def wsX3_make : List Cond := .code yX3_make cX3_make 8 (some .int) :: ([.fieldLink RX3 7 "PieceWaysModel" "thrownCode" "I", .fieldLink RX3 29 "PieceWaysModel" "size" "I", .fieldLink RX3 23 "PieceWaysModel" "targets" "I", .fieldLink RX3 17 "PieceWaysModel" "bases" "I", .methodLink RX3 49 yX3_alike, .instanceMethod yX3_alike, .selects RX3 yX3_alike yX3_alike, .initialized RX3, .methodLink RX3 41 yX3_write, .instanceMethod yX3_write, .selects RX3 yX3_write yX3_write, .methodLink RX3 53 yX3_writeTwo, .instanceMethod yX3_writeTwo, .selects RX3 yX3_writeTwo yX3_writeTwo, .methodLink RX3 45 yX3_two, .instanceMethod yX3_two, .selects RX3 yX3_two yX3_two, .fieldLink RX3 26 "PieceWaysModel" "row" "[I", .fieldLink RX3 20 "PieceWaysModel" "target" "[I", .code yX3_alike cX3_alike 4 (some .int), .fieldLink RX3 13 "PieceWaysModel" "base" "[I", .code yX3_write cX3_write 2 none, .code yX3_writeTwo cX3_writeTwo 2 none, .code yX3_two cX3_two 2 (some .int)] ++ wsX30)
def wsX3_piece : List Cond := .code yX3_piece cX3_piece 6 (some .int) :: ([.fieldLink RX3 7 "PieceWaysModel" "thrownCode" "I", .fieldLink RX3 29 "PieceWaysModel" "size" "I", .methodLink RX3 56 yX3_many, .instanceMethod yX3_many, .selects RX3 yX3_many yX3_many, .initialized RX3, .methodLink RX3 59 yX3_behind, .instanceMethod yX3_behind, .selects RX3 yX3_behind yX3_behind, .fieldLink RX3 26 "PieceWaysModel" "row" "[I", .methodLink RX3 45 yX3_two, .instanceMethod yX3_two, .selects RX3 yX3_two yX3_two, .code yX3_many cX3_many 2 (some .int), .code yX3_two cX3_two 2 (some .int), .code yX3_behind cX3_behind 2 (some .int)] ++ wsX30)
def wsX3_size : List Cond := .code yX3_size cX3_size 1 (some .int) :: ([.fieldLink RX3 7 "PieceWaysModel" "thrownCode" "I", .fieldLink RX3 29 "PieceWaysModel" "size" "I"] ++ wsX30)
def wsX3_way : List Cond := .code yX3_way cX3_way 2 (some .int) :: ([.fieldLink RX3 7 "PieceWaysModel" "thrownCode" "I", .fieldLink RX3 29 "PieceWaysModel" "size" "I", .fieldLink RX3 26 "PieceWaysModel" "row" "[I"] ++ wsX30)
def wsX3_go : List Cond := .code yX3_go cX3_go 5 (some .int) :: ([.fieldLink RX3 7 "PieceWaysModel" "thrownCode" "I", .fieldLink RX3 29 "PieceWaysModel" "size" "I", .methodLink RX3 56 yX3_many, .instanceMethod yX3_many, .selects RX3 yX3_many yX3_many, .initialized RX3, .fieldLink RX3 26 "PieceWaysModel" "row" "[I", .methodLink RX3 45 yX3_two, .instanceMethod yX3_two, .selects RX3 yX3_two yX3_two, .fieldLink RX3 17 "PieceWaysModel" "bases" "I", .fieldLink RX3 38 "PieceWaysModel" "next" "[I", .fieldLink RX3 13 "PieceWaysModel" "base" "[I", .methodLink RX3 59 yX3_behind, .instanceMethod yX3_behind, .selects RX3 yX3_behind yX3_behind, .fieldLink RX3 32 "PieceWaysModel" "result" "[I", .fieldLink RX3 35 "PieceWaysModel" "results" "I", .code yX3_many cX3_many 2 (some .int), .code yX3_two cX3_two 2 (some .int), .code yX3_behind cX3_behind 2 (some .int)] ++ wsX30)
def wsX3_result : List Cond := .code yX3_result cX3_result 2 (some .int) :: ([.fieldLink RX3 7 "PieceWaysModel" "thrownCode" "I", .fieldLink RX3 35 "PieceWaysModel" "results" "I", .fieldLink RX3 32 "PieceWaysModel" "result" "[I"] ++ wsX30)
def wsX3_count : List Cond := .code yX3_count cX3_count 2 (some .int) :: ([.fieldLink RX3 7 "PieceWaysModel" "thrownCode" "I", .fieldLink RX3 17 "PieceWaysModel" "bases" "I", .fieldLink RX3 23 "PieceWaysModel" "targets" "I", .fieldLink RX3 35 "PieceWaysModel" "results" "I"] ++ wsX30)
set_option maxRecDepth 20000 in
theorem gX3_writeTwo_X3_write : GoodIn wsX3_writeTwo (wsV RX3 41 RX3 yX3_write wsX3_write) := goodIn_p _ [5] rfl (by decide +kernel)
set_option maxRecDepth 20000 in
theorem gX3_behind_X3_two : GoodIn wsX3_behind (wsV RX3 45 RX3 yX3_two wsX3_two) := goodIn_p _ [6] rfl (by decide +kernel)
set_option maxRecDepth 20000 in
theorem gX3_many_X3_two : GoodIn wsX3_many (wsV RX3 45 RX3 yX3_two wsX3_two) := goodIn_p _ [6] rfl (by decide +kernel)
set_option maxRecDepth 20000 in
theorem gX3_make_X3_alike : GoodIn wsX3_make (wsV RX3 49 RX3 yX3_alike wsX3_alike) := goodIn_p _ [20] rfl (by decide +kernel)
set_option maxRecDepth 20000 in
theorem gX3_make_X3_write : GoodIn wsX3_make (wsV RX3 41 RX3 yX3_write wsX3_write) := goodIn_p _ [22] rfl (by decide +kernel)
set_option maxRecDepth 20000 in
theorem gX3_make_X3_writeTwo : GoodIn wsX3_make (wsV RX3 53 RX3 yX3_writeTwo wsX3_writeTwo) := goodIn_p _ [23, 22] rfl (by decide +kernel)
set_option maxRecDepth 20000 in
theorem gX3_make_X3_two : GoodIn wsX3_make (wsV RX3 45 RX3 yX3_two wsX3_two) := goodIn_p _ [24] rfl (by decide +kernel)
set_option maxRecDepth 20000 in
theorem gX3_piece_X3_many : GoodIn wsX3_piece (wsV RX3 56 RX3 yX3_many wsX3_many) := goodIn_p _ [14, 15] rfl (by decide +kernel)
set_option maxRecDepth 20000 in
theorem gX3_piece_X3_behind : GoodIn wsX3_piece (wsV RX3 59 RX3 yX3_behind wsX3_behind) := goodIn_p _ [16, 15] rfl (by decide +kernel)
set_option maxRecDepth 20000 in
theorem gX3_piece_X3_two : GoodIn wsX3_piece (wsV RX3 45 RX3 yX3_two wsX3_two) := goodIn_p _ [15] rfl (by decide +kernel)
set_option maxRecDepth 20000 in
theorem gX3_go_X3_many : GoodIn wsX3_go (wsV RX3 56 RX3 yX3_many wsX3_many) := goodIn_p _ [19, 20] rfl (by decide +kernel)
set_option maxRecDepth 20000 in
theorem gX3_go_X3_two : GoodIn wsX3_go (wsV RX3 45 RX3 yX3_two wsX3_two) := goodIn_p _ [20] rfl (by decide +kernel)
set_option maxRecDepth 20000 in
theorem gX3_go_X3_behind : GoodIn wsX3_go (wsV RX3 59 RX3 yX3_behind wsX3_behind) := goodIn_p _ [21, 20] rfl (by decide +kernel)
theorem dX3_init_0 : decode cX3_init 0 = .ok (.aload_n 0, 1) := by decide +kernel
theorem dX3_init_1 : decode cX3_init 1 = .ok (.invokespecial 1, 3) := by decide +kernel
theorem dX3_init_4 : decode cX3_init 4 = .ok (.aload_n 0, 1) := by decide +kernel
theorem dX3_init_5 : decode cX3_init 5 = .ok (.iconst 0, 1) := by decide +kernel
theorem dX3_init_6 : decode cX3_init 6 = .ok (.putfield 7, 3) := by decide +kernel
theorem dX3_init_9 : decode cX3_init 9 = .ok (.aload_n 0, 1) := by decide +kernel
theorem dX3_init_10 : decode cX3_init 10 = .ok (.sipush 600, 3) := by decide +kernel
theorem dX3_init_13 : decode cX3_init 13 = .ok (.newarray .int, 2) := by decide +kernel
theorem dX3_init_15 : decode cX3_init 15 = .ok (.putfield 13, 3) := by decide +kernel
theorem dX3_init_18 : decode cX3_init 18 = .ok (.aload_n 0, 1) := by decide +kernel
theorem dX3_init_19 : decode cX3_init 19 = .ok (.iconst 0, 1) := by decide +kernel
theorem dX3_init_20 : decode cX3_init 20 = .ok (.putfield 17, 3) := by decide +kernel
theorem dX3_init_23 : decode cX3_init 23 = .ok (.aload_n 0, 1) := by decide +kernel
theorem dX3_init_24 : decode cX3_init 24 = .ok (.sipush 600, 3) := by decide +kernel
theorem dX3_init_27 : decode cX3_init 27 = .ok (.newarray .int, 2) := by decide +kernel
theorem dX3_init_29 : decode cX3_init 29 = .ok (.putfield 20, 3) := by decide +kernel
theorem dX3_init_32 : decode cX3_init 32 = .ok (.aload_n 0, 1) := by decide +kernel
theorem dX3_init_33 : decode cX3_init 33 = .ok (.iconst 0, 1) := by decide +kernel
theorem dX3_init_34 : decode cX3_init 34 = .ok (.putfield 23, 3) := by decide +kernel
theorem dX3_init_37 : decode cX3_init 37 = .ok (.aload_n 0, 1) := by decide +kernel
theorem dX3_init_38 : decode cX3_init 38 = .ok (.sipush 2000, 3) := by decide +kernel
theorem dX3_init_41 : decode cX3_init 41 = .ok (.newarray .int, 2) := by decide +kernel
theorem dX3_init_43 : decode cX3_init 43 = .ok (.putfield 26, 3) := by decide +kernel
theorem dX3_init_46 : decode cX3_init 46 = .ok (.aload_n 0, 1) := by decide +kernel
theorem dX3_init_47 : decode cX3_init 47 = .ok (.iconst 0, 1) := by decide +kernel
theorem dX3_init_48 : decode cX3_init 48 = .ok (.putfield 29, 3) := by decide +kernel
theorem dX3_init_51 : decode cX3_init 51 = .ok (.aload_n 0, 1) := by decide +kernel
theorem dX3_init_52 : decode cX3_init 52 = .ok (.sipush 600, 3) := by decide +kernel
theorem dX3_init_55 : decode cX3_init 55 = .ok (.newarray .int, 2) := by decide +kernel
theorem dX3_init_57 : decode cX3_init 57 = .ok (.putfield 32, 3) := by decide +kernel
theorem dX3_init_60 : decode cX3_init 60 = .ok (.aload_n 0, 1) := by decide +kernel
theorem dX3_init_61 : decode cX3_init 61 = .ok (.iconst 0, 1) := by decide +kernel
theorem dX3_init_62 : decode cX3_init 62 = .ok (.putfield 35, 3) := by decide +kernel
theorem dX3_init_65 : decode cX3_init 65 = .ok (.aload_n 0, 1) := by decide +kernel
theorem dX3_init_66 : decode cX3_init 66 = .ok (.sipush 600, 3) := by decide +kernel
theorem dX3_init_69 : decode cX3_init 69 = .ok (.newarray .int, 2) := by decide +kernel
theorem dX3_init_71 : decode cX3_init 71 = .ok (.putfield 38, 3) := by decide +kernel
theorem dX3_init_74 : decode cX3_init 74 = .ok (.return_, 1) := by decide +kernel
theorem dX3_write_0 : decode cX3_write 0 = .ok (.aload_n 0, 1) := by decide +kernel
theorem dX3_write_1 : decode cX3_write 1 = .ok (.getfield 26, 3) := by decide +kernel
theorem dX3_write_4 : decode cX3_write 4 = .ok (.aload_n 0, 1) := by decide +kernel
theorem dX3_write_5 : decode cX3_write 5 = .ok (.getfield 29, 3) := by decide +kernel
theorem dX3_write_8 : decode cX3_write 8 = .ok (.iload_n 1, 1) := by decide +kernel
theorem dX3_write_9 : decode cX3_write 9 = .ok (.iastore, 1) := by decide +kernel
theorem dX3_write_10 : decode cX3_write 10 = .ok (.aload_n 0, 1) := by decide +kernel
theorem dX3_write_11 : decode cX3_write 11 = .ok (.dup, 1) := by decide +kernel
theorem dX3_write_12 : decode cX3_write 12 = .ok (.getfield 29, 3) := by decide +kernel
theorem dX3_write_15 : decode cX3_write 15 = .ok (.iconst 1, 1) := by decide +kernel
theorem dX3_write_16 : decode cX3_write 16 = .ok (.iadd, 1) := by decide +kernel
theorem dX3_write_17 : decode cX3_write 17 = .ok (.putfield 29, 3) := by decide +kernel
theorem dX3_write_20 : decode cX3_write 20 = .ok (.return_, 1) := by decide +kernel
theorem dX3_writeTwo_0 : decode cX3_writeTwo 0 = .ok (.aload_n 0, 1) := by decide +kernel
theorem dX3_writeTwo_1 : decode cX3_writeTwo 1 = .ok (.iload_n 1, 1) := by decide +kernel
theorem dX3_writeTwo_2 : decode cX3_writeTwo 2 = .ok (.sipush 256, 3) := by decide +kernel
theorem dX3_writeTwo_5 : decode cX3_writeTwo 5 = .ok (.idiv, 1) := by decide +kernel
theorem dX3_writeTwo_6 : decode cX3_writeTwo 6 = .ok (.invokevirtual 41, 3) := by decide +kernel
theorem dX3_writeTwo_9 : decode cX3_writeTwo 9 = .ok (.aload_n 0, 1) := by decide +kernel
theorem dX3_writeTwo_10 : decode cX3_writeTwo 10 = .ok (.iload_n 1, 1) := by decide +kernel
theorem dX3_writeTwo_11 : decode cX3_writeTwo 11 = .ok (.sipush 256, 3) := by decide +kernel
theorem dX3_writeTwo_14 : decode cX3_writeTwo 14 = .ok (.irem, 1) := by decide +kernel
theorem dX3_writeTwo_15 : decode cX3_writeTwo 15 = .ok (.invokevirtual 41, 3) := by decide +kernel
theorem dX3_writeTwo_18 : decode cX3_writeTwo 18 = .ok (.return_, 1) := by decide +kernel
theorem dX3_two_0 : decode cX3_two 0 = .ok (.sipush 256, 3) := by decide +kernel
theorem dX3_two_3 : decode cX3_two 3 = .ok (.aload_n 0, 1) := by decide +kernel
theorem dX3_two_4 : decode cX3_two 4 = .ok (.getfield 26, 3) := by decide +kernel
theorem dX3_two_7 : decode cX3_two 7 = .ok (.iload_n 1, 1) := by decide +kernel
theorem dX3_two_8 : decode cX3_two 8 = .ok (.iaload, 1) := by decide +kernel
theorem dX3_two_9 : decode cX3_two 9 = .ok (.imul, 1) := by decide +kernel
theorem dX3_two_10 : decode cX3_two 10 = .ok (.aload_n 0, 1) := by decide +kernel
theorem dX3_two_11 : decode cX3_two 11 = .ok (.getfield 26, 3) := by decide +kernel
theorem dX3_two_14 : decode cX3_two 14 = .ok (.iload_n 1, 1) := by decide +kernel
theorem dX3_two_15 : decode cX3_two 15 = .ok (.iconst 1, 1) := by decide +kernel
theorem dX3_two_16 : decode cX3_two 16 = .ok (.iadd, 1) := by decide +kernel
theorem dX3_two_17 : decode cX3_two 17 = .ok (.iaload, 1) := by decide +kernel
theorem dX3_two_18 : decode cX3_two 18 = .ok (.iadd, 1) := by decide +kernel
theorem dX3_two_19 : decode cX3_two 19 = .ok (.ireturn, 1) := by decide +kernel
theorem dX3_alike_0 : decode cX3_alike 0 = .ok (.iconst 0, 1) := by decide +kernel
theorem dX3_alike_1 : decode cX3_alike 1 = .ok (.istore_n 3, 1) := by decide +kernel
theorem dX3_alike_2 : decode cX3_alike 2 = .ok (.iload_n 1, 1) := by decide +kernel
theorem dX3_alike_3 : decode cX3_alike 3 = .ok (.iload_n 3, 1) := by decide +kernel
theorem dX3_alike_4 : decode cX3_alike 4 = .ok (.iadd, 1) := by decide +kernel
theorem dX3_alike_5 : decode cX3_alike 5 = .ok (.aload_n 0, 1) := by decide +kernel
theorem dX3_alike_6 : decode cX3_alike 6 = .ok (.getfield 17, 3) := by decide +kernel
theorem dX3_alike_9 : decode cX3_alike 9 = .ok (.if_icmp .ge 38, 3) := by decide +kernel
theorem dX3_alike_12 : decode cX3_alike 12 = .ok (.iload_n 2, 1) := by decide +kernel
theorem dX3_alike_13 : decode cX3_alike 13 = .ok (.iload_n 3, 1) := by decide +kernel
theorem dX3_alike_14 : decode cX3_alike 14 = .ok (.iadd, 1) := by decide +kernel
theorem dX3_alike_15 : decode cX3_alike 15 = .ok (.aload_n 0, 1) := by decide +kernel
theorem dX3_alike_16 : decode cX3_alike 16 = .ok (.getfield 23, 3) := by decide +kernel
theorem dX3_alike_19 : decode cX3_alike 19 = .ok (.if_icmp .ge 28, 3) := by decide +kernel
theorem dX3_alike_22 : decode cX3_alike 22 = .ok (.aload_n 0, 1) := by decide +kernel
theorem dX3_alike_23 : decode cX3_alike 23 = .ok (.getfield 13, 3) := by decide +kernel
theorem dX3_alike_26 : decode cX3_alike 26 = .ok (.iload_n 1, 1) := by decide +kernel
theorem dX3_alike_27 : decode cX3_alike 27 = .ok (.iload_n 3, 1) := by decide +kernel
theorem dX3_alike_28 : decode cX3_alike 28 = .ok (.iadd, 1) := by decide +kernel
theorem dX3_alike_29 : decode cX3_alike 29 = .ok (.iaload, 1) := by decide +kernel
theorem dX3_alike_30 : decode cX3_alike 30 = .ok (.aload_n 0, 1) := by decide +kernel
theorem dX3_alike_31 : decode cX3_alike 31 = .ok (.getfield 20, 3) := by decide +kernel
theorem dX3_alike_34 : decode cX3_alike 34 = .ok (.iload_n 2, 1) := by decide +kernel
theorem dX3_alike_35 : decode cX3_alike 35 = .ok (.iload_n 3, 1) := by decide +kernel
theorem dX3_alike_36 : decode cX3_alike 36 = .ok (.iadd, 1) := by decide +kernel
theorem dX3_alike_37 : decode cX3_alike 37 = .ok (.iaload, 1) := by decide +kernel
theorem dX3_alike_38 : decode cX3_alike 38 = .ok (.if_icmp .ne 9, 3) := by decide +kernel
theorem dX3_alike_41 : decode cX3_alike 41 = .ok (.iinc 3 1, 3) := by decide +kernel
theorem dX3_alike_44 : decode cX3_alike 44 = .ok (.goto (-42), 3) := by decide +kernel
theorem dX3_alike_47 : decode cX3_alike 47 = .ok (.iload_n 3, 1) := by decide +kernel
theorem dX3_alike_48 : decode cX3_alike 48 = .ok (.ireturn, 1) := by decide +kernel
theorem dX3_behind_0 : decode cX3_behind 0 = .ok (.aload_n 0, 1) := by decide +kernel
theorem dX3_behind_1 : decode cX3_behind 1 = .ok (.getfield 26, 3) := by decide +kernel
theorem dX3_behind_4 : decode cX3_behind 4 = .ok (.iload_n 1, 1) := by decide +kernel
theorem dX3_behind_5 : decode cX3_behind 5 = .ok (.iaload, 1) := by decide +kernel
theorem dX3_behind_6 : decode cX3_behind 6 = .ok (.iconst 1, 1) := by decide +kernel
theorem dX3_behind_7 : decode cX3_behind 7 = .ok (.if_icmp .ne 9, 3) := by decide +kernel
theorem dX3_behind_10 : decode cX3_behind 10 = .ok (.iload_n 1, 1) := by decide +kernel
theorem dX3_behind_11 : decode cX3_behind 11 = .ok (.iconst 5, 1) := by decide +kernel
theorem dX3_behind_12 : decode cX3_behind 12 = .ok (.iadd, 1) := by decide +kernel
theorem dX3_behind_13 : decode cX3_behind 13 = .ok (.goto 14, 3) := by decide +kernel
theorem dX3_behind_16 : decode cX3_behind 16 = .ok (.iload_n 1, 1) := by decide +kernel
theorem dX3_behind_17 : decode cX3_behind 17 = .ok (.iconst 3, 1) := by decide +kernel
theorem dX3_behind_18 : decode cX3_behind 18 = .ok (.iadd, 1) := by decide +kernel
theorem dX3_behind_19 : decode cX3_behind 19 = .ok (.aload_n 0, 1) := by decide +kernel
theorem dX3_behind_20 : decode cX3_behind 20 = .ok (.iload_n 1, 1) := by decide +kernel
theorem dX3_behind_21 : decode cX3_behind 21 = .ok (.iconst 1, 1) := by decide +kernel
theorem dX3_behind_22 : decode cX3_behind 22 = .ok (.iadd, 1) := by decide +kernel
theorem dX3_behind_23 : decode cX3_behind 23 = .ok (.invokevirtual 45, 3) := by decide +kernel
theorem dX3_behind_26 : decode cX3_behind 26 = .ok (.iadd, 1) := by decide +kernel
theorem dX3_behind_27 : decode cX3_behind 27 = .ok (.ireturn, 1) := by decide +kernel
theorem dX3_many_0 : decode cX3_many 0 = .ok (.aload_n 0, 1) := by decide +kernel
theorem dX3_many_1 : decode cX3_many 1 = .ok (.aload_n 0, 1) := by decide +kernel
theorem dX3_many_2 : decode cX3_many 2 = .ok (.getfield 26, 3) := by decide +kernel
theorem dX3_many_5 : decode cX3_many 5 = .ok (.iload_n 1, 1) := by decide +kernel
theorem dX3_many_6 : decode cX3_many 6 = .ok (.iaload, 1) := by decide +kernel
theorem dX3_many_7 : decode cX3_many 7 = .ok (.iconst 1, 1) := by decide +kernel
theorem dX3_many_8 : decode cX3_many 8 = .ok (.if_icmp .ne 9, 3) := by decide +kernel
theorem dX3_many_11 : decode cX3_many 11 = .ok (.iload_n 1, 1) := by decide +kernel
theorem dX3_many_12 : decode cX3_many 12 = .ok (.iconst 3, 1) := by decide +kernel
theorem dX3_many_13 : decode cX3_many 13 = .ok (.iadd, 1) := by decide +kernel
theorem dX3_many_14 : decode cX3_many 14 = .ok (.goto 6, 3) := by decide +kernel
theorem dX3_many_17 : decode cX3_many 17 = .ok (.iload_n 1, 1) := by decide +kernel
theorem dX3_many_18 : decode cX3_many 18 = .ok (.iconst 1, 1) := by decide +kernel
theorem dX3_many_19 : decode cX3_many 19 = .ok (.iadd, 1) := by decide +kernel
theorem dX3_many_20 : decode cX3_many 20 = .ok (.invokevirtual 45, 3) := by decide +kernel
theorem dX3_many_23 : decode cX3_many 23 = .ok (.ireturn, 1) := by decide +kernel
theorem dX3_thrown_0 : decode cX3_thrown 0 = .ok (.aload_n 0, 1) := by decide +kernel
theorem dX3_thrown_1 : decode cX3_thrown 1 = .ok (.getfield 7, 3) := by decide +kernel
theorem dX3_thrown_4 : decode cX3_thrown 4 = .ok (.ireturn, 1) := by decide +kernel
theorem dX3_put_0 : decode cX3_put 0 = .ok (.aload_n 0, 1) := by decide +kernel
theorem dX3_put_1 : decode cX3_put 1 = .ok (.iconst 0, 1) := by decide +kernel
theorem dX3_put_2 : decode cX3_put 2 = .ok (.putfield 7, 3) := by decide +kernel
theorem dX3_put_5 : decode cX3_put 5 = .ok (.iload_n 1, 1) := by decide +kernel
theorem dX3_put_6 : decode cX3_put 6 = .ok (.ifCond .eq 10, 3) := by decide +kernel
theorem dX3_put_9 : decode cX3_put 9 = .ok (.aload_n 0, 1) := by decide +kernel
theorem dX3_put_10 : decode cX3_put 10 = .ok (.getfield 23, 3) := by decide +kernel
theorem dX3_put_13 : decode cX3_put 13 = .ok (.goto 7, 3) := by decide +kernel
theorem dX3_put_16 : decode cX3_put 16 = .ok (.aload_n 0, 1) := by decide +kernel
theorem dX3_put_17 : decode cX3_put 17 = .ok (.getfield 17, 3) := by decide +kernel
theorem dX3_put_20 : decode cX3_put 20 = .ok (.istore 5, 2) := by decide +kernel
theorem dX3_put_22 : decode cX3_put 22 = .ok (.iload 4, 2) := by decide +kernel
theorem dX3_put_24 : decode cX3_put 24 = .ok (.ifCond .lt 21, 3) := by decide +kernel
theorem dX3_put_27 : decode cX3_put 27 = .ok (.iload 4, 2) := by decide +kernel
theorem dX3_put_29 : decode cX3_put 29 = .ok (.bipush 8, 2) := by decide +kernel
theorem dX3_put_31 : decode cX3_put 31 = .ok (.if_icmp .gt 14, 3) := by decide +kernel
theorem dX3_put_34 : decode cX3_put 34 = .ok (.iload 5, 2) := by decide +kernel
theorem dX3_put_36 : decode cX3_put 36 = .ok (.iload 4, 2) := by decide +kernel
theorem dX3_put_38 : decode cX3_put 38 = .ok (.iadd, 1) := by decide +kernel
theorem dX3_put_39 : decode cX3_put 39 = .ok (.sipush 600, 3) := by decide +kernel
theorem dX3_put_42 : decode cX3_put 42 = .ok (.if_icmp .le 5, 3) := by decide +kernel
theorem dX3_put_45 : decode cX3_put 45 = .ok (.iconst 0, 1) := by decide +kernel
theorem dX3_put_46 : decode cX3_put 46 = .ok (.ireturn, 1) := by decide +kernel
theorem dX3_put_47 : decode cX3_put 47 = .ok (.iload 4, 2) := by decide +kernel
theorem dX3_put_49 : decode cX3_put 49 = .ok (.iconst 1, 1) := by decide +kernel
theorem dX3_put_50 : decode cX3_put 50 = .ok (.isub, 1) := by decide +kernel
theorem dX3_put_51 : decode cX3_put 51 = .ok (.istore 6, 2) := by decide +kernel
theorem dX3_put_53 : decode cX3_put 53 = .ok (.iload 6, 2) := by decide +kernel
theorem dX3_put_55 : decode cX3_put 55 = .ok (.ifCond .lt 72, 3) := by decide +kernel
theorem dX3_put_58 : decode cX3_put 58 = .ok (.lload_n 2, 1) := by decide +kernel
theorem dX3_put_59 : decode cX3_put 59 = .ok (.bipush 8, 2) := by decide +kernel
theorem dX3_put_61 : decode cX3_put 61 = .ok (.iload 6, 2) := by decide +kernel
theorem dX3_put_63 : decode cX3_put 63 = .ok (.imul, 1) := by decide +kernel
theorem dX3_put_64 : decode cX3_put 64 = .ok (.lshr, 1) := by decide +kernel
theorem dX3_put_65 : decode cX3_put 65 = .ok (.l2i, 1) := by decide +kernel
theorem dX3_put_66 : decode cX3_put 66 = .ok (.sipush 255, 3) := by decide +kernel
theorem dX3_put_69 : decode cX3_put 69 = .ok (.iand, 1) := by decide +kernel
theorem dX3_put_70 : decode cX3_put 70 = .ok (.istore 7, 2) := by decide +kernel
theorem dX3_put_72 : decode cX3_put 72 = .ok (.iload_n 1, 1) := by decide +kernel
theorem dX3_put_73 : decode cX3_put 73 = .ok (.ifCond .eq 27, 3) := by decide +kernel
theorem dX3_put_76 : decode cX3_put 76 = .ok (.aload_n 0, 1) := by decide +kernel
theorem dX3_put_77 : decode cX3_put 77 = .ok (.getfield 20, 3) := by decide +kernel
theorem dX3_put_80 : decode cX3_put 80 = .ok (.aload_n 0, 1) := by decide +kernel
theorem dX3_put_81 : decode cX3_put 81 = .ok (.getfield 23, 3) := by decide +kernel
theorem dX3_put_84 : decode cX3_put 84 = .ok (.iload 7, 2) := by decide +kernel
theorem dX3_put_86 : decode cX3_put 86 = .ok (.iastore, 1) := by decide +kernel
theorem dX3_put_87 : decode cX3_put 87 = .ok (.aload_n 0, 1) := by decide +kernel
theorem dX3_put_88 : decode cX3_put 88 = .ok (.dup, 1) := by decide +kernel
theorem dX3_put_89 : decode cX3_put 89 = .ok (.getfield 23, 3) := by decide +kernel
theorem dX3_put_92 : decode cX3_put 92 = .ok (.iconst 1, 1) := by decide +kernel
theorem dX3_put_93 : decode cX3_put 93 = .ok (.iadd, 1) := by decide +kernel
theorem dX3_put_94 : decode cX3_put 94 = .ok (.putfield 23, 3) := by decide +kernel
theorem dX3_put_97 : decode cX3_put 97 = .ok (.goto 24, 3) := by decide +kernel
theorem dX3_put_100 : decode cX3_put 100 = .ok (.aload_n 0, 1) := by decide +kernel
theorem dX3_put_101 : decode cX3_put 101 = .ok (.getfield 13, 3) := by decide +kernel
theorem dX3_put_104 : decode cX3_put 104 = .ok (.aload_n 0, 1) := by decide +kernel
theorem dX3_put_105 : decode cX3_put 105 = .ok (.getfield 17, 3) := by decide +kernel
theorem dX3_put_108 : decode cX3_put 108 = .ok (.iload 7, 2) := by decide +kernel
theorem dX3_put_110 : decode cX3_put 110 = .ok (.iastore, 1) := by decide +kernel
theorem dX3_put_111 : decode cX3_put 111 = .ok (.aload_n 0, 1) := by decide +kernel
theorem dX3_put_112 : decode cX3_put 112 = .ok (.dup, 1) := by decide +kernel
theorem dX3_put_113 : decode cX3_put 113 = .ok (.getfield 17, 3) := by decide +kernel
theorem dX3_put_116 : decode cX3_put 116 = .ok (.iconst 1, 1) := by decide +kernel
theorem dX3_put_117 : decode cX3_put 117 = .ok (.iadd, 1) := by decide +kernel
theorem dX3_put_118 : decode cX3_put 118 = .ok (.putfield 17, 3) := by decide +kernel
theorem dX3_put_121 : decode cX3_put 121 = .ok (.iinc 6 (-1), 3) := by decide +kernel
theorem dX3_put_124 : decode cX3_put 124 = .ok (.goto (-71), 3) := by decide +kernel
theorem dX3_put_127 : decode cX3_put 127 = .ok (.iconst 1, 1) := by decide +kernel
theorem dX3_put_128 : decode cX3_put 128 = .ok (.ireturn, 1) := by decide +kernel
theorem dX3_clear_0 : decode cX3_clear 0 = .ok (.aload_n 0, 1) := by decide +kernel
theorem dX3_clear_1 : decode cX3_clear 1 = .ok (.iconst 0, 1) := by decide +kernel
theorem dX3_clear_2 : decode cX3_clear 2 = .ok (.putfield 7, 3) := by decide +kernel
theorem dX3_clear_5 : decode cX3_clear 5 = .ok (.iload_n 1, 1) := by decide +kernel
theorem dX3_clear_6 : decode cX3_clear 6 = .ok (.ifCond .eq 11, 3) := by decide +kernel
theorem dX3_clear_9 : decode cX3_clear 9 = .ok (.aload_n 0, 1) := by decide +kernel
theorem dX3_clear_10 : decode cX3_clear 10 = .ok (.iconst 0, 1) := by decide +kernel
theorem dX3_clear_11 : decode cX3_clear 11 = .ok (.putfield 23, 3) := by decide +kernel
theorem dX3_clear_14 : decode cX3_clear 14 = .ok (.goto 8, 3) := by decide +kernel
theorem dX3_clear_17 : decode cX3_clear 17 = .ok (.aload_n 0, 1) := by decide +kernel
theorem dX3_clear_18 : decode cX3_clear 18 = .ok (.iconst 0, 1) := by decide +kernel
theorem dX3_clear_19 : decode cX3_clear 19 = .ok (.putfield 17, 3) := by decide +kernel
theorem dX3_clear_22 : decode cX3_clear 22 = .ok (.return_, 1) := by decide +kernel
theorem dX3_make_0 : decode cX3_make 0 = .ok (.aload_n 0, 1) := by decide +kernel
theorem dX3_make_1 : decode cX3_make 1 = .ok (.iconst 0, 1) := by decide +kernel
theorem dX3_make_2 : decode cX3_make 2 = .ok (.putfield 7, 3) := by decide +kernel
theorem dX3_make_5 : decode cX3_make 5 = .ok (.aload_n 0, 1) := by decide +kernel
theorem dX3_make_6 : decode cX3_make 6 = .ok (.iconst 0, 1) := by decide +kernel
theorem dX3_make_7 : decode cX3_make 7 = .ok (.putfield 29, 3) := by decide +kernel
theorem dX3_make_10 : decode cX3_make 10 = .ok (.iconst 0, 1) := by decide +kernel
theorem dX3_make_11 : decode cX3_make 11 = .ok (.istore_n 1, 1) := by decide +kernel
theorem dX3_make_12 : decode cX3_make 12 = .ok (.iconst (-1), 1) := by decide +kernel
theorem dX3_make_13 : decode cX3_make 13 = .ok (.istore_n 2, 1) := by decide +kernel
theorem dX3_make_14 : decode cX3_make 14 = .ok (.iconst 0, 1) := by decide +kernel
theorem dX3_make_15 : decode cX3_make 15 = .ok (.istore_n 3, 1) := by decide +kernel
theorem dX3_make_16 : decode cX3_make 16 = .ok (.iload_n 3, 1) := by decide +kernel
theorem dX3_make_17 : decode cX3_make 17 = .ok (.aload_n 0, 1) := by decide +kernel
theorem dX3_make_18 : decode cX3_make 18 = .ok (.getfield 23, 3) := by decide +kernel
theorem dX3_make_21 : decode cX3_make 21 = .ok (.if_icmp .ge 169, 3) := by decide +kernel
theorem dX3_make_24 : decode cX3_make 24 = .ok (.bipush 7, 2) := by decide +kernel
theorem dX3_make_26 : decode cX3_make 26 = .ok (.istore 4, 2) := by decide +kernel
theorem dX3_make_28 : decode cX3_make 28 = .ok (.iconst 0, 1) := by decide +kernel
theorem dX3_make_29 : decode cX3_make 29 = .ok (.istore 5, 2) := by decide +kernel
theorem dX3_make_31 : decode cX3_make 31 = .ok (.iconst 0, 1) := by decide +kernel
theorem dX3_make_32 : decode cX3_make 32 = .ok (.istore 6, 2) := by decide +kernel
theorem dX3_make_34 : decode cX3_make 34 = .ok (.iload 6, 2) := by decide +kernel
theorem dX3_make_36 : decode cX3_make 36 = .ok (.bipush 8, 2) := by decide +kernel
theorem dX3_make_38 : decode cX3_make 38 = .ok (.iadd, 1) := by decide +kernel
theorem dX3_make_39 : decode cX3_make 39 = .ok (.aload_n 0, 1) := by decide +kernel
theorem dX3_make_40 : decode cX3_make 40 = .ok (.getfield 17, 3) := by decide +kernel
theorem dX3_make_43 : decode cX3_make 43 = .ok (.if_icmp .gt 33, 3) := by decide +kernel
theorem dX3_make_46 : decode cX3_make 46 = .ok (.aload_n 0, 1) := by decide +kernel
theorem dX3_make_47 : decode cX3_make 47 = .ok (.iload 6, 2) := by decide +kernel
theorem dX3_make_49 : decode cX3_make 49 = .ok (.iload_n 3, 1) := by decide +kernel
theorem dX3_make_50 : decode cX3_make 50 = .ok (.invokevirtual 49, 3) := by decide +kernel
theorem dX3_make_53 : decode cX3_make 53 = .ok (.istore 7, 2) := by decide +kernel
theorem dX3_make_55 : decode cX3_make 55 = .ok (.iload 7, 2) := by decide +kernel
theorem dX3_make_57 : decode cX3_make 57 = .ok (.iload 4, 2) := by decide +kernel
theorem dX3_make_59 : decode cX3_make 59 = .ok (.if_icmp .le 11, 3) := by decide +kernel
theorem dX3_make_62 : decode cX3_make 62 = .ok (.iload 7, 2) := by decide +kernel
theorem dX3_make_64 : decode cX3_make 64 = .ok (.istore 4, 2) := by decide +kernel
theorem dX3_make_66 : decode cX3_make 66 = .ok (.iload 6, 2) := by decide +kernel
theorem dX3_make_68 : decode cX3_make 68 = .ok (.istore 5, 2) := by decide +kernel
theorem dX3_make_70 : decode cX3_make 70 = .ok (.iinc 6 8, 3) := by decide +kernel
theorem dX3_make_73 : decode cX3_make 73 = .ok (.goto (-39), 3) := by decide +kernel
theorem dX3_make_76 : decode cX3_make 76 = .ok (.iload 4, 2) := by decide +kernel
theorem dX3_make_78 : decode cX3_make 78 = .ok (.bipush 7, 2) := by decide +kernel
theorem dX3_make_80 : decode cX3_make 80 = .ok (.if_icmp .le 33, 3) := by decide +kernel
theorem dX3_make_83 : decode cX3_make 83 = .ok (.aload_n 0, 1) := by decide +kernel
theorem dX3_make_84 : decode cX3_make 84 = .ok (.iconst 1, 1) := by decide +kernel
theorem dX3_make_85 : decode cX3_make 85 = .ok (.invokevirtual 41, 3) := by decide +kernel
theorem dX3_make_88 : decode cX3_make 88 = .ok (.aload_n 0, 1) := by decide +kernel
theorem dX3_make_89 : decode cX3_make 89 = .ok (.iload 5, 2) := by decide +kernel
theorem dX3_make_91 : decode cX3_make 91 = .ok (.invokevirtual 53, 3) := by decide +kernel
theorem dX3_make_94 : decode cX3_make 94 = .ok (.aload_n 0, 1) := by decide +kernel
theorem dX3_make_95 : decode cX3_make 95 = .ok (.iload 4, 2) := by decide +kernel
theorem dX3_make_97 : decode cX3_make 97 = .ok (.invokevirtual 53, 3) := by decide +kernel
theorem dX3_make_100 : decode cX3_make 100 = .ok (.iinc 1 1, 3) := by decide +kernel
theorem dX3_make_103 : decode cX3_make 103 = .ok (.iconst (-1), 1) := by decide +kernel
theorem dX3_make_104 : decode cX3_make 104 = .ok (.istore_n 2, 1) := by decide +kernel
theorem dX3_make_105 : decode cX3_make 105 = .ok (.iload_n 3, 1) := by decide +kernel
theorem dX3_make_106 : decode cX3_make 106 = .ok (.iload 4, 2) := by decide +kernel
theorem dX3_make_108 : decode cX3_make 108 = .ok (.iadd, 1) := by decide +kernel
theorem dX3_make_109 : decode cX3_make 109 = .ok (.istore_n 3, 1) := by decide +kernel
theorem dX3_make_110 : decode cX3_make 110 = .ok (.goto 77, 3) := by decide +kernel
theorem dX3_make_113 : decode cX3_make 113 = .ok (.iload_n 2, 1) := by decide +kernel
theorem dX3_make_114 : decode cX3_make 114 = .ok (.ifCond .ge 21, 3) := by decide +kernel
theorem dX3_make_117 : decode cX3_make 117 = .ok (.aload_n 0, 1) := by decide +kernel
theorem dX3_make_118 : decode cX3_make 118 = .ok (.getfield 29, 3) := by decide +kernel
theorem dX3_make_121 : decode cX3_make 121 = .ok (.istore_n 2, 1) := by decide +kernel
theorem dX3_make_122 : decode cX3_make 122 = .ok (.aload_n 0, 1) := by decide +kernel
theorem dX3_make_123 : decode cX3_make 123 = .ok (.iconst 2, 1) := by decide +kernel
theorem dX3_make_124 : decode cX3_make 124 = .ok (.invokevirtual 41, 3) := by decide +kernel
theorem dX3_make_127 : decode cX3_make 127 = .ok (.aload_n 0, 1) := by decide +kernel
theorem dX3_make_128 : decode cX3_make 128 = .ok (.iconst 0, 1) := by decide +kernel
theorem dX3_make_129 : decode cX3_make 129 = .ok (.invokevirtual 53, 3) := by decide +kernel
theorem dX3_make_132 : decode cX3_make 132 = .ok (.iinc 1 1, 3) := by decide +kernel
theorem dX3_make_135 : decode cX3_make 135 = .ok (.aload_n 0, 1) := by decide +kernel
theorem dX3_make_136 : decode cX3_make 136 = .ok (.iload_n 2, 1) := by decide +kernel
theorem dX3_make_137 : decode cX3_make 137 = .ok (.iconst 1, 1) := by decide +kernel
theorem dX3_make_138 : decode cX3_make 138 = .ok (.iadd, 1) := by decide +kernel
theorem dX3_make_139 : decode cX3_make 139 = .ok (.invokevirtual 45, 3) := by decide +kernel
theorem dX3_make_142 : decode cX3_make 142 = .ok (.iconst 1, 1) := by decide +kernel
theorem dX3_make_143 : decode cX3_make 143 = .ok (.iadd, 1) := by decide +kernel
theorem dX3_make_144 : decode cX3_make 144 = .ok (.istore 6, 2) := by decide +kernel
theorem dX3_make_146 : decode cX3_make 146 = .ok (.aload_n 0, 1) := by decide +kernel
theorem dX3_make_147 : decode cX3_make 147 = .ok (.getfield 26, 3) := by decide +kernel
theorem dX3_make_150 : decode cX3_make 150 = .ok (.iload_n 2, 1) := by decide +kernel
theorem dX3_make_151 : decode cX3_make 151 = .ok (.iconst 1, 1) := by decide +kernel
theorem dX3_make_152 : decode cX3_make 152 = .ok (.iadd, 1) := by decide +kernel
theorem dX3_make_153 : decode cX3_make 153 = .ok (.iload 6, 2) := by decide +kernel
theorem dX3_make_155 : decode cX3_make 155 = .ok (.sipush 256, 3) := by decide +kernel
theorem dX3_make_158 : decode cX3_make 158 = .ok (.idiv, 1) := by decide +kernel
theorem dX3_make_159 : decode cX3_make 159 = .ok (.iastore, 1) := by decide +kernel
theorem dX3_make_160 : decode cX3_make 160 = .ok (.aload_n 0, 1) := by decide +kernel
theorem dX3_make_161 : decode cX3_make 161 = .ok (.getfield 26, 3) := by decide +kernel
theorem dX3_make_164 : decode cX3_make 164 = .ok (.iload_n 2, 1) := by decide +kernel
theorem dX3_make_165 : decode cX3_make 165 = .ok (.iconst 2, 1) := by decide +kernel
theorem dX3_make_166 : decode cX3_make 166 = .ok (.iadd, 1) := by decide +kernel
theorem dX3_make_167 : decode cX3_make 167 = .ok (.iload 6, 2) := by decide +kernel
theorem dX3_make_169 : decode cX3_make 169 = .ok (.sipush 256, 3) := by decide +kernel
theorem dX3_make_172 : decode cX3_make 172 = .ok (.irem, 1) := by decide +kernel
theorem dX3_make_173 : decode cX3_make 173 = .ok (.iastore, 1) := by decide +kernel
theorem dX3_make_174 : decode cX3_make 174 = .ok (.aload_n 0, 1) := by decide +kernel
theorem dX3_make_175 : decode cX3_make 175 = .ok (.aload_n 0, 1) := by decide +kernel
theorem dX3_make_176 : decode cX3_make 176 = .ok (.getfield 20, 3) := by decide +kernel
theorem dX3_make_179 : decode cX3_make 179 = .ok (.iload_n 3, 1) := by decide +kernel
theorem dX3_make_180 : decode cX3_make 180 = .ok (.iaload, 1) := by decide +kernel
theorem dX3_make_181 : decode cX3_make 181 = .ok (.invokevirtual 41, 3) := by decide +kernel
theorem dX3_make_184 : decode cX3_make 184 = .ok (.iinc 3 1, 3) := by decide +kernel
theorem dX3_make_187 : decode cX3_make 187 = .ok (.goto (-171), 3) := by decide +kernel
theorem dX3_make_190 : decode cX3_make 190 = .ok (.iload_n 1, 1) := by decide +kernel
theorem dX3_make_191 : decode cX3_make 191 = .ok (.ireturn, 1) := by decide +kernel
theorem dX3_piece_0 : decode cX3_piece 0 = .ok (.aload_n 0, 1) := by decide +kernel
theorem dX3_piece_1 : decode cX3_piece 1 = .ok (.iconst 0, 1) := by decide +kernel
theorem dX3_piece_2 : decode cX3_piece 2 = .ok (.putfield 7, 3) := by decide +kernel
theorem dX3_piece_5 : decode cX3_piece 5 = .ok (.iload_n 1, 1) := by decide +kernel
theorem dX3_piece_6 : decode cX3_piece 6 = .ok (.ifCond .lt 12, 3) := by decide +kernel
theorem dX3_piece_9 : decode cX3_piece 9 = .ok (.iload_n 2, 1) := by decide +kernel
theorem dX3_piece_10 : decode cX3_piece 10 = .ok (.ifCond .lt 8, 3) := by decide +kernel
theorem dX3_piece_13 : decode cX3_piece 13 = .ok (.iload_n 2, 1) := by decide +kernel
theorem dX3_piece_14 : decode cX3_piece 14 = .ok (.iconst 2, 1) := by decide +kernel
theorem dX3_piece_15 : decode cX3_piece 15 = .ok (.if_icmp .le 5, 3) := by decide +kernel
theorem dX3_piece_18 : decode cX3_piece 18 = .ok (.iconst (-1), 1) := by decide +kernel
theorem dX3_piece_19 : decode cX3_piece 19 = .ok (.ireturn, 1) := by decide +kernel
theorem dX3_piece_20 : decode cX3_piece 20 = .ok (.iconst 0, 1) := by decide +kernel
theorem dX3_piece_21 : decode cX3_piece 21 = .ok (.istore_n 3, 1) := by decide +kernel
theorem dX3_piece_22 : decode cX3_piece 22 = .ok (.iconst 0, 1) := by decide +kernel
theorem dX3_piece_23 : decode cX3_piece 23 = .ok (.istore 4, 2) := by decide +kernel
theorem dX3_piece_25 : decode cX3_piece 25 = .ok (.iconst 0, 1) := by decide +kernel
theorem dX3_piece_26 : decode cX3_piece 26 = .ok (.istore 5, 2) := by decide +kernel
theorem dX3_piece_28 : decode cX3_piece 28 = .ok (.iload 5, 2) := by decide +kernel
theorem dX3_piece_30 : decode cX3_piece 30 = .ok (.iload_n 1, 1) := by decide +kernel
theorem dX3_piece_31 : decode cX3_piece 31 = .ok (.if_icmp .ge 33, 3) := by decide +kernel
theorem dX3_piece_34 : decode cX3_piece 34 = .ok (.iload_n 3, 1) := by decide +kernel
theorem dX3_piece_35 : decode cX3_piece 35 = .ok (.aload_n 0, 1) := by decide +kernel
theorem dX3_piece_36 : decode cX3_piece 36 = .ok (.getfield 29, 3) := by decide +kernel
theorem dX3_piece_39 : decode cX3_piece 39 = .ok (.if_icmp .ge 25, 3) := by decide +kernel
theorem dX3_piece_42 : decode cX3_piece 42 = .ok (.iload 4, 2) := by decide +kernel
theorem dX3_piece_44 : decode cX3_piece 44 = .ok (.aload_n 0, 1) := by decide +kernel
theorem dX3_piece_45 : decode cX3_piece 45 = .ok (.iload_n 3, 1) := by decide +kernel
theorem dX3_piece_46 : decode cX3_piece 46 = .ok (.invokevirtual 56, 3) := by decide +kernel
theorem dX3_piece_49 : decode cX3_piece 49 = .ok (.iadd, 1) := by decide +kernel
theorem dX3_piece_50 : decode cX3_piece 50 = .ok (.istore 4, 2) := by decide +kernel
theorem dX3_piece_52 : decode cX3_piece 52 = .ok (.aload_n 0, 1) := by decide +kernel
theorem dX3_piece_53 : decode cX3_piece 53 = .ok (.iload_n 3, 1) := by decide +kernel
theorem dX3_piece_54 : decode cX3_piece 54 = .ok (.invokevirtual 59, 3) := by decide +kernel
theorem dX3_piece_57 : decode cX3_piece 57 = .ok (.istore_n 3, 1) := by decide +kernel
theorem dX3_piece_58 : decode cX3_piece 58 = .ok (.iinc 5 1, 3) := by decide +kernel
theorem dX3_piece_61 : decode cX3_piece 61 = .ok (.goto (-33), 3) := by decide +kernel
theorem dX3_piece_64 : decode cX3_piece 64 = .ok (.iload_n 3, 1) := by decide +kernel
theorem dX3_piece_65 : decode cX3_piece 65 = .ok (.aload_n 0, 1) := by decide +kernel
theorem dX3_piece_66 : decode cX3_piece 66 = .ok (.getfield 29, 3) := by decide +kernel
theorem dX3_piece_69 : decode cX3_piece 69 = .ok (.if_icmp .lt 5, 3) := by decide +kernel
theorem dX3_piece_72 : decode cX3_piece 72 = .ok (.iconst (-1), 1) := by decide +kernel
theorem dX3_piece_73 : decode cX3_piece 73 = .ok (.ireturn, 1) := by decide +kernel
theorem dX3_piece_74 : decode cX3_piece 74 = .ok (.iload_n 2, 1) := by decide +kernel
theorem dX3_piece_75 : decode cX3_piece 75 = .ok (.ifCond .ne 12, 3) := by decide +kernel
theorem dX3_piece_78 : decode cX3_piece 78 = .ok (.aload_n 0, 1) := by decide +kernel
theorem dX3_piece_79 : decode cX3_piece 79 = .ok (.getfield 26, 3) := by decide +kernel
theorem dX3_piece_82 : decode cX3_piece 82 = .ok (.iload_n 3, 1) := by decide +kernel
theorem dX3_piece_83 : decode cX3_piece 83 = .ok (.iaload, 1) := by decide +kernel
theorem dX3_piece_84 : decode cX3_piece 84 = .ok (.goto 38, 3) := by decide +kernel
theorem dX3_piece_87 : decode cX3_piece 87 = .ok (.iload_n 2, 1) := by decide +kernel
theorem dX3_piece_88 : decode cX3_piece 88 = .ok (.iconst 2, 1) := by decide +kernel
theorem dX3_piece_89 : decode cX3_piece 89 = .ok (.if_icmp .ne 11, 3) := by decide +kernel
theorem dX3_piece_92 : decode cX3_piece 92 = .ok (.aload_n 0, 1) := by decide +kernel
theorem dX3_piece_93 : decode cX3_piece 93 = .ok (.iload_n 3, 1) := by decide +kernel
theorem dX3_piece_94 : decode cX3_piece 94 = .ok (.invokevirtual 56, 3) := by decide +kernel
theorem dX3_piece_97 : decode cX3_piece 97 = .ok (.goto 25, 3) := by decide +kernel
theorem dX3_piece_100 : decode cX3_piece 100 = .ok (.aload_n 0, 1) := by decide +kernel
theorem dX3_piece_101 : decode cX3_piece 101 = .ok (.getfield 26, 3) := by decide +kernel
theorem dX3_piece_104 : decode cX3_piece 104 = .ok (.iload_n 3, 1) := by decide +kernel
theorem dX3_piece_105 : decode cX3_piece 105 = .ok (.iaload, 1) := by decide +kernel
theorem dX3_piece_106 : decode cX3_piece 106 = .ok (.iconst 1, 1) := by decide +kernel
theorem dX3_piece_107 : decode cX3_piece 107 = .ok (.if_icmp .ne 13, 3) := by decide +kernel
theorem dX3_piece_110 : decode cX3_piece 110 = .ok (.aload_n 0, 1) := by decide +kernel
theorem dX3_piece_111 : decode cX3_piece 111 = .ok (.iload_n 3, 1) := by decide +kernel
theorem dX3_piece_112 : decode cX3_piece 112 = .ok (.iconst 1, 1) := by decide +kernel
theorem dX3_piece_113 : decode cX3_piece 113 = .ok (.iadd, 1) := by decide +kernel
theorem dX3_piece_114 : decode cX3_piece 114 = .ok (.invokevirtual 45, 3) := by decide +kernel
theorem dX3_piece_117 : decode cX3_piece 117 = .ok (.goto 5, 3) := by decide +kernel
theorem dX3_piece_120 : decode cX3_piece 120 = .ok (.iload 4, 2) := by decide +kernel
theorem dX3_piece_122 : decode cX3_piece 122 = .ok (.ireturn, 1) := by decide +kernel
theorem dX3_size_0 : decode cX3_size 0 = .ok (.aload_n 0, 1) := by decide +kernel
theorem dX3_size_1 : decode cX3_size 1 = .ok (.iconst 0, 1) := by decide +kernel
theorem dX3_size_2 : decode cX3_size 2 = .ok (.putfield 7, 3) := by decide +kernel
theorem dX3_size_5 : decode cX3_size 5 = .ok (.aload_n 0, 1) := by decide +kernel
theorem dX3_size_6 : decode cX3_size 6 = .ok (.getfield 29, 3) := by decide +kernel
theorem dX3_size_9 : decode cX3_size 9 = .ok (.ireturn, 1) := by decide +kernel
theorem dX3_way_0 : decode cX3_way 0 = .ok (.aload_n 0, 1) := by decide +kernel
theorem dX3_way_1 : decode cX3_way 1 = .ok (.iconst 0, 1) := by decide +kernel
theorem dX3_way_2 : decode cX3_way 2 = .ok (.putfield 7, 3) := by decide +kernel
theorem dX3_way_5 : decode cX3_way 5 = .ok (.iload_n 1, 1) := by decide +kernel
theorem dX3_way_6 : decode cX3_way 6 = .ok (.ifCond .lt 11, 3) := by decide +kernel
theorem dX3_way_9 : decode cX3_way 9 = .ok (.iload_n 1, 1) := by decide +kernel
theorem dX3_way_10 : decode cX3_way 10 = .ok (.aload_n 0, 1) := by decide +kernel
theorem dX3_way_11 : decode cX3_way 11 = .ok (.getfield 29, 3) := by decide +kernel
theorem dX3_way_14 : decode cX3_way 14 = .ok (.if_icmp .lt 7, 3) := by decide +kernel
theorem dX3_way_17 : decode cX3_way 17 = .ok (.iconst (-1), 1) := by decide +kernel
theorem dX3_way_18 : decode cX3_way 18 = .ok (.goto 9, 3) := by decide +kernel
theorem dX3_way_21 : decode cX3_way 21 = .ok (.aload_n 0, 1) := by decide +kernel
theorem dX3_way_22 : decode cX3_way 22 = .ok (.getfield 26, 3) := by decide +kernel
theorem dX3_way_25 : decode cX3_way 25 = .ok (.iload_n 1, 1) := by decide +kernel
theorem dX3_way_26 : decode cX3_way 26 = .ok (.iaload, 1) := by decide +kernel
theorem dX3_way_27 : decode cX3_way 27 = .ok (.ireturn, 1) := by decide +kernel
theorem dX3_go_0 : decode cX3_go 0 = .ok (.iconst 0, 1) := by decide +kernel
theorem dX3_go_1 : decode cX3_go 1 = .ok (.istore_n 1, 1) := by decide +kernel
theorem dX3_go_2 : decode cX3_go 2 = .ok (.aload_n 0, 1) := by decide +kernel
theorem dX3_go_3 : decode cX3_go 3 = .ok (.iconst 0, 1) := by decide +kernel
theorem dX3_go_4 : decode cX3_go 4 = .ok (.putfield 7, 3) := by decide +kernel
theorem dX3_go_7 : decode cX3_go 7 = .ok (.iconst 0, 1) := by decide +kernel
theorem dX3_go_8 : decode cX3_go 8 = .ok (.istore_n 2, 1) := by decide +kernel
theorem dX3_go_9 : decode cX3_go 9 = .ok (.iload_n 2, 1) := by decide +kernel
theorem dX3_go_10 : decode cX3_go 10 = .ok (.aload_n 0, 1) := by decide +kernel
theorem dX3_go_11 : decode cX3_go 11 = .ok (.getfield 29, 3) := by decide +kernel
theorem dX3_go_14 : decode cX3_go 14 = .ok (.if_icmp .ge 135, 3) := by decide +kernel
theorem dX3_go_17 : decode cX3_go 17 = .ok (.aload_n 0, 1) := by decide +kernel
theorem dX3_go_18 : decode cX3_go 18 = .ok (.getfield 7, 3) := by decide +kernel
theorem dX3_go_21 : decode cX3_go 21 = .ok (.ifCond .ne 128, 3) := by decide +kernel
theorem dX3_go_24 : decode cX3_go 24 = .ok (.iconst 0, 1) := by decide +kernel
theorem dX3_go_25 : decode cX3_go 25 = .ok (.istore_n 3, 1) := by decide +kernel
theorem dX3_go_26 : decode cX3_go 26 = .ok (.iload_n 3, 1) := by decide +kernel
theorem dX3_go_27 : decode cX3_go 27 = .ok (.aload_n 0, 1) := by decide +kernel
theorem dX3_go_28 : decode cX3_go 28 = .ok (.iload_n 2, 1) := by decide +kernel
theorem dX3_go_29 : decode cX3_go 29 = .ok (.invokevirtual 56, 3) := by decide +kernel
theorem dX3_go_32 : decode cX3_go 32 = .ok (.if_icmp .ge 108, 3) := by decide +kernel
theorem dX3_go_35 : decode cX3_go 35 = .ok (.aload_n 0, 1) := by decide +kernel
theorem dX3_go_36 : decode cX3_go 36 = .ok (.getfield 7, 3) := by decide +kernel
theorem dX3_go_39 : decode cX3_go 39 = .ok (.ifCond .ne 101, 3) := by decide +kernel
theorem dX3_go_42 : decode cX3_go 42 = .ok (.aload_n 0, 1) := by decide +kernel
theorem dX3_go_43 : decode cX3_go 43 = .ok (.getfield 26, 3) := by decide +kernel
theorem dX3_go_46 : decode cX3_go 46 = .ok (.iload_n 2, 1) := by decide +kernel
theorem dX3_go_47 : decode cX3_go 47 = .ok (.iaload, 1) := by decide +kernel
theorem dX3_go_48 : decode cX3_go 48 = .ok (.iconst 1, 1) := by decide +kernel
theorem dX3_go_49 : decode cX3_go 49 = .ok (.if_icmp .ne 15, 3) := by decide +kernel
theorem dX3_go_52 : decode cX3_go 52 = .ok (.aload_n 0, 1) := by decide +kernel
theorem dX3_go_53 : decode cX3_go 53 = .ok (.iload_n 2, 1) := by decide +kernel
theorem dX3_go_54 : decode cX3_go 54 = .ok (.iconst 1, 1) := by decide +kernel
theorem dX3_go_55 : decode cX3_go 55 = .ok (.iadd, 1) := by decide +kernel
theorem dX3_go_56 : decode cX3_go 56 = .ok (.invokevirtual 45, 3) := by decide +kernel
theorem dX3_go_59 : decode cX3_go 59 = .ok (.iload_n 3, 1) := by decide +kernel
theorem dX3_go_60 : decode cX3_go 60 = .ok (.iadd, 1) := by decide +kernel
theorem dX3_go_61 : decode cX3_go 61 = .ok (.goto 8, 3) := by decide +kernel
theorem dX3_go_64 : decode cX3_go 64 = .ok (.iload_n 2, 1) := by decide +kernel
theorem dX3_go_65 : decode cX3_go 65 = .ok (.iconst 3, 1) := by decide +kernel
theorem dX3_go_66 : decode cX3_go 66 = .ok (.iadd, 1) := by decide +kernel
theorem dX3_go_67 : decode cX3_go 67 = .ok (.iload_n 3, 1) := by decide +kernel
theorem dX3_go_68 : decode cX3_go 68 = .ok (.iadd, 1) := by decide +kernel
theorem dX3_go_69 : decode cX3_go 69 = .ok (.istore 4, 2) := by decide +kernel
theorem dX3_go_71 : decode cX3_go 71 = .ok (.aload_n 0, 1) := by decide +kernel
theorem dX3_go_72 : decode cX3_go 72 = .ok (.getfield 26, 3) := by decide +kernel
theorem dX3_go_75 : decode cX3_go 75 = .ok (.iload_n 2, 1) := by decide +kernel
theorem dX3_go_76 : decode cX3_go 76 = .ok (.iaload, 1) := by decide +kernel
theorem dX3_go_77 : decode cX3_go 77 = .ok (.iconst 1, 1) := by decide +kernel
theorem dX3_go_78 : decode cX3_go 78 = .ok (.if_icmp .ne 20, 3) := by decide +kernel
theorem dX3_go_81 : decode cX3_go 81 = .ok (.iload 4, 2) := by decide +kernel
theorem dX3_go_83 : decode cX3_go 83 = .ok (.aload_n 0, 1) := by decide +kernel
theorem dX3_go_84 : decode cX3_go 84 = .ok (.getfield 17, 3) := by decide +kernel
theorem dX3_go_87 : decode cX3_go 87 = .ok (.if_icmp .lt 11, 3) := by decide +kernel
theorem dX3_go_90 : decode cX3_go 90 = .ok (.aload_n 0, 1) := by decide +kernel
theorem dX3_go_91 : decode cX3_go 91 = .ok (.iconst 1, 1) := by decide +kernel
theorem dX3_go_92 : decode cX3_go 92 = .ok (.putfield 7, 3) := by decide +kernel
theorem dX3_go_95 : decode cX3_go 95 = .ok (.goto 39, 3) := by decide +kernel
theorem dX3_go_98 : decode cX3_go 98 = .ok (.aload_n 0, 1) := by decide +kernel
theorem dX3_go_99 : decode cX3_go 99 = .ok (.getfield 38, 3) := by decide +kernel
theorem dX3_go_102 : decode cX3_go 102 = .ok (.iload_n 1, 1) := by decide +kernel
theorem dX3_go_103 : decode cX3_go 103 = .ok (.aload_n 0, 1) := by decide +kernel
theorem dX3_go_104 : decode cX3_go 104 = .ok (.getfield 26, 3) := by decide +kernel
theorem dX3_go_107 : decode cX3_go 107 = .ok (.iload_n 2, 1) := by decide +kernel
theorem dX3_go_108 : decode cX3_go 108 = .ok (.iaload, 1) := by decide +kernel
theorem dX3_go_109 : decode cX3_go 109 = .ok (.iconst 1, 1) := by decide +kernel
theorem dX3_go_110 : decode cX3_go 110 = .ok (.if_icmp .ne 13, 3) := by decide +kernel
theorem dX3_go_113 : decode cX3_go 113 = .ok (.aload_n 0, 1) := by decide +kernel
theorem dX3_go_114 : decode cX3_go 114 = .ok (.getfield 13, 3) := by decide +kernel
theorem dX3_go_117 : decode cX3_go 117 = .ok (.iload 4, 2) := by decide +kernel
theorem dX3_go_119 : decode cX3_go 119 = .ok (.iaload, 1) := by decide +kernel
theorem dX3_go_120 : decode cX3_go 120 = .ok (.goto 10, 3) := by decide +kernel
theorem dX3_go_123 : decode cX3_go 123 = .ok (.aload_n 0, 1) := by decide +kernel
theorem dX3_go_124 : decode cX3_go 124 = .ok (.getfield 26, 3) := by decide +kernel
theorem dX3_go_127 : decode cX3_go 127 = .ok (.iload 4, 2) := by decide +kernel
theorem dX3_go_129 : decode cX3_go 129 = .ok (.iaload, 1) := by decide +kernel
theorem dX3_go_130 : decode cX3_go 130 = .ok (.iastore, 1) := by decide +kernel
theorem dX3_go_131 : decode cX3_go 131 = .ok (.iinc 1 1, 3) := by decide +kernel
theorem dX3_go_134 : decode cX3_go 134 = .ok (.iinc 3 1, 3) := by decide +kernel
theorem dX3_go_137 : decode cX3_go 137 = .ok (.goto (-111), 3) := by decide +kernel
theorem dX3_go_140 : decode cX3_go 140 = .ok (.aload_n 0, 1) := by decide +kernel
theorem dX3_go_141 : decode cX3_go 141 = .ok (.iload_n 2, 1) := by decide +kernel
theorem dX3_go_142 : decode cX3_go 142 = .ok (.invokevirtual 59, 3) := by decide +kernel
theorem dX3_go_145 : decode cX3_go 145 = .ok (.istore_n 2, 1) := by decide +kernel
theorem dX3_go_146 : decode cX3_go 146 = .ok (.goto (-137), 3) := by decide +kernel
theorem dX3_go_149 : decode cX3_go 149 = .ok (.aload_n 0, 1) := by decide +kernel
theorem dX3_go_150 : decode cX3_go 150 = .ok (.getfield 7, 3) := by decide +kernel
theorem dX3_go_153 : decode cX3_go 153 = .ok (.ifCond .eq 5, 3) := by decide +kernel
theorem dX3_go_156 : decode cX3_go 156 = .ok (.iconst 0, 1) := by decide +kernel
theorem dX3_go_157 : decode cX3_go 157 = .ok (.ireturn, 1) := by decide +kernel
theorem dX3_go_158 : decode cX3_go 158 = .ok (.iconst 0, 1) := by decide +kernel
theorem dX3_go_159 : decode cX3_go 159 = .ok (.istore_n 2, 1) := by decide +kernel
theorem dX3_go_160 : decode cX3_go 160 = .ok (.iload_n 2, 1) := by decide +kernel
theorem dX3_go_161 : decode cX3_go 161 = .ok (.iload_n 1, 1) := by decide +kernel
theorem dX3_go_162 : decode cX3_go 162 = .ok (.if_icmp .ge 21, 3) := by decide +kernel
theorem dX3_go_165 : decode cX3_go 165 = .ok (.aload_n 0, 1) := by decide +kernel
theorem dX3_go_166 : decode cX3_go 166 = .ok (.getfield 32, 3) := by decide +kernel
theorem dX3_go_169 : decode cX3_go 169 = .ok (.iload_n 2, 1) := by decide +kernel
theorem dX3_go_170 : decode cX3_go 170 = .ok (.aload_n 0, 1) := by decide +kernel
theorem dX3_go_171 : decode cX3_go 171 = .ok (.getfield 38, 3) := by decide +kernel
theorem dX3_go_174 : decode cX3_go 174 = .ok (.iload_n 2, 1) := by decide +kernel
theorem dX3_go_175 : decode cX3_go 175 = .ok (.iaload, 1) := by decide +kernel
theorem dX3_go_176 : decode cX3_go 176 = .ok (.iastore, 1) := by decide +kernel
theorem dX3_go_177 : decode cX3_go 177 = .ok (.iinc 2 1, 3) := by decide +kernel
theorem dX3_go_180 : decode cX3_go 180 = .ok (.goto (-20), 3) := by decide +kernel
theorem dX3_go_183 : decode cX3_go 183 = .ok (.aload_n 0, 1) := by decide +kernel
theorem dX3_go_184 : decode cX3_go 184 = .ok (.iload_n 1, 1) := by decide +kernel
theorem dX3_go_185 : decode cX3_go 185 = .ok (.putfield 35, 3) := by decide +kernel
theorem dX3_go_188 : decode cX3_go 188 = .ok (.iload_n 1, 1) := by decide +kernel
theorem dX3_go_189 : decode cX3_go 189 = .ok (.ireturn, 1) := by decide +kernel
theorem dX3_result_0 : decode cX3_result 0 = .ok (.aload_n 0, 1) := by decide +kernel
theorem dX3_result_1 : decode cX3_result 1 = .ok (.iconst 0, 1) := by decide +kernel
theorem dX3_result_2 : decode cX3_result 2 = .ok (.putfield 7, 3) := by decide +kernel
theorem dX3_result_5 : decode cX3_result 5 = .ok (.iload_n 1, 1) := by decide +kernel
theorem dX3_result_6 : decode cX3_result 6 = .ok (.ifCond .lt 11, 3) := by decide +kernel
theorem dX3_result_9 : decode cX3_result 9 = .ok (.iload_n 1, 1) := by decide +kernel
theorem dX3_result_10 : decode cX3_result 10 = .ok (.aload_n 0, 1) := by decide +kernel
theorem dX3_result_11 : decode cX3_result 11 = .ok (.getfield 35, 3) := by decide +kernel
theorem dX3_result_14 : decode cX3_result 14 = .ok (.if_icmp .lt 7, 3) := by decide +kernel
theorem dX3_result_17 : decode cX3_result 17 = .ok (.iconst (-1), 1) := by decide +kernel
theorem dX3_result_18 : decode cX3_result 18 = .ok (.goto 9, 3) := by decide +kernel
theorem dX3_result_21 : decode cX3_result 21 = .ok (.aload_n 0, 1) := by decide +kernel
theorem dX3_result_22 : decode cX3_result 22 = .ok (.getfield 32, 3) := by decide +kernel
theorem dX3_result_25 : decode cX3_result 25 = .ok (.iload_n 1, 1) := by decide +kernel
theorem dX3_result_26 : decode cX3_result 26 = .ok (.iaload, 1) := by decide +kernel
theorem dX3_result_27 : decode cX3_result 27 = .ok (.ireturn, 1) := by decide +kernel
theorem dX3_count_0 : decode cX3_count 0 = .ok (.aload_n 0, 1) := by decide +kernel
theorem dX3_count_1 : decode cX3_count 1 = .ok (.iconst 0, 1) := by decide +kernel
theorem dX3_count_2 : decode cX3_count 2 = .ok (.putfield 7, 3) := by decide +kernel
theorem dX3_count_5 : decode cX3_count 5 = .ok (.iload_n 1, 1) := by decide +kernel
theorem dX3_count_6 : decode cX3_count 6 = .ok (.ifCond .ne 10, 3) := by decide +kernel
theorem dX3_count_9 : decode cX3_count 9 = .ok (.aload_n 0, 1) := by decide +kernel
theorem dX3_count_10 : decode cX3_count 10 = .ok (.getfield 17, 3) := by decide +kernel
theorem dX3_count_13 : decode cX3_count 13 = .ok (.goto 28, 3) := by decide +kernel
theorem dX3_count_16 : decode cX3_count 16 = .ok (.iload_n 1, 1) := by decide +kernel
theorem dX3_count_17 : decode cX3_count 17 = .ok (.iconst 1, 1) := by decide +kernel
theorem dX3_count_18 : decode cX3_count 18 = .ok (.if_icmp .ne 10, 3) := by decide +kernel
theorem dX3_count_21 : decode cX3_count 21 = .ok (.aload_n 0, 1) := by decide +kernel
theorem dX3_count_22 : decode cX3_count 22 = .ok (.getfield 23, 3) := by decide +kernel
theorem dX3_count_25 : decode cX3_count 25 = .ok (.goto 16, 3) := by decide +kernel
theorem dX3_count_28 : decode cX3_count 28 = .ok (.iload_n 1, 1) := by decide +kernel
theorem dX3_count_29 : decode cX3_count 29 = .ok (.iconst 2, 1) := by decide +kernel
theorem dX3_count_30 : decode cX3_count 30 = .ok (.if_icmp .ne 10, 3) := by decide +kernel
theorem dX3_count_33 : decode cX3_count 33 = .ok (.aload_n 0, 1) := by decide +kernel
theorem dX3_count_34 : decode cX3_count 34 = .ok (.getfield 35, 3) := by decide +kernel
theorem dX3_count_37 : decode cX3_count 37 = .ok (.goto 4, 3) := by decide +kernel
theorem dX3_count_40 : decode cX3_count 40 = .ok (.iconst (-1), 1) := by decide +kernel
theorem dX3_count_41 : decode cX3_count 41 = .ok (.ireturn, 1) := by decide +kernel
abbrev vwCl : List vw_C := [(RX0, TX0, 2), (RX1, TX1, 4), (RX2, TX2, 6), (RX3, TX3, 10)]
/-- the links across the nest, at a state -/
def nx_N (U : State) : Prop := va_Nw (.methodLinkNest RX2 9 yX0_init "PieceWays") U ∧ va_Nw (.methodLinkNest RX2 24 yX1_init "PieceWays") U
theorem nx_S {u U : State} (h : u.vm = U.vm) (q : nx_N u) : nx_N U := ⟨va_Nw.same rfl h q.1, va_Nw.same rfl h q.2⟩
theorem nx_W {s U : State} (hW : s.WarmedH U.vm) (q : nx_N s) : nx_N U := ⟨va_Nw.warmM hW q.1, va_Nw.warmM hW q.2⟩
end
section
/-! Contracts in three forms: rd_M (a method that reads only), wr_M (void, writes its world), wi_M (an int, writes its world); how a body gives one, how a call uses one. -/
section PWWRAP
variable {p : Program} {l : Launch} {e : Env} {R : Room} {s : State} {m : MethodId} {args : Array Value} {below : List Frame} {meth : Method} {c : Code} {H : Heap} {locs : List Loc} {cells slots : Nat} {Q : State → Prop}
variable {D : va_G} {cl : List vw_C} {tys : List (ClassId × FieldType)}
def rd_M (l : Launch) (y : MethodName) (wy : List Cond) (rm : Room) (D : va_G) (cl : List vw_C) (tys : List (ClassId × FieldType)) (av : List Value) (wc : va_W) (r : Int32) : Prop :=
  Met l y wy rm (va_Pc av (fun U => va_P D cl wc U.heap ∧ va_K D cl tys U ∧ nx_N U)) (QcRead r) 0 0 (fun _ => False)
def wr_M {S : Type} (l : Launch) (y : MethodName) (wy : List Cond) (rm : Room) (D : va_G) (cl : List vw_C) (tys : List (ClassId × FieldType)) (av : List Value) (wc : va_W) (mc ms : Nat) (post : S → Prop) (w1 : S → va_W) : Prop :=
  ∀ sz : Nat, Met l y wy rm (va_Pc av (fun U => U.heap.size = sz ∧ va_P D cl wc U.heap ∧ va_K D cl tys U ∧ nx_N U ∧ va_D (fun _ => True) wc)) (va_Qv post (fun u t => va_P D cl (w1 u) t.heap ∧ va_D (va_A wc sz) (w1 u)) (va_A wc sz)) mc ms (va_A wc sz)
def wi_M {S : Type} (l : Launch) (y : MethodName) (wy : List Cond) (rm : Room) (D : va_G) (cl : List vw_C) (tys : List (ClassId × FieldType)) (av : List Value) (wc : va_W) (mc ms : Nat) (post : Int32 → S → Prop) (w1 : S → va_W) : Prop :=
  ∀ sz : Nat, Met l y wy rm (va_Pc av (fun U => U.heap.size = sz ∧ va_P D cl wc U.heap ∧ va_K D cl tys U ∧ nx_N U ∧ va_D (fun _ => True) wc)) (va_Qi post (fun u t => va_P D cl (w1 u) t.heap ∧ va_D (va_A wc sz) (w1 u)) (va_A wc sz)) mc ms (va_A wc sz)
theorem rd_ofW {y : MethodName} {wy wy' : List Cond} {rm : Room} {cc : ByteArray} {maxL : Nat} {ret : Option FieldType} {av : List Value} {wc : va_W} {r : Int32}
    (hy : plainName y.cls = true) (hw : wy = Cond.code y cc maxL ret :: wy') (hlen : (lg_sl av).length ≤ maxL)
    (body : ∀ (p : Program) (e : Env) (s : State) (m : MethodId) (below : List Frame) (meth : Method) (c : Code) (ls : Array Slot), p.tables.exec = Jvm.exec → c.code = cc → meth.sig.returnType = ret → c.maxLocals = maxL → (∀ w ∈ wy, w.before av.toArray s = true) → s.vm.findClass y.cls = some m.cls → meth.locks = false → va_P D cl wc s.heap → va_K D cl tys s → nx_N s → lv_has ls maxL (lv_args 0 av) →
      W p l e rm s m av.toArray below meth c s.heap [] 0 0 (MQ below (QcRead r) av.toArray s 0 0 (fun _ => False)) (F0 m 0 ls [])) : rd_M l y wy rm D cl tys av wc r := by
  refine Met.ofW (cc := cc) (maxL := maxL) (ret := ret) hy hw ?_
  intro p e s m args below meth c s₁ B hml hv
  obtain ⟨rfl, hP, hK, hN⟩ := hv
  have hts := atoms_spec (ws := wy) B.pre
  rw [lg_entry_eq]
  exact body p e s m below meth c _ B.exec B.bytes B.returns hml hts (findClass_of_methodNamed B.named) B.notSynchronized hP hK hN (lv_entry av hlen)
theorem wr_ofW {S : Type} {y : MethodName} {wy wy' : List Cond} {rm : Room} {cc : ByteArray} {maxL : Nat} {ret : Option FieldType} {av : List Value} {wc : va_W} {mc ms : Nat} {post : S → Prop} {w1 : S → va_W}
    (hy : plainName y.cls = true) (hw : wy = Cond.code y cc maxL ret :: wy') (hlen : (lg_sl av).length ≤ maxL)
    (body : ∀ (p : Program) (e : Env) (s : State) (m : MethodId) (below : List Frame) (meth : Method) (c : Code) (ls : Array Slot) (A : Nat → Prop), p.tables.exec = Jvm.exec → c.code = cc → meth.sig.returnType = ret → c.maxLocals = maxL → (∀ w ∈ wy, w.before av.toArray s = true) → s.vm.findClass y.cls = some m.cls → meth.locks = false → meth.name = y.name → va_P D cl wc s.heap → va_K D cl tys s → nx_N s → va_D A wc → (∀ q : Nat, s.heap.size ≤ q → A q) → va_S A s.heap s.heap [] → lv_has ls maxL (lv_args 0 av) →
      W p l e rm s m av.toArray below meth c s.heap [] 0 0 (MQ below (va_Qv post (fun u t => va_P D cl (w1 u) t.heap ∧ va_D A (w1 u)) A) av.toArray s mc ms A) (F0 m 0 ls [])) : wr_M l y wy rm D cl tys av wc mc ms post w1 := by
  intro sz
  refine Met.ofW (cc := cc) (maxL := maxL) (ret := ret) hy hw ?_
  intro p e s m args below meth c s₁ B hml hv
  obtain ⟨rfl, hsz, hP, hK, hN, hD0⟩ := hv
  have hts := atoms_spec (ws := wy) B.pre
  subst hsz
  rw [lg_entry_eq]
  exact body p e s m below meth c _ (va_A wc s.heap.size) B.exec B.bytes B.returns hml hts (findClass_of_methodNamed B.named) B.notSynchronized (name_of_methodNamed B.named B.method).1 hP hK hN hD0.self (fun q h => Or.inr h) va_S.rf (lv_entry av hlen)
theorem wi_ofW {S : Type} {y : MethodName} {wy wy' : List Cond} {rm : Room} {cc : ByteArray} {maxL : Nat} {ret : Option FieldType} {av : List Value} {wc : va_W} {mc ms : Nat} {post : Int32 → S → Prop} {w1 : S → va_W}
    (hy : plainName y.cls = true) (hw : wy = Cond.code y cc maxL ret :: wy') (hlen : (lg_sl av).length ≤ maxL)
    (body : ∀ (p : Program) (e : Env) (s : State) (m : MethodId) (below : List Frame) (meth : Method) (c : Code) (ls : Array Slot) (A : Nat → Prop), p.tables.exec = Jvm.exec → c.code = cc → meth.sig.returnType = ret → c.maxLocals = maxL → (∀ w ∈ wy, w.before av.toArray s = true) → s.vm.findClass y.cls = some m.cls → meth.locks = false → meth.name = y.name → va_P D cl wc s.heap → va_K D cl tys s → nx_N s → va_D A wc → (∀ q : Nat, s.heap.size ≤ q → A q) → va_S A s.heap s.heap [] → lv_has ls maxL (lv_args 0 av) →
      W p l e rm s m av.toArray below meth c s.heap [] 0 0 (MQ below (va_Qi post (fun u t => va_P D cl (w1 u) t.heap ∧ va_D A (w1 u)) A) av.toArray s mc ms A) (F0 m 0 ls [])) : wi_M l y wy rm D cl tys av wc mc ms post w1 := by
  intro sz
  refine Met.ofW (cc := cc) (maxL := maxL) (ret := ret) hy hw ?_
  intro p e s m args below meth c s₁ B hml hv
  obtain ⟨rfl, hsz, hP, hK, hN, hD0⟩ := hv
  have hts := atoms_spec (ws := wy) B.pre
  subst hsz
  rw [lg_entry_eq]
  exact body p e s m below meth c _ (va_A wc s.heap.size) B.exec B.bytes B.returns hml hts (findClass_of_methodNamed B.named) B.notSynchronized (name_of_methodNamed B.named B.method).1 hP hK hN hD0.self (fun q h => Or.inr h) va_S.rf (lv_entry av hlen)
/-- ends -/
theorem rd_iret {cc : ByteArray} {r v : Int32} {pc : Nat} {ls : Array Slot} (hx : p.tables.exec = Jvm.exec) (hb : c.code = cc) (hr : meth.sig.returnType = some .int) (hlk : meth.locks = false) (hv : v = r) (hdg : decode cc pc = .ok (.ireturn, 1)) :
    W p l e R s m args below meth c s.heap [] cells slots (MQ below (QcRead r) args s cells slots (fun _ => False)) (F0 m pc ls [.int v]) := by
  subst hv
  exact W.iret hx hb hr (fun t ht _ => ⟨rfl, ht⟩) (fun q h => nomatch h) hdg hlk
theorem rd_zret {cc : ByteArray} {r v : Int32} {pc : Nat} {ls : Array Slot} (hx : p.tables.exec = Jvm.exec) (hb : c.code = cc) (hr : meth.sig.returnType = some .boolean) (hlk : meth.locks = false) (hv : v = r) (hn : narrow .boolean (.int v) = .int v) (hdg : decode cc pc = .ok (.ireturn, 1)) :
    W p l e R s m args below meth c s.heap [] cells slots (MQ below (QcRead r) args s cells slots (fun _ => False)) (F0 m pc ls [.int v]) := by
  subst hv
  exact W.zret hx hb hr hn (fun t ht _ => ⟨rfl, ht⟩) (fun q h => nomatch h) hdg hlk
theorem wr_vret {S : Type} {cc : ByteArray} {post : S → Prop} {w1 : S → va_W} {A : Nat → Prop} {pc : Nat} {ls : Array Slot} (hx : p.tables.exec = Jvm.exec) (hb : c.code = cc) (hr : meth.sig.returnType = none) (hlk : meth.locks = false) (u : S) (hu : post u) (hP : va_P D cl (w1 u) H) (hD : va_D A (w1 u)) (hS : va_S A s.heap H locs) (hdg : decode cc pc = .ok (.return_, 1)) :
    W p l e R s m args below meth c H locs cells slots (MQ below (va_Qv post (fun u t => va_P D cl (w1 u) t.heap ∧ va_D A (w1 u)) A) args s cells slots A) (F0 m pc ls []) :=
  W.vret hx hb hr (fun t ht _ => ⟨⟨u, rfl, hu, by rw [ht]; exact hP, hD⟩, hS.F ht⟩) hS.2.2 hdg hlk
theorem wi_iret {S : Type} {cc : ByteArray} {v : Int32} {post : Int32 → S → Prop} {w1 : S → va_W} {A : Nat → Prop} {pc : Nat} {ls : Array Slot} (hx : p.tables.exec = Jvm.exec) (hb : c.code = cc) (hr : meth.sig.returnType = some .int) (hlk : meth.locks = false) (u : S) (hu : post v u) (hP : va_P D cl (w1 u) H) (hD : va_D A (w1 u)) (hS : va_S A s.heap H locs) (hdg : decode cc pc = .ok (.ireturn, 1)) :
    W p l e R s m args below meth c H locs cells slots (MQ below (va_Qi post (fun u t => va_P D cl (w1 u) t.heap ∧ va_D A (w1 u)) A) args s cells slots A) (F0 m pc ls [.int v]) :=
  W.iret hx hb hr (fun t ht _ => ⟨⟨v, u, rfl, hu, by rw [ht]; exact hP, hD⟩, hS.F ht⟩) hS.2.2 hdg hlk
theorem wi_zret {S : Type} {cc : ByteArray} {v : Int32} {post : Int32 → S → Prop} {w1 : S → va_W} {A : Nat → Prop} {pc : Nat} {ls : Array Slot} (hx : p.tables.exec = Jvm.exec) (hb : c.code = cc) (hr : meth.sig.returnType = some .boolean) (hlk : meth.locks = false) (hn : narrow .boolean (.int v) = .int v) (u : S) (hu : post v u) (hP : va_P D cl (w1 u) H) (hD : va_D A (w1 u)) (hS : va_S A s.heap H locs) (hdg : decode cc pc = .ok (.ireturn, 1)) :
    W p l e R s m args below meth c H locs cells slots (MQ below (va_Qi post (fun u t => va_P D cl (w1 u) t.heap ∧ va_D A (w1 u)) A) args s cells slots A) (F0 m pc ls [.int v]) :=
  W.zret hx hb hr hn (fun t ht _ => ⟨⟨v, u, rfl, hu, by rw [ht]; exact hP, hD⟩, hS.F ht⟩) hS.2.2 hdg hlk
/-- calls -/
theorem rd_go {cc : ByteArray} {r : Int32} {a : Array Value} {rest st : List Value} {pc : Nat} {ls : Array Slot} (hr : va_Run p l e R s m args below meth c H locs cells slots 0 0 (F0 m pc ls st) rest (QcRead r a) (fun _ => False))
    (kk : W p l e R s m args below meth c H locs cells slots Q (F0 m (pc + 3) ls (.int r :: rest))) : W p l e R s m args below meth c H locs cells slots Q (F0 m pc ls st) := by
  intro T hT X
  obtain ⟨v, st₀, t, T', L, h0, X', hL, e1, e2, ⟨hv, hh⟩, st⟩ := hr T hT X
  cases hv
  obtain ⟨t2, a1, b1⟩ := kk T' (by rw [e1, hh, h0]) (Stand.forget X' (fun q h => (hL q h).elim))
  exact ⟨t2, st t2 a1, b1⟩
theorem rd_pre {av : List Value} {wc : va_W} (hK : va_K D cl tys s) (hN : nx_N s) (hP : va_P D cl wc H) : FrameBlind (va_Pc av (fun U => va_P D cl wc U.heap ∧ va_K D cl tys U ∧ nx_N U)) ∧ ∀ U : State, U.heap = H → s.WarmedH U.vm → va_Pc av (fun U => va_P D cl wc U.heap ∧ va_K D cl tys U ∧ nx_N U) av.toArray U := by
  refine ⟨?_, fun U hU hW9 => ⟨rfl, by rw [hU]; exact hP, va_K.moved hW9.alike hK, nx_W hW9 hN⟩⟩
  intro a U g mk q
  obtain ⟨q0, qP, qK, qN⟩ := q
  exact ⟨q0, qP, va_K.moved (u := U) (U := U.calling g mk a) (Vm.Alike.refl U.vm) qK, nx_S (u := U) (U := U.calling g mk a) rfl qN⟩
theorem wr_pre {av : List Value} {wc : va_W} (hK : va_K D cl tys s) (hN : nx_N s) (hP : va_P D cl wc H) {A : Nat → Prop} (hD : va_D A wc) : FrameBlind (va_Pc av (fun U => U.heap.size = H.size ∧ va_P D cl wc U.heap ∧ va_K D cl tys U ∧ nx_N U ∧ va_D (fun _ => True) wc)) ∧ ∀ U : State, U.heap = H → s.WarmedH U.vm → va_Pc av (fun U => U.heap.size = H.size ∧ va_P D cl wc U.heap ∧ va_K D cl tys U ∧ nx_N U ∧ va_D (fun _ => True) wc) av.toArray U := by
  refine ⟨?_, fun U hU hW9 => ⟨rfl, by rw [hU], by rw [hU]; exact hP, va_K.moved hW9.alike hK, nx_W hW9 hN, hD.weaken (fun _ _ _ _ => trivial)⟩⟩
  intro a U g mk q
  obtain ⟨q0, q1, qP, qK, qN, qD⟩ := q
  exact ⟨q0, q1, qP, va_K.moved (u := U) (U := U.calling g mk a) (Vm.Alike.refl U.vm) qK, nx_S (u := U) (U := U.calling g mk a) rfl qN, qD⟩
/-- a reading virtual call -/
theorem rd_V {y : MethodName} {wy Ts : List Cond} {rm : Room} {own C : String} {cc bytes : ByteArray} {nL maxL index n : Nat} {ret : Option FieldType} {wc : va_W} {r : Int32} {b : Nat} {As rest st : List Value} {pc : Nat} {ls : Array Slot} {q : vw_C} {fs : List Value} {ci : Nat}
    (S : CallFix p m c cc nL s args Ts own) (hM : rd_M l y wy rm D cl tys (.ref b :: As) wc r) (cw : CallW R s args own C index y bytes maxL ret wy rm 0 0 n)
    (hK : va_K D cl tys s) (hN : nx_N s) (hP : va_P D cl wc H) (q0 : Nat) (he : wc[q0]? = some (b, .inr (ci, fs))) (hc : cl[ci]? = some q) (hC : q.1 = C)
    (hn : As.length = n) (hsize : ls.size = nL) (hst : st = As.reverse ++ .ref b :: rest) (hW : (rest.map fun v => v.category).sum ≤ 8) (hdg : decode cc pc = .ok (.invokevirtual index, 3)) (hf : cells ≤ R.cells ∧ slots ≤ R.slots)
    (kk : W p l e R s m args below meth c H locs cells slots Q (F0 m (pc + 3) ls (.int r :: rest))) : W p l e R s m args below meth c H locs cells slots Q (F0 m pc ls st) := by
  subst hC
  have h := rd_pre (av := .ref b :: As) hK hN hP
  exact rd_go (cc := cc) (va_runV (g := F0 m pc ls st) S hM cw ⟨h.1, va_recv hK hP hc he, h.2⟩ rfl hn hsize hst (lv_room hW) hdg hf) kk
/-- a reading call of a private method (nest) -/
theorem rd_VN {y : MethodName} {wy Ts : List Cond} {rm : Room} {own C host : String} {cc bytes : ByteArray} {nL maxL index n : Nat} {ret : Option FieldType} {wc : va_W} {r : Int32} {b : Nat} {As rest st : List Value} {pc : Nat} {ls : Array Slot} {q : vw_C} {fs : List Value} {ci : Nat}
    (S : CallFix p m c cc nL s args Ts own) (hM : rd_M l y wy rm D cl tys (.ref b :: As) wc r) (cw : va_CN R s args own index y host bytes maxL ret wy rm 0 0 n ∧ (Cond.instanceMethod y).before args s = true ∧ (Cond.selects C y y).before args s = true)
    (hK : va_K D cl tys s) (hN : nx_N s) (hP : va_P D cl wc H) (q0 : Nat) (he : wc[q0]? = some (b, .inr (ci, fs))) (hc : cl[ci]? = some q) (hC : q.1 = C)
    (hn : As.length = n) (hsize : ls.size = nL) (hst : st = As.reverse ++ .ref b :: rest) (hW : (rest.map fun v => v.category).sum ≤ 8) (hdg : decode cc pc = .ok (.invokevirtual index, 3)) (hf : cells ≤ R.cells ∧ slots ≤ R.slots)
    (kk : W p l e R s m args below meth c H locs cells slots Q (F0 m (pc + 3) ls (.int r :: rest))) : W p l e R s m args below meth c H locs cells slots Q (F0 m pc ls st) := by
  subst hC
  have h := rd_pre (av := .ref b :: As) hK hN hP
  exact rd_go (cc := cc) (va_runVN (g := F0 m pc ls st) S hM cw ⟨h.1, va_recv hK hP hc he, h.2⟩ rfl hn hsize hst (lv_room hW) hdg hf) kk
/-- behind a writing void call -/
theorem wr_go {S : Type} {cc : ByteArray} {post : S → Prop} {w1 : S → va_W} {a : Array Value} {rest st : List Value} {pc : Nat} {ls : Array Slot} {A : Nat → Prop} {H0 : Heap} {ws wc wr : va_W} {mc ms : Nat} (hr : va_Run p l e R s m args below meth c H locs cells slots mc ms (F0 m pc ls st) rest (va_Qv post (fun u t => va_P D cl (w1 u) t.heap ∧ va_D (va_A wc H.size) (w1 u)) (va_A wc H.size) a) (va_A wc H.size))
    (hP : va_P D cl ws H) (hD : va_D A ws) (hS : va_S A H0 H locs) (hA : ∀ q : Nat, H0.size ≤ q → A q) (isC isR : List Nat) (hC : isC.map (fun i => ws[i]?) = wc.map some) (hR : isR.map (fun i => ws[i]?) = wr.map some) (hn : va_nd isR = true) (hdis : ∀ i ∈ isR, i ∉ isC)
    (kk : ∀ (u : S) (H1 : Heap) (locs1 : List Loc), post u → va_P D cl (wr ++ w1 u) H1 → va_D A (wr ++ w1 u) → va_S A H0 H1 locs1 → W p l e R s m args below meth c H1 locs1 (cells + mc) (slots + ms) Q (F0 m (pc + 3) ls rest)) : W p l e R s m args below meth c H locs cells slots Q (F0 m pc ls st) := by
  have hFc := va_free (wc := wc) hD hS hA isC hC
  refine va_callv hr hS (fun q _ h => hFc q h) hFc (fun u t H1 locs1 ht hvm hw hB hz1 hk1 hS1 => ?_)
  obtain ⟨hP1, hD1⟩ := hB
  rw [ht] at hP1
  obtain ⟨hP2, hD2⟩ := va_join (wr := wr) (w1 := w1 u) hP hD isC isR hC hR hn hdis hk1 hFc hP1 hD1
  exact kk u H1 locs1 hw hP2 hD2 hS1
theorem wi_go {S : Type} {cc : ByteArray} {post : Int32 → S → Prop} {w1 : S → va_W} {a : Array Value} {rest st : List Value} {pc : Nat} {ls : Array Slot} {A : Nat → Prop} {H0 : Heap} {ws wc wr : va_W} {mc ms : Nat} (hr : va_Run p l e R s m args below meth c H locs cells slots mc ms (F0 m pc ls st) rest (va_Qi post (fun u t => va_P D cl (w1 u) t.heap ∧ va_D (va_A wc H.size) (w1 u)) (va_A wc H.size) a) (va_A wc H.size))
    (hP : va_P D cl ws H) (hD : va_D A ws) (hS : va_S A H0 H locs) (hA : ∀ q : Nat, H0.size ≤ q → A q) (isC isR : List Nat) (hC : isC.map (fun i => ws[i]?) = wc.map some) (hR : isR.map (fun i => ws[i]?) = wr.map some) (hn : va_nd isR = true) (hdis : ∀ i ∈ isR, i ∉ isC)
    (kk : ∀ (r : Int32) (u : S) (H1 : Heap) (locs1 : List Loc), post r u → va_P D cl (wr ++ w1 u) H1 → va_D A (wr ++ w1 u) → va_S A H0 H1 locs1 → W p l e R s m args below meth c H1 locs1 (cells + mc) (slots + ms) Q (F0 m (pc + 3) ls (.int r :: rest))) : W p l e R s m args below meth c H locs cells slots Q (F0 m pc ls st) := by
  have hFc := va_free (wc := wc) hD hS hA isC hC
  refine va_calli hr hS (fun q _ h => hFc q h) hFc (fun r u t H1 locs1 ht hvm hw hB hz1 hk1 hS1 => ?_)
  obtain ⟨hP1, hD1⟩ := hB
  rw [ht] at hP1
  obtain ⟨hP2, hD2⟩ := va_join (wr := wr) (w1 := w1 u) hP hD isC isR hC hR hn hdis hk1 hFc hP1 hD1
  exact kk r u H1 locs1 hw hP2 hD2 hS1
/-- the callee's cells out of the caller's -/
theorem sb_P {ws wc : va_W} (hP : va_P D cl ws H) (isC : List Nat) (hC : isC.map (fun i => ws[i]?) = wc.map some) : va_P D cl wc H := by
  refine hP.sub isC ?_
  have h : ∀ (a : List Nat) (b : va_W), a.map (fun i => ws[i]?) = b.map some → a.filterMap (fun i => ws[i]?) = b := by
    intro a
    induction a with
    | nil => intro b h; cases b with
      | nil => rfl
      | cons x t => simp at h
    | cons i a ih => intro b h; cases b with
      | nil => simp at h
      | cons x t =>
        simp only [List.map_cons, List.cons.injEq] at h
        rw [List.filterMap_cons, h.1]
        simp only [ih t h.2]
  exact h isC wc hC
theorem wr_V {S : Type} {y : MethodName} {wy Ts : List Cond} {rm : Room} {own C : String} {cc bytes : ByteArray} {nL maxL index n mc ms : Nat} {ret : Option FieldType} {wc wr ws : va_W} {post : S → Prop} {w1 : S → va_W} {b : Nat} {As rest st : List Value} {pc : Nat} {ls : Array Slot} {q : vw_C} {fs : List Value} {ci : Nat} {A : Nat → Prop} {H0 : Heap}
    (K : CallFix p m c cc nL s args Ts own) (hM : wr_M l y wy rm D cl tys (.ref b :: As) wc mc ms post w1) (cw : CallW R s args own C index y bytes maxL ret wy rm mc ms n)
    (hK : va_K D cl tys s) (hN : nx_N s) (hP : va_P D cl ws H) (hD : va_D A ws) (hS : va_S A H0 H locs) (hA : ∀ q : Nat, H0.size ≤ q → A q) (isC isR : List Nat) (hC : isC.map (fun i => ws[i]?) = wc.map some) (hR : isR.map (fun i => ws[i]?) = wr.map some) (hnC : va_nd isC = true) (hnd : va_nd isR = true) (hdis : ∀ i ∈ isR, i ∉ isC)
    (q0 : Nat) (he : wc[q0]? = some (b, .inr (ci, fs))) (hc : cl[ci]? = some q) (hC1 : q.1 = C)
    (hn : As.length = n) (hsize : ls.size = nL) (hst : st = As.reverse ++ .ref b :: rest) (hW : (rest.map fun v => v.category).sum ≤ 8) (hdg : decode cc pc = .ok (.invokevirtual index, 3)) (hf : cells + mc ≤ R.cells ∧ slots + ms ≤ R.slots)
    (kk : ∀ (u : S) (H1 : Heap) (locs1 : List Loc), post u → va_P D cl (wr ++ w1 u) H1 → va_D A (wr ++ w1 u) → va_S A H0 H1 locs1 → W p l e R s m args below meth c H1 locs1 (cells + mc) (slots + ms) Q (F0 m (pc + 3) ls rest)) : W p l e R s m args below meth c H locs cells slots Q (F0 m pc ls st) := by
  subst hC1
  have hPc := sb_P hP isC hC
  have hDc := hD.sub isC hnC hC
  have h := wr_pre (av := .ref b :: As) hK hN hPc hDc
  exact wr_go (cc := cc) (va_runV (g := F0 m pc ls st) K (hM H.size) cw ⟨h.1, va_recv hK hPc hc he, h.2⟩ rfl hn hsize hst (lv_room hW) hdg hf) hP hD hS hA isC isR hC hR hnd hdis kk
theorem wr_VN {S : Type} {y : MethodName} {wy Ts : List Cond} {rm : Room} {own C host : String} {cc bytes : ByteArray} {nL maxL index n mc ms : Nat} {ret : Option FieldType} {wc wr ws : va_W} {post : S → Prop} {w1 : S → va_W} {b : Nat} {As rest st : List Value} {pc : Nat} {ls : Array Slot} {q : vw_C} {fs : List Value} {ci : Nat} {A : Nat → Prop} {H0 : Heap}
    (K : CallFix p m c cc nL s args Ts own) (hM : wr_M l y wy rm D cl tys (.ref b :: As) wc mc ms post w1) (cw : va_CN R s args own index y host bytes maxL ret wy rm mc ms n ∧ (Cond.instanceMethod y).before args s = true ∧ (Cond.selects C y y).before args s = true)
    (hK : va_K D cl tys s) (hN : nx_N s) (hP : va_P D cl ws H) (hD : va_D A ws) (hS : va_S A H0 H locs) (hA : ∀ q : Nat, H0.size ≤ q → A q) (isC isR : List Nat) (hC : isC.map (fun i => ws[i]?) = wc.map some) (hR : isR.map (fun i => ws[i]?) = wr.map some) (hnC : va_nd isC = true) (hnd : va_nd isR = true) (hdis : ∀ i ∈ isR, i ∉ isC)
    (q0 : Nat) (he : wc[q0]? = some (b, .inr (ci, fs))) (hc : cl[ci]? = some q) (hC1 : q.1 = C)
    (hn : As.length = n) (hsize : ls.size = nL) (hst : st = As.reverse ++ .ref b :: rest) (hW : (rest.map fun v => v.category).sum ≤ 8) (hdg : decode cc pc = .ok (.invokevirtual index, 3)) (hf : cells + mc ≤ R.cells ∧ slots + ms ≤ R.slots)
    (kk : ∀ (u : S) (H1 : Heap) (locs1 : List Loc), post u → va_P D cl (wr ++ w1 u) H1 → va_D A (wr ++ w1 u) → va_S A H0 H1 locs1 → W p l e R s m args below meth c H1 locs1 (cells + mc) (slots + ms) Q (F0 m (pc + 3) ls rest)) : W p l e R s m args below meth c H locs cells slots Q (F0 m pc ls st) := by
  subst hC1
  have hPc := sb_P hP isC hC
  have hDc := hD.sub isC hnC hC
  have h := wr_pre (av := .ref b :: As) hK hN hPc hDc
  exact wr_go (cc := cc) (va_runVN (g := F0 m pc ls st) K (hM H.size) cw ⟨h.1, va_recv hK hPc hc he, h.2⟩ rfl hn hsize hst (lv_room hW) hdg hf) hP hD hS hA isC isR hC hR hnd hdis kk
theorem wi_V {S : Type} {y : MethodName} {wy Ts : List Cond} {rm : Room} {own C : String} {cc bytes : ByteArray} {nL maxL index n mc ms : Nat} {ret : Option FieldType} {wc wr ws : va_W} {post : Int32 → S → Prop} {w1 : S → va_W} {b : Nat} {As rest st : List Value} {pc : Nat} {ls : Array Slot} {q : vw_C} {fs : List Value} {ci : Nat} {A : Nat → Prop} {H0 : Heap}
    (K : CallFix p m c cc nL s args Ts own) (hM : wi_M l y wy rm D cl tys (.ref b :: As) wc mc ms post w1) (cw : CallW R s args own C index y bytes maxL ret wy rm mc ms n)
    (hK : va_K D cl tys s) (hN : nx_N s) (hP : va_P D cl ws H) (hD : va_D A ws) (hS : va_S A H0 H locs) (hA : ∀ q : Nat, H0.size ≤ q → A q) (isC isR : List Nat) (hC : isC.map (fun i => ws[i]?) = wc.map some) (hR : isR.map (fun i => ws[i]?) = wr.map some) (hnC : va_nd isC = true) (hnd : va_nd isR = true) (hdis : ∀ i ∈ isR, i ∉ isC)
    (q0 : Nat) (he : wc[q0]? = some (b, .inr (ci, fs))) (hc : cl[ci]? = some q) (hC1 : q.1 = C)
    (hn : As.length = n) (hsize : ls.size = nL) (hst : st = As.reverse ++ .ref b :: rest) (hW : (rest.map fun v => v.category).sum ≤ 8) (hdg : decode cc pc = .ok (.invokevirtual index, 3)) (hf : cells + mc ≤ R.cells ∧ slots + ms ≤ R.slots)
    (kk : ∀ (r : Int32) (u : S) (H1 : Heap) (locs1 : List Loc), post r u → va_P D cl (wr ++ w1 u) H1 → va_D A (wr ++ w1 u) → va_S A H0 H1 locs1 → W p l e R s m args below meth c H1 locs1 (cells + mc) (slots + ms) Q (F0 m (pc + 3) ls (.int r :: rest))) : W p l e R s m args below meth c H locs cells slots Q (F0 m pc ls st) := by
  subst hC1
  have hPc := sb_P hP isC hC
  have hDc := hD.sub isC hnC hC
  have h := wr_pre (av := .ref b :: As) hK hN hPc hDc
  exact wi_go (cc := cc) (va_runV (g := F0 m pc ls st) K (hM H.size) cw ⟨h.1, va_recv hK hPc hc he, h.2⟩ rfl hn hsize hst (lv_room hW) hdg hf) hP hD hS hA isC isR hC hR hnd hdis kk
/-- a constructor: private of a nest mate, or plain -/
theorem wr_IN {S : Type} {y : MethodName} {wy Ts : List Cond} {rm : Room} {own host : String} {cc bytes : ByteArray} {nL maxL index n mc ms : Nat} {wc wr ws : va_W} {post : S → Prop} {w1 : S → va_W} {b : Nat} {As rest st : List Value} {pc : Nat} {ls : Array Slot} {A : Nat → Prop} {H0 : Heap}
    (K : CallFix p m c cc nL s args Ts own) (hM : wr_M l y wy rm D cl tys (.ref b :: As) wc mc ms post w1) (cw : va_CN R s args own index y host bytes maxL none wy rm mc ms n ∧ y.name = "<init>" ∧ (Cond.instanceMethod y).before args s = true)
    (hK : va_K D cl tys s) (hN : nx_N s) (hP : va_P D cl ws H) (hD : va_D A ws) (hS : va_S A H0 H locs) (hA : ∀ q : Nat, H0.size ≤ q → A q) (isC isR : List Nat) (hC : isC.map (fun i => ws[i]?) = wc.map some) (hR : isR.map (fun i => ws[i]?) = wr.map some) (hnC : va_nd isC = true) (hnd : va_nd isR = true) (hdis : ∀ i ∈ isR, i ∉ isC)
    (hn : As.length = n) (hsize : ls.size = nL) (hst : st = As.reverse ++ .ref b :: rest) (hW : (rest.map fun v => v.category).sum ≤ 8) (hdg : decode cc pc = .ok (.invokespecial index, 3)) (hf : cells + mc ≤ R.cells ∧ slots + ms ≤ R.slots)
    (kk : ∀ (u : S) (H1 : Heap) (locs1 : List Loc), post u → va_P D cl (wr ++ w1 u) H1 → va_D A (wr ++ w1 u) → va_S A H0 H1 locs1 → W p l e R s m args below meth c H1 locs1 (cells + mc) (slots + ms) Q (F0 m (pc + 3) ls rest)) : W p l e R s m args below meth c H locs cells slots Q (F0 m pc ls st) := by
  have hPc := sb_P hP isC hC
  have hDc := hD.sub isC hnC hC
  have h := wr_pre (av := .ref b :: As) hK hN hPc hDc
  exact wr_go (cc := cc) (va_runIN (g := F0 m pc ls st) K (hM H.size) cw h rfl hn hsize hst (lv_room hW) hdg hf) hP hD hS hA isC isR hC hR hnd hdis kk
theorem wr_I {S : Type} {y : MethodName} {wy Ts : List Cond} {rm : Room} {own : String} {cc bytes : ByteArray} {nL maxL index n mc ms : Nat} {wc wr ws : va_W} {post : S → Prop} {w1 : S → va_W} {b : Nat} {As rest st : List Value} {pc : Nat} {ls : Array Slot} {A : Nat → Prop} {H0 : Heap}
    (K : CallFix p m c cc nL s args Ts own) (hM : wr_M l y wy rm D cl tys (.ref b :: As) wc mc ms post w1) (cw : CallB R s args own index y bytes maxL none wy rm mc ms n ∧ y.name = "<init>" ∧ (Cond.instanceMethod y).before args s = true)
    (hK : va_K D cl tys s) (hN : nx_N s) (hP : va_P D cl ws H) (hD : va_D A ws) (hS : va_S A H0 H locs) (hA : ∀ q : Nat, H0.size ≤ q → A q) (isC isR : List Nat) (hC : isC.map (fun i => ws[i]?) = wc.map some) (hR : isR.map (fun i => ws[i]?) = wr.map some) (hnC : va_nd isC = true) (hnd : va_nd isR = true) (hdis : ∀ i ∈ isR, i ∉ isC)
    (hn : As.length = n) (hsize : ls.size = nL) (hst : st = As.reverse ++ .ref b :: rest) (hW : (rest.map fun v => v.category).sum ≤ 8) (hdg : decode cc pc = .ok (.invokespecial index, 3)) (hf : cells + mc ≤ R.cells ∧ slots + ms ≤ R.slots)
    (kk : ∀ (u : S) (H1 : Heap) (locs1 : List Loc), post u → va_P D cl (wr ++ w1 u) H1 → va_D A (wr ++ w1 u) → va_S A H0 H1 locs1 → W p l e R s m args below meth c H1 locs1 (cells + mc) (slots + ms) Q (F0 m (pc + 3) ls rest)) : W p l e R s m args below meth c H locs cells slots Q (F0 m pc ls st) := by
  have hPc := sb_P hP isC hC
  have hDc := hD.sub isC hnC hC
  have h := wr_pre (av := .ref b :: As) hK hN hPc hDc
  exact wr_go (cc := cc) (va_runI (g := F0 m pc ls st) K (hM H.size) cw h rfl hn hsize hst (lv_room hW) hdg hf) hP hD hS hA isC isR hC hR hnd hdis kk
/-- array classes that the tables know -/
theorem ak_of {ty : FieldType} (h : (Cond.arrayClass ty).before args s = true) : ∃ cA : ClassId, ArrOfT s cA ty ∧ s.vm.findClass ("[" ++ ty.toString) = some cA := by
  obtain ⟨cA, kA, comp, h1, h2, h3⟩ := Cond.arrayClass_spec h
  exact ⟨cA, fun n z => ⟨fun k hk => by simp [arrV] at hk, kA, h2, comp, h3⟩, h1⟩
/-- newarray of a class that is known by its place in tys -/
theorem na_new {cc : ByteArray} {pc : Nat} {ls : Array Slot} {rest : List Value} {A : Nat → Prop} {H0 : Heap} {ws : va_W} (hexec : p.tables.exec = Jvm.exec) (hb : c.code = cc) {atype : ArrayType} (harr : (Cond.arrayClass (newarray.typeOf atype)).before args s = true) {ty : FieldType} (hty : newarray.typeOf atype = ty) (hK : va_K D cl tys s) (hP : va_P D cl ws H) (hD : va_D A ws) (hS : va_S A H0 H locs) (hA : ∀ q, H0.size ≤ q → A q)
    (t0 : Nat) {cB : ClassId} (ht : tys[t0]? = some (cB, ty)) {nm : String} (hnm : ∀ x : ClassId, va_RA s x ty → s.vm.findClass nm = some x)
    {n : Int32} {N' : Nat} {a0 : vp_A} (ha : ∀ cA : ClassId, vp_cell cA a0 = arrV cA N' (fun _ => defaultValue ty)) (hn : ¬ n < 0) (hN : n.toNatClampNeg = N') (hbytes : N' * componentBytes ty ≤ 536870912) (hcells : cells + 1 ≤ R.cells) (hslots : slots + N' ≤ R.slots) (hdg : decode cc pc = .ok (.newarray atype, 2))
    (kk : ∀ (q : Nat) (H1 : Heap), va_P D cl (ws ++ [(q, .inl (cB, a0))]) H1 → va_D A (ws ++ [(q, .inl (cB, a0))]) → va_S A H0 H1 locs →
      W p l e R s m args below meth c H1 locs (cells + 1) (slots + N') Q (F0 m (pc + 2) ls (.ref q :: rest))) : W p l e R s m args below meth c H locs cells slots Q (F0 m pc ls (.int n :: rest)) := by
  refine va_newa hexec hb harr hty hK hP hD hS hA ha hn hN hbytes hcells hslots hdg (fun q cA H1 hK1 hP1 hD1 hS1 => ?_)
  have h1 := hnm _ (hK.2 t0 _ ht).2
  have h2 := hnm _ (hK1.2 tys.length (cA, ty) (by simp)).2
  have h3 : cA = cB := Option.some.inj (h2.symm.trans h1)
  subst h3
  exact kk q H1 hP1 hD1 hS1
end PWWRAP
end
section
/-! Pure words: bytes that an array holds, pieces that three arrays hold, likeness of bytes, the longest block, the pieces of a way, its row. (bp_b began as a row of kit/laws/BITS.to-paste.) -/
theorem bp_b (x : Int32) : x.toInt8.toInt32 &&& 255 = x &&& 255 := by
  apply Int32.toBitVec_inj.mp
  rw [Int32.toBitVec_and, Int32.toBitVec_and, Int8.toBitVec_toInt32, Int32.toBitVec_toInt8]
  apply BitVec.eq_of_getLsbD_eq
  intro i hi
  rw [BitVec.getLsbD_and, BitVec.getLsbD_and]
  have hm : ∀ i < 32, 8 ≤ i → (255 : Int32).toBitVec.getLsbD i = false := by decide
  rcases Nat.lt_or_ge i 8 with z | z
  · rw [BitVec.getLsbD_signExtend, BitVec.getLsbD_signExtend, if_pos z, if_pos hi]
    simp only [z, hi, decide_true, Bool.true_and]
  · rw [hm i hi z]; simp
/-- the array f holds the bytes L (0 .. 255) -/
def by_k (f : Nat → Int32) (L : List Int32) : Prop := ∀ (j : Nat) (x : Int32), L[j]? = some x → f j &&& 255 = x
theorem by_nil (f : Nat → Int32) : by_k f [] := fun j x h => by simp at h
theorem by_add {f : Nat → Int32} {L : List Int32} (h : by_k f L) (b : Int32) : by_k (upd f L.length (vp_nar .byte b.toInt8.toInt32)) (L ++ [b &&& 255]) := by
  intro j x hj
  rcases Nat.lt_or_ge j L.length with hl | hl
  · rw [List.getElem?_append_left hl] at hj
    rw [pk_un (by omega)]
    exact h j x hj
  · have h1 := (List.getElem?_eq_some_iff.mp hj).1
    simp only [List.length_append, List.length_cons, List.length_nil] at h1
    have h2 : j = L.length := by omega
    subst h2
    rw [List.getElem?_append_right (Nat.le_refl _), Nat.sub_self] at hj
    simp only [List.getElem?_cons_zero, Option.some.injEq] at hj
    rw [pk_us, pk_vb, bp_b]
    exact hj
def at_L (L : List Int32) (i : Int32) : Int32 := if i < 0 then -1 else (L[i.toNatClampNeg]?).getD (-1)
theorem at_neg {L : List Int32} {x : Int32} (h : x < 0) : at_L L x = -1 := by simp [at_L, h]
theorem at_hi {L : List Int32} {x : Int32} (hn : L.length < 2 ^ 31) (h0 : ¬ x < 0) (h : nI L.length ≤ x) : at_L L x = -1 := by
  obtain ⟨j, hj, rfl⟩ := nI_of h0
  have h1 : L.length ≤ j := (nI_leI hn hj).mp h
  unfold at_L
  rw [if_neg h0, nI_clamp hj, List.getElem?_eq_none h1]
  rfl
theorem at_in {L : List Int32} {j : Nat} {y : Int32} (h : L[j]? = some y) (hj : j < 2 ^ 31) : at_L L (nI j) = y := by
  unfold at_L
  rw [if_neg (nI_pos hj), nI_clamp hj, h]
  rfl
/-- three arrays hold the pieces P (kind, begin, length) -/
def pc_k (f0 f1 f2 : Nat → Int32) (P : List (Nat × Nat × Nat)) : Prop := ∀ (j : Nat) (t : Nat × Nat × Nat), P[j]? = some t → f0 j = nI t.1 ∧ f1 j = nI t.2.1 ∧ f2 j = nI t.2.2
theorem pc_nil (f0 f1 f2 : Nat → Int32) : pc_k f0 f1 f2 [] := fun j x h => by simp at h
theorem pc_add {f0 f1 f2 : Nat → Int32} {P : List (Nat × Nat × Nat)} (h : pc_k f0 f1 f2 P) (k b n : Nat) : pc_k (upd f0 P.length (nI k)) (upd f1 P.length (nI b)) (upd f2 P.length (nI n)) (P ++ [(k, b, n)]) := by
  intro j x hj
  rcases Nat.lt_or_ge j P.length with hl | hl
  · rw [List.getElem?_append_left hl] at hj
    rw [pk_un (by omega), pk_un (by omega), pk_un (by omega)]
    exact h j x hj
  · have h1 := (List.getElem?_eq_some_iff.mp hj).1
    simp only [List.length_append, List.length_cons, List.length_nil] at h1
    have h2 : j = P.length := by omega
    subst h2
    rw [List.getElem?_append_right (Nat.le_refl _), Nat.sub_self] at hj
    simp only [List.getElem?_cons_zero, Option.some.injEq] at hj
    subst hj
    exact ⟨pk_us, pk_us, pk_us⟩
/-- the last piece grows by one -/
theorem pc_grow {f0 f1 f2 : Nat → Int32} {P : List (Nat × Nat × Nat)} {t : Nat × Nat × Nat} (h : pc_k f0 f1 f2 (P ++ [t])) : pc_k f0 f1 (upd f2 P.length (f2 P.length + 1)) (P ++ [(t.1, t.2.1, t.2.2 + 1)]) := by
  intro j x hj
  rcases Nat.lt_or_ge j P.length with hl | hl
  · rw [List.getElem?_append_left hl] at hj
    rw [pk_un (by omega)]
    exact h j x (by rw [List.getElem?_append_left hl]; exact hj)
  · have h1 := (List.getElem?_eq_some_iff.mp hj).1
    simp only [List.length_append, List.length_cons, List.length_nil] at h1
    have h2 : j = P.length := by omega
    subst h2
    rw [List.getElem?_append_right (Nat.le_refl _), Nat.sub_self] at hj
    simp only [List.getElem?_cons_zero, Option.some.injEq] at hj
    subst hj
    have h3 := h P.length t (by rw [List.getElem?_append_right (Nat.le_refl _), Nat.sub_self]; rfl)
    refine ⟨h3.1, h3.2.1, ?_⟩
    rw [pk_us, h3.2.2]
    exact nI_1 _
def ps_L (g : Nat × Nat × Nat → Nat) (P : List (Nat × Nat × Nat)) (i : Int32) : Int32 := if i < 0 then -1 else ((P[i.toNatClampNeg]?).map (fun t => nI (g t))).getD (-1)
theorem ps_neg {g : Nat × Nat × Nat → Nat} {P : List (Nat × Nat × Nat)} {x : Int32} (h : x < 0) : ps_L g P x = -1 := by simp [ps_L, h]
theorem ps_hi {g : Nat × Nat × Nat → Nat} {P : List (Nat × Nat × Nat)} {x : Int32} (hn : P.length < 2 ^ 31) (h0 : ¬ x < 0) (h : nI P.length ≤ x) : ps_L g P x = -1 := by
  obtain ⟨j, hj, rfl⟩ := nI_of h0
  have h1 : P.length ≤ j := (nI_leI hn hj).mp h
  unfold ps_L
  rw [if_neg h0, nI_clamp hj, List.getElem?_eq_none h1]
  rfl
theorem ps_in {g : Nat × Nat × Nat → Nat} {P : List (Nat × Nat × Nat)} {j : Nat} {t : Nat × Nat × Nat} (h : P[j]? = some t) (hj : j < 2 ^ 31) : ps_L g P (nI j) = nI (g t) := by
  unfold ps_L
  rw [if_neg (nI_pos hj), nI_clamp hj, h]
  rfl
/-- is there a piece i -/
def th_P (P : List (Nat × Nat × Nat)) (i : Int32) : Int32 := if i < 0 then 0 else if i.toNatClampNeg < P.length then 1 else 0
theorem th_neg {P : List (Nat × Nat × Nat)} {x : Int32} (h : x < 0) : th_P P x = 0 := by simp [th_P, h]
theorem th_hi {P : List (Nat × Nat × Nat)} {x : Int32} (hn : P.length < 2 ^ 31) (h0 : ¬ x < 0) (h : nI P.length ≤ x) : th_P P x = 0 := by
  obtain ⟨j, hj, rfl⟩ := nI_of h0
  have h1 : P.length ≤ j := (nI_leI hn hj).mp h
  unfold th_P
  rw [if_neg h0, nI_clamp hj, if_neg (by omega)]
theorem th_in {P : List (Nat × Nat × Nat)} {j : Nat} (h : j < P.length) (hj : j < 2 ^ 31) : th_P P (nI j) = 1 := by
  unfold th_P
  rw [if_neg (nI_pos hj), nI_clamp hj, if_pos h]
/-- how many bytes two rows have alike from their beginnings on -/
def lc_p : List Int32 → List Int32 → Nat
  | x :: xs, y :: ys => if x = y then lc_p xs ys + 1 else 0
  | _, _ => 0
theorem lc_nil (b : List Int32) : lc_p [] b = 0 := by cases b <;> rfl
theorem lc_nil2 (a : List Int32) : lc_p a [] = 0 := by cases a <;> rfl
theorem lc_le : ∀ (a b : List Int32), lc_p a b ≤ a.length ∧ lc_p a b ≤ b.length := by
  intro a
  induction a with
  | nil => intro b; rw [lc_nil]; exact ⟨Nat.zero_le _, Nat.zero_le _⟩
  | cons x xs ih =>
    intro b
    cases b with
    | nil => rw [lc_nil2]; exact ⟨Nat.zero_le _, Nat.zero_le _⟩
    | cons y ys =>
      have h := ih ys
      unfold lc_p
      split
      · simp only [List.length_cons]; omega
      · exact ⟨Nat.zero_le _, Nat.zero_le _⟩
theorem lc_step {B T : List Int32} {j k : Nat} {x : Int32} (hj : B[j]? = some x) (hk : T[k]? = some x) : lc_p (B.drop j) (T.drop k) = lc_p (B.drop (j + 1)) (T.drop (k + 1)) + 1 := by
  obtain ⟨h1, e1⟩ := List.getElem?_eq_some_iff.mp hj
  obtain ⟨h2, e2⟩ := List.getElem?_eq_some_iff.mp hk
  rw [List.drop_eq_getElem_cons h1, List.drop_eq_getElem_cons h2, e1, e2]
  conv => lhs; unfold lc_p
  rw [if_pos rfl]
theorem lc_stop {B T : List Int32} {j k : Nat} {x y : Int32} (hj : B[j]? = some x) (hk : T[k]? = some y) (hn : ¬ x = y) : lc_p (B.drop j) (T.drop k) = 0 := by
  obtain ⟨h1, e1⟩ := List.getElem?_eq_some_iff.mp hj
  obtain ⟨h2, e2⟩ := List.getElem?_eq_some_iff.mp hk
  rw [List.drop_eq_getElem_cons h1, List.drop_eq_getElem_cons h2, e1, e2]
  unfold lc_p
  rw [if_neg hn]
theorem lc_end1 {B T : List Int32} {j k : Nat} (h : B.length ≤ j) : lc_p (B.drop j) (T.drop k) = 0 := by rw [List.drop_eq_nil_of_le h, lc_nil]
theorem lc_end2 {B T : List Int32} {j k : Nat} (h : T.length ≤ k) : lc_p (B.drop j) (T.drop k) = 0 := by rw [List.drop_eq_nil_of_le h, lc_nil2]
/-- the longest block among the first k: where it begins (if any is alike), how many bytes -/
def lg_S (B T : List Int32) (tp : Nat) : Nat → Option Nat × Nat
  | 0 => (none, 7)
  | k + 1 => if (lg_S B T tp k).2 < lc_p (B.drop (8 * k)) (T.drop tp) then (some (8 * k), lc_p (B.drop (8 * k)) (T.drop tp)) else lg_S B T tp k
def ob_I : Option Nat → Int32
  | none => -1
  | some b => nI b
theorem lg_ok (B T : List Int32) (tp : Nat) : ∀ k : Nat, ((lg_S B T tp k).1 = none ∧ (lg_S B T tp k).2 = 7) ∨ ∃ b : Nat, (lg_S B T tp k).1 = some b ∧ (lg_S B T tp k).2 = lc_p (B.drop b) (T.drop tp) ∧ 8 ≤ lc_p (B.drop b) (T.drop tp) ∧ b + 8 ≤ 8 * k := by
  intro k
  induction k with
  | zero => exact Or.inl ⟨rfl, rfl⟩
  | succ k ih =>
    unfold lg_S
    split
    · rename_i h
      refine Or.inr ⟨8 * k, rfl, rfl, ?_, by omega⟩
      rcases ih with ⟨-, h2⟩ | ⟨b, -, h2, h3, -⟩ <;> omega
    · rcases ih with h | ⟨b, h1, h2, h3, h4⟩
      · exact Or.inl h
      · exact Or.inr ⟨b, h1, h2, h3, by omega⟩
theorem lg_most (B T : List Int32) (tp k : Nat) : 7 ≤ (lg_S B T tp k).2 := by
  rcases lg_ok B T tp k with ⟨-, h⟩ | ⟨b, -, h2, h3, -⟩ <;> omega
/-- a plain byte at the place pl -/
def ap_P (P : List (Nat × Nat × Nat)) (pl : Nat) : List (Nat × Nat × Nat) := match P.getLast? with
  | some t => if t.1 = 2 then P.dropLast ++ [(t.1, t.2.1, t.2.2 + 1)] else P ++ [(2, pl, 1)]
  | none => P ++ [(2, pl, 1)]
/-- the pieces from the place pl on, behind those of P -/
def fp_P (B T : List Int32) : Nat → Nat → List (Nat × Nat × Nat) → List (Nat × Nat × Nat)
  | 0, _, P => P
  | n + 1, pl, P => if pl < T.length then (match (lg_S B T pl (B.length / 8)).1 with
      | none => fp_P B T n (pl + 1) (ap_P P pl)
      | some b => fp_P B T n (pl + lc_p (B.drop b) (T.drop pl)) (P ++ [(1, b, lc_p (B.drop b) (T.drop pl))])) else P
/-- the way's pieces -/
def wy_P (B T : List Int32) : List (Nat × Nat × Nat) := fp_P B T T.length 0 []
/-- a piece as a row of bytes -/
def hb_I (n : Nat) : List Int32 := [(nI n >>> ((8 : Int32) &&& 31)) &&& 255, nI n &&& 255]
def rw_1 (T : List Int32) (t : Nat × Nat × Nat) : List Int32 := if t.1 = 1 then (nI t.1 &&& 255) :: (hb_I t.2.1 ++ hb_I t.2.2) else (nI t.1 &&& 255) :: (hb_I t.2.2 ++ (T.drop t.2.1).take t.2.2)
def rw_R (T : List Int32) (P : List (Nat × Nat × Nat)) : List Int32 := P.flatMap (rw_1 T)
/-- how far the copies reach -/
def ce_P (P : List (Nat × Nat × Nat)) : Nat := P.foldl (fun e t => if t.1 = 1 then max e (t.2.1 + t.2.2) else e) 0
/-- what comes of a way -/
def go_R (B T : List Int32) (P : List (Nat × Nat × Nat)) : List Int32 := P.flatMap (fun t => ((if t.1 = 1 then B else T).drop t.2.1).take t.2.2)
theorem by_255 {f : Nat → Int32} {L : List Int32} (h : by_k f L) {j : Nat} {y : Int32} (hj : L[j]? = some y) : y &&& 255 = y := by
  rw [← h j y hj, Int32.and_assoc]
  rfl
theorem tk_snoc {G : List Int32} {bg j : Nat} {y : Int32} (h : G[bg + j]? = some y) : (G.drop bg).take (j + 1) = (G.drop bg).take j ++ [y] := by
  rw [List.take_succ, List.getElem?_drop, h]
  rfl
/-- the array classes of a claim, by their places -/
abbrev tk_s (cB cI cL : ClassId) : List (ClassId × FieldType) := [(cB, .byte), (cI, .int), (cL, .long)]
theorem nn_ge {n : Nat} {x : Int32} (hn : n < 2 ^ 31) (h : nI n ≤ x) : ¬ x < 0 := by
  intro h9
  have h8 := Int32.le_iff_toInt_le.mp h
  have h7 := Int32.lt_iff_toInt_lt.mp h9
  rw [nI_toInt hn] at h8
  rw [Int32.toInt_zero] at h7
  omega
theorem mx_I {a b : Nat} (ha : a < 2 ^ 31) (hb : b < 2 ^ 31) : (if nI a < nI b then nI b else nI a) = nI (max a b) := by
  by_cases h : a < b
  · rw [if_pos (nI_lt h hb), Nat.max_eq_right (by omega)]
  · rw [if_neg (nI_nlt (by omega) ha), Nat.max_eq_left (by omega)]
theorem mn_I {a b : Nat} (ha : a < 2 ^ 31) (hb : b < 2 ^ 31) : (if nI b < nI a then nI b else nI a) = nI (min a b) := by
  by_cases h : b < a
  · rw [if_pos (nI_lt h ha), Nat.min_eq_right (by omega)]
  · rw [if_neg (nI_nlt (by omega) hb), Nat.min_eq_left (by omega)]
/-- the byte i of v -/
def pb_b (v : Int64) (i : Nat) : Int32 := ((v.toUInt64 >>> ((8 * nI i).toInt64.toUInt64 &&& Int64.toUInt64 63)).toInt64).toInt32
/-- the lowest n bytes of v, the highest of them first -/
def pb_L (v : Int64) : Nat → List Int32
  | 0 => []
  | n + 1 => (pb_b v n &&& 255) :: pb_L v n
theorem pb_len (v : Int64) : ∀ n : Nat, (pb_L v n).length = n := by
  intro n
  induction n with
  | zero => rfl
  | succ n ih => simp [pb_L, ih]
theorem sw_3 (x : Int32) : x = 0 ∨ x = 1 ∨ x = 2 ∨ (¬ x = 0 ∧ ¬ x = 1 ∧ ¬ x = 2 ∧ (x.toInt < 0 ∨ 2 < x.toInt)) := by
  by_cases h0 : x = 0
  · exact Or.inl h0
  · by_cases h1 : x = 1
    · exact Or.inr (Or.inl h1)
    · by_cases h2 : x = 2
      · exact Or.inr (Or.inr (Or.inl h2))
      · refine Or.inr (Or.inr (Or.inr ⟨h0, h1, h2, ?_⟩))
        have a0 : ¬ x.toInt = 0 := fun h => h0 (Int32.toInt_inj.mp h)
        have a1 : ¬ x.toInt = 1 := fun h => h1 (Int32.toInt_inj.mp h)
        have a2 : ¬ x.toInt = 2 := fun h => h2 (Int32.toInt_inj.mp h)
        omega
def ct_I (B T Z : List Int32) (x : Int32) : Int32 := if x = 0 then nI B.length else if x = 1 then nI T.length else if x = 2 then nI Z.length else -1
theorem ct_no {B T Z : List Int32} {x : Int32} (h0 : ¬ x = 0) (h1 : ¬ x = 1) (h2 : ¬ x = 2) : ct_I B T Z x = -1 := by
  unfold ct_I
  rw [if_neg h0, if_neg h1, if_neg h2]
def pi_I (P : List (Nat × Nat × Nat)) (y x : Int32) : Int32 := if x = 0 then ps_L (fun t => t.1) P y else if x = 1 then ps_L (fun t => t.2.1) P y else if x = 2 then ps_L (fun t => t.2.2) P y else -1
theorem pi_no {P : List (Nat × Nat × Nat)} {y x : Int32} (h0 : ¬ x = 0) (h1 : ¬ x = 1) (h2 : ¬ x = 2) : pi_I P y x = -1 := by
  unfold pi_I
  rw [if_neg h0, if_neg h1, if_neg h2]
/-- may the lowest n bytes come to L -/
def pu_ok (L : List Int32) (n : Int32) : Prop := ¬ n < 0 ∧ ¬ (8 : Int32) < n ∧ n ≤ 600 - nI L.length
def pu_L (L : List Int32) (v : Int64) (n : Int32) (r : Int32) : List Int32 := if r = 0 then L else L ++ pb_L v n.toNatClampNeg
/-- the answer of put -/
def pu_r (L : List Int32) (n : Int32) : Int32 := if n < 0 then 0 else if (8 : Int32) < n then 0 else if n ≤ 600 - nI L.length then 1 else 0
theorem pu_L0 {L : List Int32} {v : Int64} {n r : Int32} (h : r = 0) : pu_L L v n r = L := if_pos h
theorem pu_in {L : List Int32} {n : Int32} (hL : L.length ≤ 600) (h0 : ¬ n < 0) (h8 : ¬ (8 : Int32) < n) (h6 : n ≤ 600 - nI L.length) : ∃ N : Nat, n = nI N ∧ N ≤ 8 ∧ L.length + N ≤ 600 := by
  obtain ⟨N, hN, rfl⟩ := nI_of h0
  have e1 : (600 : Int32) - nI L.length = nI (600 - L.length) := pk_sub (a := 600) hL
  rw [e1] at h6
  have h1 := (nI_leI hN (by omega)).mp h6
  refine ⟨N, rfl, ?_, by omega⟩
  rcases Nat.lt_or_ge 8 N with h9 | h9
  · exact absurd (nI_lt (a := 8) h9 hN) h8
  · exact h9
theorem pu_1 {L : List Int32} {n : Int32} (h0 : ¬ n < 0) (h8 : ¬ (8 : Int32) < n) (h6 : n ≤ 600 - nI L.length) : pu_r L n = 1 := by
  unfold pu_r
  rw [if_neg h0, if_neg h8, if_pos h6]
theorem pu_01 {L : List Int32} {n : Int32} (h0 : n < 0) : pu_r L n = 0 := by
  unfold pu_r
  rw [if_pos h0]
theorem pu_02 {L : List Int32} {n : Int32} (h0 : ¬ n < 0) (h8 : (8 : Int32) < n) : pu_r L n = 0 := by
  unfold pu_r
  rw [if_neg h0, if_pos h8]
theorem pu_03 {L : List Int32} {n : Int32} (h0 : ¬ n < 0) (h8 : ¬ (8 : Int32) < n) (h6 : ¬ n ≤ 600 - nI L.length) : pu_r L n = 0 := by
  unfold pu_r
  rw [if_neg h0, if_neg h8, if_neg h6]
theorem m1_I (k : Nat) : nI k + (-1) = nI k - 1 := by rw [Int32.sub_eq_add_neg]
theorem lg_keep {B T : List Int32} {tp k : Nat} (h : ¬ (lg_S B T tp k).2 < lc_p (B.drop (8 * k)) (T.drop tp)) : lg_S B T tp (k + 1) = lg_S B T tp k := by
  show (if (lg_S B T tp k).2 < lc_p (B.drop (8 * k)) (T.drop tp) then (some (8 * k), lc_p (B.drop (8 * k)) (T.drop tp)) else lg_S B T tp k) = _
  exact if_neg h
theorem lg_take {B T : List Int32} {tp k : Nat} (h : (lg_S B T tp k).2 < lc_p (B.drop (8 * k)) (T.drop tp)) : lg_S B T tp (k + 1) = (some (8 * k), lc_p (B.drop (8 * k)) (T.drop tp)) := by
  show (if (lg_S B T tp k).2 < lc_p (B.drop (8 * k)) (T.drop tp) then (some (8 * k), lc_p (B.drop (8 * k)) (T.drop tp)) else lg_S B T tp k) = _
  exact if_pos h
end
section
/-! The pieces of a way: how many there can be, how long their row is. -/
def nc_P (P : List (Nat × Nat × Nat)) : Nat := (P.map (fun t => if t.1 = 1 then 1 else 0)).sum
def nq_P (P : List (Nat × Nat × Nat)) : Nat := (P.map (fun t => if t.1 = 1 then 0 else 1)).sum
def rl_P (P : List (Nat × Nat × Nat)) : Nat := (P.map (fun t => if t.1 = 1 then 5 else 3 + t.2.2)).sum
def sm_P (P : List (Nat × Nat × Nat)) : Nat := (P.map (fun t => t.2.2)).sum
theorem nc_app (P : List (Nat × Nat × Nat)) (t : Nat × Nat × Nat) : nc_P (P ++ [t]) = nc_P P + (if t.1 = 1 then 1 else 0) := by simp [nc_P, List.map_append, List.sum_append]
theorem nq_app (P : List (Nat × Nat × Nat)) (t : Nat × Nat × Nat) : nq_P (P ++ [t]) = nq_P P + (if t.1 = 1 then 0 else 1) := by simp [nq_P, List.map_append, List.sum_append]
theorem rl_app (P : List (Nat × Nat × Nat)) (t : Nat × Nat × Nat) : rl_P (P ++ [t]) = rl_P P + (if t.1 = 1 then 5 else 3 + t.2.2) := by simp [rl_P, List.map_append, List.sum_append]
theorem sm_app (P : List (Nat × Nat × Nat)) (t : Nat × Nat × Nat) : sm_P (P ++ [t]) = sm_P P + t.2.2 := by simp [sm_P, List.map_append, List.sum_append]
theorem ln_P (P : List (Nat × Nat × Nat)) : P.length = nc_P P + nq_P P := by
  induction P with
  | nil => rfl
  | cons t P ih =>
    have h1 : nc_P (t :: P) = (if t.1 = 1 then 1 else 0) + nc_P P := by simp [nc_P]
    have h2 : nq_P (t :: P) = (if t.1 = 1 then 0 else 1) + nq_P P := by simp [nq_P]
    rw [h1, h2, List.length_cons, ih]
    split <;> omega
/-- a good piece -/
def pg_1 (nB nT : Nat) (t : Nat × Nat × Nat) : Prop := (t.1 = 1 ∧ 8 ≤ t.2.2 ∧ t.2.1 + t.2.2 ≤ nB) ∨ (t.1 = 2 ∧ 1 ≤ t.2.2 ∧ t.2.1 + t.2.2 ≤ nT)
def pl_L (P : List (Nat × Nat × Nat)) (pl : Nat) : Prop := match P.getLast? with
  | some t => if t.1 = 2 then nq_P P ≤ nc_P P + 1 ∧ t.2.1 + t.2.2 = pl else nq_P P ≤ nc_P P
  | none => nq_P P ≤ nc_P P
def pw_I (nB nT : Nat) (P : List (Nat × Nat × Nat)) (pl : Nat) : Prop := (∀ t ∈ P, pg_1 nB nT t) ∧ 8 * nc_P P + nq_P P ≤ pl ∧ rl_P P + 3 * nc_P P ≤ pl + 3 * nq_P P ∧ sm_P P = pl ∧ pl ≤ nT ∧ pl_L P pl
theorem pw_0 (nB nT : Nat) : pw_I nB nT [] 0 := ⟨fun t h => by simp at h, Nat.le_refl _, Nat.le_refl _, rfl, Nat.zero_le _, Nat.le_refl _⟩
theorem pl_le {P : List (Nat × Nat × Nat)} {pl : Nat} (h : pl_L P pl) : nq_P P ≤ nc_P P + 1 := by
  unfold pl_L at h
  split at h
  · split at h
    · exact h.1
    · omega
  · omega
theorem pw_num {nB nT : Nat} {P : List (Nat × Nat × Nat)} {pl : Nat} (h : pw_I nB nT P pl) (hT : nT ≤ 600) : P.length ≤ 133 ∧ rl_P P ≤ 603 := by
  obtain ⟨-, h2, h3, -, h5, h6⟩ := h
  have h7 := pl_le h6
  rw [ln_P]
  omega
theorem pl_app {P : List (Nat × Nat × Nat)} {t : Nat × Nat × Nat} {pl : Nat} : pl_L (P ++ [t]) pl ↔ (if t.1 = 2 then nq_P (P ++ [t]) ≤ nc_P (P ++ [t]) + 1 ∧ t.2.1 + t.2.2 = pl else nq_P (P ++ [t]) ≤ nc_P (P ++ [t])) := by
  unfold pl_L
  rw [List.getLast?_concat]
theorem pw_copy {nB nT : Nat} {P : List (Nat × Nat × Nat)} {pl b n : Nat} (h : pw_I nB nT P pl) (h8 : 8 ≤ n) (hb : b + n ≤ nB) (hn : pl + n ≤ nT) : pw_I nB nT (P ++ [(1, b, n)]) (pl + n) := by
  obtain ⟨h1, h2, h3, h4, h5, h6⟩ := h
  have h7 := pl_le h6
  refine ⟨?_, ?_, ?_, ?_, hn, ?_⟩
  · intro t ht
    rcases List.mem_append.mp ht with q | q
    · exact h1 t q
    · rw [List.mem_singleton] at q
      subst q
      exact Or.inl ⟨rfl, h8, hb⟩
  · rw [nc_app, nq_app, if_pos rfl, if_pos rfl]; omega
  · rw [nc_app, nq_app, rl_app, if_pos rfl, if_pos rfl, if_pos rfl]; omega
  · rw [sm_app, h4]
  · rw [pl_app, if_neg (by simp), nc_app, nq_app, if_pos rfl, if_pos rfl]; omega
theorem ap_grow {P : List (Nat × Nat × Nat)} {t : Nat × Nat × Nat} {pl : Nat} (h : t.1 = 2) : ap_P (P ++ [t]) pl = P ++ [(t.1, t.2.1, t.2.2 + 1)] := by
  unfold ap_P
  rw [List.getLast?_concat]
  simp only [h, if_true, List.dropLast_concat]
theorem ap_new {P : List (Nat × Nat × Nat)} {pl : Nat} (h : ∀ t, P.getLast? = some t → ¬ t.1 = 2) : ap_P P pl = P ++ [(2, pl, 1)] := by
  unfold ap_P
  split
  · rename_i t ht
    rw [if_neg (h t ht)]
  · rfl
theorem sp_last (P : List (Nat × Nat × Nat)) : P = [] ∨ ∃ (Q : List (Nat × Nat × Nat)) (t : Nat × Nat × Nat), P = Q ++ [t] := by
  rcases List.eq_nil_or_concat P with h | ⟨Q, t, h⟩
  · exact Or.inl h
  · exact Or.inr ⟨Q, t, by simpa using h⟩
theorem pw_plain {nB nT : Nat} {P : List (Nat × Nat × Nat)} {pl : Nat} (h : pw_I nB nT P pl) (hn : pl < nT) : pw_I nB nT (ap_P P pl) (pl + 1) := by
  obtain ⟨h1, h2, h3, h4, h5, h6⟩ := h
  have new : nq_P P ≤ nc_P P → pw_I nB nT (P ++ [(2, pl, 1)]) (pl + 1) := by
    intro hq
    refine ⟨?_, ?_, ?_, ?_, hn, ?_⟩
    · intro t ht
      rcases List.mem_append.mp ht with q | q
      · exact h1 t q
      · rw [List.mem_singleton] at q
        subst q
        exact Or.inr ⟨rfl, Nat.le_refl _, hn⟩
    · rw [nc_app, nq_app, if_neg (by simp), if_neg (by simp)]; omega
    · rw [nc_app, nq_app, rl_app, if_neg (by simp), if_neg (by simp), if_neg (by simp)]
      show rl_P P + (3 + 1) + 3 * (nc_P P + 0) ≤ pl + 1 + 3 * (nq_P P + 1)
      omega
    · rw [sm_app, h4]
    · rw [pl_app, if_pos rfl, nc_app, nq_app, if_neg (by simp), if_neg (by simp)]
      exact ⟨by omega, rfl⟩
  rcases sp_last P with rfl | ⟨Q, t, rfl⟩
  · exact new (Nat.le_refl _)
  · by_cases ht : t.1 = 2
    · rw [pl_app, if_pos ht] at h6
      have ht1 : ¬ t.1 = 1 := by omega
      have hg := h1 t (by simp)
      rw [ap_grow ht]
      rw [nc_app, nq_app, if_neg ht1, if_neg ht1] at h2 h6
      rw [nc_app, nq_app, rl_app, if_neg ht1, if_neg ht1, if_neg ht1] at h3
      rw [sm_app] at h4
      refine ⟨?_, ?_, ?_, ?_, hn, ?_⟩
      · intro z hz
        rcases List.mem_append.mp hz with q | q
        · exact h1 z (List.mem_append_left _ q)
        · rw [List.mem_singleton] at q
          subst q
          exact Or.inr ⟨ht, by show 1 ≤ t.2.2 + 1; omega, by show t.2.1 + (t.2.2 + 1) ≤ nT; omega⟩
      · rw [nc_app, nq_app, if_neg ht1, if_neg ht1]; omega
      · rw [nc_app, nq_app, rl_app, if_neg ht1, if_neg ht1, if_neg ht1]
        show rl_P Q + (3 + (t.2.2 + 1)) + 3 * (nc_P Q + 0) ≤ pl + 1 + 3 * (nq_P Q + 1)
        omega
      · rw [sm_app]
        show sm_P Q + (t.2.2 + 1) = pl + 1
        omega
      · rw [pl_app, if_pos ht, nc_app, nq_app, if_neg ht1, if_neg ht1]
        exact ⟨h6.1, by show t.2.1 + (t.2.2 + 1) = pl + 1; omega⟩
    · rw [ap_new (by intro z hz; rw [List.getLast?_concat] at hz; cases hz; exact ht)]
      rw [pl_app, if_neg ht] at h6
      exact new h6
/-- the search keeps it -/
theorem fp_I {B T : List Int32} : ∀ (n pl : Nat) (P : List (Nat × Nat × Nat)), pw_I B.length T.length P pl → T.length ≤ pl + n → pw_I B.length T.length (fp_P B T n pl P) T.length := by
  intro n
  induction n with
  | zero =>
    intro pl P h hn
    have : pl = T.length := by have := h.2.2.2.2.1; omega
    subst this
    exact h
  | succ n ih =>
    intro pl P h hn
    unfold fp_P
    by_cases hp : pl < T.length
    · rw [if_pos hp]
      rcases lg_ok B T pl (B.length / 8) with ⟨h1, -⟩ | ⟨b, h1, h2, h3, h4⟩
      · rw [h1]
        exact ih _ _ (pw_plain h hp) (by omega)
      · rw [h1]
        have h5 := lc_le (B.drop b) (T.drop pl)
        rw [List.length_drop, List.length_drop] at h5
        exact ih _ _ (pw_copy h h3 (by omega) (by omega)) (by show T.length ≤ pl + lc_p (B.drop b) (T.drop pl) + n; omega)
    · rw [if_neg hp]
      have : pl = T.length := by have := h.2.2.2.2.1; omega
      subst this
      exact h
theorem wy_I (B T : List Int32) : pw_I B.length T.length (wy_P B T) T.length := fp_I _ _ _ (pw_0 _ _) (by omega)
/-- the row's length, piece by piece -/
theorem hb_len (n : Nat) : (hb_I n).length = 2 := rfl
theorem rw_len1 {nB : Nat} {T : List Int32} {t : Nat × Nat × Nat} (h : pg_1 nB T.length t) : (rw_1 T t).length = if t.1 = 1 then 5 else 3 + t.2.2 := by
  unfold rw_1
  rcases h with ⟨h1, h2, h3⟩ | ⟨h1, h2, h3⟩
  · rw [if_pos h1, if_pos h1]; rfl
  · rw [if_neg (by omega), if_neg (by omega)]
    simp only [List.length_cons, List.length_append, hb_len, List.length_take, List.length_drop]
    omega
theorem rw_len {nB : Nat} {T : List Int32} : ∀ {P : List (Nat × Nat × Nat)}, (∀ t ∈ P, pg_1 nB T.length t) → (rw_R T P).length = rl_P P := by
  intro P
  induction P with
  | nil => intro _; rfl
  | cons t P ih =>
    intro h
    have h1 := rw_len1 (h t List.mem_cons_self)
    have h2 := ih (fun z hz => h z (List.mem_cons_of_mem _ hz))
    have h3 : rw_R T (t :: P) = rw_1 T t ++ rw_R T P := by simp [rw_R]
    have h4 : rl_P (t :: P) = (if t.1 = 1 then 5 else 3 + t.2.2) + rl_P P := by simp [rl_P]
    rw [h3, h4, List.length_append, h1, h2]
theorem rw_app (T : List Int32) (P : List (Nat × Nat × Nat)) (t : Nat × Nat × Nat) : rw_R T (P ++ [t]) = rw_R T P ++ rw_1 T t := by simp [rw_R, List.flatMap_append]
theorem rw_take {T : List Int32} {P : List (Nat × Nat × Nat)} {j : Nat} {t : Nat × Nat × Nat} (h : P[j]? = some t) : rw_R T (P.take (j + 1)) = rw_R T (P.take j) ++ rw_1 T t := by
  rw [List.take_succ, h]
  exact rw_app T _ t
theorem rl_take : ∀ (P : List (Nat × Nat × Nat)) (j : Nat), rl_P (P.take j) ≤ rl_P P := by
  intro P
  induction P with
  | nil => intro j; simp
  | cons t P ih =>
    intro j
    have h4 : ∀ Q : List (Nat × Nat × Nat), rl_P (t :: Q) = (if t.1 = 1 then 5 else 3 + t.2.2) + rl_P Q := fun Q => by simp [rl_P]
    cases j with
    | zero => exact Nat.zero_le _
    | succ j =>
      rw [List.take_succ_cons, h4, h4]
      have := ih j
      omega
/-- what comes of a way, piece by piece -/
def go_1 (B T : List Int32) (t : Nat × Nat × Nat) : List Int32 := ((if t.1 = 1 then B else T).drop t.2.1).take t.2.2
theorem go_app (B T : List Int32) (P : List (Nat × Nat × Nat)) (t : Nat × Nat × Nat) : go_R B T (P ++ [t]) = go_R B T P ++ go_1 B T t := by simp [go_R, go_1, List.flatMap_append]
theorem go_take {B T : List Int32} {P : List (Nat × Nat × Nat)} {j : Nat} {t : Nat × Nat × Nat} (h : P[j]? = some t) : go_R B T (P.take (j + 1)) = go_R B T (P.take j) ++ go_1 B T t := by
  rw [List.take_succ, h]
  exact go_app B T _ t
theorem go_len1 {B T : List Int32} {t : Nat × Nat × Nat} : (go_1 B T t).length ≤ t.2.2 := by
  unfold go_1
  rw [List.length_take]
  omega
theorem sm_take : ∀ (P : List (Nat × Nat × Nat)) (j : Nat), sm_P (P.take j) ≤ sm_P P := by
  intro P
  induction P with
  | nil => intro j; simp
  | cons t P ih =>
    intro j
    have h4 : ∀ Q : List (Nat × Nat × Nat), sm_P (t :: Q) = t.2.2 + sm_P Q := fun Q => by simp [sm_P]
    cases j with
    | zero => exact Nat.zero_le _
    | succ j =>
      rw [List.take_succ_cons, h4, h4]
      have := ih j
      omega
theorem go_len (B T : List Int32) (P : List (Nat × Nat × Nat)) : (go_R B T P).length ≤ sm_P P := by
  induction P with
  | nil => exact Nat.le_refl _
  | cons t P ih =>
    have h3 : go_R B T (t :: P) = go_1 B T t ++ go_R B T P := by simp [go_R, go_1]
    have h4 : sm_P (t :: P) = t.2.2 + sm_P P := by simp [sm_P]
    have h5 := go_len1 (B := B) (T := T) (t := t)
    rw [h3, h4, List.length_append]
    omega
/-- how far the copies reach -/
theorem ce_app (P : List (Nat × Nat × Nat)) (t : Nat × Nat × Nat) : ce_P (P ++ [t]) = if t.1 = 1 then max (ce_P P) (t.2.1 + t.2.2) else ce_P P := by simp [ce_P, List.foldl_append]
theorem ce_take {P : List (Nat × Nat × Nat)} {j : Nat} {t : Nat × Nat × Nat} (h : P[j]? = some t) : ce_P (P.take (j + 1)) = if t.1 = 1 then max (ce_P (P.take j)) (t.2.1 + t.2.2) else ce_P (P.take j) := by
  rw [List.take_succ, h]
  exact ce_app _ t
theorem ce_ge : ∀ (P : List (Nat × Nat × Nat)) (e : Nat), e ≤ P.foldl (fun e t => if t.1 = 1 then max e (t.2.1 + t.2.2) else e) e ∧ ∀ t ∈ P, t.1 = 1 → t.2.1 + t.2.2 ≤ P.foldl (fun e t => if t.1 = 1 then max e (t.2.1 + t.2.2) else e) e := by
  intro P
  induction P with
  | nil => intro e; exact ⟨Nat.le_refl _, fun t h => by simp at h⟩
  | cons z P ih =>
    intro e
    have h := ih (if z.1 = 1 then max e (z.2.1 + z.2.2) else e)
    have h0 : e ≤ (if z.1 = 1 then max e (z.2.1 + z.2.2) else e) := by split <;> omega
    rw [List.foldl_cons]
    refine ⟨Nat.le_trans h0 h.1, fun t ht h1 => ?_⟩
    rcases List.mem_cons.mp ht with rfl | q
    · refine Nat.le_trans ?_ h.1
      rw [if_pos h1]; omega
    · exact h.2 t q h1
theorem ce_mem {P : List (Nat × Nat × Nat)} {t : Nat × Nat × Nat} (ht : t ∈ P) (h1 : t.1 = 1) : t.2.1 + t.2.2 ≤ ce_P P := (ce_ge P 0).2 t ht h1
theorem ce_le : ∀ (P : List (Nat × Nat × Nat)) (e N : Nat), e ≤ N → (∀ t ∈ P, t.1 = 1 → t.2.1 + t.2.2 ≤ N) → P.foldl (fun e t => if t.1 = 1 then max e (t.2.1 + t.2.2) else e) e ≤ N := by
  intro P
  induction P with
  | nil => intro e N h _; exact h
  | cons z P ih =>
    intro e N h h2
    rw [List.foldl_cons]
    refine ih _ N ?_ (fun t ht => h2 t (List.mem_cons_of_mem _ ht))
    split
    · rename_i h1
      have := h2 z List.mem_cons_self h1
      omega
    · exact h
/-- the pieces of a kept way: good for a base and a target of some lengths -/
def pk_W (nB nT : Nat) (P : List (Nat × Nat × Nat)) : Prop := nB ≤ 600 ∧ nT ≤ 600 ∧ pw_I nB nT P nT
theorem pk_0 : pk_W 0 0 [] := ⟨by omega, by omega, pw_0 0 0⟩
theorem pk_len {nB nT : Nat} {P : List (Nat × Nat × Nat)} (h : pk_W nB nT P) : P.length ≤ 133 ∧ rl_P P ≤ 603 := pw_num h.2.2 h.2.1
theorem pk_ce {nB nT : Nat} {P : List (Nat × Nat × Nat)} (h : pk_W nB nT P) : ce_P P ≤ 600 := ce_le P 0 600 (by omega) (fun t ht h1 => by
  have h2 := h.2.2.1 t ht
  have h3 := h.1
  rcases h2 with ⟨-, -, h4⟩ | ⟨h4, -, -⟩ <;> omega)
theorem pk_sm {nB nT : Nat} {P : List (Nat × Nat × Nat)} (h : pk_W nB nT P) : sm_P P ≤ 600 := by have h1 := h.2.2.2.2.2.1; have h2 := h.2.1; omega
theorem pk_1 {nB nT : Nat} {P : List (Nat × Nat × Nat)} (h : pk_W nB nT P) {t : Nat × Nat × Nat} (ht : t ∈ P) : (t.1 = 1 ∨ t.1 = 2) ∧ t.2.1 + t.2.2 ≤ 600 := by
  have h2 := h.2.2.1 t ht
  have h3 := h.1
  have h4 := h.2.1
  rcases h2 with ⟨h5, -, h6⟩ | ⟨h5, -, h6⟩
  · exact ⟨Or.inl h5, by omega⟩
  · exact ⟨Or.inr h5, by omega⟩
theorem sm_tk {P : List (Nat × Nat × Nat)} {j : Nat} {t : Nat × Nat × Nat} (h : P[j]? = some t) : sm_P (P.take (j + 1)) = sm_P (P.take j) + t.2.2 := by
  rw [List.take_succ, h]
  exact sm_app _ t
end
section
/-! A contract of a method that answers an int or throws: gx_M. Behind a throw its world is as it was. -/
section PWTHROW
variable {p : Program} {l : Launch} {e : Env} {R : Room} {s : State} {m : MethodId} {args : Array Value} {below : List Frame} {meth : Method} {c : Code} {H : Heap} {locs : List Loc} {cells slots : Nat} {Q : State → Prop}
variable {D : va_G} {cl : List vw_C} {tys : List (ClassId × FieldType)}
def gx_M {S : Type} (l : Launch) (y : MethodName) (wy : List Cond) (rm : Room) (D : va_G) (cl : List vw_C) (tys : List (ClassId × FieldType)) (av : List Value) (wc : va_W) (mc ms : Nat) (X : (Nat → Prop) → State → Prop) (post : Int32 → S → Prop) (w1 : S → va_W) (px : Prop) (E0 : String) : Prop :=
  ∀ sz : Nat, vx_Met l y wy rm (va_Pc av (fun U => U.heap.size = sz ∧ va_P D cl wc U.heap ∧ va_K D cl tys U ∧ nx_N U ∧ va_D (fun _ => True) wc ∧ X (va_A wc sz) U)) (va_Qi post (fun u t => va_P D cl (w1 u) t.heap ∧ va_D (va_A wc sz) (w1 u)) (va_A wc sz)) (vx_X (fun _ : Unit => px) (fun E _ t => E = E0 ∧ va_P D cl wc t.heap) (va_A wc sz)) mc ms (va_A wc sz)
theorem gx_ofW {S : Type} {y : MethodName} {wy wy' : List Cond} {rm : Room} {cc : ByteArray} {maxL : Nat} {ret : Option FieldType} {av : List Value} {wc : va_W} {mc ms : Nat} {X : (Nat → Prop) → State → Prop} {post : Int32 → S → Prop} {w1 : S → va_W} {px : Prop} {E0 : String}
    (hy : plainName y.cls = true) (hw : wy = Cond.code y cc maxL ret :: wy') (hlen : (lg_sl av).length ≤ maxL)
    (body : ∀ (p : Program) (e : Env) (s : State) (m : MethodId) (below : List Frame) (meth : Method) (c : Code) (ls : Array Slot) (A : Nat → Prop), p.tables.exec = Jvm.exec → c.code = cc → meth.sig.returnType = ret → c.maxLocals = maxL → (∀ w ∈ wy, w.before av.toArray s = true) → s.vm.findClass y.cls = some m.cls → meth.locks = false → (∀ x ∈ c.exceptionTable.toList, False) → va_P D cl wc s.heap → va_K D cl tys s → nx_N s → va_D A wc → X A s → (∀ q : Nat, s.heap.size ≤ q → A q) → va_S A s.heap s.heap [] → lv_has ls maxL (lv_args 0 av) →
      W p l e rm s m av.toArray below meth c s.heap [] 0 0 (vx_MQ below (va_Qi post (fun u t => va_P D cl (w1 u) t.heap ∧ va_D A (w1 u)) A) (vx_X (fun _ : Unit => px) (fun E _ t => E = E0 ∧ va_P D cl wc t.heap) A) av.toArray s mc ms A) (F0 m 0 ls [])) : gx_M l y wy rm D cl tys av wc mc ms X post w1 px E0 := by
  intro sz
  refine vx_ofW (cc := cc) (maxL := maxL) (ret := ret) hy hw ?_
  intro p e s m args below meth c s₁ B hml hout hv
  obtain ⟨rfl, hsz, hP, hK, hN, hD0, hX⟩ := hv
  have hts := atoms_spec (ws := wy) B.pre
  subst hsz
  rw [lg_entry_eq]
  exact body p e s m below meth c _ (va_A wc s.heap.size) B.exec B.bytes B.returns hml hts (findClass_of_methodNamed B.named) B.notSynchronized hout hP hK hN hD0.self hX (fun q h => Or.inr h) va_S.rf (lv_entry av hlen)
theorem gx_iret {S : Type} {cc : ByteArray} {v : Int32} {post : Int32 → S → Prop} {w1 : S → va_W} {A : Nat → Prop} {XC : String → State → State → Prop} {mc ms pc : Nat} {ls : Array Slot} (hx : p.tables.exec = Jvm.exec) (hb : c.code = cc) (hr : meth.sig.returnType = some .int) (hlk : meth.locks = false) (hmc : cells ≤ mc) (hms : slots ≤ ms) (u : S) (hu : post v u) (hP : va_P D cl (w1 u) H) (hD : va_D A (w1 u)) (hS : va_S A s.heap H locs) (hdg : decode cc pc = .ok (.ireturn, 1)) :
    W p l e R s m args below meth c H locs cells slots (vx_MQ below (va_Qi post (fun u t => va_P D cl (w1 u) t.heap ∧ va_D A (w1 u)) A) XC args s mc ms A) (F0 m pc ls [.int v]) :=
  W.widen hmc hms (vx_ret (wi_iret hx hb hr hlk u hu hP hD hS hdg))
end PWTHROW
end
section
section PWBYTES
variable (l : Launch) (dC : Nat → ClassId) (dI : Nat → Nat → Nat) (cB cI cL : ClassId)

set_option maxHeartbeats 4000000 in
set_option maxRecDepth 100000 in
/-- length() -/
theorem c_By_length (a h : Nat) (n : Int32) : rd_M l yX0_length wsX0_length ({ frames := 0, cells := 0, slots := 0, locals := 0 } : Room) (dC, dI) vwCl (tk_s cB cI cL) [.ref a] [(a, .inr (0, [.ref h, .int n]))] n := by
  refine rd_ofW (cc := cX0_length) (maxL := 1) (ret := (some .int)) (by decide) rfl (Nat.le_of_ble_eq_true rfl) ?_
  intro p e s m below meth c ls hx hb hr hml hts hown hlk hP hK hN hl
  have hl : lv_has ls 1 [(0, .ref a)] := hl
  refine lv_aload_n hx hb dX0_length_0 rfl (lv_at hl 0 rfl) ?_
  refine va_get (D := (dC, dI)) (ci := 0) (v := .int n) (C := RX0) (T := TX0) (N := 2) hx hb hts (by decide +kernel) hown hK hP 0 rfl rfl 1 (by decide) (hts (.fieldLink RX0 15 "PieceWays$Bytes" "used" "I") (by decide +kernel)) (fun _ h9 => h9) rfl dX0_length_1 ?_
  exact rd_iret hx hb hr hlk (rfl) dX0_length_4
set_option maxHeartbeats 4000000 in
set_option maxRecDepth 100000 in
/-- at(x) -/
theorem c_By_at (a h : Nat) (L : List Int32) (f : Nat → Int32) (x : Int32) (hL : L.length ≤ 603) (hf : by_k f L) : rd_M l yX0_at wsX0_at ({ frames := 0, cells := 0, slots := 0, locals := 0 } : Room) (dC, dI) vwCl (tk_s cB cI cL) [.ref a, .int x] [(a, .inr (0, [.ref h, .int (nI L.length)])), (h, .inl (cB, 603, .inl f))] (at_L L x) := by
  refine rd_ofW (cc := cX0_at) (maxL := 2) (ret := (some .int)) (by decide) rfl (Nat.le_of_ble_eq_true rfl) ?_
  intro p e s m below meth c ls hx hb hr hml hts hown hlk hP hK hN hl
  have hl : lv_has ls 2 [(0, .ref a), (1, .int x)] := hl
  refine lv_iload_n hx hb dX0_at_0 rfl (lv_at hl 1 rfl) ?_
  refine lv_if_lt (tgt := 21) hx hb dX0_at_1 (by decide) (fun c1 => ?_) (fun c1 => ?_)
  · refine lv_iconst (v := (-1)) hx hb dX0_at_21 (by decide) ?_
    exact rd_iret hx hb hr hlk ((at_neg c1).symm) dX0_at_22
  · refine lv_iload_n hx hb dX0_at_4 rfl (lv_at hl 1 rfl) ?_
    refine lv_aload_n hx hb dX0_at_5 rfl (lv_at hl 0 rfl) ?_
    refine va_get (D := (dC, dI)) (ci := 0) (v := .int (nI L.length)) (C := RX0) (T := TX0) (N := 2) hx hb hts (by decide +kernel) hown hK hP 0 rfl rfl 1 (by decide) (hts (.fieldLink RX0 15 "PieceWays$Bytes" "used" "I") (by decide +kernel)) (fun _ h9 => h9) rfl dX0_at_6 ?_
    refine lv_icmp_ge (tgt := 21) hx hb dX0_at_9 (by decide) (fun c2 => ?_) (fun c2 => ?_)
    · refine lv_iconst (v := (-1)) hx hb dX0_at_21 (by decide) ?_
      exact rd_iret hx hb hr hlk ((at_hi (by omega) c1 c2).symm) dX0_at_22
    · obtain ⟨j, hj, rfl⟩ : ∃ j : Nat, j < L.length ∧ x = nI j := by
        rcases pk_ix x (n := L.length) (by omega) with q | q | q
        · exact absurd q c1
        · exact absurd q c2
        · exact q
      refine lv_iload_n hx hb dX0_at_12 rfl (lv_at hl 1 rfl) ?_
      refine lv_aload_n hx hb dX0_at_13 rfl (lv_at hl 0 rfl) ?_
      refine va_get (D := (dC, dI)) (ci := 0) (v := .ref h) (C := RX0) (T := TX0) (N := 2) hx hb hts (by decide +kernel) hown hK hP 0 rfl rfl 0 (by decide) (hts (.fieldLink RX0 9 "PieceWays$Bytes" "held" "[B") (by decide +kernel)) (fun _ h9 => h9) rfl dX0_at_14 ?_
      refine va_alen (v := (nI 603)) hx hb hK hP 1 0 rfl rfl rfl dX0_at_17 ?_
      refine lv_icmp_lt (tgt := 23) hx hb dX0_at_18 (by decide) (fun c3 => ?_) (fun c3 => ?_)
      · refine lv_aload_n hx hb dX0_at_23 rfl (lv_at hl 0 rfl) ?_
        refine va_get (D := (dC, dI)) (ci := 0) (v := .ref h) (C := RX0) (T := TX0) (N := 2) hx hb hts (by decide +kernel) hown hK hP 0 rfl rfl 0 (by decide) (hts (.fieldLink RX0 9 "PieceWays$Bytes" "held" "[B") (by decide +kernel)) (fun _ h9 => h9) rfl dX0_at_24 ?_
        refine lv_iload_n hx hb dX0_at_27 rfl (lv_at hl 1 rfl) ?_
        refine va_bald hx hb hK hP 1 0 rfl rfl (vp_in_nI (by omega) (by omega)) dX0_at_28 ?_
        refine lv_sipush (v := 255) hx hb dX0_at_29 (by decide) ?_
        refine lv_iand hx hb dX0_at_32 ?_
        obtain ⟨y, hy⟩ : ∃ y, L[j]? = some y := ⟨_, List.getElem?_eq_getElem hj⟩
        exact rd_iret hx hb hr hlk (by rw [nI_clamp (by omega), at_in hy (by omega)]; exact hf j y hy) dX0_at_33
      · exact absurd (nI_lt (by omega) (by omega)) c3
set_option maxHeartbeats 4000000 in
set_option maxRecDepth 100000 in
/-- empty() -/
theorem c_By_empty (a h : Nat) (n : Int32) : wr_M l yX0_empty wsX0_empty ({ frames := 0, cells := 0, slots := 0, locals := 0 } : Room) (dC, dI) vwCl (tk_s cB cI cL) [.ref a] [(a, .inr (0, [.ref h, .int n]))] 0 0 (fun _ : Unit => True) (fun _ => [(a, .inr (0, [.ref h, .int (nI 0)]))]) := by
  refine wr_ofW (cc := cX0_empty) (maxL := 1) (ret := none) (by decide) rfl (Nat.le_of_ble_eq_true rfl) ?_
  intro p e s m below meth c ls A hx hb hr hml hts hown hlk hnm hP hK hN hD hA hS hl
  have hl : lv_has ls 1 [(0, .ref a)] := hl
  refine lv_aload_n hx hb dX0_empty_0 rfl (lv_at hl 0 rfl) ?_
  refine lv_iconst (v := 0) hx hb dX0_empty_1 (by decide) ?_
  refine va_put (D := (dC, dI)) (ci := 0) (v := .int (nI 0)) (ty := .int) (C := RX0) (T := TX0) (N := 2) hx hb hts (by decide +kernel) tyX0 tyX0_ok nmX0 hown hK hP hD hS 0 rfl rfl 1 (by decide) (hts (.fieldLink RX0 15 "PieceWays$Bytes" "used" "I") (by decide +kernel)) (fun _ h9 => h9) rfl (by decide +kernel) rfl rfl (Nat.le_of_ble_eq_true rfl) dX0_empty_2 (fun H locs hP hD hS => ?_)
  have hP : va_P (dC, dI) vwCl [(a, .inr (0, [.ref h, .int (nI 0)]))] H := hP
  have hD : va_D A [(a, .inr (0, [.ref h, .int (nI 0)]))] := hD
  exact wr_vret hx hb hr hlk () trivial hP hD hS dX0_empty_5
set_option maxHeartbeats 4000000 in
set_option maxRecDepth 100000 in
/-- add(b), where there is room -/
theorem c_By_add (a h : Nat) (L : List Int32) (f : Nat → Int32) (b : Int32) (hL : L.length < 603) (hf : by_k f L) : wr_M l yX0_add wsX0_add ({ frames := 0, cells := 0, slots := 0, locals := 0 } : Room) (dC, dI) vwCl (tk_s cB cI cL) [.ref a, .int b] [(a, .inr (0, [.ref h, .int (nI L.length)])), (h, .inl (cB, 603, .inl f))] 0 0 (fun g : Nat → Int32 => by_k g (L ++ [b &&& 255])) (fun g => [(a, .inr (0, [.ref h, .int (nI (L ++ [b &&& 255]).length)])), (h, .inl (cB, 603, .inl g))]) := by
  refine wr_ofW (cc := cX0_add) (maxL := 2) (ret := none) (by decide) rfl (Nat.le_of_ble_eq_true rfl) ?_
  intro p e s m below meth c ls A hx hb hr hml hts hown hlk hnm hP hK hN hD hA hS hl
  have hl : lv_has ls 2 [(0, .ref a), (1, .int b)] := hl
  refine lv_aload_n hx hb dX0_add_0 rfl (lv_at hl 0 rfl) ?_
  refine va_get (D := (dC, dI)) (ci := 0) (v := .int (nI L.length)) (C := RX0) (T := TX0) (N := 2) hx hb hts (by decide +kernel) hown hK hP 0 rfl rfl 1 (by decide) (hts (.fieldLink RX0 15 "PieceWays$Bytes" "used" "I") (by decide +kernel)) (fun _ h9 => h9) rfl dX0_add_1 ?_
  refine lv_if_lt (tgt := 19) hx hb dX0_add_4 (by decide) (fun c1 => ?_) (fun c1 => ?_)
  · exact absurd c1 (nI_pos (by omega))
  · refine lv_aload_n hx hb dX0_add_7 rfl (lv_at hl 0 rfl) ?_
    refine va_get (D := (dC, dI)) (ci := 0) (v := .int (nI L.length)) (C := RX0) (T := TX0) (N := 2) hx hb hts (by decide +kernel) hown hK hP 0 rfl rfl 1 (by decide) (hts (.fieldLink RX0 15 "PieceWays$Bytes" "used" "I") (by decide +kernel)) (fun _ h9 => h9) rfl dX0_add_8 ?_
    refine lv_aload_n hx hb dX0_add_11 rfl (lv_at hl 0 rfl) ?_
    refine va_get (D := (dC, dI)) (ci := 0) (v := .ref h) (C := RX0) (T := TX0) (N := 2) hx hb hts (by decide +kernel) hown hK hP 0 rfl rfl 0 (by decide) (hts (.fieldLink RX0 9 "PieceWays$Bytes" "held" "[B") (by decide +kernel)) (fun _ h9 => h9) rfl dX0_add_12 ?_
    refine va_alen (v := (nI 603)) hx hb hK hP 1 0 rfl rfl rfl dX0_add_15 ?_
    refine lv_icmp_lt (tgt := 20) hx hb dX0_add_16 (by decide) (fun c2 => ?_) (fun c2 => ?_)
    · refine lv_aload_n hx hb dX0_add_20 rfl (lv_at hl 0 rfl) ?_
      refine va_get (D := (dC, dI)) (ci := 0) (v := .ref h) (C := RX0) (T := TX0) (N := 2) hx hb hts (by decide +kernel) hown hK hP 0 rfl rfl 0 (by decide) (hts (.fieldLink RX0 9 "PieceWays$Bytes" "held" "[B") (by decide +kernel)) (fun _ h9 => h9) rfl dX0_add_21 ?_
      refine lv_aload_n hx hb dX0_add_24 rfl (lv_at hl 0 rfl) ?_
      refine va_get (D := (dC, dI)) (ci := 0) (v := .int (nI L.length)) (C := RX0) (T := TX0) (N := 2) hx hb hts (by decide +kernel) hown hK hP 0 rfl rfl 1 (by decide) (hts (.fieldLink RX0 15 "PieceWays$Bytes" "used" "I") (by decide +kernel)) (fun _ h9 => h9) rfl dX0_add_25 ?_
      refine lv_iload_n hx hb dX0_add_28 rfl (lv_at hl 1 rfl) ?_
      refine lv_i2b hx hb dX0_add_29 rfl ?_
      refine va_bast hx hb hK hP hD hS 1 0 rfl rfl (vp_in_nI hL (by omega)) dX0_add_30 (fun H locs hP hD hS => ?_)
      have hP : va_P (dC, dI) vwCl [(a, .inr (0, [.ref h, .int (nI L.length)])), (h, .inl (cB, 603, .inl (upd f (nI L.length).toNatClampNeg (vp_nar .byte b.toInt8.toInt32))))] H := hP
      have hD : va_D A [(a, .inr (0, [.ref h, .int (nI L.length)])), (h, .inl (cB, 603, .inl (upd f (nI L.length).toNatClampNeg (vp_nar .byte b.toInt8.toInt32))))] := hD
      refine lv_aload_n hx hb dX0_add_31 rfl (lv_at hl 0 rfl) ?_
      refine lv_dup hx hb dX0_add_32 rfl ?_
      refine va_get (D := (dC, dI)) (ci := 0) (v := .int (nI L.length)) (C := RX0) (T := TX0) (N := 2) hx hb hts (by decide +kernel) hown hK hP 0 rfl rfl 1 (by decide) (hts (.fieldLink RX0 15 "PieceWays$Bytes" "used" "I") (by decide +kernel)) (fun _ h9 => h9) rfl dX0_add_33 ?_
      refine lv_iconst (v := 1) hx hb dX0_add_36 (by decide) ?_
      refine lv_iadd hx hb dX0_add_37 ?_
      refine va_put (D := (dC, dI)) (ci := 0) (v := .int ((nI L.length) + 1)) (ty := .int) (C := RX0) (T := TX0) (N := 2) hx hb hts (by decide +kernel) tyX0 tyX0_ok nmX0 hown hK hP hD hS 0 rfl rfl 1 (by decide) (hts (.fieldLink RX0 15 "PieceWays$Bytes" "used" "I") (by decide +kernel)) (fun _ h9 => h9) rfl (by decide +kernel) rfl rfl (Nat.le_of_ble_eq_true rfl) dX0_add_38 (fun H locs hP hD hS => ?_)
      have hP : va_P (dC, dI) vwCl [(a, .inr (0, [.ref h, .int ((nI L.length) + 1)])), (h, .inl (cB, 603, .inl (upd f (nI L.length).toNatClampNeg (vp_nar .byte b.toInt8.toInt32))))] H := hP
      have hD : va_D A [(a, .inr (0, [.ref h, .int ((nI L.length) + 1)])), (h, .inl (cB, 603, .inl (upd f (nI L.length).toNatClampNeg (vp_nar .byte b.toInt8.toInt32))))] := hD
      rw [nI_clamp (by omega)] at hP hD
      have e1 : nI L.length + 1 = nI (L ++ [b &&& 255]).length := by rw [List.length_append]; exact nI_1 _
      rw [e1] at hP hD
      exact wr_vret hx hb hr hlk (upd f L.length (vp_nar .byte b.toInt8.toInt32)) (by_add hf b) hP hD hS dX0_add_41
    · exact absurd (nI_lt hL (by omega)) c2
set_option maxHeartbeats 4000000 in
set_option maxRecDepth 100000 in
/-- addTwo(b), where there is room -/
theorem c_By_addTwo (a h : Nat) (L : List Int32) (f : Nat → Int32) (b : Int32) (hL : L.length + 2 ≤ 603) (hf : by_k f L) : wr_M l yX0_addTwo wsX0_addTwo ({ frames := 1, cells := 0, slots := 0, locals := 21 } : Room) (dC, dI) vwCl (tk_s cB cI cL) [.ref a, .int b] [(a, .inr (0, [.ref h, .int (nI L.length)])), (h, .inl (cB, 603, .inl f))] 0 0 (fun g : Nat → Int32 => by_k g (L ++ [(b >>> ((8 : Int32) &&& 31)) &&& 255, b &&& 255])) (fun g => [(a, .inr (0, [.ref h, .int (nI (L ++ [(b >>> ((8 : Int32) &&& 31)) &&& 255, b &&& 255]).length)])), (h, .inl (cB, 603, .inl g))]) := by
  refine wr_ofW (cc := cX0_addTwo) (maxL := 2) (ret := none) (by decide) rfl (Nat.le_of_ble_eq_true rfl) ?_
  intro p e s m below meth c ls A hx hb hr hml hts hown hlk hnm hP hK hN hD hA hS hl
  have hl : lv_has ls 2 [(0, .ref a), (1, .int b)] := hl
  refine lv_aload_n hx hb dX0_addTwo_0 rfl (lv_at hl 0 rfl) ?_
  refine lv_iload_n hx hb dX0_addTwo_1 rfl (lv_at hl 1 rfl) ?_
  refine lv_bipush (v := 8) hx hb dX0_addTwo_2 (by decide) ?_
  refine lv_ishr hx hb dX0_addTwo_4 ?_
  refine wr_V (wc := [(a, .inr (0, [.ref h, .int (nI L.length)])), (h, .inl (cB, 603, .inl f))]) (wr := []) (As := [.int (b >>> (8 &&& 31))]) (rest := []) ⟨hx, hb, hml, hown, hts⟩ (c_By_add l dC dI cB cI cL a h L f (b >>> ((8 : Int32) &&& 31)) (by omega) hf) (cwV 1 hts gX0_addTwo_X0_add rfl rfl rfl (by decide +kernel) ⟨(Nat.le_of_ble_eq_true rfl), (Nat.le_of_ble_eq_true rfl)⟩) hK hN hP hD hS hA [0, 1] [] rfl rfl (by decide) (by decide) (by decide) 0 rfl rfl rfl rfl hl.1 rfl (Nat.le_of_ble_eq_true rfl) dX0_addTwo_5 ⟨(Nat.le_of_ble_eq_true rfl), (Nat.le_of_ble_eq_true rfl)⟩ (fun f1 H locs hf1 hP hD hS => ?_)
  have hP : va_P (dC, dI) vwCl [(a, .inr (0, [.ref h, .int (nI (L ++ [(b >>> ((8 : Int32) &&& 31)) &&& 255]).length)])), (h, .inl (cB, 603, .inl f1))] H := hP.sub [0, 1] rfl
  have hD : va_D A [(a, .inr (0, [.ref h, .int (nI (L ++ [(b >>> ((8 : Int32) &&& 31)) &&& 255]).length)])), (h, .inl (cB, 603, .inl f1))] := hD.sub [0, 1] (by decide) rfl
  refine lv_aload_n hx hb dX0_addTwo_8 rfl (lv_at hl 0 rfl) ?_
  refine lv_iload_n hx hb dX0_addTwo_9 rfl (lv_at hl 1 rfl) ?_
  refine wr_V (wc := [(a, .inr (0, [.ref h, .int (nI (L ++ [(b >>> ((8 : Int32) &&& 31)) &&& 255]).length)])), (h, .inl (cB, 603, .inl f1))]) (wr := []) (As := [.int b]) (rest := []) ⟨hx, hb, hml, hown, hts⟩ (c_By_add l dC dI cB cI cL a h (L ++ [(b >>> ((8 : Int32) &&& 31)) &&& 255]) f1 b (by simp only [List.length_append, List.length_cons, List.length_nil]; omega) hf1) (cwV 1 hts gX0_addTwo_X0_add rfl rfl rfl (by decide +kernel) ⟨(Nat.le_of_ble_eq_true rfl), (Nat.le_of_ble_eq_true rfl)⟩) hK hN hP hD hS hA [0, 1] [] rfl rfl (by decide) (by decide) (by decide) 0 rfl rfl rfl rfl hl.1 rfl (Nat.le_of_ble_eq_true rfl) dX0_addTwo_10 ⟨(Nat.le_of_ble_eq_true rfl), (Nat.le_of_ble_eq_true rfl)⟩ (fun f2 H locs hf2 hP hD hS => ?_)
  have hP : va_P (dC, dI) vwCl [(a, .inr (0, [.ref h, .int (nI ((L ++ [(b >>> ((8 : Int32) &&& 31)) &&& 255]) ++ [b &&& 255]).length)])), (h, .inl (cB, 603, .inl f2))] H := hP.sub [0, 1] rfl
  have hD : va_D A [(a, .inr (0, [.ref h, .int (nI ((L ++ [(b >>> ((8 : Int32) &&& 31)) &&& 255]) ++ [b &&& 255]).length)])), (h, .inl (cB, 603, .inl f2))] := hD.sub [0, 1] (by decide) rfl
  have e2 : (L ++ [(b >>> ((8 : Int32) &&& 31)) &&& 255]) ++ [b &&& 255] = L ++ [(b >>> ((8 : Int32) &&& 31)) &&& 255, b &&& 255] := by simp
  rw [e2] at hf2 hP hD
  exact wr_vret hx hb hr hlk f2 hf2 hP hD hS dX0_addTwo_13
set_option maxHeartbeats 4000000 in
set_option maxRecDepth 100000 in
/-- addFrom(b, bg, k), where there is room and there are so many -/
theorem c_By_addFrom (a h b g : Nat) (L G : List Int32) (f fg : Nat → Int32) (bg k : Nat) (hL : L.length + k ≤ 603) (hG : bg + k ≤ G.length) (hG3 : G.length ≤ 603) (hf : by_k f L) (hg : by_k fg G) : wr_M l yX0_addFrom wsX0_addFrom ({ frames := 1, cells := 0, slots := 0, locals := 21 } : Room) (dC, dI) vwCl (tk_s cB cI cL) [.ref a, .ref b, .int (nI bg), .int (nI k)] [(a, .inr (0, [.ref h, .int (nI L.length)])), (h, .inl (cB, 603, .inl f)), (b, .inr (0, [.ref g, .int (nI G.length)])), (g, .inl (cB, 603, .inl fg))] 0 0 (fun z : Nat → Int32 => by_k z (L ++ (G.drop bg).take k)) (fun z => [(a, .inr (0, [.ref h, .int (nI (L ++ (G.drop bg).take k).length)])), (h, .inl (cB, 603, .inl z)), (b, .inr (0, [.ref g, .int (nI G.length)])), (g, .inl (cB, 603, .inl fg))]) := by
  refine wr_ofW (cc := cX0_addFrom) (maxL := 5) (ret := none) (by decide) rfl (Nat.le_of_ble_eq_true rfl) ?_
  intro p e s m below meth c ls A hx hb hr hml hts hown hlk hnm hP hK hN hD hA hS hl
  have hl : lv_has ls 5 [(0, .ref a), (1, .ref b), (2, .int (nI bg)), (3, .int (nI k))] := hl
  have loop : ∀ (n j : Nat) (f1 : Nat → Int32) (H : Heap) (locs : List Loc) (ls : Array Slot), n + j = k → by_k f1 (L ++ (G.drop bg).take j) → va_P (dC, dI) vwCl [(a, .inr (0, [.ref h, .int (nI (L ++ (G.drop bg).take j).length)])), (h, .inl (cB, 603, .inl f1)), (b, .inr (0, [.ref g, .int (nI G.length)])), (g, .inl (cB, 603, .inl fg))] H → va_D A [(a, .inr (0, [.ref h, .int (nI (L ++ (G.drop bg).take j).length)])), (h, .inl (cB, 603, .inl f1)), (b, .inr (0, [.ref g, .int (nI G.length)])), (g, .inl (cB, 603, .inl fg))] → va_S A s.heap H locs → lv_has ls 5 [(4, .int (nI j)), (0, .ref a), (1, .ref b), (2, .int (nI bg)), (3, .int (nI k))] → W p l e ({ frames := 1, cells := 0, slots := 0, locals := 21 } : Room) s m ([.ref a, .ref b, .int (nI bg), .int (nI k)] : List Value).toArray below meth c H locs 0 0 (MQ below (va_Qv (fun z : Nat → Int32 => by_k z (L ++ (G.drop bg).take k)) (fun u t => va_P (dC, dI) vwCl ((fun z => [(a, .inr (0, [.ref h, .int (nI (L ++ (G.drop bg).take k).length)])), (h, .inl (cB, 603, .inl z)), (b, .inr (0, [.ref g, .int (nI G.length)])), (g, .inl (cB, 603, .inl fg))]) u) t.heap ∧ va_D A ((fun z => [(a, .inr (0, [.ref h, .int (nI (L ++ (G.drop bg).take k).length)])), (h, .inl (cB, 603, .inl z)), (b, .inr (0, [.ref g, .int (nI G.length)])), (g, .inl (cB, 603, .inl fg))]) u)) A) ([.ref a, .ref b, .int (nI bg), .int (nI k)] : List Value).toArray s 0 0 A) (F0 m 3 ls []) := by
    intro n
    induction n with
    | zero =>
      intro j f1 H locs ls hj hf1 hP hD hS hl
      have hj : j = k := by omega
      subst hj
      refine lv_iload hx hb dX0_addFrom_3 (lv_at hl 0 rfl) ?_
      refine lv_iload_n hx hb dX0_addFrom_5 rfl (lv_at hl 4 rfl) ?_
      refine lv_icmp_ge (tgt := 27) hx hb dX0_addFrom_6 (by decide) (fun c1 => ?_) (fun c1 => ?_)
      · exact wr_vret hx hb hr hlk f1 hf1 hP hD hS dX0_addFrom_27
      · exact absurd (nI_le (Nat.le_refl _) (by omega)) c1
    | succ n ih =>
      intro j f1 H locs ls hj hf1 hP hD hS hl
      obtain ⟨y, hy⟩ : ∃ y, G[bg + j]? = some y := ⟨_, List.getElem?_eq_getElem (by omega)⟩
      have hlen : (L ++ (G.drop bg).take j).length = L.length + j := by simp only [List.length_append, List.length_take, List.length_drop]; omega
      refine lv_iload hx hb dX0_addFrom_3 (lv_at hl 0 rfl) ?_
      refine lv_iload_n hx hb dX0_addFrom_5 rfl (lv_at hl 4 rfl) ?_
      refine lv_icmp_ge (tgt := 27) hx hb dX0_addFrom_6 (by decide) (fun c1 => ?_) (fun c1 => ?_)
      · exact absurd c1 (nI_ge (by omega) (by omega))
      · refine lv_aload_n hx hb dX0_addFrom_9 rfl (lv_at hl 1 rfl) ?_
        refine lv_aload_n hx hb dX0_addFrom_10 rfl (lv_at hl 2 rfl) ?_
        refine lv_iload_n hx hb dX0_addFrom_11 rfl (lv_at hl 3 rfl) ?_
        refine lv_iload hx hb dX0_addFrom_12 (lv_at hl 0 rfl) ?_
        refine lv_iadd hx hb dX0_addFrom_14 ?_
        refine rd_V (wc := [(b, .inr (0, [.ref g, .int (nI G.length)])), (g, .inl (cB, 603, .inl fg))]) (As := [.int ((nI bg) + (nI j))]) (rest := [.ref a]) ⟨hx, hb, hml, hown, hts⟩ (c_By_at l dC dI cB cI cL b g G fg (nI bg + nI j) hG3 hg) (cwV 1 hts gX0_addFrom_X0_at rfl rfl rfl (by decide +kernel) ⟨(Nat.le_of_ble_eq_true rfl), (Nat.le_of_ble_eq_true rfl)⟩) hK hN (sb_P hP [2, 3] rfl) 0 rfl rfl rfl rfl hl.1 rfl (Nat.le_of_ble_eq_true rfl) dX0_addFrom_15 ⟨(Nat.le_of_ble_eq_true rfl), (Nat.le_of_ble_eq_true rfl)⟩ ?_
        have e1 : at_L G (nI bg + nI j) = y := by rw [nI_add]; exact at_in hy (by omega)
        rw [e1]
        refine wr_V (wc := [(a, .inr (0, [.ref h, .int (nI (L ++ (G.drop bg).take j).length)])), (h, .inl (cB, 603, .inl f1))]) (wr := [(b, .inr (0, [.ref g, .int (nI G.length)])), (g, .inl (cB, 603, .inl fg))]) (As := [.int y]) (rest := []) ⟨hx, hb, hml, hown, hts⟩ (c_By_add l dC dI cB cI cL a h (L ++ (G.drop bg).take j) f1 y (by omega) hf1) (cwV 1 hts gX0_addFrom_X0_add rfl rfl rfl (by decide +kernel) ⟨(Nat.le_of_ble_eq_true rfl), (Nat.le_of_ble_eq_true rfl)⟩) hK hN hP hD hS hA [0, 1] [2, 3] rfl rfl (by decide) (by decide) (by decide) 0 rfl rfl rfl rfl hl.1 rfl (Nat.le_of_ble_eq_true rfl) dX0_addFrom_18 ⟨(Nat.le_of_ble_eq_true rfl), (Nat.le_of_ble_eq_true rfl)⟩ (fun f2 H locs hf2 hP hD hS => ?_)
        have hP : va_P (dC, dI) vwCl [(a, .inr (0, [.ref h, .int (nI ((L ++ (G.drop bg).take j) ++ [y &&& 255]).length)])), (h, .inl (cB, 603, .inl f2)), (b, .inr (0, [.ref g, .int (nI G.length)])), (g, .inl (cB, 603, .inl fg))] H := hP.sub [2, 3, 0, 1] rfl
        have hD : va_D A [(a, .inr (0, [.ref h, .int (nI ((L ++ (G.drop bg).take j) ++ [y &&& 255]).length)])), (h, .inl (cB, 603, .inl f2)), (b, .inr (0, [.ref g, .int (nI G.length)])), (g, .inl (cB, 603, .inl fg))] := hD.sub [2, 3, 0, 1] (by decide) rfl
        have e2 : (L ++ (G.drop bg).take j) ++ [y &&& 255] = L ++ (G.drop bg).take (j + 1) := by rw [by_255 hg hy, tk_snoc hy, List.append_assoc]
        rw [e2] at hf2 hP hD
        refine lv_iinc (v := ((nI j) + 1)) (lv' := [(4, .int ((nI j) + 1)), (0, .ref a), (1, .ref b), (2, .int (nI bg)), (3, .int (nI k))]) hx hb dX0_addFrom_21 hl (k := 0) rfl rfl (by decide) rfl (fun ls hl => ?_)
        refine lv_goto (tgt := 3) hx hb dX0_addFrom_24 (by decide) ?_
        have hl : lv_has ls 5 [(4, .int (nI (j + 1))), (0, .ref a), (1, .ref b), (2, .int (nI bg)), (3, .int (nI k))] := by have h9 := lv_sub (l' := [(4, .int ((nI j) + 1)), (0, .ref a), (1, .ref b), (2, .int (nI bg)), (3, .int (nI k))]) hl [0, 1, 2, 3, 4] rfl; rw [nI_1] at h9; exact h9
        exact ih (j + 1) f2 H locs ls (by omega) hf2 hP hD hS hl
  refine lv_iconst (v := 0) hx hb dX0_addFrom_0 (by decide) ?_
  refine lv_istore (lv' := [(4, .int 0), (0, .ref a), (1, .ref b), (2, .int (nI bg)), (3, .int (nI k))]) hx hb dX0_addFrom_1 hl (by decide) rfl (fun ls hl => ?_)
  exact loop k 0 f s.heap [] ls (by omega) (by rw [List.take_zero, List.append_nil]; exact hf) (by rw [List.take_zero, List.append_nil]; exact hP) (by rw [List.take_zero, List.append_nil]; exact hD) hS hl
end PWBYTES
end
section
section PWPIECES
variable (l : Launch) (dC : Nat → ClassId) (dI : Nat → Nat → Nat) (cB cI cL : ClassId)

set_option maxHeartbeats 4000000 in
set_option maxRecDepth 100000 in
/-- number() -/
theorem c_Pc_number (a h0 h1 h2 : Nat) (n : Int32) : rd_M l yX1_number wsX1_number ({ frames := 0, cells := 0, slots := 0, locals := 0 } : Room) (dC, dI) vwCl (tk_s cB cI cL) [.ref a] [(a, .inr (1, [.ref h0, .ref h1, .ref h2, .int n]))] n := by
  refine rd_ofW (cc := cX1_number) (maxL := 1) (ret := (some .int)) (by decide) rfl (Nat.le_of_ble_eq_true rfl) ?_
  intro p e s m below meth c ls hx hb hr hml hts hown hlk hP hK hN hl
  have hl : lv_has ls 1 [(0, .ref a)] := hl
  refine lv_aload_n hx hb dX1_number_0 rfl (lv_at hl 0 rfl) ?_
  refine va_get (D := (dC, dI)) (ci := 1) (v := .int n) (C := RX1) (T := TX1) (N := 4) hx hb hts (by decide +kernel) hown hK hP 0 rfl rfl 3 (by decide) (hts (.fieldLink RX1 21 "PieceWays$Pieces" "used" "I") (by decide +kernel)) (fun _ h9 => h9) rfl dX1_number_1 ?_
  exact rd_iret hx hb hr hlk (rfl) dX1_number_4
set_option maxHeartbeats 4000000 in
set_option maxRecDepth 100000 in
/-- isThere(x) -/
theorem c_Pc_isThere (a h0 h1 h2 : Nat) (P : List (Nat × Nat × Nat)) (x : Int32) (hL : P.length ≤ 133) : rd_M l yX1_isThere wsX1_isThere ({ frames := 0, cells := 0, slots := 0, locals := 0 } : Room) (dC, dI) vwCl (tk_s cB cI cL) [.ref a, .int x] [(a, .inr (1, [.ref h0, .ref h1, .ref h2, .int (nI P.length)]))] (th_P P x) := by
  refine rd_ofW (cc := cX1_isThere) (maxL := 2) (ret := (some .boolean)) (by decide) rfl (Nat.le_of_ble_eq_true rfl) ?_
  intro p e s m below meth c ls hx hb hr hml hts hown hlk hP hK hN hl
  have hl : lv_has ls 2 [(0, .ref a), (1, .int x)] := hl
  refine lv_iload_n hx hb dX1_isThere_0 rfl (lv_at hl 1 rfl) ?_
  refine lv_if_lt (tgt := 23) hx hb dX1_isThere_1 (by decide) (fun c1 => ?_) (fun c1 => ?_)
  · refine lv_iconst (v := 0) hx hb dX1_isThere_23 (by decide) ?_
    exact rd_zret hx hb hr hlk ((th_neg c1).symm) rfl dX1_isThere_24
  · refine lv_iload_n hx hb dX1_isThere_4 rfl (lv_at hl 1 rfl) ?_
    refine lv_aload_n hx hb dX1_isThere_5 rfl (lv_at hl 0 rfl) ?_
    refine va_get (D := (dC, dI)) (ci := 1) (v := .int (nI P.length)) (C := RX1) (T := TX1) (N := 4) hx hb hts (by decide +kernel) hown hK hP 0 rfl rfl 3 (by decide) (hts (.fieldLink RX1 21 "PieceWays$Pieces" "used" "I") (by decide +kernel)) (fun _ h9 => h9) rfl dX1_isThere_6 ?_
    refine lv_icmp_ge (tgt := 23) hx hb dX1_isThere_9 (by decide) (fun c2 => ?_) (fun c2 => ?_)
    · refine lv_iconst (v := 0) hx hb dX1_isThere_23 (by decide) ?_
      exact rd_zret hx hb hr hlk ((th_hi (by omega) c1 c2).symm) rfl dX1_isThere_24
    · obtain ⟨j, hj, rfl⟩ : ∃ j : Nat, j < P.length ∧ x = nI j := by
        rcases pk_ix x (n := P.length) (by omega) with q | q | q
        · exact absurd q c1
        · exact absurd q c2
        · exact q
      refine lv_iload_n hx hb dX1_isThere_12 rfl (lv_at hl 1 rfl) ?_
      refine lv_sipush (v := 133) hx hb dX1_isThere_13 (by decide) ?_
      refine lv_icmp_ge (tgt := 23) hx hb dX1_isThere_16 (by decide) (fun c3 => ?_) (fun c3 => ?_)
      · exact absurd c3 (nI_ge (a := j) (b := 133) (by omega) (by omega))
      · refine lv_iconst (v := 1) hx hb dX1_isThere_19 (by decide) ?_
        refine lv_goto (tgt := 24) hx hb dX1_isThere_20 (by decide) ?_
        exact rd_zret hx hb hr hlk ((th_in hj (by omega)).symm) rfl dX1_isThere_24
set_option maxHeartbeats 4000000 in
set_option maxRecDepth 100000 in
/-- kind(x) -/
theorem c_Pc_kind (a h0 h1 h2 : Nat) (P : List (Nat × Nat × Nat)) (f0 f1 f2 : Nat → Int32) (x : Int32) (hL : P.length ≤ 133) (hf : pc_k f0 f1 f2 P) : rd_M l yX1_kind wsX1_kind ({ frames := 1, cells := 0, slots := 0, locals := 21 } : Room) (dC, dI) vwCl (tk_s cB cI cL) [.ref a, .int x] [(a, .inr (1, [.ref h0, .ref h1, .ref h2, .int (nI P.length)])), (h0, .inl (cI, 133, .inl f0))] (ps_L (fun t => t.1) P x) := by
  refine rd_ofW (cc := cX1_kind) (maxL := 2) (ret := (some .int)) (by decide) rfl (Nat.le_of_ble_eq_true rfl) ?_
  intro p e s m below meth c ls hx hb hr hml hts hown hlk hP hK hN hl
  have hl : lv_has ls 2 [(0, .ref a), (1, .int x)] := hl
  refine lv_aload_n hx hb dX1_kind_0 rfl (lv_at hl 0 rfl) ?_
  refine lv_iload_n hx hb dX1_kind_1 rfl (lv_at hl 1 rfl) ?_
  refine rd_V (wc := [(a, .inr (1, [.ref h0, .ref h1, .ref h2, .int (nI P.length)]))]) (As := [.int x]) (rest := []) ⟨hx, hb, hml, hown, hts⟩ (c_Pc_isThere l dC dI cB cI cL a h0 h1 h2 P x hL) (cwV 1 hts gX1_kind_X1_isThere rfl rfl rfl (by decide +kernel) ⟨(Nat.le_of_ble_eq_true rfl), (Nat.le_of_ble_eq_true rfl)⟩) hK hN (sb_P hP [0] rfl) 0 rfl rfl rfl rfl hl.1 rfl (Nat.le_of_ble_eq_true rfl) dX1_kind_2 ⟨(Nat.le_of_ble_eq_true rfl), (Nat.le_of_ble_eq_true rfl)⟩ ?_
  rcases pk_ix x (n := P.length) (by omega) with q | q | ⟨j, hj, rfl⟩
  · rw [th_neg q]
    refine lv_if_eq (tgt := 17) hx hb dX1_kind_5 (by decide) (fun c1 => ?_) (fun c1 => ?_)
    · refine lv_iconst (v := (-1)) hx hb dX1_kind_17 (by decide) ?_
      exact rd_iret hx hb hr hlk ((ps_neg q).symm) dX1_kind_18
    · exact absurd rfl c1
  · have q0 : ¬ x < 0 := nn_ge (by omega) q
    rw [th_hi (by omega) q0 q]
    refine lv_if_eq (tgt := 17) hx hb dX1_kind_5 (by decide) (fun c1 => ?_) (fun c1 => ?_)
    · refine lv_iconst (v := (-1)) hx hb dX1_kind_17 (by decide) ?_
      exact rd_iret hx hb hr hlk ((ps_hi (by omega) q0 q).symm) dX1_kind_18
    · exact absurd rfl c1
  · rw [th_in hj (by omega)]
    refine lv_if_eq (tgt := 17) hx hb dX1_kind_5 (by decide) (fun c1 => ?_) (fun c1 => ?_)
    · exact absurd c1 (by decide)
    · refine lv_aload_n hx hb dX1_kind_8 rfl (lv_at hl 0 rfl) ?_
      refine va_get (D := (dC, dI)) (ci := 1) (v := .ref h0) (C := RX1) (T := TX1) (N := 4) hx hb hts (by decide +kernel) hown hK hP 0 rfl rfl 0 (by decide) (hts (.fieldLink RX1 9 "PieceWays$Pieces" "kinds" "[I") (by decide +kernel)) (fun _ h9 => h9) rfl dX1_kind_9 ?_
      refine lv_iload_n hx hb dX1_kind_12 rfl (lv_at hl 1 rfl) ?_
      refine va_iald hx hb hK hP 1 1 rfl rfl (vp_in_nI (by omega) (by omega)) dX1_kind_13 ?_
      refine lv_goto (tgt := 18) hx hb dX1_kind_14 (by decide) ?_
      obtain ⟨y, hy⟩ : ∃ y, P[j]? = some y := ⟨_, List.getElem?_eq_getElem hj⟩
      exact rd_iret hx hb hr hlk (by rw [nI_clamp (by omega), ps_in hy (by omega)]; exact (hf j y hy).1) dX1_kind_18
set_option maxHeartbeats 4000000 in
set_option maxRecDepth 100000 in
/-- begin(x) -/
theorem c_Pc_begin (a h0 h1 h2 : Nat) (P : List (Nat × Nat × Nat)) (f0 f1 f2 : Nat → Int32) (x : Int32) (hL : P.length ≤ 133) (hf : pc_k f0 f1 f2 P) : rd_M l yX1_begin wsX1_begin ({ frames := 1, cells := 0, slots := 0, locals := 21 } : Room) (dC, dI) vwCl (tk_s cB cI cL) [.ref a, .int x] [(a, .inr (1, [.ref h0, .ref h1, .ref h2, .int (nI P.length)])), (h1, .inl (cI, 133, .inl f1))] (ps_L (fun t => t.2.1) P x) := by
  refine rd_ofW (cc := cX1_begin) (maxL := 2) (ret := (some .int)) (by decide) rfl (Nat.le_of_ble_eq_true rfl) ?_
  intro p e s m below meth c ls hx hb hr hml hts hown hlk hP hK hN hl
  have hl : lv_has ls 2 [(0, .ref a), (1, .int x)] := hl
  refine lv_aload_n hx hb dX1_begin_0 rfl (lv_at hl 0 rfl) ?_
  refine lv_iload_n hx hb dX1_begin_1 rfl (lv_at hl 1 rfl) ?_
  refine rd_V (wc := [(a, .inr (1, [.ref h0, .ref h1, .ref h2, .int (nI P.length)]))]) (As := [.int x]) (rest := []) ⟨hx, hb, hml, hown, hts⟩ (c_Pc_isThere l dC dI cB cI cL a h0 h1 h2 P x hL) (cwV 1 hts gX1_begin_X1_isThere rfl rfl rfl (by decide +kernel) ⟨(Nat.le_of_ble_eq_true rfl), (Nat.le_of_ble_eq_true rfl)⟩) hK hN (sb_P hP [0] rfl) 0 rfl rfl rfl rfl hl.1 rfl (Nat.le_of_ble_eq_true rfl) dX1_begin_2 ⟨(Nat.le_of_ble_eq_true rfl), (Nat.le_of_ble_eq_true rfl)⟩ ?_
  rcases pk_ix x (n := P.length) (by omega) with q | q | ⟨j, hj, rfl⟩
  · rw [th_neg q]
    refine lv_if_eq (tgt := 17) hx hb dX1_begin_5 (by decide) (fun c1 => ?_) (fun c1 => ?_)
    · refine lv_iconst (v := (-1)) hx hb dX1_begin_17 (by decide) ?_
      exact rd_iret hx hb hr hlk ((ps_neg q).symm) dX1_begin_18
    · exact absurd rfl c1
  · have q0 : ¬ x < 0 := nn_ge (by omega) q
    rw [th_hi (by omega) q0 q]
    refine lv_if_eq (tgt := 17) hx hb dX1_begin_5 (by decide) (fun c1 => ?_) (fun c1 => ?_)
    · refine lv_iconst (v := (-1)) hx hb dX1_begin_17 (by decide) ?_
      exact rd_iret hx hb hr hlk ((ps_hi (by omega) q0 q).symm) dX1_begin_18
    · exact absurd rfl c1
  · rw [th_in hj (by omega)]
    refine lv_if_eq (tgt := 17) hx hb dX1_begin_5 (by decide) (fun c1 => ?_) (fun c1 => ?_)
    · exact absurd c1 (by decide)
    · refine lv_aload_n hx hb dX1_begin_8 rfl (lv_at hl 0 rfl) ?_
      refine va_get (D := (dC, dI)) (ci := 1) (v := .ref h1) (C := RX1) (T := TX1) (N := 4) hx hb hts (by decide +kernel) hown hK hP 0 rfl rfl 1 (by decide) (hts (.fieldLink RX1 15 "PieceWays$Pieces" "begins" "[I") (by decide +kernel)) (fun _ h9 => h9) rfl dX1_begin_9 ?_
      refine lv_iload_n hx hb dX1_begin_12 rfl (lv_at hl 1 rfl) ?_
      refine va_iald hx hb hK hP 1 1 rfl rfl (vp_in_nI (by omega) (by omega)) dX1_begin_13 ?_
      refine lv_goto (tgt := 18) hx hb dX1_begin_14 (by decide) ?_
      obtain ⟨y, hy⟩ : ∃ y, P[j]? = some y := ⟨_, List.getElem?_eq_getElem hj⟩
      exact rd_iret hx hb hr hlk (by rw [nI_clamp (by omega), ps_in hy (by omega)]; exact (hf j y hy).2.1) dX1_begin_18
set_option maxHeartbeats 4000000 in
set_option maxRecDepth 100000 in
/-- length(x) -/
theorem c_Pc_length (a h0 h1 h2 : Nat) (P : List (Nat × Nat × Nat)) (f0 f1 f2 : Nat → Int32) (x : Int32) (hL : P.length ≤ 133) (hf : pc_k f0 f1 f2 P) : rd_M l yX1_length wsX1_length ({ frames := 1, cells := 0, slots := 0, locals := 21 } : Room) (dC, dI) vwCl (tk_s cB cI cL) [.ref a, .int x] [(a, .inr (1, [.ref h0, .ref h1, .ref h2, .int (nI P.length)])), (h2, .inl (cI, 133, .inl f2))] (ps_L (fun t => t.2.2) P x) := by
  refine rd_ofW (cc := cX1_length) (maxL := 2) (ret := (some .int)) (by decide) rfl (Nat.le_of_ble_eq_true rfl) ?_
  intro p e s m below meth c ls hx hb hr hml hts hown hlk hP hK hN hl
  have hl : lv_has ls 2 [(0, .ref a), (1, .int x)] := hl
  refine lv_aload_n hx hb dX1_length_0 rfl (lv_at hl 0 rfl) ?_
  refine lv_iload_n hx hb dX1_length_1 rfl (lv_at hl 1 rfl) ?_
  refine rd_V (wc := [(a, .inr (1, [.ref h0, .ref h1, .ref h2, .int (nI P.length)]))]) (As := [.int x]) (rest := []) ⟨hx, hb, hml, hown, hts⟩ (c_Pc_isThere l dC dI cB cI cL a h0 h1 h2 P x hL) (cwV 1 hts gX1_length_X1_isThere rfl rfl rfl (by decide +kernel) ⟨(Nat.le_of_ble_eq_true rfl), (Nat.le_of_ble_eq_true rfl)⟩) hK hN (sb_P hP [0] rfl) 0 rfl rfl rfl rfl hl.1 rfl (Nat.le_of_ble_eq_true rfl) dX1_length_2 ⟨(Nat.le_of_ble_eq_true rfl), (Nat.le_of_ble_eq_true rfl)⟩ ?_
  rcases pk_ix x (n := P.length) (by omega) with q | q | ⟨j, hj, rfl⟩
  · rw [th_neg q]
    refine lv_if_eq (tgt := 17) hx hb dX1_length_5 (by decide) (fun c1 => ?_) (fun c1 => ?_)
    · refine lv_iconst (v := (-1)) hx hb dX1_length_17 (by decide) ?_
      exact rd_iret hx hb hr hlk ((ps_neg q).symm) dX1_length_18
    · exact absurd rfl c1
  · have q0 : ¬ x < 0 := nn_ge (by omega) q
    rw [th_hi (by omega) q0 q]
    refine lv_if_eq (tgt := 17) hx hb dX1_length_5 (by decide) (fun c1 => ?_) (fun c1 => ?_)
    · refine lv_iconst (v := (-1)) hx hb dX1_length_17 (by decide) ?_
      exact rd_iret hx hb hr hlk ((ps_hi (by omega) q0 q).symm) dX1_length_18
    · exact absurd rfl c1
  · rw [th_in hj (by omega)]
    refine lv_if_eq (tgt := 17) hx hb dX1_length_5 (by decide) (fun c1 => ?_) (fun c1 => ?_)
    · exact absurd c1 (by decide)
    · refine lv_aload_n hx hb dX1_length_8 rfl (lv_at hl 0 rfl) ?_
      refine va_get (D := (dC, dI)) (ci := 1) (v := .ref h2) (C := RX1) (T := TX1) (N := 4) hx hb hts (by decide +kernel) hown hK hP 0 rfl rfl 2 (by decide) (hts (.fieldLink RX1 18 "PieceWays$Pieces" "lengths" "[I") (by decide +kernel)) (fun _ h9 => h9) rfl dX1_length_9 ?_
      refine lv_iload_n hx hb dX1_length_12 rfl (lv_at hl 1 rfl) ?_
      refine va_iald hx hb hK hP 1 1 rfl rfl (vp_in_nI (by omega) (by omega)) dX1_length_13 ?_
      refine lv_goto (tgt := 18) hx hb dX1_length_14 (by decide) ?_
      obtain ⟨y, hy⟩ : ∃ y, P[j]? = some y := ⟨_, List.getElem?_eq_getElem hj⟩
      exact rd_iret hx hb hr hlk (by rw [nI_clamp (by omega), ps_in hy (by omega)]; exact (hf j y hy).2.2) dX1_length_18
set_option maxHeartbeats 4000000 in
set_option maxRecDepth 100000 in
/-- empty() -/
theorem c_Pc_empty (a h0 h1 h2 : Nat) (n : Int32) : wr_M l yX1_empty wsX1_empty ({ frames := 0, cells := 0, slots := 0, locals := 0 } : Room) (dC, dI) vwCl (tk_s cB cI cL) [.ref a] [(a, .inr (1, [.ref h0, .ref h1, .ref h2, .int n]))] 0 0 (fun _ : Unit => True) (fun _ => [(a, .inr (1, [.ref h0, .ref h1, .ref h2, .int (nI 0)]))]) := by
  refine wr_ofW (cc := cX1_empty) (maxL := 1) (ret := none) (by decide) rfl (Nat.le_of_ble_eq_true rfl) ?_
  intro p e s m below meth c ls A hx hb hr hml hts hown hlk hnm hP hK hN hD hA hS hl
  have hl : lv_has ls 1 [(0, .ref a)] := hl
  refine lv_aload_n hx hb dX1_empty_0 rfl (lv_at hl 0 rfl) ?_
  refine lv_iconst (v := 0) hx hb dX1_empty_1 (by decide) ?_
  refine va_put (D := (dC, dI)) (ci := 1) (v := .int (nI 0)) (ty := .int) (C := RX1) (T := TX1) (N := 4) hx hb hts (by decide +kernel) tyX1 tyX1_ok nmX1 hown hK hP hD hS 0 rfl rfl 3 (by decide) (hts (.fieldLink RX1 21 "PieceWays$Pieces" "used" "I") (by decide +kernel)) (fun _ h9 => h9) rfl (by decide +kernel) rfl rfl (Nat.le_of_ble_eq_true rfl) dX1_empty_2 (fun H locs hP hD hS => ?_)
  have hP : va_P (dC, dI) vwCl [(a, .inr (1, [.ref h0, .ref h1, .ref h2, .int (nI 0)]))] H := hP
  have hD : va_D A [(a, .inr (1, [.ref h0, .ref h1, .ref h2, .int (nI 0)]))] := hD
  exact wr_vret hx hb hr hlk () trivial hP hD hS dX1_empty_5
set_option maxHeartbeats 4000000 in
set_option maxRecDepth 100000 in
/-- add(k, b, n), where there is room -/
theorem c_Pc_add (a h0 h1 h2 : Nat) (P : List (Nat × Nat × Nat)) (f0 f1 f2 : Nat → Int32) (k b n : Nat) (hL : P.length < 133) (hf : pc_k f0 f1 f2 P) : wr_M l yX1_add wsX1_add ({ frames := 0, cells := 0, slots := 0, locals := 0 } : Room) (dC, dI) vwCl (tk_s cB cI cL) [.ref a, .int (nI k), .int (nI b), .int (nI n)] [(a, .inr (1, [.ref h0, .ref h1, .ref h2, .int (nI P.length)])), (h0, .inl (cI, 133, .inl f0)), (h1, .inl (cI, 133, .inl f1)), (h2, .inl (cI, 133, .inl f2))] 0 0 (fun z : (Nat → Int32) × (Nat → Int32) × (Nat → Int32) => pc_k z.1 z.2.1 z.2.2 (P ++ [(k, b, n)])) (fun z => [(a, .inr (1, [.ref h0, .ref h1, .ref h2, .int (nI (P ++ [(k, b, n)]).length)])), (h0, .inl (cI, 133, .inl z.1)), (h1, .inl (cI, 133, .inl z.2.1)), (h2, .inl (cI, 133, .inl z.2.2))]) := by
  refine wr_ofW (cc := cX1_add) (maxL := 4) (ret := none) (by decide) rfl (Nat.le_of_ble_eq_true rfl) ?_
  intro p e s m below meth c ls A hx hb hr hml hts hown hlk hnm hP hK hN hD hA hS hl
  have hl : lv_has ls 4 [(0, .ref a), (1, .int (nI k)), (2, .int (nI b)), (3, .int (nI n))] := hl
  refine lv_aload_n hx hb dX1_add_0 rfl (lv_at hl 0 rfl) ?_
  refine va_get (D := (dC, dI)) (ci := 1) (v := .int (nI P.length)) (C := RX1) (T := TX1) (N := 4) hx hb hts (by decide +kernel) hown hK hP 0 rfl rfl 3 (by decide) (hts (.fieldLink RX1 21 "PieceWays$Pieces" "used" "I") (by decide +kernel)) (fun _ h9 => h9) rfl dX1_add_1 ?_
  refine lv_if_lt (tgt := 17) hx hb dX1_add_4 (by decide) (fun c1 => ?_) (fun c1 => ?_)
  · exact absurd c1 (nI_pos (by omega))
  · refine lv_aload_n hx hb dX1_add_7 rfl (lv_at hl 0 rfl) ?_
    refine va_get (D := (dC, dI)) (ci := 1) (v := .int (nI P.length)) (C := RX1) (T := TX1) (N := 4) hx hb hts (by decide +kernel) hown hK hP 0 rfl rfl 3 (by decide) (hts (.fieldLink RX1 21 "PieceWays$Pieces" "used" "I") (by decide +kernel)) (fun _ h9 => h9) rfl dX1_add_8 ?_
    refine lv_sipush (v := 133) hx hb dX1_add_11 (by decide) ?_
    refine lv_icmp_lt (tgt := 18) hx hb dX1_add_14 (by decide) (fun c2 => ?_) (fun c2 => ?_)
    · refine lv_aload_n hx hb dX1_add_18 rfl (lv_at hl 0 rfl) ?_
      refine va_get (D := (dC, dI)) (ci := 1) (v := .ref h0) (C := RX1) (T := TX1) (N := 4) hx hb hts (by decide +kernel) hown hK hP 0 rfl rfl 0 (by decide) (hts (.fieldLink RX1 9 "PieceWays$Pieces" "kinds" "[I") (by decide +kernel)) (fun _ h9 => h9) rfl dX1_add_19 ?_
      refine lv_aload_n hx hb dX1_add_22 rfl (lv_at hl 0 rfl) ?_
      refine va_get (D := (dC, dI)) (ci := 1) (v := .int (nI P.length)) (C := RX1) (T := TX1) (N := 4) hx hb hts (by decide +kernel) hown hK hP 0 rfl rfl 3 (by decide) (hts (.fieldLink RX1 21 "PieceWays$Pieces" "used" "I") (by decide +kernel)) (fun _ h9 => h9) rfl dX1_add_23 ?_
      refine lv_iload_n hx hb dX1_add_26 rfl (lv_at hl 1 rfl) ?_
      refine va_iast hx hb hK hP hD hS 1 1 rfl rfl (vp_in_nI hL (by omega)) dX1_add_27 (fun H locs hP hD hS => ?_)
      have hP : va_P (dC, dI) vwCl [(a, .inr (1, [.ref h0, .ref h1, .ref h2, .int (nI P.length)])), (h0, .inl (cI, 133, .inl (upd f0 (nI P.length).toNatClampNeg (nI k)))), (h1, .inl (cI, 133, .inl f1)), (h2, .inl (cI, 133, .inl f2))] H := hP
      have hD : va_D A [(a, .inr (1, [.ref h0, .ref h1, .ref h2, .int (nI P.length)])), (h0, .inl (cI, 133, .inl (upd f0 (nI P.length).toNatClampNeg (nI k)))), (h1, .inl (cI, 133, .inl f1)), (h2, .inl (cI, 133, .inl f2))] := hD
      refine lv_aload_n hx hb dX1_add_28 rfl (lv_at hl 0 rfl) ?_
      refine va_get (D := (dC, dI)) (ci := 1) (v := .ref h1) (C := RX1) (T := TX1) (N := 4) hx hb hts (by decide +kernel) hown hK hP 0 rfl rfl 1 (by decide) (hts (.fieldLink RX1 15 "PieceWays$Pieces" "begins" "[I") (by decide +kernel)) (fun _ h9 => h9) rfl dX1_add_29 ?_
      refine lv_aload_n hx hb dX1_add_32 rfl (lv_at hl 0 rfl) ?_
      refine va_get (D := (dC, dI)) (ci := 1) (v := .int (nI P.length)) (C := RX1) (T := TX1) (N := 4) hx hb hts (by decide +kernel) hown hK hP 0 rfl rfl 3 (by decide) (hts (.fieldLink RX1 21 "PieceWays$Pieces" "used" "I") (by decide +kernel)) (fun _ h9 => h9) rfl dX1_add_33 ?_
      refine lv_iload_n hx hb dX1_add_36 rfl (lv_at hl 2 rfl) ?_
      refine va_iast hx hb hK hP hD hS 2 1 rfl rfl (vp_in_nI hL (by omega)) dX1_add_37 (fun H locs hP hD hS => ?_)
      have hP : va_P (dC, dI) vwCl [(a, .inr (1, [.ref h0, .ref h1, .ref h2, .int (nI P.length)])), (h0, .inl (cI, 133, .inl (upd f0 (nI P.length).toNatClampNeg (nI k)))), (h1, .inl (cI, 133, .inl (upd f1 (nI P.length).toNatClampNeg (nI b)))), (h2, .inl (cI, 133, .inl f2))] H := hP
      have hD : va_D A [(a, .inr (1, [.ref h0, .ref h1, .ref h2, .int (nI P.length)])), (h0, .inl (cI, 133, .inl (upd f0 (nI P.length).toNatClampNeg (nI k)))), (h1, .inl (cI, 133, .inl (upd f1 (nI P.length).toNatClampNeg (nI b)))), (h2, .inl (cI, 133, .inl f2))] := hD
      refine lv_aload_n hx hb dX1_add_38 rfl (lv_at hl 0 rfl) ?_
      refine va_get (D := (dC, dI)) (ci := 1) (v := .ref h2) (C := RX1) (T := TX1) (N := 4) hx hb hts (by decide +kernel) hown hK hP 0 rfl rfl 2 (by decide) (hts (.fieldLink RX1 18 "PieceWays$Pieces" "lengths" "[I") (by decide +kernel)) (fun _ h9 => h9) rfl dX1_add_39 ?_
      refine lv_aload_n hx hb dX1_add_42 rfl (lv_at hl 0 rfl) ?_
      refine va_get (D := (dC, dI)) (ci := 1) (v := .int (nI P.length)) (C := RX1) (T := TX1) (N := 4) hx hb hts (by decide +kernel) hown hK hP 0 rfl rfl 3 (by decide) (hts (.fieldLink RX1 21 "PieceWays$Pieces" "used" "I") (by decide +kernel)) (fun _ h9 => h9) rfl dX1_add_43 ?_
      refine lv_iload_n hx hb dX1_add_46 rfl (lv_at hl 3 rfl) ?_
      refine va_iast hx hb hK hP hD hS 3 1 rfl rfl (vp_in_nI hL (by omega)) dX1_add_47 (fun H locs hP hD hS => ?_)
      have hP : va_P (dC, dI) vwCl [(a, .inr (1, [.ref h0, .ref h1, .ref h2, .int (nI P.length)])), (h0, .inl (cI, 133, .inl (upd f0 (nI P.length).toNatClampNeg (nI k)))), (h1, .inl (cI, 133, .inl (upd f1 (nI P.length).toNatClampNeg (nI b)))), (h2, .inl (cI, 133, .inl (upd f2 (nI P.length).toNatClampNeg (nI n))))] H := hP
      have hD : va_D A [(a, .inr (1, [.ref h0, .ref h1, .ref h2, .int (nI P.length)])), (h0, .inl (cI, 133, .inl (upd f0 (nI P.length).toNatClampNeg (nI k)))), (h1, .inl (cI, 133, .inl (upd f1 (nI P.length).toNatClampNeg (nI b)))), (h2, .inl (cI, 133, .inl (upd f2 (nI P.length).toNatClampNeg (nI n))))] := hD
      refine lv_aload_n hx hb dX1_add_48 rfl (lv_at hl 0 rfl) ?_
      refine lv_dup hx hb dX1_add_49 rfl ?_
      refine va_get (D := (dC, dI)) (ci := 1) (v := .int (nI P.length)) (C := RX1) (T := TX1) (N := 4) hx hb hts (by decide +kernel) hown hK hP 0 rfl rfl 3 (by decide) (hts (.fieldLink RX1 21 "PieceWays$Pieces" "used" "I") (by decide +kernel)) (fun _ h9 => h9) rfl dX1_add_50 ?_
      refine lv_iconst (v := 1) hx hb dX1_add_53 (by decide) ?_
      refine lv_iadd hx hb dX1_add_54 ?_
      refine va_put (D := (dC, dI)) (ci := 1) (v := .int ((nI P.length) + 1)) (ty := .int) (C := RX1) (T := TX1) (N := 4) hx hb hts (by decide +kernel) tyX1 tyX1_ok nmX1 hown hK hP hD hS 0 rfl rfl 3 (by decide) (hts (.fieldLink RX1 21 "PieceWays$Pieces" "used" "I") (by decide +kernel)) (fun _ h9 => h9) rfl (by decide +kernel) rfl rfl (Nat.le_of_ble_eq_true rfl) dX1_add_55 (fun H locs hP hD hS => ?_)
      have hP : va_P (dC, dI) vwCl [(a, .inr (1, [.ref h0, .ref h1, .ref h2, .int ((nI P.length) + 1)])), (h0, .inl (cI, 133, .inl (upd f0 (nI P.length).toNatClampNeg (nI k)))), (h1, .inl (cI, 133, .inl (upd f1 (nI P.length).toNatClampNeg (nI b)))), (h2, .inl (cI, 133, .inl (upd f2 (nI P.length).toNatClampNeg (nI n))))] H := hP
      have hD : va_D A [(a, .inr (1, [.ref h0, .ref h1, .ref h2, .int ((nI P.length) + 1)])), (h0, .inl (cI, 133, .inl (upd f0 (nI P.length).toNatClampNeg (nI k)))), (h1, .inl (cI, 133, .inl (upd f1 (nI P.length).toNatClampNeg (nI b)))), (h2, .inl (cI, 133, .inl (upd f2 (nI P.length).toNatClampNeg (nI n))))] := hD
      rw [nI_clamp (by omega)] at hP hD
      have e1 : nI P.length + 1 = nI (P ++ [(k, b, n)]).length := by rw [List.length_append]; exact nI_1 _
      rw [e1] at hP hD
      exact wr_vret hx hb hr hlk (upd f0 P.length (nI k), upd f1 P.length (nI b), upd f2 P.length (nI n)) (pc_add hf k b n) hP hD hS dX1_add_58
    · exact absurd (nI_lt (a := P.length) (b := 133) hL (by omega)) c2
set_option maxHeartbeats 4000000 in
set_option maxRecDepth 100000 in
/-- addPlainByte(pl), where there is room -/
theorem c_Pc_addPlainByte (a h0 h1 h2 : Nat) (P : List (Nat × Nat × Nat)) (f0 f1 f2 : Nat → Int32) (pl : Nat) (hk : ∀ t ∈ P, t.1 < 3) (hL : P.length ≤ 133) (hA1 : (ap_P P pl).length ≤ 133) (hf : pc_k f0 f1 f2 P) : wr_M l yX1_addPlainByte wsX1_addPlainByte ({ frames := 1, cells := 0, slots := 0, locals := 23 } : Room) (dC, dI) vwCl (tk_s cB cI cL) [.ref a, .int (nI pl)] [(a, .inr (1, [.ref h0, .ref h1, .ref h2, .int (nI P.length)])), (h0, .inl (cI, 133, .inl f0)), (h1, .inl (cI, 133, .inl f1)), (h2, .inl (cI, 133, .inl f2))] 0 0 (fun z : (Nat → Int32) × (Nat → Int32) × (Nat → Int32) => pc_k z.1 z.2.1 z.2.2 (ap_P P pl)) (fun z => [(a, .inr (1, [.ref h0, .ref h1, .ref h2, .int (nI (ap_P P pl).length)])), (h0, .inl (cI, 133, .inl z.1)), (h1, .inl (cI, 133, .inl z.2.1)), (h2, .inl (cI, 133, .inl z.2.2))]) := by
  refine wr_ofW (cc := cX1_addPlainByte) (maxL := 3) (ret := none) (by decide) rfl (Nat.le_of_ble_eq_true rfl) ?_
  intro p e s m below meth c ls A hx hb hr hml hts hown hlk hnm hP hK hN hD hA hS hl
  have hl : lv_has ls 3 [(0, .ref a), (1, .int (nI pl))] := hl
  rcases sp_last P with rfl | ⟨Q, t, rfl⟩
  · refine lv_aload_n hx hb dX1_addPlainByte_0 rfl (lv_at hl 0 rfl) ?_
    refine va_get (D := (dC, dI)) (ci := 1) (v := .int (nI ([] : List (Nat × Nat × Nat)).length)) (C := RX1) (T := TX1) (N := 4) hx hb hts (by decide +kernel) hown hK hP 0 rfl rfl 3 (by decide) (hts (.fieldLink RX1 21 "PieceWays$Pieces" "used" "I") (by decide +kernel)) (fun _ h9 => h9) rfl dX1_addPlainByte_1 ?_
    refine lv_iconst (v := 1) hx hb dX1_addPlainByte_4 (by decide) ?_
    refine lv_isub hx hb dX1_addPlainByte_5 ?_
    refine lv_istore_n (lv' := [(2, .int ((nI ([] : List (Nat × Nat × Nat)).length) - 1)), (0, .ref a), (1, .int (nI pl))]) hx hb dX1_addPlainByte_6 rfl hl (by decide) rfl (fun ls hl => ?_)
    refine lv_aload_n hx hb dX1_addPlainByte_7 rfl (lv_at hl 1 rfl) ?_
    refine lv_iload_n hx hb dX1_addPlainByte_8 rfl (lv_at hl 0 rfl) ?_
    refine rd_V (wc := [(a, .inr (1, [.ref h0, .ref h1, .ref h2, .int (nI ([] : List (Nat × Nat × Nat)).length)]))]) (As := [.int ((nI ([] : List (Nat × Nat × Nat)).length) - 1)]) (rest := []) ⟨hx, hb, hml, hown, hts⟩ (c_Pc_isThere l dC dI cB cI cL a h0 h1 h2 [] (nI ([] : List (Nat × Nat × Nat)).length - 1) (by decide)) (cwV 1 hts gX1_addPlainByte_X1_isThere rfl rfl rfl (by decide +kernel) ⟨(Nat.le_of_ble_eq_true rfl), (Nat.le_of_ble_eq_true rfl)⟩) hK hN (sb_P hP [0] rfl) 0 rfl rfl rfl rfl hl.1 rfl (Nat.le_of_ble_eq_true rfl) dX1_addPlainByte_9 ⟨(Nat.le_of_ble_eq_true rfl), (Nat.le_of_ble_eq_true rfl)⟩ ?_
    have e1 : th_P [] (nI ([] : List (Nat × Nat × Nat)).length - 1) = 0 := th_neg (by decide)
    rw [e1]
    refine lv_if_eq (tgt := 38) hx hb dX1_addPlainByte_12 (by decide) (fun c1 => ?_) (fun c1 => ?_)
    · have e9 : ap_P [] pl = [] ++ [(2, pl, 1)] := rfl
      refine lv_aload_n hx hb dX1_addPlainByte_38 rfl (lv_at hl 1 rfl) ?_
      refine lv_iconst (v := 2) hx hb dX1_addPlainByte_39 (by decide) ?_
      refine lv_iload_n hx hb dX1_addPlainByte_40 rfl (lv_at hl 2 rfl) ?_
      refine lv_iconst (v := 1) hx hb dX1_addPlainByte_41 (by decide) ?_
      refine wr_V (wc := [(a, .inr (1, [.ref h0, .ref h1, .ref h2, .int (nI ([] : List (Nat × Nat × Nat)).length)])), (h0, .inl (cI, 133, .inl f0)), (h1, .inl (cI, 133, .inl f1)), (h2, .inl (cI, 133, .inl f2))]) (wr := []) (As := [.int 2, .int (nI pl), .int 1]) (rest := []) ⟨hx, hb, hml, hown, hts⟩ (c_Pc_add l dC dI cB cI cL a h0 h1 h2 ([]) f0 f1 f2 2 pl 1 (by rw [e9, List.length_append, List.length_singleton] at hA1; omega) hf) (cwV 3 hts gX1_addPlainByte_X1_add rfl rfl rfl (by decide +kernel) ⟨(Nat.le_of_ble_eq_true rfl), (Nat.le_of_ble_eq_true rfl)⟩) hK hN hP hD hS hA [0, 1, 2, 3] [] rfl rfl (by decide) (by decide) (by decide) 0 rfl rfl rfl rfl hl.1 rfl (Nat.le_of_ble_eq_true rfl) dX1_addPlainByte_42 ⟨(Nat.le_of_ble_eq_true rfl), (Nat.le_of_ble_eq_true rfl)⟩ (fun z H locs hz hP hD hS => ?_)
      have hP : va_P (dC, dI) vwCl [(a, .inr (1, [.ref h0, .ref h1, .ref h2, .int (nI ([] ++ [(2, pl, 1)]).length)])), (h0, .inl (cI, 133, .inl (z.1))), (h1, .inl (cI, 133, .inl (z.2.1))), (h2, .inl (cI, 133, .inl (z.2.2)))] H := hP.sub [0, 1, 2, 3] rfl
      have hD : va_D A [(a, .inr (1, [.ref h0, .ref h1, .ref h2, .int (nI ([] ++ [(2, pl, 1)]).length)])), (h0, .inl (cI, 133, .inl (z.1))), (h1, .inl (cI, 133, .inl (z.2.1))), (h2, .inl (cI, 133, .inl (z.2.2)))] := hD.sub [0, 1, 2, 3] (by decide) rfl
      rw [← e9] at hz hP hD
      exact wr_vret hx hb hr hlk z hz hP hD hS dX1_addPlainByte_45
    · exact absurd rfl c1
  · have hlen : (Q ++ [t]).length = Q.length + 1 := by simp
    have hq : (Q ++ [t])[Q.length]? = some t := by simp
    have e0 : nI (Q ++ [t]).length - 1 = nI Q.length := by rw [hlen]; exact nI_pred _
    refine lv_aload_n hx hb dX1_addPlainByte_0 rfl (lv_at hl 0 rfl) ?_
    refine va_get (D := (dC, dI)) (ci := 1) (v := .int (nI (Q ++ [t]).length)) (C := RX1) (T := TX1) (N := 4) hx hb hts (by decide +kernel) hown hK hP 0 rfl rfl 3 (by decide) (hts (.fieldLink RX1 21 "PieceWays$Pieces" "used" "I") (by decide +kernel)) (fun _ h9 => h9) rfl dX1_addPlainByte_1 ?_
    refine lv_iconst (v := 1) hx hb dX1_addPlainByte_4 (by decide) ?_
    refine lv_isub hx hb dX1_addPlainByte_5 ?_
    rw [e0]
    refine lv_istore_n (lv' := [(2, .int (nI Q.length)), (0, .ref a), (1, .int (nI pl))]) hx hb dX1_addPlainByte_6 rfl hl (by decide) rfl (fun ls hl => ?_)
    refine lv_aload_n hx hb dX1_addPlainByte_7 rfl (lv_at hl 1 rfl) ?_
    refine lv_iload_n hx hb dX1_addPlainByte_8 rfl (lv_at hl 0 rfl) ?_
    refine rd_V (wc := [(a, .inr (1, [.ref h0, .ref h1, .ref h2, .int (nI (Q ++ [t]).length)]))]) (As := [.int (nI Q.length)]) (rest := []) ⟨hx, hb, hml, hown, hts⟩ (c_Pc_isThere l dC dI cB cI cL a h0 h1 h2 (Q ++ [t]) (nI Q.length) hL) (cwV 1 hts gX1_addPlainByte_X1_isThere rfl rfl rfl (by decide +kernel) ⟨(Nat.le_of_ble_eq_true rfl), (Nat.le_of_ble_eq_true rfl)⟩) hK hN (sb_P hP [0] rfl) 0 rfl rfl rfl rfl hl.1 rfl (Nat.le_of_ble_eq_true rfl) dX1_addPlainByte_9 ⟨(Nat.le_of_ble_eq_true rfl), (Nat.le_of_ble_eq_true rfl)⟩ ?_
    rw [th_in (P := Q ++ [t]) (j := Q.length) (by omega) (by omega)]
    refine lv_if_eq (tgt := 38) hx hb dX1_addPlainByte_12 (by decide) (fun c1 => ?_) (fun c1 => ?_)
    · exact absurd c1 (by decide)
    · refine lv_aload_n hx hb dX1_addPlainByte_15 rfl (lv_at hl 1 rfl) ?_
      refine va_get (D := (dC, dI)) (ci := 1) (v := .ref h0) (C := RX1) (T := TX1) (N := 4) hx hb hts (by decide +kernel) hown hK hP 0 rfl rfl 0 (by decide) (hts (.fieldLink RX1 9 "PieceWays$Pieces" "kinds" "[I") (by decide +kernel)) (fun _ h9 => h9) rfl dX1_addPlainByte_16 ?_
      refine lv_iload_n hx hb dX1_addPlainByte_19 rfl (lv_at hl 0 rfl) ?_
      refine va_iald hx hb hK hP 1 1 rfl rfl (vp_in_nI (by omega) (by omega)) dX1_addPlainByte_20 ?_
      rw [nI_clamp (by omega), (hf Q.length t hq).1]
      refine lv_iconst (v := 2) hx hb dX1_addPlainByte_21 (by decide) ?_
      refine lv_icmp_ne (tgt := 38) hx hb dX1_addPlainByte_22 (by decide) (fun c2 => ?_) (fun c2 => ?_)
      · have e9 : ap_P (Q ++ [t]) pl = (Q ++ [t]) ++ [(2, pl, 1)] := ap_new (by intro y hy; rw [List.getLast?_concat] at hy; cases hy; intro h9; exact c2 (by rw [h9]; rfl))
        refine lv_aload_n hx hb dX1_addPlainByte_38 rfl (lv_at hl 1 rfl) ?_
        refine lv_iconst (v := 2) hx hb dX1_addPlainByte_39 (by decide) ?_
        refine lv_iload_n hx hb dX1_addPlainByte_40 rfl (lv_at hl 2 rfl) ?_
        refine lv_iconst (v := 1) hx hb dX1_addPlainByte_41 (by decide) ?_
        refine wr_V (wc := [(a, .inr (1, [.ref h0, .ref h1, .ref h2, .int (nI (Q ++ [t]).length)])), (h0, .inl (cI, 133, .inl f0)), (h1, .inl (cI, 133, .inl f1)), (h2, .inl (cI, 133, .inl f2))]) (wr := []) (As := [.int 2, .int (nI pl), .int 1]) (rest := []) ⟨hx, hb, hml, hown, hts⟩ (c_Pc_add l dC dI cB cI cL a h0 h1 h2 (Q ++ [t]) f0 f1 f2 2 pl 1 (by rw [e9, List.length_append, List.length_singleton] at hA1; omega) hf) (cwV 3 hts gX1_addPlainByte_X1_add rfl rfl rfl (by decide +kernel) ⟨(Nat.le_of_ble_eq_true rfl), (Nat.le_of_ble_eq_true rfl)⟩) hK hN hP hD hS hA [0, 1, 2, 3] [] rfl rfl (by decide) (by decide) (by decide) 0 rfl rfl rfl rfl hl.1 rfl (Nat.le_of_ble_eq_true rfl) dX1_addPlainByte_42 ⟨(Nat.le_of_ble_eq_true rfl), (Nat.le_of_ble_eq_true rfl)⟩ (fun z H locs hz hP hD hS => ?_)
        have hP : va_P (dC, dI) vwCl [(a, .inr (1, [.ref h0, .ref h1, .ref h2, .int (nI (Q ++ [t] ++ [(2, pl, 1)]).length)])), (h0, .inl (cI, 133, .inl (z.1))), (h1, .inl (cI, 133, .inl (z.2.1))), (h2, .inl (cI, 133, .inl (z.2.2)))] H := hP.sub [0, 1, 2, 3] rfl
        have hD : va_D A [(a, .inr (1, [.ref h0, .ref h1, .ref h2, .int (nI (Q ++ [t] ++ [(2, pl, 1)]).length)])), (h0, .inl (cI, 133, .inl (z.1))), (h1, .inl (cI, 133, .inl (z.2.1))), (h2, .inl (cI, 133, .inl (z.2.2)))] := hD.sub [0, 1, 2, 3] (by decide) rfl
        rw [← e9] at hz hP hD
        exact wr_vret hx hb hr hlk z hz hP hD hS dX1_addPlainByte_45
      · have k2 : t.1 = 2 := by rcases Nat.lt_or_ge t.1 (2 ^ 31) with h9 | h9; exact (nI_eq h9 (by omega)).mp c2; exact absurd h9 (by have := hk t (by simp); omega)
        refine lv_aload_n hx hb dX1_addPlainByte_25 rfl (lv_at hl 1 rfl) ?_
        refine va_get (D := (dC, dI)) (ci := 1) (v := .ref h2) (C := RX1) (T := TX1) (N := 4) hx hb hts (by decide +kernel) hown hK hP 0 rfl rfl 2 (by decide) (hts (.fieldLink RX1 18 "PieceWays$Pieces" "lengths" "[I") (by decide +kernel)) (fun _ h9 => h9) rfl dX1_addPlainByte_26 ?_
        refine lv_iload_n hx hb dX1_addPlainByte_29 rfl (lv_at hl 0 rfl) ?_
        refine lv_dup2_11 hx hb dX1_addPlainByte_30 rfl rfl ?_
        refine va_iald hx hb hK hP 3 1 rfl rfl (vp_in_nI (by omega) (by omega)) dX1_addPlainByte_31 ?_
        refine lv_iconst (v := 1) hx hb dX1_addPlainByte_32 (by decide) ?_
        refine lv_iadd hx hb dX1_addPlainByte_33 ?_
        refine va_iast hx hb hK hP hD hS 3 1 rfl rfl (vp_in_nI (by omega) (by omega)) dX1_addPlainByte_34 (fun H locs hP hD hS => ?_)
        have hP : va_P (dC, dI) vwCl [(a, .inr (1, [.ref h0, .ref h1, .ref h2, .int (nI (Q ++ [t]).length)])), (h0, .inl (cI, 133, .inl f0)), (h1, .inl (cI, 133, .inl f1)), (h2, .inl (cI, 133, .inl (upd f2 (nI Q.length).toNatClampNeg (f2 (nI Q.length).toNatClampNeg + 1))))] H := hP
        have hD : va_D A [(a, .inr (1, [.ref h0, .ref h1, .ref h2, .int (nI (Q ++ [t]).length)])), (h0, .inl (cI, 133, .inl f0)), (h1, .inl (cI, 133, .inl f1)), (h2, .inl (cI, 133, .inl (upd f2 (nI Q.length).toNatClampNeg (f2 (nI Q.length).toNatClampNeg + 1))))] := hD
        refine lv_goto (tgt := 45) hx hb dX1_addPlainByte_35 (by decide) ?_
        rw [nI_clamp (by omega)] at hP hD
        have e9 : ap_P (Q ++ [t]) pl = Q ++ [(t.1, t.2.1, t.2.2 + 1)] := ap_grow k2
        have e8 : (Q ++ [t]).length = (ap_P (Q ++ [t]) pl).length := by rw [e9]; simp
        rw [e8] at hP hD
        exact wr_vret hx hb hr hlk (f0, f1, upd f2 Q.length (f2 Q.length + 1)) (by rw [e9]; exact pc_grow hf) hP hD hS dX1_addPlainByte_45
set_option maxHeartbeats 4000000 in
set_option maxRecDepth 100000 in
/-- copiedEnd() -/
theorem c_Pc_copiedEnd (a h0 h1 h2 : Nat) (P : List (Nat × Nat × Nat)) (f0 f1 f2 : Nat → Int32) (hk : ∀ t ∈ P, t.1 < 3 ∧ t.2.1 + t.2.2 ≤ 600) (hL : P.length ≤ 133) (hf : pc_k f0 f1 f2 P) : rd_M l yX1_copiedEnd wsX1_copiedEnd ({ frames := 2, cells := 0, slots := 0, locals := 42 } : Room) (dC, dI) vwCl (tk_s cB cI cL) [.ref a] [(a, .inr (1, [.ref h0, .ref h1, .ref h2, .int (nI P.length)])), (h0, .inl (cI, 133, .inl f0)), (h1, .inl (cI, 133, .inl f1)), (h2, .inl (cI, 133, .inl f2))] (nI (ce_P P)) := by
  refine rd_ofW (cc := cX1_copiedEnd) (maxL := 3) (ret := (some .int)) (by decide) rfl (Nat.le_of_ble_eq_true rfl) ?_
  intro p e s m below meth c ls hx hb hr hml hts hown hlk hP hK hN hl
  have hl : lv_has ls 3 [(0, .ref a)] := hl
  have hce : ∀ j : Nat, ce_P (P.take j) ≤ 600 := fun j => ce_le _ 0 600 (by omega) (fun t ht _ => (hk t (List.mem_of_mem_take ht)).2)
  have loop : ∀ (n j : Nat) (ls : Array Slot), n + j = P.length → lv_has ls 3 [(2, .int (nI j)), (1, .int (nI (ce_P (P.take j)))), (0, .ref a)] → W p l e ({ frames := 2, cells := 0, slots := 0, locals := 42 } : Room) s m ([.ref a] : List Value).toArray below meth c s.heap [] 0 0 (MQ below (QcRead (nI (ce_P P))) ([.ref a] : List Value).toArray s 0 0 (fun _ => False)) (F0 m 4 ls []) := by
    intro n
    induction n with
    | zero =>
      intro j ls hj hl
      have hj : j = P.length := by omega
      subst hj
      refine lv_iload_n hx hb dX1_copiedEnd_4 rfl (lv_at hl 0 rfl) ?_
      refine lv_aload_n hx hb dX1_copiedEnd_5 rfl (lv_at hl 2 rfl) ?_
      refine va_get (D := (dC, dI)) (ci := 1) (v := .int (nI P.length)) (C := RX1) (T := TX1) (N := 4) hx hb hts (by decide +kernel) hown hK hP 0 rfl rfl 3 (by decide) (hts (.fieldLink RX1 21 "PieceWays$Pieces" "used" "I") (by decide +kernel)) (fun _ h9 => h9) rfl dX1_copiedEnd_6 ?_
      refine lv_icmp_ge (tgt := 43) hx hb dX1_copiedEnd_9 (by decide) (fun c1 => ?_) (fun c1 => ?_)
      · refine lv_iload_n hx hb dX1_copiedEnd_43 rfl (lv_at hl 1 rfl) ?_
        exact rd_iret hx hb hr hlk (by rw [List.take_length]) dX1_copiedEnd_44
      · exact absurd (nI_le (Nat.le_refl _) (by omega)) c1
    | succ n ih =>
      intro j ls hj hl
      obtain ⟨t, ht⟩ : ∃ t, P[j]? = some t := ⟨_, List.getElem?_eq_getElem (by omega)⟩
      have hkt := hk t (List.mem_of_getElem? ht)
      have hcj := hce j
      have hct := ce_take ht
      refine lv_iload_n hx hb dX1_copiedEnd_4 rfl (lv_at hl 0 rfl) ?_
      refine lv_aload_n hx hb dX1_copiedEnd_5 rfl (lv_at hl 2 rfl) ?_
      refine va_get (D := (dC, dI)) (ci := 1) (v := .int (nI P.length)) (C := RX1) (T := TX1) (N := 4) hx hb hts (by decide +kernel) hown hK hP 0 rfl rfl 3 (by decide) (hts (.fieldLink RX1 21 "PieceWays$Pieces" "used" "I") (by decide +kernel)) (fun _ h9 => h9) rfl dX1_copiedEnd_6 ?_
      refine lv_icmp_ge (tgt := 43) hx hb dX1_copiedEnd_9 (by decide) (fun c1 => ?_) (fun c1 => ?_)
      · exact absurd c1 (nI_ge (by omega) (by omega))
      · refine lv_aload_n hx hb dX1_copiedEnd_12 rfl (lv_at hl 2 rfl) ?_
        refine lv_iload_n hx hb dX1_copiedEnd_13 rfl (lv_at hl 0 rfl) ?_
        refine rd_V (wc := [(a, .inr (1, [.ref h0, .ref h1, .ref h2, .int (nI P.length)])), (h0, .inl (cI, 133, .inl f0))]) (As := [.int (nI j)]) (rest := []) ⟨hx, hb, hml, hown, hts⟩ (c_Pc_kind l dC dI cB cI cL a h0 h1 h2 P f0 f1 f2 (nI j) hL hf) (cwV 1 hts gX1_copiedEnd_X1_kind rfl rfl rfl (by decide +kernel) ⟨(Nat.le_of_ble_eq_true rfl), (Nat.le_of_ble_eq_true rfl)⟩) hK hN (sb_P hP [0, 1] rfl) 0 rfl rfl rfl rfl hl.1 rfl (Nat.le_of_ble_eq_true rfl) dX1_copiedEnd_14 ⟨(Nat.le_of_ble_eq_true rfl), (Nat.le_of_ble_eq_true rfl)⟩ ?_
        rw [ps_in (g := fun t => t.1) ht (by omega)]
        refine lv_iconst (v := 1) hx hb dX1_copiedEnd_17 (by decide) ?_
        refine lv_icmp_ne (tgt := 37) hx hb dX1_copiedEnd_18 (by decide) (fun c2 => ?_) (fun c2 => ?_)
        · have k1 : ¬ t.1 = 1 := fun h9 => c2 (by rw [h9]; rfl)
          refine lv_iinc (v := ((nI j) + 1)) (lv' := [(2, .int ((nI j) + 1)), (1, .int (nI (ce_P (P.take j)))), (0, .ref a)]) hx hb dX1_copiedEnd_37 hl (k := 0) rfl rfl (by decide) rfl (fun ls hl => ?_)
          refine lv_goto (tgt := 4) hx hb dX1_copiedEnd_40 (by decide) ?_
          have hl : lv_has ls 3 [(2, .int (nI (j + 1))), (1, .int (nI (ce_P (P.take (j + 1))))), (0, .ref a)] := by have h9 := lv_sub (l' := [(2, .int ((nI j) + 1)), (1, .int (nI (ce_P (P.take j)))), (0, .ref a)]) hl [0, 1, 2] rfl; rw [nI_1] at h9; rw [hct, if_neg k1]; exact h9
          exact ih (j + 1) ls (by omega) hl
        · have k1 : t.1 = 1 := (nI_eq (by omega) (by omega)).mp c2
          refine lv_iload_n hx hb dX1_copiedEnd_21 rfl (lv_at hl 1 rfl) ?_
          refine lv_aload_n hx hb dX1_copiedEnd_22 rfl (lv_at hl 2 rfl) ?_
          refine lv_iload_n hx hb dX1_copiedEnd_23 rfl (lv_at hl 0 rfl) ?_
          refine rd_V (wc := [(a, .inr (1, [.ref h0, .ref h1, .ref h2, .int (nI P.length)])), (h1, .inl (cI, 133, .inl f1))]) (As := [.int (nI j)]) (rest := [.int (nI (ce_P (P.take j)))]) ⟨hx, hb, hml, hown, hts⟩ (c_Pc_begin l dC dI cB cI cL a h0 h1 h2 P f0 f1 f2 (nI j) hL hf) (cwV 1 hts gX1_copiedEnd_X1_begin rfl rfl rfl (by decide +kernel) ⟨(Nat.le_of_ble_eq_true rfl), (Nat.le_of_ble_eq_true rfl)⟩) hK hN (sb_P hP [0, 2] rfl) 0 rfl rfl rfl rfl hl.1 rfl (Nat.le_of_ble_eq_true rfl) dX1_copiedEnd_24 ⟨(Nat.le_of_ble_eq_true rfl), (Nat.le_of_ble_eq_true rfl)⟩ ?_
          rw [ps_in (g := fun t => t.2.1) ht (by omega)]
          refine lv_aload_n hx hb dX1_copiedEnd_27 rfl (lv_at hl 2 rfl) ?_
          refine lv_iload_n hx hb dX1_copiedEnd_28 rfl (lv_at hl 0 rfl) ?_
          refine rd_V (wc := [(a, .inr (1, [.ref h0, .ref h1, .ref h2, .int (nI P.length)])), (h2, .inl (cI, 133, .inl f2))]) (As := [.int (nI j)]) (rest := [.int (nI t.2.1), .int (nI (ce_P (P.take j)))]) ⟨hx, hb, hml, hown, hts⟩ (c_Pc_length l dC dI cB cI cL a h0 h1 h2 P f0 f1 f2 (nI j) hL hf) (cwV 1 hts gX1_copiedEnd_X1_length rfl rfl rfl (by decide +kernel) ⟨(Nat.le_of_ble_eq_true rfl), (Nat.le_of_ble_eq_true rfl)⟩) hK hN (sb_P hP [0, 3] rfl) 0 rfl rfl rfl rfl hl.1 rfl (Nat.le_of_ble_eq_true rfl) dX1_copiedEnd_29 ⟨(Nat.le_of_ble_eq_true rfl), (Nat.le_of_ble_eq_true rfl)⟩ ?_
          rw [ps_in (g := fun t => t.2.2) ht (by omega)]
          refine lv_iadd hx hb dX1_copiedEnd_32 ?_
          refine va_mmax hx hb (by rw [hml]; exact hl.1.symm) hown (hts (.methodLink RX1 43 Lib.Math.max.name) (by decide +kernel)) (hts (.static Lib.Math.max.name) (by decide +kernel)) (hts (.initialized "java/lang/Math") (by decide +kernel)) (hts (.code Lib.Math.max.name Lib.Math.max.code 2 (some .int)) (by decide +kernel)) (Nat.le_of_ble_eq_true rfl) (Nat.le_of_ble_eq_true rfl) (Nat.le_of_ble_eq_true rfl) (Nat.le_of_ble_eq_true rfl) dX1_copiedEnd_33 ?_
          have emx : (if nI (ce_P (P.take j)) < nI t.2.1 + nI t.2.2 then nI t.2.1 + nI t.2.2 else nI (ce_P (P.take j))) = nI (max (ce_P (P.take j)) (t.2.1 + t.2.2)) := by rw [nI_add, mx_I (by omega) (by omega)]
          rw [emx]
          refine lv_istore_n (lv' := [(1, .int (nI (max (ce_P (P.take j)) (t.2.1 + t.2.2)))), (2, .int (nI j)), (0, .ref a)]) hx hb dX1_copiedEnd_36 rfl hl (by decide) rfl (fun ls hl => ?_)
          refine lv_iinc (v := ((nI j) + 1)) (lv' := [(2, .int ((nI j) + 1)), (1, .int (nI (max (ce_P (P.take j)) (t.2.1 + t.2.2)))), (0, .ref a)]) hx hb dX1_copiedEnd_37 hl (k := 1) rfl rfl (by decide) rfl (fun ls hl => ?_)
          refine lv_goto (tgt := 4) hx hb dX1_copiedEnd_40 (by decide) ?_
          have hl : lv_has ls 3 [(2, .int (nI (j + 1))), (1, .int (nI (ce_P (P.take (j + 1))))), (0, .ref a)] := by have h9 := lv_sub (l' := [(2, .int ((nI j) + 1)), (1, .int (nI (max (ce_P (P.take j)) (t.2.1 + t.2.2)))), (0, .ref a)]) hl [0, 1, 2] rfl; rw [nI_1] at h9; rw [hct, if_pos k1]; exact h9
          exact ih (j + 1) ls (by omega) hl
  refine lv_iconst (v := 0) hx hb dX1_copiedEnd_0 (by decide) ?_
  refine lv_istore_n (lv' := [(1, .int 0), (0, .ref a)]) hx hb dX1_copiedEnd_1 rfl hl (by decide) rfl (fun ls hl => ?_)
  refine lv_iconst (v := 0) hx hb dX1_copiedEnd_2 (by decide) ?_
  refine lv_istore_n (lv' := [(2, .int 0), (1, .int 0), (0, .ref a)]) hx hb dX1_copiedEnd_3 rfl hl (by decide) rfl (fun ls hl => ?_)
  exact loop P.length 0 ls (by omega) hl
end PWPIECES
end
section
section PWREAD
variable (l : Launch) (dC : Nat → ClassId) (dI : Nat → Nat → Nat) (cB cI cL : ClassId)

set_option maxHeartbeats 4000000 in
set_option maxRecDepth 100000 in
/-- alike(bp, tp) -/
theorem c_Pw_alike (w qb gb qt gt qr gr qp h0 h1 h2 qu gu qo go_ : Nat) (B T : List Int32) (fb ft : Nat → Int32) (bp tp : Nat) (hbp : bp ≤ B.length) (htp : tp ≤ T.length) (hB : B.length ≤ 600) (hT : T.length ≤ 600) (hfb : by_k fb B) (hft : by_k ft T) : rd_M l yX2_alike wsX2_alike ({ frames := 1, cells := 0, slots := 0, locals := 21 } : Room) (dC, dI) vwCl (tk_s cB cI cL) [.ref w, .int (nI bp), .int (nI tp)] [(w, .inr (2, [.ref qb, .ref qt, .ref qr, .ref qp, .ref qu, .ref qo])), (qb, .inr (0, [.ref gb, .int (nI B.length)])), (gb, .inl (cB, 603, .inl fb)), (qt, .inr (0, [.ref gt, .int (nI T.length)])), (gt, .inl (cB, 603, .inl ft))] (nI (lc_p (B.drop bp) (T.drop tp))) := by
  refine rd_ofW (cc := cX2_alike) (maxL := 5) (ret := (some .int)) (by decide) rfl (Nat.le_of_ble_eq_true rfl) ?_
  intro p e s m below meth c ls hx hb hr hml hts hown hlk hP hK hN hl
  have hl : lv_has ls 5 [(0, .ref w), (1, .int (nI bp)), (2, .int (nI tp))] := hl
  have loop : ∀ (mx : Nat), mx = min (B.length - bp) (T.length - tp) → ∀ (k n : Nat) (ls : Array Slot), k + n = mx → lc_p (B.drop bp) (T.drop tp) = n + lc_p (B.drop (bp + n)) (T.drop (tp + n)) → lv_has ls 5 [(4, .int (nI n)), (3, .int (nI mx)), (0, .ref w), (1, .int (nI bp)), (2, .int (nI tp))] → W p l e ({ frames := 1, cells := 0, slots := 0, locals := 21 } : Room) s m ([.ref w, .int (nI bp), .int (nI tp)] : List Value).toArray below meth c s.heap [] 0 0 (MQ below (QcRead (nI (lc_p (B.drop bp) (T.drop tp)))) ([.ref w, .int (nI bp), .int (nI tp)] : List Value).toArray s 0 0 (fun _ => False)) (F0 m 25 ls []) := by
    intro mx hmx k
    induction k with
    | zero =>
      intro n ls hk he hl
      have hk : n = mx := by omega
      subst hk
      refine lv_iload hx hb dX2_alike_25 (lv_at hl 0 rfl) ?_
      refine lv_iload_n hx hb dX2_alike_27 rfl (lv_at hl 1 rfl) ?_
      refine lv_icmp_ge (tgt := 62) hx hb dX2_alike_28 (by decide) (fun c1 => ?_) (fun c1 => ?_)
      · refine lv_iload hx hb dX2_alike_62 (lv_at hl 0 rfl) ?_
        have e0 : lc_p (B.drop (bp + n)) (T.drop (tp + n)) = 0 := by
          rcases Nat.le_total (B.length - bp) (T.length - tp) with h9 | h9
          · exact lc_end1 (by omega)
          · exact lc_end2 (by omega)
        exact rd_iret hx hb hr hlk (by rw [he, e0, Nat.add_zero]) dX2_alike_64
      · exact absurd (nI_le (Nat.le_refl _) (by omega)) c1
    | succ k ih =>
      intro n ls hk he hl
      obtain ⟨y1, hy1⟩ : ∃ y, B[bp + n]? = some y := ⟨_, List.getElem?_eq_getElem (by omega)⟩
      obtain ⟨y2, hy2⟩ : ∃ y, T[tp + n]? = some y := ⟨_, List.getElem?_eq_getElem (by omega)⟩
      refine lv_iload hx hb dX2_alike_25 (lv_at hl 0 rfl) ?_
      refine lv_iload_n hx hb dX2_alike_27 rfl (lv_at hl 1 rfl) ?_
      refine lv_icmp_ge (tgt := 62) hx hb dX2_alike_28 (by decide) (fun c1 => ?_) (fun c1 => ?_)
      · exact absurd c1 (nI_ge (by omega) (by omega))
      · refine lv_aload_n hx hb dX2_alike_31 rfl (lv_at hl 2 rfl) ?_
        refine va_get (D := (dC, dI)) (ci := 2) (v := .ref qb) (C := RX2) (T := TX2) (N := 6) hx hb hts (by decide +kernel) hown hK hP 0 rfl rfl 0 (by decide) (hts (.fieldLink RX2 10 "PieceWays" "base" "LPieceWays$Bytes;") (by decide +kernel)) (fun _ h9 => h9) rfl dX2_alike_32 ?_
        refine lv_iload_n hx hb dX2_alike_35 rfl (lv_at hl 3 rfl) ?_
        refine lv_iload hx hb dX2_alike_36 (lv_at hl 0 rfl) ?_
        refine lv_iadd hx hb dX2_alike_38 ?_
        refine rd_V (wc := [(qb, .inr (0, [.ref gb, .int (nI B.length)])), (gb, .inl (cB, 603, .inl fb))]) (As := [.int ((nI bp) + (nI n))]) (rest := []) ⟨hx, hb, hml, hown, hts⟩ (c_By_at l dC dI cB cI cL qb gb B fb (nI bp + nI n) (by omega) hfb) (cwV 1 hts gX2_alike_X0_at rfl rfl rfl (by decide +kernel) ⟨(Nat.le_of_ble_eq_true rfl), (Nat.le_of_ble_eq_true rfl)⟩) hK hN (sb_P hP [1, 2] rfl) 0 rfl rfl rfl rfl hl.1 rfl (Nat.le_of_ble_eq_true rfl) dX2_alike_39 ⟨(Nat.le_of_ble_eq_true rfl), (Nat.le_of_ble_eq_true rfl)⟩ ?_
        have e_y1 : at_L B (nI bp + nI n) = y1 := by rw [nI_add]; exact at_in hy1 (by omega)
        rw [e_y1]
        refine lv_aload_n hx hb dX2_alike_42 rfl (lv_at hl 2 rfl) ?_
        refine va_get (D := (dC, dI)) (ci := 2) (v := .ref qt) (C := RX2) (T := TX2) (N := 6) hx hb hts (by decide +kernel) hown hK hP 0 rfl rfl 1 (by decide) (hts (.fieldLink RX2 16 "PieceWays" "target" "LPieceWays$Bytes;") (by decide +kernel)) (fun _ h9 => h9) rfl dX2_alike_43 ?_
        refine lv_iload_n hx hb dX2_alike_46 rfl (lv_at hl 4 rfl) ?_
        refine lv_iload hx hb dX2_alike_47 (lv_at hl 0 rfl) ?_
        refine lv_iadd hx hb dX2_alike_49 ?_
        refine rd_V (wc := [(qt, .inr (0, [.ref gt, .int (nI T.length)])), (gt, .inl (cB, 603, .inl ft))]) (As := [.int ((nI tp) + (nI n))]) (rest := [.int y1]) ⟨hx, hb, hml, hown, hts⟩ (c_By_at l dC dI cB cI cL qt gt T ft (nI tp + nI n) (by omega) hft) (cwV 1 hts gX2_alike_X0_at rfl rfl rfl (by decide +kernel) ⟨(Nat.le_of_ble_eq_true rfl), (Nat.le_of_ble_eq_true rfl)⟩) hK hN (sb_P hP [3, 4] rfl) 0 rfl rfl rfl rfl hl.1 rfl (Nat.le_of_ble_eq_true rfl) dX2_alike_50 ⟨(Nat.le_of_ble_eq_true rfl), (Nat.le_of_ble_eq_true rfl)⟩ ?_
        have e_y2 : at_L T (nI tp + nI n) = y2 := by rw [nI_add]; exact at_in hy2 (by omega)
        rw [e_y2]
        refine lv_icmp_ne (tgt := 62) hx hb dX2_alike_53 (by decide) (fun c2 => ?_) (fun c2 => ?_)
        · refine lv_iload hx hb dX2_alike_62 (lv_at hl 0 rfl) ?_
          exact rd_iret hx hb hr hlk (by rw [he, lc_stop hy1 hy2 c2, Nat.add_zero]) dX2_alike_64
        · have e3 := lc_step hy1 (c2 ▸ hy2)
          refine lv_iinc (v := ((nI n) + 1)) (lv' := [(4, .int ((nI n) + 1)), (3, .int (nI mx)), (0, .ref w), (1, .int (nI bp)), (2, .int (nI tp))]) hx hb dX2_alike_56 hl (k := 0) rfl rfl (by decide) rfl (fun ls hl => ?_)
          refine lv_goto (tgt := 25) hx hb dX2_alike_59 (by decide) ?_
          have hl : lv_has ls 5 [(4, .int (nI (n + 1))), (3, .int (nI mx)), (0, .ref w), (1, .int (nI bp)), (2, .int (nI tp))] := by have h9 := lv_sub (l' := [(4, .int ((nI n) + 1)), (3, .int (nI mx)), (0, .ref w), (1, .int (nI bp)), (2, .int (nI tp))]) hl [0, 1, 2, 3, 4] rfl; rw [nI_1] at h9; exact h9
          exact ih (n + 1) ls (by omega) (by rw [he, e3]; show n + (lc_p (B.drop (bp + n + 1)) (T.drop (tp + n + 1)) + 1) = n + 1 + lc_p (B.drop (bp + n + 1)) (T.drop (tp + n + 1)); omega) hl
  refine lv_aload_n hx hb dX2_alike_0 rfl (lv_at hl 0 rfl) ?_
  refine va_get (D := (dC, dI)) (ci := 2) (v := .ref qb) (C := RX2) (T := TX2) (N := 6) hx hb hts (by decide +kernel) hown hK hP 0 rfl rfl 0 (by decide) (hts (.fieldLink RX2 10 "PieceWays" "base" "LPieceWays$Bytes;") (by decide +kernel)) (fun _ h9 => h9) rfl dX2_alike_1 ?_
  refine rd_V (wc := [(qb, .inr (0, [.ref gb, .int (nI B.length)]))]) (As := []) (rest := []) ⟨hx, hb, hml, hown, hts⟩ (c_By_length l dC dI cB cI cL qb gb (nI B.length)) (cwV 0 hts gX2_alike_X0_length rfl rfl rfl (by decide +kernel) ⟨(Nat.le_of_ble_eq_true rfl), (Nat.le_of_ble_eq_true rfl)⟩) hK hN (sb_P hP [1] rfl) 0 rfl rfl rfl rfl hl.1 rfl (Nat.le_of_ble_eq_true rfl) dX2_alike_4 ⟨(Nat.le_of_ble_eq_true rfl), (Nat.le_of_ble_eq_true rfl)⟩ ?_
  refine lv_iload_n hx hb dX2_alike_7 rfl (lv_at hl 1 rfl) ?_
  refine lv_isub hx hb dX2_alike_8 ?_
  refine lv_aload_n hx hb dX2_alike_9 rfl (lv_at hl 0 rfl) ?_
  refine va_get (D := (dC, dI)) (ci := 2) (v := .ref qt) (C := RX2) (T := TX2) (N := 6) hx hb hts (by decide +kernel) hown hK hP 0 rfl rfl 1 (by decide) (hts (.fieldLink RX2 16 "PieceWays" "target" "LPieceWays$Bytes;") (by decide +kernel)) (fun _ h9 => h9) rfl dX2_alike_10 ?_
  refine rd_V (wc := [(qt, .inr (0, [.ref gt, .int (nI T.length)]))]) (As := []) (rest := [.int ((nI B.length) - (nI bp))]) ⟨hx, hb, hml, hown, hts⟩ (c_By_length l dC dI cB cI cL qt gt (nI T.length)) (cwV 0 hts gX2_alike_X0_length rfl rfl rfl (by decide +kernel) ⟨(Nat.le_of_ble_eq_true rfl), (Nat.le_of_ble_eq_true rfl)⟩) hK hN (sb_P hP [3] rfl) 0 rfl rfl rfl rfl hl.1 rfl (Nat.le_of_ble_eq_true rfl) dX2_alike_13 ⟨(Nat.le_of_ble_eq_true rfl), (Nat.le_of_ble_eq_true rfl)⟩ ?_
  refine lv_iload_n hx hb dX2_alike_16 rfl (lv_at hl 2 rfl) ?_
  refine lv_isub hx hb dX2_alike_17 ?_
  refine va_mmin hx hb (by rw [hml]; exact hl.1.symm) hown (hts (.methodLink RX2 100 Lib.Math.min.name) (by decide +kernel)) (hts (.static Lib.Math.min.name) (by decide +kernel)) (hts (.initialized "java/lang/Math") (by decide +kernel)) (hts (.code Lib.Math.min.name Lib.Math.min.code 2 (some .int)) (by decide +kernel)) (Nat.le_of_ble_eq_true rfl) (Nat.le_of_ble_eq_true rfl) (Nat.le_of_ble_eq_true rfl) (Nat.le_of_ble_eq_true rfl) dX2_alike_18 ?_
  have emn : (if nI T.length - nI tp < nI B.length - nI bp then nI T.length - nI tp else nI B.length - nI bp) = nI (min (B.length - bp) (T.length - tp)) := by rw [pk_sub htp, pk_sub hbp, mn_I (by omega) (by omega)]
  rw [emn]
  refine lv_istore_n (lv' := [(3, .int (nI (min (B.length - bp) (T.length - tp)))), (0, .ref w), (1, .int (nI bp)), (2, .int (nI tp))]) hx hb dX2_alike_21 rfl hl (by decide) rfl (fun ls hl => ?_)
  refine lv_iconst (v := 0) hx hb dX2_alike_22 (by decide) ?_
  refine lv_istore (lv' := [(4, .int 0), (3, .int (nI (min (B.length - bp) (T.length - tp)))), (0, .ref w), (1, .int (nI bp)), (2, .int (nI tp))]) hx hb dX2_alike_23 hl (by decide) rfl (fun ls hl => ?_)
  exact loop _ rfl (min (B.length - bp) (T.length - tp)) 0 ls (by omega) (by rw [Nat.add_zero, Nat.add_zero, Nat.zero_add]) (lv_sub hl [0, 1, 2, 3, 4] rfl)
set_option maxHeartbeats 4000000 in
set_option maxRecDepth 100000 in
/-- longestBlock(pl) -/
theorem c_Pw_longestBlock (w qb gb qt gt qr gr qp h0 h1 h2 qu gu qo go_ : Nat) (B T : List Int32) (fb ft : Nat → Int32) (pl : Nat) (hpl : pl ≤ T.length) (hB : B.length ≤ 600) (hT : T.length ≤ 600) (hfb : by_k fb B) (hft : by_k ft T) : rd_M l yX2_longestBlock wsX2_longestBlock ({ frames := 2, cells := 0, slots := 0, locals := 45 } : Room) (dC, dI) vwCl (tk_s cB cI cL) [.ref w, .int (nI pl)] [(w, .inr (2, [.ref qb, .ref qt, .ref qr, .ref qp, .ref qu, .ref qo])), (qb, .inr (0, [.ref gb, .int (nI B.length)])), (gb, .inl (cB, 603, .inl fb)), (qt, .inr (0, [.ref gt, .int (nI T.length)])), (gt, .inl (cB, 603, .inl ft))] (ob_I (lg_S B T pl (B.length / 8)).1) := by
  refine rd_ofW (cc := cX2_longestBlock) (maxL := 6) (ret := (some .int)) (by decide) rfl (Nat.le_of_ble_eq_true rfl) ?_
  intro p e s m below meth c ls hx hb hr hml hts hown hlk hP hK hN hl
  have hl : lv_has ls 6 [(0, .ref w), (1, .int (nI pl))] := hl
  have loop : ∀ (n k : Nat) (ls : Array Slot), n + k = B.length / 8 → lv_has ls 6 [(4, .int (nI (8 * k))), (3, .int (nI (lg_S B T pl k).2)), (2, .int (ob_I (lg_S B T pl k).1)), (0, .ref w), (1, .int (nI pl))] → W p l e ({ frames := 2, cells := 0, slots := 0, locals := 45 } : Room) s m ([.ref w, .int (nI pl)] : List Value).toArray below meth c s.heap [] 0 0 (MQ below (QcRead (ob_I (lg_S B T pl (B.length / 8)).1)) ([.ref w, .int (nI pl)] : List Value).toArray s 0 0 (fun _ => False)) (F0 m 8 ls []) := by
    intro n
    induction n with
    | zero =>
      intro k ls hk hl
      have hk : k = B.length / 8 := by omega
      refine lv_iload hx hb dX2_longestBlock_8 (lv_at hl 0 rfl) ?_
      refine lv_bipush (v := 8) hx hb dX2_longestBlock_10 (by decide) ?_
      refine lv_iadd hx hb dX2_longestBlock_12 ?_
      refine lv_aload_n hx hb dX2_longestBlock_13 rfl (lv_at hl 3 rfl) ?_
      refine va_get (D := (dC, dI)) (ci := 2) (v := .ref qb) (C := RX2) (T := TX2) (N := 6) hx hb hts (by decide +kernel) hown hK hP 0 rfl rfl 0 (by decide) (hts (.fieldLink RX2 10 "PieceWays" "base" "LPieceWays$Bytes;") (by decide +kernel)) (fun _ h9 => h9) rfl dX2_longestBlock_14 ?_
      refine rd_V (wc := [(qb, .inr (0, [.ref gb, .int (nI B.length)]))]) (As := []) (rest := [.int ((nI (8 * k)) + 8)]) ⟨hx, hb, hml, hown, hts⟩ (c_By_length l dC dI cB cI cL qb gb (nI B.length)) (cwV 0 hts gX2_longestBlock_X0_length rfl rfl rfl (by decide +kernel) ⟨(Nat.le_of_ble_eq_true rfl), (Nat.le_of_ble_eq_true rfl)⟩) hK hN (sb_P hP [1] rfl) 0 rfl rfl rfl rfl hl.1 rfl (Nat.le_of_ble_eq_true rfl) dX2_longestBlock_17 ⟨(Nat.le_of_ble_eq_true rfl), (Nat.le_of_ble_eq_true rfl)⟩ ?_
      refine lv_icmp_gt (tgt := 50) hx hb dX2_longestBlock_20 (by decide) (fun c1 => ?_) (fun c1 => ?_)
      · refine lv_iload_n hx hb dX2_longestBlock_50 rfl (lv_at hl 2 rfl) ?_
        exact rd_iret hx hb hr hlk (by rw [hk]) dX2_longestBlock_51
      · exact absurd (by rw [show (8 : Int32) = nI 8 from rfl, nI_add]; exact nI_lt (by omega) (by omega)) c1
    | succ n ih =>
      intro k ls hk hl
      have h8 : 8 * k + 8 ≤ B.length := by omega
      have hlm := lg_most B T pl k
      have hlc := lc_le (B.drop (8 * k)) (T.drop pl)
      rw [List.length_drop, List.length_drop] at hlc
      have hm6 : (lg_S B T pl k).2 ≤ 600 := by
        rcases lg_ok B T pl k with ⟨-, h9⟩ | ⟨b, -, h9, -, -⟩
        · omega
        · rw [h9]; have h7 := lc_le (B.drop b) (T.drop pl); rw [List.length_drop, List.length_drop] at h7; omega
      refine lv_iload hx hb dX2_longestBlock_8 (lv_at hl 0 rfl) ?_
      refine lv_bipush (v := 8) hx hb dX2_longestBlock_10 (by decide) ?_
      refine lv_iadd hx hb dX2_longestBlock_12 ?_
      refine lv_aload_n hx hb dX2_longestBlock_13 rfl (lv_at hl 3 rfl) ?_
      refine va_get (D := (dC, dI)) (ci := 2) (v := .ref qb) (C := RX2) (T := TX2) (N := 6) hx hb hts (by decide +kernel) hown hK hP 0 rfl rfl 0 (by decide) (hts (.fieldLink RX2 10 "PieceWays" "base" "LPieceWays$Bytes;") (by decide +kernel)) (fun _ h9 => h9) rfl dX2_longestBlock_14 ?_
      refine rd_V (wc := [(qb, .inr (0, [.ref gb, .int (nI B.length)]))]) (As := []) (rest := [.int ((nI (8 * k)) + 8)]) ⟨hx, hb, hml, hown, hts⟩ (c_By_length l dC dI cB cI cL qb gb (nI B.length)) (cwV 0 hts gX2_longestBlock_X0_length rfl rfl rfl (by decide +kernel) ⟨(Nat.le_of_ble_eq_true rfl), (Nat.le_of_ble_eq_true rfl)⟩) hK hN (sb_P hP [1] rfl) 0 rfl rfl rfl rfl hl.1 rfl (Nat.le_of_ble_eq_true rfl) dX2_longestBlock_17 ⟨(Nat.le_of_ble_eq_true rfl), (Nat.le_of_ble_eq_true rfl)⟩ ?_
      refine lv_icmp_gt (tgt := 50) hx hb dX2_longestBlock_20 (by decide) (fun c1 => ?_) (fun c1 => ?_)
      · exact absurd c1 (by rw [show (8 : Int32) = nI 8 from rfl, nI_add]; exact nI_nlt (by omega) (by omega))
      · refine lv_aload_n hx hb dX2_longestBlock_23 rfl (lv_at hl 3 rfl) ?_
        refine lv_iload hx hb dX2_longestBlock_24 (lv_at hl 0 rfl) ?_
        refine lv_iload_n hx hb dX2_longestBlock_26 rfl (lv_at hl 4 rfl) ?_
        refine rd_V (wc := [(w, .inr (2, [.ref qb, .ref qt, .ref qr, .ref qp, .ref qu, .ref qo])), (qb, .inr (0, [.ref gb, .int (nI B.length)])), (gb, .inl (cB, 603, .inl fb)), (qt, .inr (0, [.ref gt, .int (nI T.length)])), (gt, .inl (cB, 603, .inl ft))]) (As := [.int (nI (8 * k)), .int (nI pl)]) (rest := []) ⟨hx, hb, hml, hown, hts⟩ (c_Pw_alike l dC dI cB cI cL w qb gb qt gt qr gr qp h0 h1 h2 qu gu qo go_ B T fb ft (8 * k) pl (by omega) hpl hB hT hfb hft) (cwV 2 hts gX2_longestBlock_X2_alike rfl rfl rfl (by decide +kernel) ⟨(Nat.le_of_ble_eq_true rfl), (Nat.le_of_ble_eq_true rfl)⟩) hK hN (sb_P hP [0, 1, 2, 3, 4] rfl) 0 rfl rfl rfl rfl hl.1 rfl (Nat.le_of_ble_eq_true rfl) dX2_longestBlock_27 ⟨(Nat.le_of_ble_eq_true rfl), (Nat.le_of_ble_eq_true rfl)⟩ ?_
        refine lv_istore (lv' := [(5, .int (nI (lc_p (B.drop (8 * k)) (T.drop pl)))), (4, .int (nI (8 * k))), (3, .int (nI (lg_S B T pl k).2)), (2, .int (ob_I (lg_S B T pl k).1)), (0, .ref w), (1, .int (nI pl))]) hx hb dX2_longestBlock_30 hl (by decide) rfl (fun ls hl => ?_)
        refine lv_iload hx hb dX2_longestBlock_32 (lv_at hl 0 rfl) ?_
        refine lv_iload_n hx hb dX2_longestBlock_34 rfl (lv_at hl 2 rfl) ?_
        refine lv_icmp_le (tgt := 44) hx hb dX2_longestBlock_35 (by decide) (fun c2 => ?_) (fun c2 => ?_)
        · have e4 : lg_S B T pl (k + 1) = lg_S B T pl k := lg_keep (by have := (nI_leI (by omega) (by omega)).mp c2; omega)
          refine lv_iinc (v := ((nI (8 * k)) + 8)) (lv' := [(4, .int ((nI (8 * k)) + 8)), (5, .int (nI (lc_p (B.drop (8 * k)) (T.drop pl)))), (3, .int (nI (lg_S B T pl k).2)), (2, .int (ob_I (lg_S B T pl k).1)), (0, .ref w), (1, .int (nI pl))]) hx hb dX2_longestBlock_44 hl (k := 1) rfl rfl (by decide) rfl (fun ls hl => ?_)
          refine lv_goto (tgt := 8) hx hb dX2_longestBlock_47 (by decide) ?_
          have h9 : lv_has ls 6 [(4, .int ((nI (8 * k)) + 8)), (3, .int (nI (lg_S B T pl k).2)), (2, .int (ob_I (lg_S B T pl k).1)), (0, .ref w), (1, .int (nI pl))] := lv_sub hl [0, 2, 3, 4, 5] rfl
          refine ih (k + 1) ls (by omega) ?_
          rw [e4, show 8 * (k + 1) = 8 * k + 8 from rfl, ← nI_add]
          exact h9
        · have e4 : lg_S B T pl (k + 1) = (some (8 * k), lc_p (B.drop (8 * k)) (T.drop pl)) := lg_take (by rcases Nat.lt_or_ge (lg_S B T pl k).2 (lc_p (B.drop (8 * k)) (T.drop pl)) with h9 | h9; exact h9; exact absurd (nI_le h9 (by omega)) c2)
          refine lv_iload hx hb dX2_longestBlock_38 (lv_at hl 0 rfl) ?_
          refine lv_istore_n (lv' := [(3, .int (nI (lc_p (B.drop (8 * k)) (T.drop pl)))), (5, .int (nI (lc_p (B.drop (8 * k)) (T.drop pl)))), (4, .int (nI (8 * k))), (2, .int (ob_I (lg_S B T pl k).1)), (0, .ref w), (1, .int (nI pl))]) hx hb dX2_longestBlock_40 rfl hl (by decide) rfl (fun ls hl => ?_)
          refine lv_iload hx hb dX2_longestBlock_41 (lv_at hl 2 rfl) ?_
          refine lv_istore_n (lv' := [(2, .int (nI (8 * k))), (3, .int (nI (lc_p (B.drop (8 * k)) (T.drop pl)))), (5, .int (nI (lc_p (B.drop (8 * k)) (T.drop pl)))), (4, .int (nI (8 * k))), (0, .ref w), (1, .int (nI pl))]) hx hb dX2_longestBlock_43 rfl hl (by decide) rfl (fun ls hl => ?_)
          refine lv_iinc (v := ((nI (8 * k)) + 8)) (lv' := [(4, .int ((nI (8 * k)) + 8)), (2, .int (nI (8 * k))), (3, .int (nI (lc_p (B.drop (8 * k)) (T.drop pl)))), (5, .int (nI (lc_p (B.drop (8 * k)) (T.drop pl)))), (0, .ref w), (1, .int (nI pl))]) hx hb dX2_longestBlock_44 hl (k := 3) rfl rfl (by decide) rfl (fun ls hl => ?_)
          refine lv_goto (tgt := 8) hx hb dX2_longestBlock_47 (by decide) ?_
          have h9 : lv_has ls 6 [(4, .int ((nI (8 * k)) + 8)), (3, .int (nI (lc_p (B.drop (8 * k)) (T.drop pl)))), (2, .int (nI (8 * k))), (0, .ref w), (1, .int (nI pl))] := lv_sub hl [0, 2, 1, 4, 5] rfl
          refine ih (k + 1) ls (by omega) ?_
          rw [e4, show 8 * (k + 1) = 8 * k + 8 from rfl, ← nI_add]
          exact h9
  refine lv_iconst (v := (-1)) hx hb dX2_longestBlock_0 (by decide) ?_
  refine lv_istore_n (lv' := [(2, .int (-1)), (0, .ref w), (1, .int (nI pl))]) hx hb dX2_longestBlock_1 rfl hl (by decide) rfl (fun ls hl => ?_)
  refine lv_bipush (v := 7) hx hb dX2_longestBlock_2 (by decide) ?_
  refine lv_istore_n (lv' := [(3, .int 7), (2, .int (-1)), (0, .ref w), (1, .int (nI pl))]) hx hb dX2_longestBlock_4 rfl hl (by decide) rfl (fun ls hl => ?_)
  refine lv_iconst (v := 0) hx hb dX2_longestBlock_5 (by decide) ?_
  refine lv_istore (lv' := [(4, .int 0), (3, .int 7), (2, .int (-1)), (0, .ref w), (1, .int (nI pl))]) hx hb dX2_longestBlock_6 hl (by decide) rfl (fun ls hl => ?_)
  exact loop (B.length / 8) 0 ls (by omega) (lv_sub hl [0, 1, 2, 3, 4] rfl)
set_option maxHeartbeats 4000000 in
set_option maxRecDepth 100000 in
/-- size() -/
theorem c_Pw_size (w qb gb qt gt qr gr qp h0 h1 h2 qu gu qo go_ : Nat) (O : List Int32) : rd_M l yX2_size wsX2_size ({ frames := 1, cells := 0, slots := 0, locals := 20 } : Room) (dC, dI) vwCl (tk_s cB cI cL) [.ref w] [(w, .inr (2, [.ref qb, .ref qt, .ref qr, .ref qp, .ref qu, .ref qo])), (qo, .inr (0, [.ref go_, .int (nI O.length)]))] (nI O.length) := by
  refine rd_ofW (cc := cX2_size) (maxL := 1) (ret := (some .int)) (by decide) rfl (Nat.le_of_ble_eq_true rfl) ?_
  intro p e s m below meth c ls hx hb hr hml hts hown hlk hP hK hN hl
  have hl : lv_has ls 1 [(0, .ref w)] := hl
  refine lv_aload_n hx hb dX2_size_0 rfl (lv_at hl 0 rfl) ?_
  refine va_get (D := (dC, dI)) (ci := 2) (v := .ref qo) (C := RX2) (T := TX2) (N := 6) hx hb hts (by decide +kernel) hown hK hP 0 rfl rfl 5 (by decide) (hts (.fieldLink RX2 32 "PieceWays" "row" "LPieceWays$Bytes;") (by decide +kernel)) (fun _ h9 => h9) rfl dX2_size_1 ?_
  refine rd_V (wc := [(qo, .inr (0, [.ref go_, .int (nI O.length)]))]) (As := []) (rest := []) ⟨hx, hb, hml, hown, hts⟩ (c_By_length l dC dI cB cI cL qo go_ (nI O.length)) (cwV 0 hts gX2_size_X0_length rfl rfl rfl (by decide +kernel) ⟨(Nat.le_of_ble_eq_true rfl), (Nat.le_of_ble_eq_true rfl)⟩) hK hN (sb_P hP [1] rfl) 0 rfl rfl rfl rfl hl.1 rfl (Nat.le_of_ble_eq_true rfl) dX2_size_4 ⟨(Nat.le_of_ble_eq_true rfl), (Nat.le_of_ble_eq_true rfl)⟩ ?_
  exact rd_iret hx hb hr hlk (rfl) dX2_size_7
set_option maxHeartbeats 4000000 in
set_option maxRecDepth 100000 in
/-- way(x) -/
theorem c_Pw_way (w qb gb qt gt qr gr qp h0 h1 h2 qu gu qo go_ : Nat) (O : List Int32) (fo : Nat → Int32) (x : Int32) (hL : O.length ≤ 603) (hf : by_k fo O) : rd_M l yX2_way wsX2_way ({ frames := 1, cells := 0, slots := 0, locals := 21 } : Room) (dC, dI) vwCl (tk_s cB cI cL) [.ref w, .int x] [(w, .inr (2, [.ref qb, .ref qt, .ref qr, .ref qp, .ref qu, .ref qo])), (qo, .inr (0, [.ref go_, .int (nI O.length)])), (go_, .inl (cB, 603, .inl fo))] (at_L O x) := by
  refine rd_ofW (cc := cX2_way) (maxL := 2) (ret := (some .int)) (by decide) rfl (Nat.le_of_ble_eq_true rfl) ?_
  intro p e s m below meth c ls hx hb hr hml hts hown hlk hP hK hN hl
  have hl : lv_has ls 2 [(0, .ref w), (1, .int x)] := hl
  refine lv_aload_n hx hb dX2_way_0 rfl (lv_at hl 0 rfl) ?_
  refine va_get (D := (dC, dI)) (ci := 2) (v := .ref qo) (C := RX2) (T := TX2) (N := 6) hx hb hts (by decide +kernel) hown hK hP 0 rfl rfl 5 (by decide) (hts (.fieldLink RX2 32 "PieceWays" "row" "LPieceWays$Bytes;") (by decide +kernel)) (fun _ h9 => h9) rfl dX2_way_1 ?_
  refine lv_iload_n hx hb dX2_way_4 rfl (lv_at hl 1 rfl) ?_
  refine rd_V (wc := [(qo, .inr (0, [.ref go_, .int (nI O.length)])), (go_, .inl (cB, 603, .inl fo))]) (As := [.int x]) (rest := []) ⟨hx, hb, hml, hown, hts⟩ (c_By_at l dC dI cB cI cL qo go_ O fo x hL hf) (cwV 1 hts gX2_way_X0_at rfl rfl rfl (by decide +kernel) ⟨(Nat.le_of_ble_eq_true rfl), (Nat.le_of_ble_eq_true rfl)⟩) hK hN (sb_P hP [1, 2] rfl) 0 rfl rfl rfl rfl hl.1 rfl (Nat.le_of_ble_eq_true rfl) dX2_way_5 ⟨(Nat.le_of_ble_eq_true rfl), (Nat.le_of_ble_eq_true rfl)⟩ ?_
  exact rd_iret hx hb hr hlk (rfl) dX2_way_8
set_option maxHeartbeats 4000000 in
set_option maxRecDepth 100000 in
/-- result(x) -/
theorem c_Pw_result (w qb gb qt gt qr gr qp h0 h1 h2 qu gu qo go_ : Nat) (Z : List Int32) (fr : Nat → Int32) (x : Int32) (hL : Z.length ≤ 603) (hf : by_k fr Z) : rd_M l yX2_result wsX2_result ({ frames := 1, cells := 0, slots := 0, locals := 21 } : Room) (dC, dI) vwCl (tk_s cB cI cL) [.ref w, .int x] [(w, .inr (2, [.ref qb, .ref qt, .ref qr, .ref qp, .ref qu, .ref qo])), (qr, .inr (0, [.ref gr, .int (nI Z.length)])), (gr, .inl (cB, 603, .inl fr))] (at_L Z x) := by
  refine rd_ofW (cc := cX2_result) (maxL := 2) (ret := (some .int)) (by decide) rfl (Nat.le_of_ble_eq_true rfl) ?_
  intro p e s m below meth c ls hx hb hr hml hts hown hlk hP hK hN hl
  have hl : lv_has ls 2 [(0, .ref w), (1, .int x)] := hl
  refine lv_aload_n hx hb dX2_result_0 rfl (lv_at hl 0 rfl) ?_
  refine va_get (D := (dC, dI)) (ci := 2) (v := .ref qr) (C := RX2) (T := TX2) (N := 6) hx hb hts (by decide +kernel) hown hK hP 0 rfl rfl 2 (by decide) (hts (.fieldLink RX2 19 "PieceWays" "result" "LPieceWays$Bytes;") (by decide +kernel)) (fun _ h9 => h9) rfl dX2_result_1 ?_
  refine lv_iload_n hx hb dX2_result_4 rfl (lv_at hl 1 rfl) ?_
  refine rd_V (wc := [(qr, .inr (0, [.ref gr, .int (nI Z.length)])), (gr, .inl (cB, 603, .inl fr))]) (As := [.int x]) (rest := []) ⟨hx, hb, hml, hown, hts⟩ (c_By_at l dC dI cB cI cL qr gr Z fr x hL hf) (cwV 1 hts gX2_result_X0_at rfl rfl rfl (by decide +kernel) ⟨(Nat.le_of_ble_eq_true rfl), (Nat.le_of_ble_eq_true rfl)⟩) hK hN (sb_P hP [1, 2] rfl) 0 rfl rfl rfl rfl hl.1 rfl (Nat.le_of_ble_eq_true rfl) dX2_result_5 ⟨(Nat.le_of_ble_eq_true rfl), (Nat.le_of_ble_eq_true rfl)⟩ ?_
  exact rd_iret hx hb hr hlk (rfl) dX2_result_8
set_option maxHeartbeats 4000000 in
set_option maxRecDepth 100000 in
/-- count(x) -/
theorem c_Pw_count (w qb gb qt gt qr gr qp h0 h1 h2 qu gu qo go_ : Nat) (B T Z : List Int32) (x : Int32) : rd_M l yX2_count wsX2_count ({ frames := 1, cells := 0, slots := 0, locals := 20 } : Room) (dC, dI) vwCl (tk_s cB cI cL) [.ref w, .int x] [(w, .inr (2, [.ref qb, .ref qt, .ref qr, .ref qp, .ref qu, .ref qo])), (qb, .inr (0, [.ref gb, .int (nI B.length)])), (qt, .inr (0, [.ref gt, .int (nI T.length)])), (qr, .inr (0, [.ref gr, .int (nI Z.length)]))] (ct_I B T Z x) := by
  refine rd_ofW (cc := cX2_count) (maxL := 2) (ret := (some .int)) (by decide) rfl (Nat.le_of_ble_eq_true rfl) ?_
  intro p e s m below meth c ls hx hb hr hml hts hown hlk hP hK hN hl
  have hl : lv_has ls 2 [(0, .ref w), (1, .int x)] := hl
  refine lv_iload_n hx hb dX2_count_0 rfl (lv_at hl 1 rfl) ?_
  rcases sw_3 x with rfl | rfl | rfl | ⟨q0, q1, q2, hq⟩
  · refine lv_tableIn (tgt := 28) hx hb dX2_count_1 (by decide) (by decide) rfl (by decide) ?_
    refine lv_aload_n hx hb dX2_count_28 rfl (lv_at hl 0 rfl) ?_
    refine va_get (D := (dC, dI)) (ci := 2) (v := .ref qb) (C := RX2) (T := TX2) (N := 6) hx hb hts (by decide +kernel) hown hK hP 0 rfl rfl 0 (by decide) (hts (.fieldLink RX2 10 "PieceWays" "base" "LPieceWays$Bytes;") (by decide +kernel)) (fun _ h9 => h9) rfl dX2_count_29 ?_
    refine rd_V (wc := [(qb, .inr (0, [.ref gb, .int (nI B.length)]))]) (As := []) (rest := []) ⟨hx, hb, hml, hown, hts⟩ (c_By_length l dC dI cB cI cL qb gb (nI B.length)) (cwV 0 hts gX2_count_X0_length rfl rfl rfl (by decide +kernel) ⟨(Nat.le_of_ble_eq_true rfl), (Nat.le_of_ble_eq_true rfl)⟩) hK hN (sb_P hP [1] rfl) 0 rfl rfl rfl rfl hl.1 rfl (Nat.le_of_ble_eq_true rfl) dX2_count_32 ⟨(Nat.le_of_ble_eq_true rfl), (Nat.le_of_ble_eq_true rfl)⟩ ?_
    exact rd_iret hx hb hr hlk (rfl) dX2_count_35
  · refine lv_tableIn (tgt := 36) hx hb dX2_count_1 (by decide) (by decide) rfl (by decide) ?_
    refine lv_aload_n hx hb dX2_count_36 rfl (lv_at hl 0 rfl) ?_
    refine va_get (D := (dC, dI)) (ci := 2) (v := .ref qt) (C := RX2) (T := TX2) (N := 6) hx hb hts (by decide +kernel) hown hK hP 0 rfl rfl 1 (by decide) (hts (.fieldLink RX2 16 "PieceWays" "target" "LPieceWays$Bytes;") (by decide +kernel)) (fun _ h9 => h9) rfl dX2_count_37 ?_
    refine rd_V (wc := [(qt, .inr (0, [.ref gt, .int (nI T.length)]))]) (As := []) (rest := []) ⟨hx, hb, hml, hown, hts⟩ (c_By_length l dC dI cB cI cL qt gt (nI T.length)) (cwV 0 hts gX2_count_X0_length rfl rfl rfl (by decide +kernel) ⟨(Nat.le_of_ble_eq_true rfl), (Nat.le_of_ble_eq_true rfl)⟩) hK hN (sb_P hP [2] rfl) 0 rfl rfl rfl rfl hl.1 rfl (Nat.le_of_ble_eq_true rfl) dX2_count_40 ⟨(Nat.le_of_ble_eq_true rfl), (Nat.le_of_ble_eq_true rfl)⟩ ?_
    exact rd_iret hx hb hr hlk (rfl) dX2_count_43
  · refine lv_tableIn (tgt := 44) hx hb dX2_count_1 (by decide) (by decide) rfl (by decide) ?_
    refine lv_aload_n hx hb dX2_count_44 rfl (lv_at hl 0 rfl) ?_
    refine va_get (D := (dC, dI)) (ci := 2) (v := .ref qr) (C := RX2) (T := TX2) (N := 6) hx hb hts (by decide +kernel) hown hK hP 0 rfl rfl 2 (by decide) (hts (.fieldLink RX2 19 "PieceWays" "result" "LPieceWays$Bytes;") (by decide +kernel)) (fun _ h9 => h9) rfl dX2_count_45 ?_
    refine rd_V (wc := [(qr, .inr (0, [.ref gr, .int (nI Z.length)]))]) (As := []) (rest := []) ⟨hx, hb, hml, hown, hts⟩ (c_By_length l dC dI cB cI cL qr gr (nI Z.length)) (cwV 0 hts gX2_count_X0_length rfl rfl rfl (by decide +kernel) ⟨(Nat.le_of_ble_eq_true rfl), (Nat.le_of_ble_eq_true rfl)⟩) hK hN (sb_P hP [3] rfl) 0 rfl rfl rfl rfl hl.1 rfl (Nat.le_of_ble_eq_true rfl) dX2_count_48 ⟨(Nat.le_of_ble_eq_true rfl), (Nat.le_of_ble_eq_true rfl)⟩ ?_
    exact rd_iret hx hb hr hlk (rfl) dX2_count_51
  · refine lv_tableOut (tgt := 52) hx hb dX2_count_1 hq (by decide) ?_
    refine lv_iconst (v := (-1)) hx hb dX2_count_52 (by decide) ?_
    exact rd_iret hx hb hr hlk ((ct_no q0 q1 q2).symm) dX2_count_53
set_option maxHeartbeats 4000000 in
set_option maxRecDepth 100000 in
/-- piece(y, x) -/
theorem c_Pw_piece (w qb gb qt gt qr gr qp h0 h1 h2 qu gu qo go_ : Nat) (P : List (Nat × Nat × Nat)) (f0 f1 f2 : Nat → Int32) (y x : Int32) (hL : P.length ≤ 133) (hf : pc_k f0 f1 f2 P) : rd_M l yX2_piece wsX2_piece ({ frames := 2, cells := 0, slots := 0, locals := 42 } : Room) (dC, dI) vwCl (tk_s cB cI cL) [.ref w, .int y, .int x] [(w, .inr (2, [.ref qb, .ref qt, .ref qr, .ref qp, .ref qu, .ref qo])), (qp, .inr (1, [.ref h0, .ref h1, .ref h2, .int (nI P.length)])), (h0, .inl (cI, 133, .inl f0)), (h1, .inl (cI, 133, .inl f1)), (h2, .inl (cI, 133, .inl f2))] (pi_I P y x) := by
  refine rd_ofW (cc := cX2_piece) (maxL := 3) (ret := (some .int)) (by decide) rfl (Nat.le_of_ble_eq_true rfl) ?_
  intro p e s m below meth c ls hx hb hr hml hts hown hlk hP hK hN hl
  have hl : lv_has ls 3 [(0, .ref w), (1, .int y), (2, .int x)] := hl
  refine lv_iload_n hx hb dX2_piece_0 rfl (lv_at hl 2 rfl) ?_
  rcases sw_3 x with rfl | rfl | rfl | ⟨q0, q1, q2, hq⟩
  · refine lv_tableIn (tgt := 28) hx hb dX2_piece_1 (by decide) (by decide) rfl (by decide) ?_
    refine lv_aload_n hx hb dX2_piece_28 rfl (lv_at hl 0 rfl) ?_
    refine va_get (D := (dC, dI)) (ci := 2) (v := .ref qp) (C := RX2) (T := TX2) (N := 6) hx hb hts (by decide +kernel) hown hK hP 0 rfl rfl 3 (by decide) (hts (.fieldLink RX2 25 "PieceWays" "pieces" "LPieceWays$Pieces;") (by decide +kernel)) (fun _ h9 => h9) rfl dX2_piece_29 ?_
    refine lv_iload_n hx hb dX2_piece_32 rfl (lv_at hl 1 rfl) ?_
    refine rd_V (wc := [(qp, .inr (1, [.ref h0, .ref h1, .ref h2, .int (nI P.length)])), (h0, .inl (cI, 133, .inl f0))]) (As := [.int y]) (rest := []) ⟨hx, hb, hml, hown, hts⟩ (c_Pc_kind l dC dI cB cI cL qp h0 h1 h2 P f0 f1 f2 y hL hf) (cwV 1 hts gX2_piece_X1_kind rfl rfl rfl (by decide +kernel) ⟨(Nat.le_of_ble_eq_true rfl), (Nat.le_of_ble_eq_true rfl)⟩) hK hN (sb_P hP [1, 2] rfl) 0 rfl rfl rfl rfl hl.1 rfl (Nat.le_of_ble_eq_true rfl) dX2_piece_33 ⟨(Nat.le_of_ble_eq_true rfl), (Nat.le_of_ble_eq_true rfl)⟩ ?_
    exact rd_iret hx hb hr hlk (rfl) dX2_piece_36
  · refine lv_tableIn (tgt := 37) hx hb dX2_piece_1 (by decide) (by decide) rfl (by decide) ?_
    refine lv_aload_n hx hb dX2_piece_37 rfl (lv_at hl 0 rfl) ?_
    refine va_get (D := (dC, dI)) (ci := 2) (v := .ref qp) (C := RX2) (T := TX2) (N := 6) hx hb hts (by decide +kernel) hown hK hP 0 rfl rfl 3 (by decide) (hts (.fieldLink RX2 25 "PieceWays" "pieces" "LPieceWays$Pieces;") (by decide +kernel)) (fun _ h9 => h9) rfl dX2_piece_38 ?_
    refine lv_iload_n hx hb dX2_piece_41 rfl (lv_at hl 1 rfl) ?_
    refine rd_V (wc := [(qp, .inr (1, [.ref h0, .ref h1, .ref h2, .int (nI P.length)])), (h1, .inl (cI, 133, .inl f1))]) (As := [.int y]) (rest := []) ⟨hx, hb, hml, hown, hts⟩ (c_Pc_begin l dC dI cB cI cL qp h0 h1 h2 P f0 f1 f2 y hL hf) (cwV 1 hts gX2_piece_X1_begin rfl rfl rfl (by decide +kernel) ⟨(Nat.le_of_ble_eq_true rfl), (Nat.le_of_ble_eq_true rfl)⟩) hK hN (sb_P hP [1, 3] rfl) 0 rfl rfl rfl rfl hl.1 rfl (Nat.le_of_ble_eq_true rfl) dX2_piece_42 ⟨(Nat.le_of_ble_eq_true rfl), (Nat.le_of_ble_eq_true rfl)⟩ ?_
    exact rd_iret hx hb hr hlk (rfl) dX2_piece_45
  · refine lv_tableIn (tgt := 46) hx hb dX2_piece_1 (by decide) (by decide) rfl (by decide) ?_
    refine lv_aload_n hx hb dX2_piece_46 rfl (lv_at hl 0 rfl) ?_
    refine va_get (D := (dC, dI)) (ci := 2) (v := .ref qp) (C := RX2) (T := TX2) (N := 6) hx hb hts (by decide +kernel) hown hK hP 0 rfl rfl 3 (by decide) (hts (.fieldLink RX2 25 "PieceWays" "pieces" "LPieceWays$Pieces;") (by decide +kernel)) (fun _ h9 => h9) rfl dX2_piece_47 ?_
    refine lv_iload_n hx hb dX2_piece_50 rfl (lv_at hl 1 rfl) ?_
    refine rd_V (wc := [(qp, .inr (1, [.ref h0, .ref h1, .ref h2, .int (nI P.length)])), (h2, .inl (cI, 133, .inl f2))]) (As := [.int y]) (rest := []) ⟨hx, hb, hml, hown, hts⟩ (c_Pc_length l dC dI cB cI cL qp h0 h1 h2 P f0 f1 f2 y hL hf) (cwV 1 hts gX2_piece_X1_length rfl rfl rfl (by decide +kernel) ⟨(Nat.le_of_ble_eq_true rfl), (Nat.le_of_ble_eq_true rfl)⟩) hK hN (sb_P hP [1, 4] rfl) 0 rfl rfl rfl rfl hl.1 rfl (Nat.le_of_ble_eq_true rfl) dX2_piece_51 ⟨(Nat.le_of_ble_eq_true rfl), (Nat.le_of_ble_eq_true rfl)⟩ ?_
    exact rd_iret hx hb hr hlk (rfl) dX2_piece_54
  · refine lv_tableOut (tgt := 55) hx hb dX2_piece_1 hq (by decide) ?_
    refine lv_iconst (v := (-1)) hx hb dX2_piece_55 (by decide) ?_
    exact rd_iret hx hb hr hlk ((pi_no q0 q1 q2).symm) dX2_piece_56
end PWREAD
end
section
section PWWRITE
variable (l : Launch) (dC : Nat → ClassId) (dI : Nat → Nat → Nat) (cB cI cL : ClassId)

set_option maxHeartbeats 4000000 in
set_option maxRecDepth 100000 in
/-- clear(tg) -/
theorem c_Pw_clear (w qb gb qt gt qr gr qp h0 h1 h2 qu gu qo go_ : Nat) (B T : List Int32) (tg : Int32) : wr_M l yX2_clear wsX2_clear ({ frames := 1, cells := 0, slots := 0, locals := 20 } : Room) (dC, dI) vwCl (tk_s cB cI cL) [.ref w, .int tg] [(w, .inr (2, [.ref qb, .ref qt, .ref qr, .ref qp, .ref qu, .ref qo])), (qb, .inr (0, [.ref gb, .int (nI B.length)])), (qt, .inr (0, [.ref gt, .int (nI T.length)]))] 0 0 (fun _ : Unit => True) (fun _ => [(w, .inr (2, [.ref qb, .ref qt, .ref qr, .ref qp, .ref qu, .ref qo])), (qb, .inr (0, [.ref gb, .int (nI (if tg = 0 then ([] : List Int32) else B).length)])), (qt, .inr (0, [.ref gt, .int (nI (if tg = 0 then T else ([] : List Int32)).length)]))]) := by
  refine wr_ofW (cc := cX2_clear) (maxL := 3) (ret := none) (by decide) rfl (Nat.le_of_ble_eq_true rfl) ?_
  intro p e s m below meth c ls A hx hb hr hml hts hown hlk hnm hP hK hN hD hA hS hl
  have hl : lv_has ls 3 [(0, .ref w), (1, .int tg)] := hl
  refine lv_iload_n hx hb dX2_clear_0 rfl (lv_at hl 1 rfl) ?_
  refine lv_if_eq (tgt := 11) hx hb dX2_clear_1 (by decide) (fun c1 => ?_) (fun c1 => ?_)
  · rw [if_pos c1, if_pos c1]
    refine lv_aload_n hx hb dX2_clear_11 rfl (lv_at hl 0 rfl) ?_
    refine va_get (D := (dC, dI)) (ci := 2) (v := .ref qb) (C := RX2) (T := TX2) (N := 6) hx hb hts (by decide +kernel) hown hK hP 0 rfl rfl 0 (by decide) (hts (.fieldLink RX2 10 "PieceWays" "base" "LPieceWays$Bytes;") (by decide +kernel)) (fun _ h9 => h9) rfl dX2_clear_12 ?_
    refine lv_astore_n (lv' := [(2, .ref qb), (0, .ref w), (1, .int tg)]) hx hb dX2_clear_15 rfl hl (by decide) rfl (fun ls hl => ?_)
    refine lv_aload_n hx hb dX2_clear_16 rfl (lv_at hl 0 rfl) ?_
    refine wr_V (wc := [(qb, .inr (0, [.ref gb, .int (nI B.length)]))]) (wr := [(w, .inr (2, [.ref qb, .ref qt, .ref qr, .ref qp, .ref qu, .ref qo])), (qt, .inr (0, [.ref gt, .int (nI T.length)]))]) (As := []) (rest := []) ⟨hx, hb, hml, hown, hts⟩ (c_By_empty l dC dI cB cI cL qb gb (nI B.length)) (cwV 0 hts gX2_clear_X0_empty rfl rfl rfl (by decide +kernel) ⟨(Nat.le_of_ble_eq_true rfl), (Nat.le_of_ble_eq_true rfl)⟩) hK hN hP hD hS hA [1] [0, 2] rfl rfl (by decide) (by decide) (by decide) 0 rfl rfl rfl rfl hl.1 rfl (Nat.le_of_ble_eq_true rfl) dX2_clear_17 ⟨(Nat.le_of_ble_eq_true rfl), (Nat.le_of_ble_eq_true rfl)⟩ (fun _u H locs _hu hP hD hS => ?_)
    have hP : va_P (dC, dI) vwCl [(w, .inr (2, [.ref qb, .ref qt, .ref qr, .ref qp, .ref qu, .ref qo])), (qb, .inr (0, [.ref gb, .int (nI 0)])), (qt, .inr (0, [.ref gt, .int (nI T.length)]))] H := hP.sub [0, 2, 1] rfl
    have hD : va_D A [(w, .inr (2, [.ref qb, .ref qt, .ref qr, .ref qp, .ref qu, .ref qo])), (qb, .inr (0, [.ref gb, .int (nI 0)])), (qt, .inr (0, [.ref gt, .int (nI T.length)]))] := hD.sub [0, 2, 1] (by decide) rfl
    exact wr_vret hx hb hr hlk () trivial hP hD hS dX2_clear_20
  · rw [if_neg c1, if_neg c1]
    refine lv_aload_n hx hb dX2_clear_4 rfl (lv_at hl 0 rfl) ?_
    refine va_get (D := (dC, dI)) (ci := 2) (v := .ref qt) (C := RX2) (T := TX2) (N := 6) hx hb hts (by decide +kernel) hown hK hP 0 rfl rfl 1 (by decide) (hts (.fieldLink RX2 16 "PieceWays" "target" "LPieceWays$Bytes;") (by decide +kernel)) (fun _ h9 => h9) rfl dX2_clear_5 ?_
    refine lv_goto (tgt := 15) hx hb dX2_clear_8 (by decide) ?_
    refine lv_astore_n (lv' := [(2, .ref qt), (0, .ref w), (1, .int tg)]) hx hb dX2_clear_15 rfl hl (by decide) rfl (fun ls hl => ?_)
    refine lv_aload_n hx hb dX2_clear_16 rfl (lv_at hl 0 rfl) ?_
    refine wr_V (wc := [(qt, .inr (0, [.ref gt, .int (nI T.length)]))]) (wr := [(w, .inr (2, [.ref qb, .ref qt, .ref qr, .ref qp, .ref qu, .ref qo])), (qb, .inr (0, [.ref gb, .int (nI B.length)]))]) (As := []) (rest := []) ⟨hx, hb, hml, hown, hts⟩ (c_By_empty l dC dI cB cI cL qt gt (nI T.length)) (cwV 0 hts gX2_clear_X0_empty rfl rfl rfl (by decide +kernel) ⟨(Nat.le_of_ble_eq_true rfl), (Nat.le_of_ble_eq_true rfl)⟩) hK hN hP hD hS hA [2] [0, 1] rfl rfl (by decide) (by decide) (by decide) 0 rfl rfl rfl rfl hl.1 rfl (Nat.le_of_ble_eq_true rfl) dX2_clear_17 ⟨(Nat.le_of_ble_eq_true rfl), (Nat.le_of_ble_eq_true rfl)⟩ (fun _u H locs _hu hP hD hS => ?_)
    have hP : va_P (dC, dI) vwCl [(w, .inr (2, [.ref qb, .ref qt, .ref qr, .ref qp, .ref qu, .ref qo])), (qb, .inr (0, [.ref gb, .int (nI B.length)])), (qt, .inr (0, [.ref gt, .int (nI 0)]))] H := hP.sub [0, 1, 2] rfl
    have hD : va_D A [(w, .inr (2, [.ref qb, .ref qt, .ref qr, .ref qp, .ref qu, .ref qo])), (qb, .inr (0, [.ref gb, .int (nI B.length)])), (qt, .inr (0, [.ref gt, .int (nI 0)]))] := hD.sub [0, 1, 2] (by decide) rfl
    exact wr_vret hx hb hr hlk () trivial hP hD hS dX2_clear_20
set_option maxHeartbeats 4000000 in
set_option maxRecDepth 100000 in
/-- findPieces() -/
theorem c_Pw_findPieces (w qb gb qt gt qr gr qp h0 h1 h2 qu gu qo go_ : Nat) (B T : List Int32) (fb ft : Nat → Int32) (P : List (Nat × Nat × Nat)) (f0 f1 f2 : Nat → Int32) (hB : B.length ≤ 600) (hT : T.length ≤ 600) (hfb : by_k fb B) (hft : by_k ft T) : wr_M l yX2_findPieces wsX2_findPieces ({ frames := 3, cells := 0, slots := 0, locals := 70 } : Room) (dC, dI) vwCl (tk_s cB cI cL) [.ref w] [(w, .inr (2, [.ref qb, .ref qt, .ref qr, .ref qp, .ref qu, .ref qo])), (qb, .inr (0, [.ref gb, .int (nI B.length)])), (gb, .inl (cB, 603, .inl fb)), (qt, .inr (0, [.ref gt, .int (nI T.length)])), (gt, .inl (cB, 603, .inl ft)), (qp, .inr (1, [.ref h0, .ref h1, .ref h2, .int (nI P.length)])), (h0, .inl (cI, 133, .inl f0)), (h1, .inl (cI, 133, .inl f1)), (h2, .inl (cI, 133, .inl f2))] 0 0 (fun z : (Nat → Int32) × (Nat → Int32) × (Nat → Int32) => pc_k z.1 z.2.1 z.2.2 (wy_P B T)) (fun z : (Nat → Int32) × (Nat → Int32) × (Nat → Int32) => [(w, .inr (2, [.ref qb, .ref qt, .ref qr, .ref qp, .ref qu, .ref qo])), (qb, .inr (0, [.ref gb, .int (nI B.length)])), (gb, .inl (cB, 603, .inl fb)), (qt, .inr (0, [.ref gt, .int (nI T.length)])), (gt, .inl (cB, 603, .inl ft)), (qp, .inr (1, [.ref h0, .ref h1, .ref h2, .int (nI (wy_P B T).length)])), (h0, .inl (cI, 133, .inl (z.1))), (h1, .inl (cI, 133, .inl (z.2.1))), (h2, .inl (cI, 133, .inl (z.2.2)))]) := by
  refine wr_ofW (cc := cX2_findPieces) (maxL := 4) (ret := none) (by decide) rfl (Nat.le_of_ble_eq_true rfl) ?_
  intro p e s m below meth c ls A hx hb hr hml hts hown hlk hnm hP hK hN hD hA hS hl
  have hl : lv_has ls 4 [(0, .ref w)] := hl
  have loop : ∀ (n pl : Nat) (Q : List (Nat × Nat × Nat)) (f3 f4 f5 : Nat → Int32) (H : Heap) (locs : List Loc) (ls : Array Slot), T.length ≤ pl + n → pw_I B.length T.length Q pl → fp_P B T n pl Q = wy_P B T → pc_k f3 f4 f5 Q → va_P (dC, dI) vwCl [(w, .inr (2, [.ref qb, .ref qt, .ref qr, .ref qp, .ref qu, .ref qo])), (qb, .inr (0, [.ref gb, .int (nI B.length)])), (gb, .inl (cB, 603, .inl fb)), (qt, .inr (0, [.ref gt, .int (nI T.length)])), (gt, .inl (cB, 603, .inl ft)), (qp, .inr (1, [.ref h0, .ref h1, .ref h2, .int (nI Q.length)])), (h0, .inl (cI, 133, .inl f3)), (h1, .inl (cI, 133, .inl f4)), (h2, .inl (cI, 133, .inl f5))] H → va_D A [(w, .inr (2, [.ref qb, .ref qt, .ref qr, .ref qp, .ref qu, .ref qo])), (qb, .inr (0, [.ref gb, .int (nI B.length)])), (gb, .inl (cB, 603, .inl fb)), (qt, .inr (0, [.ref gt, .int (nI T.length)])), (gt, .inl (cB, 603, .inl ft)), (qp, .inr (1, [.ref h0, .ref h1, .ref h2, .int (nI Q.length)])), (h0, .inl (cI, 133, .inl f3)), (h1, .inl (cI, 133, .inl f4)), (h2, .inl (cI, 133, .inl f5))] → va_S A s.heap H locs → lv_has ls 4 [(1, .int (nI pl)), (0, .ref w)] → W p l e ({ frames := 3, cells := 0, slots := 0, locals := 70 } : Room) s m ([.ref w] : List Value).toArray below meth c H locs 0 0 (MQ below (va_Qv (fun z : (Nat → Int32) × (Nat → Int32) × (Nat → Int32) => pc_k z.1 z.2.1 z.2.2 (wy_P B T)) (fun u t => va_P (dC, dI) vwCl ((fun z : (Nat → Int32) × (Nat → Int32) × (Nat → Int32) => [(w, .inr (2, [.ref qb, .ref qt, .ref qr, .ref qp, .ref qu, .ref qo])), (qb, .inr (0, [.ref gb, .int (nI B.length)])), (gb, .inl (cB, 603, .inl fb)), (qt, .inr (0, [.ref gt, .int (nI T.length)])), (gt, .inl (cB, 603, .inl ft)), (qp, .inr (1, [.ref h0, .ref h1, .ref h2, .int (nI (wy_P B T).length)])), (h0, .inl (cI, 133, .inl (z.1))), (h1, .inl (cI, 133, .inl (z.2.1))), (h2, .inl (cI, 133, .inl (z.2.2)))]) u) t.heap ∧ va_D A ((fun z : (Nat → Int32) × (Nat → Int32) × (Nat → Int32) => [(w, .inr (2, [.ref qb, .ref qt, .ref qr, .ref qp, .ref qu, .ref qo])), (qb, .inr (0, [.ref gb, .int (nI B.length)])), (gb, .inl (cB, 603, .inl fb)), (qt, .inr (0, [.ref gt, .int (nI T.length)])), (gt, .inl (cB, 603, .inl ft)), (qp, .inr (1, [.ref h0, .ref h1, .ref h2, .int (nI (wy_P B T).length)])), (h0, .inl (cI, 133, .inl (z.1))), (h1, .inl (cI, 133, .inl (z.2.1))), (h2, .inl (cI, 133, .inl (z.2.2)))]) u)) A) ([.ref w] : List Value).toArray s 0 0 A) (F0 m 9 ls []) := by
    intro n
    induction n with
    | zero =>
      intro pl Q f3 f4 f5 H locs ls hn hI hfp hpc hP hD hS hl
      have hpl : pl = T.length := by have := hI.2.2.2.2.1; omega
      have hQ : Q = wy_P B T := hfp
      subst hQ
      refine lv_iload_n hx hb dX2_findPieces_9 rfl (lv_at hl 0 rfl) ?_
      refine lv_aload_n hx hb dX2_findPieces_10 rfl (lv_at hl 1 rfl) ?_
      refine va_get (D := (dC, dI)) (ci := 2) (v := .ref qt) (C := RX2) (T := TX2) (N := 6) hx hb hts (by decide +kernel) hown hK hP 0 rfl rfl 1 (by decide) (hts (.fieldLink RX2 16 "PieceWays" "target" "LPieceWays$Bytes;") (by decide +kernel)) (fun _ h9 => h9) rfl dX2_findPieces_11 ?_
      refine rd_V (wc := [(qt, .inr (0, [.ref gt, .int (nI T.length)]))]) (As := []) (rest := [.int (nI pl)]) ⟨hx, hb, hml, hown, hts⟩ (c_By_length l dC dI cB cI cL qt gt (nI T.length)) (cwV 0 hts gX2_findPieces_X0_length rfl rfl rfl (by decide +kernel) ⟨(Nat.le_of_ble_eq_true rfl), (Nat.le_of_ble_eq_true rfl)⟩) hK hN (sb_P hP [3] rfl) 0 rfl rfl rfl rfl hl.1 rfl (Nat.le_of_ble_eq_true rfl) dX2_findPieces_14 ⟨(Nat.le_of_ble_eq_true rfl), (Nat.le_of_ble_eq_true rfl)⟩ ?_
      refine lv_icmp_ge (tgt := 74) hx hb dX2_findPieces_17 (by decide) (fun c1 => ?_) (fun c1 => ?_)
      · exact wr_vret hx hb hr hlk (f3, f4, f5) hpc hP hD hS dX2_findPieces_74
      · exact absurd (nI_le (by omega) (by omega)) c1
    | succ n ih =>
      intro pl Q f3 f4 f5 H locs ls hn hI hfp hpc hP hD hS hl
      have hpT := hI.2.2.2.2.1
      have hQn := pw_num hI hT
      have hQk : ∀ t ∈ Q, t.1 < 3 := fun t ht => by rcases hI.1 t ht with h9 | h9 <;> omega
      refine lv_iload_n hx hb dX2_findPieces_9 rfl (lv_at hl 0 rfl) ?_
      refine lv_aload_n hx hb dX2_findPieces_10 rfl (lv_at hl 1 rfl) ?_
      refine va_get (D := (dC, dI)) (ci := 2) (v := .ref qt) (C := RX2) (T := TX2) (N := 6) hx hb hts (by decide +kernel) hown hK hP 0 rfl rfl 1 (by decide) (hts (.fieldLink RX2 16 "PieceWays" "target" "LPieceWays$Bytes;") (by decide +kernel)) (fun _ h9 => h9) rfl dX2_findPieces_11 ?_
      refine rd_V (wc := [(qt, .inr (0, [.ref gt, .int (nI T.length)]))]) (As := []) (rest := [.int (nI pl)]) ⟨hx, hb, hml, hown, hts⟩ (c_By_length l dC dI cB cI cL qt gt (nI T.length)) (cwV 0 hts gX2_findPieces_X0_length rfl rfl rfl (by decide +kernel) ⟨(Nat.le_of_ble_eq_true rfl), (Nat.le_of_ble_eq_true rfl)⟩) hK hN (sb_P hP [3] rfl) 0 rfl rfl rfl rfl hl.1 rfl (Nat.le_of_ble_eq_true rfl) dX2_findPieces_14 ⟨(Nat.le_of_ble_eq_true rfl), (Nat.le_of_ble_eq_true rfl)⟩ ?_
      refine lv_icmp_ge (tgt := 74) hx hb dX2_findPieces_17 (by decide) (fun c1 => ?_) (fun c1 => ?_)
      · have hpl : ¬ pl < T.length := fun h9 => absurd c1 (nI_ge h9 (by omega))
        have hQ : Q = wy_P B T := by unfold fp_P at hfp; rw [if_neg hpl] at hfp; exact hfp
        subst hQ
        exact wr_vret hx hb hr hlk (f3, f4, f5) hpc hP hD hS dX2_findPieces_74
      · have hpl : pl < T.length := by rcases Nat.lt_or_ge pl T.length with h9 | h9; exact h9; exact absurd (nI_le h9 (by omega)) c1
        refine lv_aload_n hx hb dX2_findPieces_20 rfl (lv_at hl 1 rfl) ?_
        refine lv_iload_n hx hb dX2_findPieces_21 rfl (lv_at hl 0 rfl) ?_
        refine rd_V (wc := [(w, .inr (2, [.ref qb, .ref qt, .ref qr, .ref qp, .ref qu, .ref qo])), (qb, .inr (0, [.ref gb, .int (nI B.length)])), (gb, .inl (cB, 603, .inl fb)), (qt, .inr (0, [.ref gt, .int (nI T.length)])), (gt, .inl (cB, 603, .inl ft))]) (As := [.int (nI pl)]) (rest := []) ⟨hx, hb, hml, hown, hts⟩ (c_Pw_longestBlock l dC dI cB cI cL w qb gb qt gt qr gr qp h0 h1 h2 qu gu qo go_ B T fb ft pl (by omega) hB hT hfb hft) (cwV 1 hts gX2_findPieces_X2_longestBlock rfl rfl rfl (by decide +kernel) ⟨(Nat.le_of_ble_eq_true rfl), (Nat.le_of_ble_eq_true rfl)⟩) hK hN (sb_P hP [0, 1, 2, 3, 4] rfl) 0 rfl rfl rfl rfl hl.1 rfl (Nat.le_of_ble_eq_true rfl) dX2_findPieces_22 ⟨(Nat.le_of_ble_eq_true rfl), (Nat.le_of_ble_eq_true rfl)⟩ ?_
        unfold fp_P at hfp
        rw [if_pos hpl] at hfp
        rcases lg_ok B T pl (B.length / 8) with ⟨k1, -⟩ | ⟨b, k1, -, k3, k4⟩
        · rw [k1] at hfp
          rw [k1]
          have hI2 := pw_plain hI hpl
          have hQ2 := pw_num hI2 hT
          show W _ _ _ _ _ _ _ _ _ _ _ _ _ _ _ (F0 m 25 ls [.int (-1)])
          refine lv_istore_n (lv' := [(2, .int (-1)), (1, .int (nI pl)), (0, .ref w)]) hx hb dX2_findPieces_25 rfl hl (by decide) rfl (fun ls hl => ?_)
          refine lv_iload_n hx hb dX2_findPieces_26 rfl (lv_at hl 0 rfl) ?_
          refine lv_iconst (v := (-1)) hx hb dX2_findPieces_27 (by decide) ?_
          refine lv_icmp_ne (tgt := 45) hx hb dX2_findPieces_28 (by decide) (fun c2 => ?_) (fun c2 => ?_)
          · exact absurd rfl c2
          · refine lv_aload_n hx hb dX2_findPieces_31 rfl (lv_at hl 2 rfl) ?_
            refine va_get (D := (dC, dI)) (ci := 2) (v := .ref qp) (C := RX2) (T := TX2) (N := 6) hx hb hts (by decide +kernel) hown hK hP 0 rfl rfl 3 (by decide) (hts (.fieldLink RX2 25 "PieceWays" "pieces" "LPieceWays$Pieces;") (by decide +kernel)) (fun _ h9 => h9) rfl dX2_findPieces_32 ?_
            refine lv_iload_n hx hb dX2_findPieces_35 rfl (lv_at hl 1 rfl) ?_
            refine wr_V (wc := [(qp, .inr (1, [.ref h0, .ref h1, .ref h2, .int (nI Q.length)])), (h0, .inl (cI, 133, .inl f3)), (h1, .inl (cI, 133, .inl f4)), (h2, .inl (cI, 133, .inl f5))]) (wr := [(w, .inr (2, [.ref qb, .ref qt, .ref qr, .ref qp, .ref qu, .ref qo])), (qb, .inr (0, [.ref gb, .int (nI B.length)])), (gb, .inl (cB, 603, .inl fb)), (qt, .inr (0, [.ref gt, .int (nI T.length)])), (gt, .inl (cB, 603, .inl ft))]) (As := [.int (nI pl)]) (rest := []) ⟨hx, hb, hml, hown, hts⟩ (c_Pc_addPlainByte l dC dI cB cI cL qp h0 h1 h2 Q f3 f4 f5 pl hQk hQn.1 hQ2.1 hpc) (cwV 1 hts gX2_findPieces_X1_addPlainByte rfl rfl rfl (by decide +kernel) ⟨(Nat.le_of_ble_eq_true rfl), (Nat.le_of_ble_eq_true rfl)⟩) hK hN hP hD hS hA [5, 6, 7, 8] [0, 1, 2, 3, 4] rfl rfl (by decide) (by decide) (by decide) 0 rfl rfl rfl rfl hl.1 rfl (Nat.le_of_ble_eq_true rfl) dX2_findPieces_36 ⟨(Nat.le_of_ble_eq_true rfl), (Nat.le_of_ble_eq_true rfl)⟩ (fun z H locs hz hP hD hS => ?_)
            have hP : va_P (dC, dI) vwCl [(w, .inr (2, [.ref qb, .ref qt, .ref qr, .ref qp, .ref qu, .ref qo])), (qb, .inr (0, [.ref gb, .int (nI B.length)])), (gb, .inl (cB, 603, .inl fb)), (qt, .inr (0, [.ref gt, .int (nI T.length)])), (gt, .inl (cB, 603, .inl ft)), (qp, .inr (1, [.ref h0, .ref h1, .ref h2, .int (nI (ap_P Q pl).length)])), (h0, .inl (cI, 133, .inl (z.1))), (h1, .inl (cI, 133, .inl (z.2.1))), (h2, .inl (cI, 133, .inl (z.2.2)))] H := hP.sub [0, 1, 2, 3, 4, 5, 6, 7, 8] rfl
            have hD : va_D A [(w, .inr (2, [.ref qb, .ref qt, .ref qr, .ref qp, .ref qu, .ref qo])), (qb, .inr (0, [.ref gb, .int (nI B.length)])), (gb, .inl (cB, 603, .inl fb)), (qt, .inr (0, [.ref gt, .int (nI T.length)])), (gt, .inl (cB, 603, .inl ft)), (qp, .inr (1, [.ref h0, .ref h1, .ref h2, .int (nI (ap_P Q pl).length)])), (h0, .inl (cI, 133, .inl (z.1))), (h1, .inl (cI, 133, .inl (z.2.1))), (h2, .inl (cI, 133, .inl (z.2.2)))] := hD.sub [0, 1, 2, 3, 4, 5, 6, 7, 8] (by decide) rfl
            refine lv_iinc (v := ((nI pl) + 1)) (lv' := [(1, .int ((nI pl) + 1)), (2, .int (-1)), (0, .ref w)]) hx hb dX2_findPieces_39 hl (k := 1) rfl rfl (by decide) rfl (fun ls hl => ?_)
            refine lv_goto (tgt := 71) hx hb dX2_findPieces_42 (by decide) ?_
            refine lv_goto (tgt := 9) hx hb dX2_findPieces_71 (by decide) ?_
            have h9 : lv_has ls 4 [(1, .int (nI pl + 1)), (0, .ref w)] := lv_sub hl [0, 2] rfl
            rw [nI_1] at h9
            exact ih (pl + 1) (ap_P Q pl) z.1 z.2.1 z.2.2 H locs ls (by omega) hI2 hfp hz hP hD hS h9
        · rw [k1] at hfp
          rw [k1]
          have hlc := lc_le (B.drop b) (T.drop pl)
          rw [List.length_drop, List.length_drop] at hlc
          have hI2 := pw_copy (b := b) hI k3 (by omega) (by omega)
          have hQ2 := pw_num hI2 hT
          rw [List.length_append, List.length_singleton] at hQ2
          show W _ _ _ _ _ _ _ _ _ _ _ _ _ _ _ (F0 m 25 ls [.int (nI b)])
          refine lv_istore_n (lv' := [(2, .int (nI b)), (1, .int (nI pl)), (0, .ref w)]) hx hb dX2_findPieces_25 rfl hl (by decide) rfl (fun ls hl => ?_)
          refine lv_iload_n hx hb dX2_findPieces_26 rfl (lv_at hl 0 rfl) ?_
          refine lv_iconst (v := (-1)) hx hb dX2_findPieces_27 (by decide) ?_
          refine lv_icmp_ne (tgt := 45) hx hb dX2_findPieces_28 (by decide) (fun c2 => ?_) (fun c2 => ?_)
          · refine lv_aload_n hx hb dX2_findPieces_45 rfl (lv_at hl 2 rfl) ?_
            refine lv_iload_n hx hb dX2_findPieces_46 rfl (lv_at hl 0 rfl) ?_
            refine lv_iload_n hx hb dX2_findPieces_47 rfl (lv_at hl 1 rfl) ?_
            refine rd_V (wc := [(w, .inr (2, [.ref qb, .ref qt, .ref qr, .ref qp, .ref qu, .ref qo])), (qb, .inr (0, [.ref gb, .int (nI B.length)])), (gb, .inl (cB, 603, .inl fb)), (qt, .inr (0, [.ref gt, .int (nI T.length)])), (gt, .inl (cB, 603, .inl ft))]) (As := [.int (nI b), .int (nI pl)]) (rest := []) ⟨hx, hb, hml, hown, hts⟩ (c_Pw_alike l dC dI cB cI cL w qb gb qt gt qr gr qp h0 h1 h2 qu gu qo go_ B T fb ft b pl (by omega) (by omega) hB hT hfb hft) (cwV 2 hts gX2_findPieces_X2_alike rfl rfl rfl (by decide +kernel) ⟨(Nat.le_of_ble_eq_true rfl), (Nat.le_of_ble_eq_true rfl)⟩) hK hN (sb_P hP [0, 1, 2, 3, 4] rfl) 0 rfl rfl rfl rfl hl.1 rfl (Nat.le_of_ble_eq_true rfl) dX2_findPieces_48 ⟨(Nat.le_of_ble_eq_true rfl), (Nat.le_of_ble_eq_true rfl)⟩ ?_
            refine lv_istore_n (lv' := [(3, .int (nI (lc_p (B.drop b) (T.drop pl)))), (2, .int (nI b)), (1, .int (nI pl)), (0, .ref w)]) hx hb dX2_findPieces_51 rfl hl (by decide) rfl (fun ls hl => ?_)
            refine lv_aload_n hx hb dX2_findPieces_52 rfl (lv_at hl 3 rfl) ?_
            refine va_get (D := (dC, dI)) (ci := 2) (v := .ref qp) (C := RX2) (T := TX2) (N := 6) hx hb hts (by decide +kernel) hown hK hP 0 rfl rfl 3 (by decide) (hts (.fieldLink RX2 25 "PieceWays" "pieces" "LPieceWays$Pieces;") (by decide +kernel)) (fun _ h9 => h9) rfl dX2_findPieces_53 ?_
            refine lv_iconst (v := 1) hx hb dX2_findPieces_56 (by decide) ?_
            refine lv_iload_n hx hb dX2_findPieces_57 rfl (lv_at hl 1 rfl) ?_
            refine lv_iload_n hx hb dX2_findPieces_58 rfl (lv_at hl 0 rfl) ?_
            refine wr_V (wc := [(qp, .inr (1, [.ref h0, .ref h1, .ref h2, .int (nI Q.length)])), (h0, .inl (cI, 133, .inl f3)), (h1, .inl (cI, 133, .inl f4)), (h2, .inl (cI, 133, .inl f5))]) (wr := [(w, .inr (2, [.ref qb, .ref qt, .ref qr, .ref qp, .ref qu, .ref qo])), (qb, .inr (0, [.ref gb, .int (nI B.length)])), (gb, .inl (cB, 603, .inl fb)), (qt, .inr (0, [.ref gt, .int (nI T.length)])), (gt, .inl (cB, 603, .inl ft))]) (As := [.int (nI 1), .int (nI b), .int (nI (lc_p (B.drop b) (T.drop pl)))]) (rest := []) ⟨hx, hb, hml, hown, hts⟩ (c_Pc_add l dC dI cB cI cL qp h0 h1 h2 Q f3 f4 f5 1 b (lc_p (B.drop b) (T.drop pl)) (by omega) hpc) (cwV 3 hts gX2_findPieces_X1_add rfl rfl rfl (by decide +kernel) ⟨(Nat.le_of_ble_eq_true rfl), (Nat.le_of_ble_eq_true rfl)⟩) hK hN hP hD hS hA [5, 6, 7, 8] [0, 1, 2, 3, 4] rfl rfl (by decide) (by decide) (by decide) 0 rfl rfl rfl rfl hl.1 rfl (Nat.le_of_ble_eq_true rfl) dX2_findPieces_59 ⟨(Nat.le_of_ble_eq_true rfl), (Nat.le_of_ble_eq_true rfl)⟩ (fun z H locs hz hP hD hS => ?_)
            have hP : va_P (dC, dI) vwCl [(w, .inr (2, [.ref qb, .ref qt, .ref qr, .ref qp, .ref qu, .ref qo])), (qb, .inr (0, [.ref gb, .int (nI B.length)])), (gb, .inl (cB, 603, .inl fb)), (qt, .inr (0, [.ref gt, .int (nI T.length)])), (gt, .inl (cB, 603, .inl ft)), (qp, .inr (1, [.ref h0, .ref h1, .ref h2, .int (nI (Q ++ [(1, b, (lc_p (B.drop b) (T.drop pl)))]).length)])), (h0, .inl (cI, 133, .inl (z.1))), (h1, .inl (cI, 133, .inl (z.2.1))), (h2, .inl (cI, 133, .inl (z.2.2)))] H := hP.sub [0, 1, 2, 3, 4, 5, 6, 7, 8] rfl
            have hD : va_D A [(w, .inr (2, [.ref qb, .ref qt, .ref qr, .ref qp, .ref qu, .ref qo])), (qb, .inr (0, [.ref gb, .int (nI B.length)])), (gb, .inl (cB, 603, .inl fb)), (qt, .inr (0, [.ref gt, .int (nI T.length)])), (gt, .inl (cB, 603, .inl ft)), (qp, .inr (1, [.ref h0, .ref h1, .ref h2, .int (nI (Q ++ [(1, b, (lc_p (B.drop b) (T.drop pl)))]).length)])), (h0, .inl (cI, 133, .inl (z.1))), (h1, .inl (cI, 133, .inl (z.2.1))), (h2, .inl (cI, 133, .inl (z.2.2)))] := hD.sub [0, 1, 2, 3, 4, 5, 6, 7, 8] (by decide) rfl
            refine lv_iload_n hx hb dX2_findPieces_62 rfl (lv_at hl 2 rfl) ?_
            refine lv_iload_n hx hb dX2_findPieces_63 rfl (lv_at hl 0 rfl) ?_
            refine lv_bipush (v := 8) hx hb dX2_findPieces_64 (by decide) ?_
            refine va_mmax hx hb (by rw [hml]; exact hl.1.symm) hown (hts (.methodLink RX2 95 Lib.Math.max.name) (by decide +kernel)) (hts (.static Lib.Math.max.name) (by decide +kernel)) (hts (.initialized "java/lang/Math") (by decide +kernel)) (hts (.code Lib.Math.max.name Lib.Math.max.code 2 (some .int)) (by decide +kernel)) (Nat.le_of_ble_eq_true rfl) (Nat.le_of_ble_eq_true rfl) (Nat.le_of_ble_eq_true rfl) (Nat.le_of_ble_eq_true rfl) dX2_findPieces_66 ?_
            have emx : (if nI (lc_p (B.drop b) (T.drop pl)) < 8 then 8 else nI (lc_p (B.drop b) (T.drop pl))) = nI (lc_p (B.drop b) (T.drop pl)) := if_neg (nI_nlt (a := (lc_p (B.drop b) (T.drop pl))) (b := 8) k3 (by omega))
            rw [emx]
            refine lv_iadd hx hb dX2_findPieces_69 ?_
            refine lv_istore_n (lv' := [(1, .int ((nI pl) + (nI (lc_p (B.drop b) (T.drop pl))))), (3, .int (nI (lc_p (B.drop b) (T.drop pl)))), (2, .int (nI b)), (0, .ref w)]) hx hb dX2_findPieces_70 rfl hl (by decide) rfl (fun ls hl => ?_)
            refine lv_goto (tgt := 9) hx hb dX2_findPieces_71 (by decide) ?_
            have h9 : lv_has ls 4 [(1, .int (nI pl + nI (lc_p (B.drop b) (T.drop pl)))), (0, .ref w)] := lv_sub hl [0, 3] rfl
            rw [nI_add] at h9
            exact ih (pl + (lc_p (B.drop b) (T.drop pl))) (Q ++ [(1, b, (lc_p (B.drop b) (T.drop pl)))]) z.1 z.2.1 z.2.2 H locs ls (by omega) hI2 hfp hz hP hD hS h9
          · exact absurd (show nI b < 0 by rw [c2]; decide) (nI_pos (by omega))
  refine lv_aload_n hx hb dX2_findPieces_0 rfl (lv_at hl 0 rfl) ?_
  refine va_get (D := (dC, dI)) (ci := 2) (v := .ref qp) (C := RX2) (T := TX2) (N := 6) hx hb hts (by decide +kernel) hown hK hP 0 rfl rfl 3 (by decide) (hts (.fieldLink RX2 25 "PieceWays" "pieces" "LPieceWays$Pieces;") (by decide +kernel)) (fun _ h9 => h9) rfl dX2_findPieces_1 ?_
  refine wr_V (wc := [(qp, .inr (1, [.ref h0, .ref h1, .ref h2, .int (nI P.length)]))]) (wr := [(w, .inr (2, [.ref qb, .ref qt, .ref qr, .ref qp, .ref qu, .ref qo])), (qb, .inr (0, [.ref gb, .int (nI B.length)])), (gb, .inl (cB, 603, .inl fb)), (qt, .inr (0, [.ref gt, .int (nI T.length)])), (gt, .inl (cB, 603, .inl ft)), (h0, .inl (cI, 133, .inl f0)), (h1, .inl (cI, 133, .inl f1)), (h2, .inl (cI, 133, .inl f2))]) (As := []) (rest := []) ⟨hx, hb, hml, hown, hts⟩ (c_Pc_empty l dC dI cB cI cL qp h0 h1 h2 (nI P.length)) (cwV 0 hts gX2_findPieces_X1_empty rfl rfl rfl (by decide +kernel) ⟨(Nat.le_of_ble_eq_true rfl), (Nat.le_of_ble_eq_true rfl)⟩) hK hN hP hD hS hA [5] [0, 1, 2, 3, 4, 6, 7, 8] rfl rfl (by decide) (by decide) (by decide) 0 rfl rfl rfl rfl hl.1 rfl (Nat.le_of_ble_eq_true rfl) dX2_findPieces_4 ⟨(Nat.le_of_ble_eq_true rfl), (Nat.le_of_ble_eq_true rfl)⟩ (fun _u H locs _hu hP hD hS => ?_)
  have hP : va_P (dC, dI) vwCl [(w, .inr (2, [.ref qb, .ref qt, .ref qr, .ref qp, .ref qu, .ref qo])), (qb, .inr (0, [.ref gb, .int (nI B.length)])), (gb, .inl (cB, 603, .inl fb)), (qt, .inr (0, [.ref gt, .int (nI T.length)])), (gt, .inl (cB, 603, .inl ft)), (qp, .inr (1, [.ref h0, .ref h1, .ref h2, .int (nI ([] : List (Nat × Nat × Nat)).length)])), (h0, .inl (cI, 133, .inl f0)), (h1, .inl (cI, 133, .inl f1)), (h2, .inl (cI, 133, .inl f2))] H := hP.sub [0, 1, 2, 3, 4, 8, 5, 6, 7] rfl
  have hD : va_D A [(w, .inr (2, [.ref qb, .ref qt, .ref qr, .ref qp, .ref qu, .ref qo])), (qb, .inr (0, [.ref gb, .int (nI B.length)])), (gb, .inl (cB, 603, .inl fb)), (qt, .inr (0, [.ref gt, .int (nI T.length)])), (gt, .inl (cB, 603, .inl ft)), (qp, .inr (1, [.ref h0, .ref h1, .ref h2, .int (nI ([] : List (Nat × Nat × Nat)).length)])), (h0, .inl (cI, 133, .inl f0)), (h1, .inl (cI, 133, .inl f1)), (h2, .inl (cI, 133, .inl f2))] := hD.sub [0, 1, 2, 3, 4, 8, 5, 6, 7] (by decide) rfl
  refine lv_iconst (v := 0) hx hb dX2_findPieces_7 (by decide) ?_
  refine lv_istore_n (lv' := [(1, .int 0), (0, .ref w)]) hx hb dX2_findPieces_8 rfl hl (by decide) rfl (fun ls hl => ?_)
  exact loop T.length 0 [] f0 f1 f2 H locs ls (by omega) (pw_0 _ _) rfl (pc_nil _ _ _) hP hD hS hl
end PWWRITE
end
section
section PWROW
variable (l : Launch) (dC : Nat → ClassId) (dI : Nat → Nat → Nat) (cB cI cL : ClassId)

set_option maxHeartbeats 4000000 in
set_option maxRecDepth 100000 in
/-- writeRow() -/
theorem c_Pw_writeRow (w qb gb qt gt qr gr qp h0 h1 h2 qu gu qo go_ : Nat) (P : List (Nat × Nat × Nat)) (f0 f1 f2 : Nat → Int32) (U O : List Int32) (fu fo : Nat → Int32) (nB : Nat) (hk : pk_W nB U.length P) (hpc : pc_k f0 f1 f2 P) (hfu : by_k fu U) : wr_M l yX2_writeRow wsX2_writeRow ({ frames := 2, cells := 0, slots := 0, locals := 45 } : Room) (dC, dI) vwCl (tk_s cB cI cL) [.ref w] [(w, .inr (2, [.ref qb, .ref qt, .ref qr, .ref qp, .ref qu, .ref qo])), (qp, .inr (1, [.ref h0, .ref h1, .ref h2, .int (nI P.length)])), (h0, .inl (cI, 133, .inl f0)), (h1, .inl (cI, 133, .inl f1)), (h2, .inl (cI, 133, .inl f2)), (qu, .inr (0, [.ref gu, .int (nI U.length)])), (gu, .inl (cB, 603, .inl fu)), (qo, .inr (0, [.ref go_, .int (nI O.length)])), (go_, .inl (cB, 603, .inl fo))] 0 0 (fun z : Nat → Int32 => by_k z (rw_R U P)) (fun z : Nat → Int32 => [(w, .inr (2, [.ref qb, .ref qt, .ref qr, .ref qp, .ref qu, .ref qo])), (qp, .inr (1, [.ref h0, .ref h1, .ref h2, .int (nI P.length)])), (h0, .inl (cI, 133, .inl f0)), (h1, .inl (cI, 133, .inl f1)), (h2, .inl (cI, 133, .inl f2)), (qu, .inr (0, [.ref gu, .int (nI U.length)])), (gu, .inl (cB, 603, .inl fu)), (qo, .inr (0, [.ref go_, .int (nI (rw_R U P).length)])), (go_, .inl (cB, 603, .inl z))]) := by
  refine wr_ofW (cc := cX2_writeRow) (maxL := 2) (ret := none) (by decide) rfl (Nat.le_of_ble_eq_true rfl) ?_
  intro p e s m below meth c ls A hx hb hr hml hts hown hlk hnm hP hK hN hD hA hS hl
  have hl : lv_has ls 2 [(0, .ref w)] := hl
  have hln := pk_len hk
  have hrl : ∀ j : Nat, (rw_R U (P.take j)).length ≤ 603 := fun j => by rw [rw_len (nB := nB) (fun t ht => hk.2.2.1 t (List.mem_of_mem_take ht))]; have := rl_take P j; omega
  have loop : ∀ (n j : Nat) (f3 : Nat → Int32) (H : Heap) (locs : List Loc) (ls : Array Slot), n + j = P.length → by_k f3 (rw_R U (P.take j)) → va_P (dC, dI) vwCl [(w, .inr (2, [.ref qb, .ref qt, .ref qr, .ref qp, .ref qu, .ref qo])), (qp, .inr (1, [.ref h0, .ref h1, .ref h2, .int (nI P.length)])), (h0, .inl (cI, 133, .inl f0)), (h1, .inl (cI, 133, .inl f1)), (h2, .inl (cI, 133, .inl f2)), (qu, .inr (0, [.ref gu, .int (nI U.length)])), (gu, .inl (cB, 603, .inl fu)), (qo, .inr (0, [.ref go_, .int (nI (rw_R U (P.take j)).length)])), (go_, .inl (cB, 603, .inl f3))] H → va_D A [(w, .inr (2, [.ref qb, .ref qt, .ref qr, .ref qp, .ref qu, .ref qo])), (qp, .inr (1, [.ref h0, .ref h1, .ref h2, .int (nI P.length)])), (h0, .inl (cI, 133, .inl f0)), (h1, .inl (cI, 133, .inl f1)), (h2, .inl (cI, 133, .inl f2)), (qu, .inr (0, [.ref gu, .int (nI U.length)])), (gu, .inl (cB, 603, .inl fu)), (qo, .inr (0, [.ref go_, .int (nI (rw_R U (P.take j)).length)])), (go_, .inl (cB, 603, .inl f3))] → va_S A s.heap H locs → lv_has ls 2 [(1, .int (nI j)), (0, .ref w)] → W p l e ({ frames := 2, cells := 0, slots := 0, locals := 45 } : Room) s m ([.ref w] : List Value).toArray below meth c H locs 0 0 (MQ below (va_Qv (fun z : Nat → Int32 => by_k z (rw_R U P)) (fun u t => va_P (dC, dI) vwCl ((fun z : Nat → Int32 => [(w, .inr (2, [.ref qb, .ref qt, .ref qr, .ref qp, .ref qu, .ref qo])), (qp, .inr (1, [.ref h0, .ref h1, .ref h2, .int (nI P.length)])), (h0, .inl (cI, 133, .inl f0)), (h1, .inl (cI, 133, .inl f1)), (h2, .inl (cI, 133, .inl f2)), (qu, .inr (0, [.ref gu, .int (nI U.length)])), (gu, .inl (cB, 603, .inl fu)), (qo, .inr (0, [.ref go_, .int (nI (rw_R U P).length)])), (go_, .inl (cB, 603, .inl z))]) u) t.heap ∧ va_D A ((fun z : Nat → Int32 => [(w, .inr (2, [.ref qb, .ref qt, .ref qr, .ref qp, .ref qu, .ref qo])), (qp, .inr (1, [.ref h0, .ref h1, .ref h2, .int (nI P.length)])), (h0, .inl (cI, 133, .inl f0)), (h1, .inl (cI, 133, .inl f1)), (h2, .inl (cI, 133, .inl f2)), (qu, .inr (0, [.ref gu, .int (nI U.length)])), (gu, .inl (cB, 603, .inl fu)), (qo, .inr (0, [.ref go_, .int (nI (rw_R U P).length)])), (go_, .inl (cB, 603, .inl z))]) u)) A) ([.ref w] : List Value).toArray s 0 0 A) (F0 m 9 ls []) := by
    intro n
    induction n with
    | zero =>
      intro j f3 H locs ls hj hf3 hP hD hS hl
      have hj2 : P.take j = P := List.take_of_length_le (by omega)
      rw [hj2] at hf3 hP hD
      refine lv_iload_n hx hb dX2_writeRow_9 rfl (lv_at hl 0 rfl) ?_
      refine lv_aload_n hx hb dX2_writeRow_10 rfl (lv_at hl 1 rfl) ?_
      refine va_get (D := (dC, dI)) (ci := 2) (v := .ref qp) (C := RX2) (T := TX2) (N := 6) hx hb hts (by decide +kernel) hown hK hP 0 rfl rfl 3 (by decide) (hts (.fieldLink RX2 25 "PieceWays" "pieces" "LPieceWays$Pieces;") (by decide +kernel)) (fun _ h9 => h9) rfl dX2_writeRow_11 ?_
      refine rd_V (wc := [(qp, .inr (1, [.ref h0, .ref h1, .ref h2, .int (nI P.length)]))]) (As := []) (rest := [.int (nI j)]) ⟨hx, hb, hml, hown, hts⟩ (c_Pc_number l dC dI cB cI cL qp h0 h1 h2 (nI P.length)) (cwV 0 hts gX2_writeRow_X1_number rfl rfl rfl (by decide +kernel) ⟨(Nat.le_of_ble_eq_true rfl), (Nat.le_of_ble_eq_true rfl)⟩) hK hN (sb_P hP [1] rfl) 0 rfl rfl rfl rfl hl.1 rfl (Nat.le_of_ble_eq_true rfl) dX2_writeRow_14 ⟨(Nat.le_of_ble_eq_true rfl), (Nat.le_of_ble_eq_true rfl)⟩ ?_
      refine lv_icmp_ge (tgt := 128) hx hb dX2_writeRow_17 (by decide) (fun c1 => ?_) (fun c1 => ?_)
      · exact wr_vret hx hb hr hlk f3 hf3 hP hD hS dX2_writeRow_128
      · exact absurd (nI_le (by omega) (by omega)) c1
    | succ n ih =>
      intro j f3 H locs ls hj hf3 hP hD hS hl
      obtain ⟨t, ht⟩ : ∃ t, P[j]? = some t := ⟨_, List.getElem?_eq_getElem (by omega)⟩
      have hg := hk.2.2.1 t (List.mem_of_getElem? ht)
      have hl1 := rw_len1 hg
      have hl2 := hrl (j + 1)
      rw [rw_take ht, List.length_append, hl1] at hl2
      have hu6 := hk.2.1
      have hk6 := pk_1 hk (List.mem_of_getElem? ht)
      refine lv_iload_n hx hb dX2_writeRow_9 rfl (lv_at hl 0 rfl) ?_
      refine lv_aload_n hx hb dX2_writeRow_10 rfl (lv_at hl 1 rfl) ?_
      refine va_get (D := (dC, dI)) (ci := 2) (v := .ref qp) (C := RX2) (T := TX2) (N := 6) hx hb hts (by decide +kernel) hown hK hP 0 rfl rfl 3 (by decide) (hts (.fieldLink RX2 25 "PieceWays" "pieces" "LPieceWays$Pieces;") (by decide +kernel)) (fun _ h9 => h9) rfl dX2_writeRow_11 ?_
      refine rd_V (wc := [(qp, .inr (1, [.ref h0, .ref h1, .ref h2, .int (nI P.length)]))]) (As := []) (rest := [.int (nI j)]) ⟨hx, hb, hml, hown, hts⟩ (c_Pc_number l dC dI cB cI cL qp h0 h1 h2 (nI P.length)) (cwV 0 hts gX2_writeRow_X1_number rfl rfl rfl (by decide +kernel) ⟨(Nat.le_of_ble_eq_true rfl), (Nat.le_of_ble_eq_true rfl)⟩) hK hN (sb_P hP [1] rfl) 0 rfl rfl rfl rfl hl.1 rfl (Nat.le_of_ble_eq_true rfl) dX2_writeRow_14 ⟨(Nat.le_of_ble_eq_true rfl), (Nat.le_of_ble_eq_true rfl)⟩ ?_
      refine lv_icmp_ge (tgt := 128) hx hb dX2_writeRow_17 (by decide) (fun c1 => ?_) (fun c1 => ?_)
      · exact absurd c1 (nI_ge (by omega) (by omega))
      · refine lv_aload_n hx hb dX2_writeRow_20 rfl (lv_at hl 1 rfl) ?_
        refine va_get (D := (dC, dI)) (ci := 2) (v := .ref qo) (C := RX2) (T := TX2) (N := 6) hx hb hts (by decide +kernel) hown hK hP 0 rfl rfl 5 (by decide) (hts (.fieldLink RX2 32 "PieceWays" "row" "LPieceWays$Bytes;") (by decide +kernel)) (fun _ h9 => h9) rfl dX2_writeRow_21 ?_
        refine lv_aload_n hx hb dX2_writeRow_24 rfl (lv_at hl 1 rfl) ?_
        refine va_get (D := (dC, dI)) (ci := 2) (v := .ref qp) (C := RX2) (T := TX2) (N := 6) hx hb hts (by decide +kernel) hown hK hP 0 rfl rfl 3 (by decide) (hts (.fieldLink RX2 25 "PieceWays" "pieces" "LPieceWays$Pieces;") (by decide +kernel)) (fun _ h9 => h9) rfl dX2_writeRow_25 ?_
        refine lv_iload_n hx hb dX2_writeRow_28 rfl (lv_at hl 0 rfl) ?_
        refine rd_V (wc := [(qp, .inr (1, [.ref h0, .ref h1, .ref h2, .int (nI P.length)])), (h0, .inl (cI, 133, .inl f0))]) (As := [.int (nI j)]) (rest := [.ref qo]) ⟨hx, hb, hml, hown, hts⟩ (c_Pc_kind l dC dI cB cI cL qp h0 h1 h2 P f0 f1 f2 (nI j) hln.1 hpc) (cwV 1 hts gX2_writeRow_X1_kind rfl rfl rfl (by decide +kernel) ⟨(Nat.le_of_ble_eq_true rfl), (Nat.le_of_ble_eq_true rfl)⟩) hK hN (sb_P hP [1, 2] rfl) 0 rfl rfl rfl rfl hl.1 rfl (Nat.le_of_ble_eq_true rfl) dX2_writeRow_29 ⟨(Nat.le_of_ble_eq_true rfl), (Nat.le_of_ble_eq_true rfl)⟩ ?_
        rw [ps_in (g := fun t => t.1) ht (by omega)]
        refine wr_V (wc := [(qo, .inr (0, [.ref go_, .int (nI (rw_R U (P.take j)).length)])), (go_, .inl (cB, 603, .inl f3))]) (wr := [(w, .inr (2, [.ref qb, .ref qt, .ref qr, .ref qp, .ref qu, .ref qo])), (qp, .inr (1, [.ref h0, .ref h1, .ref h2, .int (nI P.length)])), (h0, .inl (cI, 133, .inl f0)), (h1, .inl (cI, 133, .inl f1)), (h2, .inl (cI, 133, .inl f2)), (qu, .inr (0, [.ref gu, .int (nI U.length)])), (gu, .inl (cB, 603, .inl fu))]) (As := [.int (nI t.1)]) (rest := []) ⟨hx, hb, hml, hown, hts⟩ (c_By_add l dC dI cB cI cL qo go_ (rw_R U (P.take j)) f3 (nI t.1) (by split at hl2 <;> omega) hf3) (cwV 1 hts gX2_writeRow_X0_add rfl rfl rfl (by decide +kernel) ⟨(Nat.le_of_ble_eq_true rfl), (Nat.le_of_ble_eq_true rfl)⟩) hK hN hP hD hS hA [7, 8] [0, 1, 2, 3, 4, 5, 6] rfl rfl (by decide) (by decide) (by decide) 0 rfl rfl rfl rfl hl.1 rfl (Nat.le_of_ble_eq_true rfl) dX2_writeRow_32 ⟨(Nat.le_of_ble_eq_true rfl), (Nat.le_of_ble_eq_true rfl)⟩ (fun f4 H locs hf4 hP hD hS => ?_)
        have hP : va_P (dC, dI) vwCl [(w, .inr (2, [.ref qb, .ref qt, .ref qr, .ref qp, .ref qu, .ref qo])), (qp, .inr (1, [.ref h0, .ref h1, .ref h2, .int (nI P.length)])), (h0, .inl (cI, 133, .inl f0)), (h1, .inl (cI, 133, .inl f1)), (h2, .inl (cI, 133, .inl f2)), (qu, .inr (0, [.ref gu, .int (nI U.length)])), (gu, .inl (cB, 603, .inl fu)), (qo, .inr (0, [.ref go_, .int (nI (rw_R U (P.take j) ++ [nI t.1 &&& 255]).length)])), (go_, .inl (cB, 603, .inl f4))] H := hP.sub [0, 1, 2, 3, 4, 5, 6, 7, 8] rfl
        have hD : va_D A [(w, .inr (2, [.ref qb, .ref qt, .ref qr, .ref qp, .ref qu, .ref qo])), (qp, .inr (1, [.ref h0, .ref h1, .ref h2, .int (nI P.length)])), (h0, .inl (cI, 133, .inl f0)), (h1, .inl (cI, 133, .inl f1)), (h2, .inl (cI, 133, .inl f2)), (qu, .inr (0, [.ref gu, .int (nI U.length)])), (gu, .inl (cB, 603, .inl fu)), (qo, .inr (0, [.ref go_, .int (nI (rw_R U (P.take j) ++ [nI t.1 &&& 255]).length)])), (go_, .inl (cB, 603, .inl f4))] := hD.sub [0, 1, 2, 3, 4, 5, 6, 7, 8] (by decide) rfl
        refine lv_aload_n hx hb dX2_writeRow_35 rfl (lv_at hl 1 rfl) ?_
        refine va_get (D := (dC, dI)) (ci := 2) (v := .ref qp) (C := RX2) (T := TX2) (N := 6) hx hb hts (by decide +kernel) hown hK hP 0 rfl rfl 3 (by decide) (hts (.fieldLink RX2 25 "PieceWays" "pieces" "LPieceWays$Pieces;") (by decide +kernel)) (fun _ h9 => h9) rfl dX2_writeRow_36 ?_
        refine lv_iload_n hx hb dX2_writeRow_39 rfl (lv_at hl 0 rfl) ?_
        refine rd_V (wc := [(qp, .inr (1, [.ref h0, .ref h1, .ref h2, .int (nI P.length)])), (h0, .inl (cI, 133, .inl f0))]) (As := [.int (nI j)]) (rest := []) ⟨hx, hb, hml, hown, hts⟩ (c_Pc_kind l dC dI cB cI cL qp h0 h1 h2 P f0 f1 f2 (nI j) hln.1 hpc) (cwV 1 hts gX2_writeRow_X1_kind rfl rfl rfl (by decide +kernel) ⟨(Nat.le_of_ble_eq_true rfl), (Nat.le_of_ble_eq_true rfl)⟩) hK hN (sb_P hP [1, 2] rfl) 0 rfl rfl rfl rfl hl.1 rfl (Nat.le_of_ble_eq_true rfl) dX2_writeRow_40 ⟨(Nat.le_of_ble_eq_true rfl), (Nat.le_of_ble_eq_true rfl)⟩ ?_
        rw [ps_in (g := fun t => t.1) ht (by omega)]
        refine lv_iconst (v := 1) hx hb dX2_writeRow_43 (by decide) ?_
        refine lv_icmp_ne (tgt := 80) hx hb dX2_writeRow_44 (by decide) (fun c2 => ?_) (fun c2 => ?_)
        · have k1 : ¬ t.1 = 1 := fun h9 => c2 (by rw [h9]; rfl)
          rw [if_neg k1] at hl2
          have hg2 : t.2.1 + t.2.2 ≤ U.length := by rcases hg with h9 | h9; exact absurd h9.1 k1; exact h9.2.2
          refine lv_aload_n hx hb dX2_writeRow_80 rfl (lv_at hl 1 rfl) ?_
          refine va_get (D := (dC, dI)) (ci := 2) (v := .ref qo) (C := RX2) (T := TX2) (N := 6) hx hb hts (by decide +kernel) hown hK hP 0 rfl rfl 5 (by decide) (hts (.fieldLink RX2 32 "PieceWays" "row" "LPieceWays$Bytes;") (by decide +kernel)) (fun _ h9 => h9) rfl dX2_writeRow_81 ?_
          refine lv_aload_n hx hb dX2_writeRow_84 rfl (lv_at hl 1 rfl) ?_
          refine va_get (D := (dC, dI)) (ci := 2) (v := .ref qp) (C := RX2) (T := TX2) (N := 6) hx hb hts (by decide +kernel) hown hK hP 0 rfl rfl 3 (by decide) (hts (.fieldLink RX2 25 "PieceWays" "pieces" "LPieceWays$Pieces;") (by decide +kernel)) (fun _ h9 => h9) rfl dX2_writeRow_85 ?_
          refine lv_iload_n hx hb dX2_writeRow_88 rfl (lv_at hl 0 rfl) ?_
          refine rd_V (wc := [(qp, .inr (1, [.ref h0, .ref h1, .ref h2, .int (nI P.length)])), (h2, .inl (cI, 133, .inl f2))]) (As := [.int (nI j)]) (rest := [.ref qo]) ⟨hx, hb, hml, hown, hts⟩ (c_Pc_length l dC dI cB cI cL qp h0 h1 h2 P f0 f1 f2 (nI j) hln.1 hpc) (cwV 1 hts gX2_writeRow_X1_length rfl rfl rfl (by decide +kernel) ⟨(Nat.le_of_ble_eq_true rfl), (Nat.le_of_ble_eq_true rfl)⟩) hK hN (sb_P hP [1, 4] rfl) 0 rfl rfl rfl rfl hl.1 rfl (Nat.le_of_ble_eq_true rfl) dX2_writeRow_89 ⟨(Nat.le_of_ble_eq_true rfl), (Nat.le_of_ble_eq_true rfl)⟩ ?_
          rw [ps_in (g := fun t => t.2.2) ht (by omega)]
          refine wr_V (wc := [(qo, .inr (0, [.ref go_, .int (nI (rw_R U (P.take j) ++ [nI t.1 &&& 255]).length)])), (go_, .inl (cB, 603, .inl f4))]) (wr := [(w, .inr (2, [.ref qb, .ref qt, .ref qr, .ref qp, .ref qu, .ref qo])), (qp, .inr (1, [.ref h0, .ref h1, .ref h2, .int (nI P.length)])), (h0, .inl (cI, 133, .inl f0)), (h1, .inl (cI, 133, .inl f1)), (h2, .inl (cI, 133, .inl f2)), (qu, .inr (0, [.ref gu, .int (nI U.length)])), (gu, .inl (cB, 603, .inl fu))]) (As := [.int (nI t.2.2)]) (rest := []) ⟨hx, hb, hml, hown, hts⟩ (c_By_addTwo l dC dI cB cI cL qo go_ (rw_R U (P.take j) ++ [nI t.1 &&& 255]) f4 (nI t.2.2) (by simp only [List.length_append, List.length_cons, List.length_nil]; omega) hf4) (cwV 1 hts gX2_writeRow_X0_addTwo rfl rfl rfl (by decide +kernel) ⟨(Nat.le_of_ble_eq_true rfl), (Nat.le_of_ble_eq_true rfl)⟩) hK hN hP hD hS hA [7, 8] [0, 1, 2, 3, 4, 5, 6] rfl rfl (by decide) (by decide) (by decide) 0 rfl rfl rfl rfl hl.1 rfl (Nat.le_of_ble_eq_true rfl) dX2_writeRow_92 ⟨(Nat.le_of_ble_eq_true rfl), (Nat.le_of_ble_eq_true rfl)⟩ (fun f5 H locs hf5 hP hD hS => ?_)
          have hP : va_P (dC, dI) vwCl [(w, .inr (2, [.ref qb, .ref qt, .ref qr, .ref qp, .ref qu, .ref qo])), (qp, .inr (1, [.ref h0, .ref h1, .ref h2, .int (nI P.length)])), (h0, .inl (cI, 133, .inl f0)), (h1, .inl (cI, 133, .inl f1)), (h2, .inl (cI, 133, .inl f2)), (qu, .inr (0, [.ref gu, .int (nI U.length)])), (gu, .inl (cB, 603, .inl fu)), (qo, .inr (0, [.ref go_, .int (nI ((rw_R U (P.take j) ++ [nI t.1 &&& 255]) ++ [(nI t.2.2 >>> ((8 : Int32) &&& 31)) &&& 255, nI t.2.2 &&& 255]).length)])), (go_, .inl (cB, 603, .inl f5))] H := hP.sub [0, 1, 2, 3, 4, 5, 6, 7, 8] rfl
          have hD : va_D A [(w, .inr (2, [.ref qb, .ref qt, .ref qr, .ref qp, .ref qu, .ref qo])), (qp, .inr (1, [.ref h0, .ref h1, .ref h2, .int (nI P.length)])), (h0, .inl (cI, 133, .inl f0)), (h1, .inl (cI, 133, .inl f1)), (h2, .inl (cI, 133, .inl f2)), (qu, .inr (0, [.ref gu, .int (nI U.length)])), (gu, .inl (cB, 603, .inl fu)), (qo, .inr (0, [.ref go_, .int (nI ((rw_R U (P.take j) ++ [nI t.1 &&& 255]) ++ [(nI t.2.2 >>> ((8 : Int32) &&& 31)) &&& 255, nI t.2.2 &&& 255]).length)])), (go_, .inl (cB, 603, .inl f5))] := hD.sub [0, 1, 2, 3, 4, 5, 6, 7, 8] (by decide) rfl
          refine lv_aload_n hx hb dX2_writeRow_95 rfl (lv_at hl 1 rfl) ?_
          refine va_get (D := (dC, dI)) (ci := 2) (v := .ref qo) (C := RX2) (T := TX2) (N := 6) hx hb hts (by decide +kernel) hown hK hP 0 rfl rfl 5 (by decide) (hts (.fieldLink RX2 32 "PieceWays" "row" "LPieceWays$Bytes;") (by decide +kernel)) (fun _ h9 => h9) rfl dX2_writeRow_96 ?_
          refine lv_aload_n hx hb dX2_writeRow_99 rfl (lv_at hl 1 rfl) ?_
          refine va_get (D := (dC, dI)) (ci := 2) (v := .ref qu) (C := RX2) (T := TX2) (N := 6) hx hb hts (by decide +kernel) hown hK hP 0 rfl rfl 4 (by decide) (hts (.fieldLink RX2 29 "PieceWays" "targetThen" "LPieceWays$Bytes;") (by decide +kernel)) (fun _ h9 => h9) rfl dX2_writeRow_100 ?_
          refine lv_aload_n hx hb dX2_writeRow_103 rfl (lv_at hl 1 rfl) ?_
          refine va_get (D := (dC, dI)) (ci := 2) (v := .ref qp) (C := RX2) (T := TX2) (N := 6) hx hb hts (by decide +kernel) hown hK hP 0 rfl rfl 3 (by decide) (hts (.fieldLink RX2 25 "PieceWays" "pieces" "LPieceWays$Pieces;") (by decide +kernel)) (fun _ h9 => h9) rfl dX2_writeRow_104 ?_
          refine lv_iload_n hx hb dX2_writeRow_107 rfl (lv_at hl 0 rfl) ?_
          refine rd_V (wc := [(qp, .inr (1, [.ref h0, .ref h1, .ref h2, .int (nI P.length)])), (h1, .inl (cI, 133, .inl f1))]) (As := [.int (nI j)]) (rest := [.ref qu, .ref qo]) ⟨hx, hb, hml, hown, hts⟩ (c_Pc_begin l dC dI cB cI cL qp h0 h1 h2 P f0 f1 f2 (nI j) hln.1 hpc) (cwV 1 hts gX2_writeRow_X1_begin rfl rfl rfl (by decide +kernel) ⟨(Nat.le_of_ble_eq_true rfl), (Nat.le_of_ble_eq_true rfl)⟩) hK hN (sb_P hP [1, 3] rfl) 0 rfl rfl rfl rfl hl.1 rfl (Nat.le_of_ble_eq_true rfl) dX2_writeRow_108 ⟨(Nat.le_of_ble_eq_true rfl), (Nat.le_of_ble_eq_true rfl)⟩ ?_
          rw [ps_in (g := fun t => t.2.1) ht (by omega)]
          refine lv_aload_n hx hb dX2_writeRow_111 rfl (lv_at hl 1 rfl) ?_
          refine va_get (D := (dC, dI)) (ci := 2) (v := .ref qp) (C := RX2) (T := TX2) (N := 6) hx hb hts (by decide +kernel) hown hK hP 0 rfl rfl 3 (by decide) (hts (.fieldLink RX2 25 "PieceWays" "pieces" "LPieceWays$Pieces;") (by decide +kernel)) (fun _ h9 => h9) rfl dX2_writeRow_112 ?_
          refine lv_iload_n hx hb dX2_writeRow_115 rfl (lv_at hl 0 rfl) ?_
          refine rd_V (wc := [(qp, .inr (1, [.ref h0, .ref h1, .ref h2, .int (nI P.length)])), (h2, .inl (cI, 133, .inl f2))]) (As := [.int (nI j)]) (rest := [.int (nI t.2.1), .ref qu, .ref qo]) ⟨hx, hb, hml, hown, hts⟩ (c_Pc_length l dC dI cB cI cL qp h0 h1 h2 P f0 f1 f2 (nI j) hln.1 hpc) (cwV 1 hts gX2_writeRow_X1_length rfl rfl rfl (by decide +kernel) ⟨(Nat.le_of_ble_eq_true rfl), (Nat.le_of_ble_eq_true rfl)⟩) hK hN (sb_P hP [1, 4] rfl) 0 rfl rfl rfl rfl hl.1 rfl (Nat.le_of_ble_eq_true rfl) dX2_writeRow_116 ⟨(Nat.le_of_ble_eq_true rfl), (Nat.le_of_ble_eq_true rfl)⟩ ?_
          rw [ps_in (g := fun t => t.2.2) ht (by omega)]
          refine wr_V (wc := [(qo, .inr (0, [.ref go_, .int (nI ((rw_R U (P.take j) ++ [nI t.1 &&& 255]) ++ [(nI t.2.2 >>> ((8 : Int32) &&& 31)) &&& 255, nI t.2.2 &&& 255]).length)])), (go_, .inl (cB, 603, .inl f5)), (qu, .inr (0, [.ref gu, .int (nI U.length)])), (gu, .inl (cB, 603, .inl fu))]) (wr := [(w, .inr (2, [.ref qb, .ref qt, .ref qr, .ref qp, .ref qu, .ref qo])), (qp, .inr (1, [.ref h0, .ref h1, .ref h2, .int (nI P.length)])), (h0, .inl (cI, 133, .inl f0)), (h1, .inl (cI, 133, .inl f1)), (h2, .inl (cI, 133, .inl f2))]) (As := [.ref qu, .int (nI t.2.1), .int (nI t.2.2)]) (rest := []) ⟨hx, hb, hml, hown, hts⟩ (c_By_addFrom l dC dI cB cI cL qo go_ qu gu ((rw_R U (P.take j) ++ [nI t.1 &&& 255]) ++ [(nI t.2.2 >>> ((8 : Int32) &&& 31)) &&& 255, nI t.2.2 &&& 255]) U f5 fu t.2.1 t.2.2 (by simp only [List.length_append, List.length_cons, List.length_nil]; omega) hg2 (by omega) hf5 hfu) (cwV 3 hts gX2_writeRow_X0_addFrom rfl rfl rfl (by decide +kernel) ⟨(Nat.le_of_ble_eq_true rfl), (Nat.le_of_ble_eq_true rfl)⟩) hK hN hP hD hS hA [7, 8, 5, 6] [0, 1, 2, 3, 4] rfl rfl (by decide) (by decide) (by decide) 0 rfl rfl rfl rfl hl.1 rfl (Nat.le_of_ble_eq_true rfl) dX2_writeRow_119 ⟨(Nat.le_of_ble_eq_true rfl), (Nat.le_of_ble_eq_true rfl)⟩ (fun f6 H locs hf6 hP hD hS => ?_)
          have hP : va_P (dC, dI) vwCl [(w, .inr (2, [.ref qb, .ref qt, .ref qr, .ref qp, .ref qu, .ref qo])), (qp, .inr (1, [.ref h0, .ref h1, .ref h2, .int (nI P.length)])), (h0, .inl (cI, 133, .inl f0)), (h1, .inl (cI, 133, .inl f1)), (h2, .inl (cI, 133, .inl f2)), (qu, .inr (0, [.ref gu, .int (nI U.length)])), (gu, .inl (cB, 603, .inl fu)), (qo, .inr (0, [.ref go_, .int (nI (((rw_R U (P.take j) ++ [nI t.1 &&& 255]) ++ [(nI t.2.2 >>> ((8 : Int32) &&& 31)) &&& 255, nI t.2.2 &&& 255]) ++ (U.drop t.2.1).take t.2.2).length)])), (go_, .inl (cB, 603, .inl f6))] H := hP.sub [0, 1, 2, 3, 4, 7, 8, 5, 6] rfl
          have hD : va_D A [(w, .inr (2, [.ref qb, .ref qt, .ref qr, .ref qp, .ref qu, .ref qo])), (qp, .inr (1, [.ref h0, .ref h1, .ref h2, .int (nI P.length)])), (h0, .inl (cI, 133, .inl f0)), (h1, .inl (cI, 133, .inl f1)), (h2, .inl (cI, 133, .inl f2)), (qu, .inr (0, [.ref gu, .int (nI U.length)])), (gu, .inl (cB, 603, .inl fu)), (qo, .inr (0, [.ref go_, .int (nI (((rw_R U (P.take j) ++ [nI t.1 &&& 255]) ++ [(nI t.2.2 >>> ((8 : Int32) &&& 31)) &&& 255, nI t.2.2 &&& 255]) ++ (U.drop t.2.1).take t.2.2).length)])), (go_, .inl (cB, 603, .inl f6))] := hD.sub [0, 1, 2, 3, 4, 7, 8, 5, 6] (by decide) rfl
          have e5 : ((rw_R U (P.take j) ++ [nI t.1 &&& 255]) ++ [(nI t.2.2 >>> ((8 : Int32) &&& 31)) &&& 255, nI t.2.2 &&& 255]) ++ (U.drop t.2.1).take t.2.2 = rw_R U (P.take (j + 1)) := by rw [rw_take ht, rw_1, if_neg k1]; simp [hb_I]
          rw [e5] at hf6 hP hD
          refine lv_iinc (v := ((nI j) + 1)) (lv' := [(1, .int ((nI j) + 1)), (0, .ref w)]) hx hb dX2_writeRow_122 hl (k := 0) rfl rfl (by decide) rfl (fun ls hl => ?_)
          refine lv_goto (tgt := 9) hx hb dX2_writeRow_125 (by decide) ?_
          have h9 : lv_has ls 2 [(1, .int (nI j + 1)), (0, .ref w)] := lv_sub hl [0, 1] rfl
          rw [nI_1] at h9
          exact ih (j + 1) f6 H locs ls (by omega) hf6 hP hD hS h9
        · have k1 : t.1 = 1 := (nI_eq (by omega) (by omega)).mp c2
          rw [if_pos k1] at hl2
          refine lv_aload_n hx hb dX2_writeRow_47 rfl (lv_at hl 1 rfl) ?_
          refine va_get (D := (dC, dI)) (ci := 2) (v := .ref qo) (C := RX2) (T := TX2) (N := 6) hx hb hts (by decide +kernel) hown hK hP 0 rfl rfl 5 (by decide) (hts (.fieldLink RX2 32 "PieceWays" "row" "LPieceWays$Bytes;") (by decide +kernel)) (fun _ h9 => h9) rfl dX2_writeRow_48 ?_
          refine lv_aload_n hx hb dX2_writeRow_51 rfl (lv_at hl 1 rfl) ?_
          refine va_get (D := (dC, dI)) (ci := 2) (v := .ref qp) (C := RX2) (T := TX2) (N := 6) hx hb hts (by decide +kernel) hown hK hP 0 rfl rfl 3 (by decide) (hts (.fieldLink RX2 25 "PieceWays" "pieces" "LPieceWays$Pieces;") (by decide +kernel)) (fun _ h9 => h9) rfl dX2_writeRow_52 ?_
          refine lv_iload_n hx hb dX2_writeRow_55 rfl (lv_at hl 0 rfl) ?_
          refine rd_V (wc := [(qp, .inr (1, [.ref h0, .ref h1, .ref h2, .int (nI P.length)])), (h1, .inl (cI, 133, .inl f1))]) (As := [.int (nI j)]) (rest := [.ref qo]) ⟨hx, hb, hml, hown, hts⟩ (c_Pc_begin l dC dI cB cI cL qp h0 h1 h2 P f0 f1 f2 (nI j) hln.1 hpc) (cwV 1 hts gX2_writeRow_X1_begin rfl rfl rfl (by decide +kernel) ⟨(Nat.le_of_ble_eq_true rfl), (Nat.le_of_ble_eq_true rfl)⟩) hK hN (sb_P hP [1, 3] rfl) 0 rfl rfl rfl rfl hl.1 rfl (Nat.le_of_ble_eq_true rfl) dX2_writeRow_56 ⟨(Nat.le_of_ble_eq_true rfl), (Nat.le_of_ble_eq_true rfl)⟩ ?_
          rw [ps_in (g := fun t => t.2.1) ht (by omega)]
          refine wr_V (wc := [(qo, .inr (0, [.ref go_, .int (nI (rw_R U (P.take j) ++ [nI t.1 &&& 255]).length)])), (go_, .inl (cB, 603, .inl f4))]) (wr := [(w, .inr (2, [.ref qb, .ref qt, .ref qr, .ref qp, .ref qu, .ref qo])), (qp, .inr (1, [.ref h0, .ref h1, .ref h2, .int (nI P.length)])), (h0, .inl (cI, 133, .inl f0)), (h1, .inl (cI, 133, .inl f1)), (h2, .inl (cI, 133, .inl f2)), (qu, .inr (0, [.ref gu, .int (nI U.length)])), (gu, .inl (cB, 603, .inl fu))]) (As := [.int (nI t.2.1)]) (rest := []) ⟨hx, hb, hml, hown, hts⟩ (c_By_addTwo l dC dI cB cI cL qo go_ (rw_R U (P.take j) ++ [nI t.1 &&& 255]) f4 (nI t.2.1) (by simp only [List.length_append, List.length_cons, List.length_nil]; omega) hf4) (cwV 1 hts gX2_writeRow_X0_addTwo rfl rfl rfl (by decide +kernel) ⟨(Nat.le_of_ble_eq_true rfl), (Nat.le_of_ble_eq_true rfl)⟩) hK hN hP hD hS hA [7, 8] [0, 1, 2, 3, 4, 5, 6] rfl rfl (by decide) (by decide) (by decide) 0 rfl rfl rfl rfl hl.1 rfl (Nat.le_of_ble_eq_true rfl) dX2_writeRow_59 ⟨(Nat.le_of_ble_eq_true rfl), (Nat.le_of_ble_eq_true rfl)⟩ (fun f7 H locs hf7 hP hD hS => ?_)
          have hP : va_P (dC, dI) vwCl [(w, .inr (2, [.ref qb, .ref qt, .ref qr, .ref qp, .ref qu, .ref qo])), (qp, .inr (1, [.ref h0, .ref h1, .ref h2, .int (nI P.length)])), (h0, .inl (cI, 133, .inl f0)), (h1, .inl (cI, 133, .inl f1)), (h2, .inl (cI, 133, .inl f2)), (qu, .inr (0, [.ref gu, .int (nI U.length)])), (gu, .inl (cB, 603, .inl fu)), (qo, .inr (0, [.ref go_, .int (nI ((rw_R U (P.take j) ++ [nI t.1 &&& 255]) ++ [(nI t.2.1 >>> ((8 : Int32) &&& 31)) &&& 255, nI t.2.1 &&& 255]).length)])), (go_, .inl (cB, 603, .inl f7))] H := hP.sub [0, 1, 2, 3, 4, 5, 6, 7, 8] rfl
          have hD : va_D A [(w, .inr (2, [.ref qb, .ref qt, .ref qr, .ref qp, .ref qu, .ref qo])), (qp, .inr (1, [.ref h0, .ref h1, .ref h2, .int (nI P.length)])), (h0, .inl (cI, 133, .inl f0)), (h1, .inl (cI, 133, .inl f1)), (h2, .inl (cI, 133, .inl f2)), (qu, .inr (0, [.ref gu, .int (nI U.length)])), (gu, .inl (cB, 603, .inl fu)), (qo, .inr (0, [.ref go_, .int (nI ((rw_R U (P.take j) ++ [nI t.1 &&& 255]) ++ [(nI t.2.1 >>> ((8 : Int32) &&& 31)) &&& 255, nI t.2.1 &&& 255]).length)])), (go_, .inl (cB, 603, .inl f7))] := hD.sub [0, 1, 2, 3, 4, 5, 6, 7, 8] (by decide) rfl
          refine lv_aload_n hx hb dX2_writeRow_62 rfl (lv_at hl 1 rfl) ?_
          refine va_get (D := (dC, dI)) (ci := 2) (v := .ref qo) (C := RX2) (T := TX2) (N := 6) hx hb hts (by decide +kernel) hown hK hP 0 rfl rfl 5 (by decide) (hts (.fieldLink RX2 32 "PieceWays" "row" "LPieceWays$Bytes;") (by decide +kernel)) (fun _ h9 => h9) rfl dX2_writeRow_63 ?_
          refine lv_aload_n hx hb dX2_writeRow_66 rfl (lv_at hl 1 rfl) ?_
          refine va_get (D := (dC, dI)) (ci := 2) (v := .ref qp) (C := RX2) (T := TX2) (N := 6) hx hb hts (by decide +kernel) hown hK hP 0 rfl rfl 3 (by decide) (hts (.fieldLink RX2 25 "PieceWays" "pieces" "LPieceWays$Pieces;") (by decide +kernel)) (fun _ h9 => h9) rfl dX2_writeRow_67 ?_
          refine lv_iload_n hx hb dX2_writeRow_70 rfl (lv_at hl 0 rfl) ?_
          refine rd_V (wc := [(qp, .inr (1, [.ref h0, .ref h1, .ref h2, .int (nI P.length)])), (h2, .inl (cI, 133, .inl f2))]) (As := [.int (nI j)]) (rest := [.ref qo]) ⟨hx, hb, hml, hown, hts⟩ (c_Pc_length l dC dI cB cI cL qp h0 h1 h2 P f0 f1 f2 (nI j) hln.1 hpc) (cwV 1 hts gX2_writeRow_X1_length rfl rfl rfl (by decide +kernel) ⟨(Nat.le_of_ble_eq_true rfl), (Nat.le_of_ble_eq_true rfl)⟩) hK hN (sb_P hP [1, 4] rfl) 0 rfl rfl rfl rfl hl.1 rfl (Nat.le_of_ble_eq_true rfl) dX2_writeRow_71 ⟨(Nat.le_of_ble_eq_true rfl), (Nat.le_of_ble_eq_true rfl)⟩ ?_
          rw [ps_in (g := fun t => t.2.2) ht (by omega)]
          refine wr_V (wc := [(qo, .inr (0, [.ref go_, .int (nI ((rw_R U (P.take j) ++ [nI t.1 &&& 255]) ++ [(nI t.2.1 >>> ((8 : Int32) &&& 31)) &&& 255, nI t.2.1 &&& 255]).length)])), (go_, .inl (cB, 603, .inl f7))]) (wr := [(w, .inr (2, [.ref qb, .ref qt, .ref qr, .ref qp, .ref qu, .ref qo])), (qp, .inr (1, [.ref h0, .ref h1, .ref h2, .int (nI P.length)])), (h0, .inl (cI, 133, .inl f0)), (h1, .inl (cI, 133, .inl f1)), (h2, .inl (cI, 133, .inl f2)), (qu, .inr (0, [.ref gu, .int (nI U.length)])), (gu, .inl (cB, 603, .inl fu))]) (As := [.int (nI t.2.2)]) (rest := []) ⟨hx, hb, hml, hown, hts⟩ (c_By_addTwo l dC dI cB cI cL qo go_ ((rw_R U (P.take j) ++ [nI t.1 &&& 255]) ++ [(nI t.2.1 >>> ((8 : Int32) &&& 31)) &&& 255, nI t.2.1 &&& 255]) f7 (nI t.2.2) (by simp only [List.length_append, List.length_cons, List.length_nil]; omega) hf7) (cwV 1 hts gX2_writeRow_X0_addTwo rfl rfl rfl (by decide +kernel) ⟨(Nat.le_of_ble_eq_true rfl), (Nat.le_of_ble_eq_true rfl)⟩) hK hN hP hD hS hA [7, 8] [0, 1, 2, 3, 4, 5, 6] rfl rfl (by decide) (by decide) (by decide) 0 rfl rfl rfl rfl hl.1 rfl (Nat.le_of_ble_eq_true rfl) dX2_writeRow_74 ⟨(Nat.le_of_ble_eq_true rfl), (Nat.le_of_ble_eq_true rfl)⟩ (fun f8 H locs hf8 hP hD hS => ?_)
          have hP : va_P (dC, dI) vwCl [(w, .inr (2, [.ref qb, .ref qt, .ref qr, .ref qp, .ref qu, .ref qo])), (qp, .inr (1, [.ref h0, .ref h1, .ref h2, .int (nI P.length)])), (h0, .inl (cI, 133, .inl f0)), (h1, .inl (cI, 133, .inl f1)), (h2, .inl (cI, 133, .inl f2)), (qu, .inr (0, [.ref gu, .int (nI U.length)])), (gu, .inl (cB, 603, .inl fu)), (qo, .inr (0, [.ref go_, .int (nI (((rw_R U (P.take j) ++ [nI t.1 &&& 255]) ++ [(nI t.2.1 >>> ((8 : Int32) &&& 31)) &&& 255, nI t.2.1 &&& 255]) ++ [(nI t.2.2 >>> ((8 : Int32) &&& 31)) &&& 255, nI t.2.2 &&& 255]).length)])), (go_, .inl (cB, 603, .inl f8))] H := hP.sub [0, 1, 2, 3, 4, 5, 6, 7, 8] rfl
          have hD : va_D A [(w, .inr (2, [.ref qb, .ref qt, .ref qr, .ref qp, .ref qu, .ref qo])), (qp, .inr (1, [.ref h0, .ref h1, .ref h2, .int (nI P.length)])), (h0, .inl (cI, 133, .inl f0)), (h1, .inl (cI, 133, .inl f1)), (h2, .inl (cI, 133, .inl f2)), (qu, .inr (0, [.ref gu, .int (nI U.length)])), (gu, .inl (cB, 603, .inl fu)), (qo, .inr (0, [.ref go_, .int (nI (((rw_R U (P.take j) ++ [nI t.1 &&& 255]) ++ [(nI t.2.1 >>> ((8 : Int32) &&& 31)) &&& 255, nI t.2.1 &&& 255]) ++ [(nI t.2.2 >>> ((8 : Int32) &&& 31)) &&& 255, nI t.2.2 &&& 255]).length)])), (go_, .inl (cB, 603, .inl f8))] := hD.sub [0, 1, 2, 3, 4, 5, 6, 7, 8] (by decide) rfl
          have e5 : ((rw_R U (P.take j) ++ [nI t.1 &&& 255]) ++ [(nI t.2.1 >>> ((8 : Int32) &&& 31)) &&& 255, nI t.2.1 &&& 255]) ++ [(nI t.2.2 >>> ((8 : Int32) &&& 31)) &&& 255, nI t.2.2 &&& 255] = rw_R U (P.take (j + 1)) := by rw [rw_take ht, rw_1, if_pos k1]; simp [hb_I]
          rw [e5] at hf8 hP hD
          refine lv_goto (tgt := 122) hx hb dX2_writeRow_77 (by decide) ?_
          refine lv_iinc (v := ((nI j) + 1)) (lv' := [(1, .int ((nI j) + 1)), (0, .ref w)]) hx hb dX2_writeRow_122 hl (k := 0) rfl rfl (by decide) rfl (fun ls hl => ?_)
          refine lv_goto (tgt := 9) hx hb dX2_writeRow_125 (by decide) ?_
          have h9 : lv_has ls 2 [(1, .int (nI j + 1)), (0, .ref w)] := lv_sub hl [0, 1] rfl
          rw [nI_1] at h9
          exact ih (j + 1) f8 H locs ls (by omega) hf8 hP hD hS h9
  refine lv_aload_n hx hb dX2_writeRow_0 rfl (lv_at hl 0 rfl) ?_
  refine va_get (D := (dC, dI)) (ci := 2) (v := .ref qo) (C := RX2) (T := TX2) (N := 6) hx hb hts (by decide +kernel) hown hK hP 0 rfl rfl 5 (by decide) (hts (.fieldLink RX2 32 "PieceWays" "row" "LPieceWays$Bytes;") (by decide +kernel)) (fun _ h9 => h9) rfl dX2_writeRow_1 ?_
  refine wr_V (wc := [(qo, .inr (0, [.ref go_, .int (nI O.length)]))]) (wr := [(w, .inr (2, [.ref qb, .ref qt, .ref qr, .ref qp, .ref qu, .ref qo])), (qp, .inr (1, [.ref h0, .ref h1, .ref h2, .int (nI P.length)])), (h0, .inl (cI, 133, .inl f0)), (h1, .inl (cI, 133, .inl f1)), (h2, .inl (cI, 133, .inl f2)), (qu, .inr (0, [.ref gu, .int (nI U.length)])), (gu, .inl (cB, 603, .inl fu)), (go_, .inl (cB, 603, .inl fo))]) (As := []) (rest := []) ⟨hx, hb, hml, hown, hts⟩ (c_By_empty l dC dI cB cI cL qo go_ (nI O.length)) (cwV 0 hts gX2_writeRow_X0_empty rfl rfl rfl (by decide +kernel) ⟨(Nat.le_of_ble_eq_true rfl), (Nat.le_of_ble_eq_true rfl)⟩) hK hN hP hD hS hA [7] [0, 1, 2, 3, 4, 5, 6, 8] rfl rfl (by decide) (by decide) (by decide) 0 rfl rfl rfl rfl hl.1 rfl (Nat.le_of_ble_eq_true rfl) dX2_writeRow_4 ⟨(Nat.le_of_ble_eq_true rfl), (Nat.le_of_ble_eq_true rfl)⟩ (fun _u H locs _hu hP hD hS => ?_)
  have hP : va_P (dC, dI) vwCl [(w, .inr (2, [.ref qb, .ref qt, .ref qr, .ref qp, .ref qu, .ref qo])), (qp, .inr (1, [.ref h0, .ref h1, .ref h2, .int (nI P.length)])), (h0, .inl (cI, 133, .inl f0)), (h1, .inl (cI, 133, .inl f1)), (h2, .inl (cI, 133, .inl f2)), (qu, .inr (0, [.ref gu, .int (nI U.length)])), (gu, .inl (cB, 603, .inl fu)), (qo, .inr (0, [.ref go_, .int (nI (rw_R U (P.take 0)).length)])), (go_, .inl (cB, 603, .inl fo))] H := hP.sub [0, 1, 2, 3, 4, 5, 6, 8, 7] rfl
  have hD : va_D A [(w, .inr (2, [.ref qb, .ref qt, .ref qr, .ref qp, .ref qu, .ref qo])), (qp, .inr (1, [.ref h0, .ref h1, .ref h2, .int (nI P.length)])), (h0, .inl (cI, 133, .inl f0)), (h1, .inl (cI, 133, .inl f1)), (h2, .inl (cI, 133, .inl f2)), (qu, .inr (0, [.ref gu, .int (nI U.length)])), (gu, .inl (cB, 603, .inl fu)), (qo, .inr (0, [.ref go_, .int (nI (rw_R U (P.take 0)).length)])), (go_, .inl (cB, 603, .inl fo))] := hD.sub [0, 1, 2, 3, 4, 5, 6, 8, 7] (by decide) rfl
  refine lv_iconst (v := 0) hx hb dX2_writeRow_7 (by decide) ?_
  refine lv_istore_n (lv' := [(1, .int 0), (0, .ref w)]) hx hb dX2_writeRow_8 rfl hl (by decide) rfl (fun ls hl => ?_)
  exact loop P.length 0 fo H locs ls (by omega) (by_nil _) hP hD hS hl
end PWROW
end
section
section PWMAKE
variable (l : Launch) (dC : Nat → ClassId) (dI : Nat → Nat → Nat) (cB cI cL : ClassId)

set_option maxHeartbeats 4000000 in
set_option maxRecDepth 100000 in
/-- make() -/
theorem c_Pw_make (w qb gb qt gt qr gr qp h0 h1 h2 qu gu qo go_ : Nat) (B T U O : List Int32) (P : List (Nat × Nat × Nat)) (fb ft fu fo f0 f1 f2 : Nat → Int32) (hB : B.length ≤ 600) (hT : T.length ≤ 600) (hfb : by_k fb B) (hft : by_k ft T) : wi_M l yX2_make wsX2_make ({ frames := 4, cells := 0, slots := 0, locals := 93 } : Room) (dC, dI) vwCl (tk_s cB cI cL) [.ref w] [(w, .inr (2, [.ref qb, .ref qt, .ref qr, .ref qp, .ref qu, .ref qo])), (qb, .inr (0, [.ref gb, .int (nI B.length)])), (gb, .inl (cB, 603, .inl fb)), (qt, .inr (0, [.ref gt, .int (nI T.length)])), (gt, .inl (cB, 603, .inl ft)), (qp, .inr (1, [.ref h0, .ref h1, .ref h2, .int (nI P.length)])), (h0, .inl (cI, 133, .inl f0)), (h1, .inl (cI, 133, .inl f1)), (h2, .inl (cI, 133, .inl f2)), (qu, .inr (0, [.ref gu, .int (nI U.length)])), (gu, .inl (cB, 603, .inl fu)), (qo, .inr (0, [.ref go_, .int (nI O.length)])), (go_, .inl (cB, 603, .inl fo))] 0 0 (fun (r : Int32) (z : (Nat → Int32) × (Nat → Int32) × (Nat → Int32) × (Nat → Int32) × (Nat → Int32)) => r = nI (wy_P B T).length ∧ by_k z.1 T ∧ by_k z.2.1 (rw_R T (wy_P B T)) ∧ pc_k z.2.2.1 z.2.2.2.1 z.2.2.2.2 (wy_P B T)) (fun z : (Nat → Int32) × (Nat → Int32) × (Nat → Int32) × (Nat → Int32) × (Nat → Int32) => [(w, .inr (2, [.ref qb, .ref qt, .ref qr, .ref qp, .ref qu, .ref qo])), (qb, .inr (0, [.ref gb, .int (nI B.length)])), (gb, .inl (cB, 603, .inl fb)), (qt, .inr (0, [.ref gt, .int (nI T.length)])), (gt, .inl (cB, 603, .inl ft)), (qp, .inr (1, [.ref h0, .ref h1, .ref h2, .int (nI (wy_P B T).length)])), (h0, .inl (cI, 133, .inl (z.2.2.1))), (h1, .inl (cI, 133, .inl (z.2.2.2.1))), (h2, .inl (cI, 133, .inl (z.2.2.2.2))), (qu, .inr (0, [.ref gu, .int (nI T.length)])), (gu, .inl (cB, 603, .inl (z.1))), (qo, .inr (0, [.ref go_, .int (nI (rw_R T (wy_P B T)).length)])), (go_, .inl (cB, 603, .inl (z.2.1)))]) := by
  refine wi_ofW (cc := cX2_make) (maxL := 1) (ret := (some .int)) (by decide) rfl (Nat.le_of_ble_eq_true rfl) ?_
  intro p e s m below meth c ls A hx hb hr hml hts hown hlk hnm hP hK hN hD hA hS hl
  have hl : lv_has ls 1 [(0, .ref w)] := hl
  have hpk : pk_W B.length T.length (wy_P B T) := ⟨hB, hT, wy_I B T⟩
  refine lv_aload_n hx hb dX2_make_0 rfl (lv_at hl 0 rfl) ?_
  refine va_get (D := (dC, dI)) (ci := 2) (v := .ref qu) (C := RX2) (T := TX2) (N := 6) hx hb hts (by decide +kernel) hown hK hP 0 rfl rfl 4 (by decide) (hts (.fieldLink RX2 29 "PieceWays" "targetThen" "LPieceWays$Bytes;") (by decide +kernel)) (fun _ h9 => h9) rfl dX2_make_1 ?_
  refine wr_V (wc := [(qu, .inr (0, [.ref gu, .int (nI U.length)]))]) (wr := [(w, .inr (2, [.ref qb, .ref qt, .ref qr, .ref qp, .ref qu, .ref qo])), (qb, .inr (0, [.ref gb, .int (nI B.length)])), (gb, .inl (cB, 603, .inl fb)), (qt, .inr (0, [.ref gt, .int (nI T.length)])), (gt, .inl (cB, 603, .inl ft)), (qp, .inr (1, [.ref h0, .ref h1, .ref h2, .int (nI P.length)])), (h0, .inl (cI, 133, .inl f0)), (h1, .inl (cI, 133, .inl f1)), (h2, .inl (cI, 133, .inl f2)), (gu, .inl (cB, 603, .inl fu)), (qo, .inr (0, [.ref go_, .int (nI O.length)])), (go_, .inl (cB, 603, .inl fo))]) (As := []) (rest := []) ⟨hx, hb, hml, hown, hts⟩ (c_By_empty l dC dI cB cI cL qu gu (nI U.length)) (cwV 0 hts gX2_make_X0_empty rfl rfl rfl (by decide +kernel) ⟨(Nat.le_of_ble_eq_true rfl), (Nat.le_of_ble_eq_true rfl)⟩) hK hN hP hD hS hA [9] [0, 1, 2, 3, 4, 5, 6, 7, 8, 10, 11, 12] rfl rfl (by decide) (by decide) (by decide) 0 rfl rfl rfl rfl hl.1 rfl (Nat.le_of_ble_eq_true rfl) dX2_make_4 ⟨(Nat.le_of_ble_eq_true rfl), (Nat.le_of_ble_eq_true rfl)⟩ (fun _u H locs _hu hP hD hS => ?_)
  have hP : va_P (dC, dI) vwCl [(w, .inr (2, [.ref qb, .ref qt, .ref qr, .ref qp, .ref qu, .ref qo])), (qb, .inr (0, [.ref gb, .int (nI B.length)])), (gb, .inl (cB, 603, .inl fb)), (qt, .inr (0, [.ref gt, .int (nI T.length)])), (gt, .inl (cB, 603, .inl ft)), (qp, .inr (1, [.ref h0, .ref h1, .ref h2, .int (nI P.length)])), (h0, .inl (cI, 133, .inl f0)), (h1, .inl (cI, 133, .inl f1)), (h2, .inl (cI, 133, .inl f2)), (qu, .inr (0, [.ref gu, .int (nI ([] : List Int32).length)])), (gu, .inl (cB, 603, .inl fu)), (qo, .inr (0, [.ref go_, .int (nI O.length)])), (go_, .inl (cB, 603, .inl fo))] H := hP.sub [0, 1, 2, 3, 4, 5, 6, 7, 8, 12, 9, 10, 11] rfl
  have hD : va_D A [(w, .inr (2, [.ref qb, .ref qt, .ref qr, .ref qp, .ref qu, .ref qo])), (qb, .inr (0, [.ref gb, .int (nI B.length)])), (gb, .inl (cB, 603, .inl fb)), (qt, .inr (0, [.ref gt, .int (nI T.length)])), (gt, .inl (cB, 603, .inl ft)), (qp, .inr (1, [.ref h0, .ref h1, .ref h2, .int (nI P.length)])), (h0, .inl (cI, 133, .inl f0)), (h1, .inl (cI, 133, .inl f1)), (h2, .inl (cI, 133, .inl f2)), (qu, .inr (0, [.ref gu, .int (nI ([] : List Int32).length)])), (gu, .inl (cB, 603, .inl fu)), (qo, .inr (0, [.ref go_, .int (nI O.length)])), (go_, .inl (cB, 603, .inl fo))] := hD.sub [0, 1, 2, 3, 4, 5, 6, 7, 8, 12, 9, 10, 11] (by decide) rfl
  refine lv_aload_n hx hb dX2_make_7 rfl (lv_at hl 0 rfl) ?_
  refine va_get (D := (dC, dI)) (ci := 2) (v := .ref qu) (C := RX2) (T := TX2) (N := 6) hx hb hts (by decide +kernel) hown hK hP 0 rfl rfl 4 (by decide) (hts (.fieldLink RX2 29 "PieceWays" "targetThen" "LPieceWays$Bytes;") (by decide +kernel)) (fun _ h9 => h9) rfl dX2_make_8 ?_
  refine lv_aload_n hx hb dX2_make_11 rfl (lv_at hl 0 rfl) ?_
  refine va_get (D := (dC, dI)) (ci := 2) (v := .ref qt) (C := RX2) (T := TX2) (N := 6) hx hb hts (by decide +kernel) hown hK hP 0 rfl rfl 1 (by decide) (hts (.fieldLink RX2 16 "PieceWays" "target" "LPieceWays$Bytes;") (by decide +kernel)) (fun _ h9 => h9) rfl dX2_make_12 ?_
  refine lv_iconst (v := 0) hx hb dX2_make_15 (by decide) ?_
  refine lv_aload_n hx hb dX2_make_16 rfl (lv_at hl 0 rfl) ?_
  refine va_get (D := (dC, dI)) (ci := 2) (v := .ref qt) (C := RX2) (T := TX2) (N := 6) hx hb hts (by decide +kernel) hown hK hP 0 rfl rfl 1 (by decide) (hts (.fieldLink RX2 16 "PieceWays" "target" "LPieceWays$Bytes;") (by decide +kernel)) (fun _ h9 => h9) rfl dX2_make_17 ?_
  refine rd_V (wc := [(qt, .inr (0, [.ref gt, .int (nI T.length)]))]) (As := []) (rest := [.int 0, .ref qt, .ref qu]) ⟨hx, hb, hml, hown, hts⟩ (c_By_length l dC dI cB cI cL qt gt (nI T.length)) (cwV 0 hts gX2_make_X0_length rfl rfl rfl (by decide +kernel) ⟨(Nat.le_of_ble_eq_true rfl), (Nat.le_of_ble_eq_true rfl)⟩) hK hN (sb_P hP [3] rfl) 0 rfl rfl rfl rfl hl.1 rfl (Nat.le_of_ble_eq_true rfl) dX2_make_20 ⟨(Nat.le_of_ble_eq_true rfl), (Nat.le_of_ble_eq_true rfl)⟩ ?_
  refine wr_V (wc := [(qu, .inr (0, [.ref gu, .int (nI ([] : List Int32).length)])), (gu, .inl (cB, 603, .inl fu)), (qt, .inr (0, [.ref gt, .int (nI T.length)])), (gt, .inl (cB, 603, .inl ft))]) (wr := [(w, .inr (2, [.ref qb, .ref qt, .ref qr, .ref qp, .ref qu, .ref qo])), (qb, .inr (0, [.ref gb, .int (nI B.length)])), (gb, .inl (cB, 603, .inl fb)), (qp, .inr (1, [.ref h0, .ref h1, .ref h2, .int (nI P.length)])), (h0, .inl (cI, 133, .inl f0)), (h1, .inl (cI, 133, .inl f1)), (h2, .inl (cI, 133, .inl f2)), (qo, .inr (0, [.ref go_, .int (nI O.length)])), (go_, .inl (cB, 603, .inl fo))]) (As := [.ref qt, .int (nI 0), .int (nI T.length)]) (rest := []) ⟨hx, hb, hml, hown, hts⟩ (c_By_addFrom l dC dI cB cI cL qu gu qt gt [] T fu ft 0 T.length (by show 0 + T.length ≤ 603; omega) (by omega) (by omega) (by_nil _) hft) (cwV 3 hts gX2_make_X0_addFrom rfl rfl rfl (by decide +kernel) ⟨(Nat.le_of_ble_eq_true rfl), (Nat.le_of_ble_eq_true rfl)⟩) hK hN hP hD hS hA [9, 10, 3, 4] [0, 1, 2, 5, 6, 7, 8, 11, 12] rfl rfl (by decide) (by decide) (by decide) 0 rfl rfl rfl rfl hl.1 rfl (Nat.le_of_ble_eq_true rfl) dX2_make_23 ⟨(Nat.le_of_ble_eq_true rfl), (Nat.le_of_ble_eq_true rfl)⟩ (fun z1 H locs hz1 hP hD hS => ?_)
  have hP : va_P (dC, dI) vwCl [(w, .inr (2, [.ref qb, .ref qt, .ref qr, .ref qp, .ref qu, .ref qo])), (qb, .inr (0, [.ref gb, .int (nI B.length)])), (gb, .inl (cB, 603, .inl fb)), (qt, .inr (0, [.ref gt, .int (nI T.length)])), (gt, .inl (cB, 603, .inl ft)), (qp, .inr (1, [.ref h0, .ref h1, .ref h2, .int (nI P.length)])), (h0, .inl (cI, 133, .inl f0)), (h1, .inl (cI, 133, .inl f1)), (h2, .inl (cI, 133, .inl f2)), (qu, .inr (0, [.ref gu, .int (nI (([] : List Int32) ++ (T.drop 0).take T.length).length)])), (gu, .inl (cB, 603, .inl z1)), (qo, .inr (0, [.ref go_, .int (nI O.length)])), (go_, .inl (cB, 603, .inl fo))] H := hP.sub [0, 1, 2, 11, 12, 3, 4, 5, 6, 9, 10, 7, 8] rfl
  have hD : va_D A [(w, .inr (2, [.ref qb, .ref qt, .ref qr, .ref qp, .ref qu, .ref qo])), (qb, .inr (0, [.ref gb, .int (nI B.length)])), (gb, .inl (cB, 603, .inl fb)), (qt, .inr (0, [.ref gt, .int (nI T.length)])), (gt, .inl (cB, 603, .inl ft)), (qp, .inr (1, [.ref h0, .ref h1, .ref h2, .int (nI P.length)])), (h0, .inl (cI, 133, .inl f0)), (h1, .inl (cI, 133, .inl f1)), (h2, .inl (cI, 133, .inl f2)), (qu, .inr (0, [.ref gu, .int (nI (([] : List Int32) ++ (T.drop 0).take T.length).length)])), (gu, .inl (cB, 603, .inl z1)), (qo, .inr (0, [.ref go_, .int (nI O.length)])), (go_, .inl (cB, 603, .inl fo))] := hD.sub [0, 1, 2, 11, 12, 3, 4, 5, 6, 9, 10, 7, 8] (by decide) rfl
  have e1 : ([] : List Int32) ++ (T.drop 0).take T.length = T := by rw [List.nil_append, List.drop_zero, List.take_length]
  rw [e1] at hz1 hP hD
  refine lv_aload_n hx hb dX2_make_26 rfl (lv_at hl 0 rfl) ?_
  refine wr_V (wc := [(w, .inr (2, [.ref qb, .ref qt, .ref qr, .ref qp, .ref qu, .ref qo])), (qb, .inr (0, [.ref gb, .int (nI B.length)])), (gb, .inl (cB, 603, .inl fb)), (qt, .inr (0, [.ref gt, .int (nI T.length)])), (gt, .inl (cB, 603, .inl ft)), (qp, .inr (1, [.ref h0, .ref h1, .ref h2, .int (nI P.length)])), (h0, .inl (cI, 133, .inl f0)), (h1, .inl (cI, 133, .inl f1)), (h2, .inl (cI, 133, .inl f2))]) (wr := [(qu, .inr (0, [.ref gu, .int (nI T.length)])), (gu, .inl (cB, 603, .inl z1)), (qo, .inr (0, [.ref go_, .int (nI O.length)])), (go_, .inl (cB, 603, .inl fo))]) (As := []) (rest := []) ⟨hx, hb, hml, hown, hts⟩ (c_Pw_findPieces l dC dI cB cI cL w qb gb qt gt qr gr qp h0 h1 h2 qu gu qo go_ B T fb ft P f0 f1 f2 hB hT hfb hft) (cwV 0 hts gX2_make_X2_findPieces rfl rfl rfl (by decide +kernel) ⟨(Nat.le_of_ble_eq_true rfl), (Nat.le_of_ble_eq_true rfl)⟩) hK hN hP hD hS hA [0, 1, 2, 3, 4, 5, 6, 7, 8] [9, 10, 11, 12] rfl rfl (by decide) (by decide) (by decide) 0 rfl rfl rfl rfl hl.1 rfl (Nat.le_of_ble_eq_true rfl) dX2_make_27 ⟨(Nat.le_of_ble_eq_true rfl), (Nat.le_of_ble_eq_true rfl)⟩ (fun z2 H locs hz2 hP hD hS => ?_)
  have hP : va_P (dC, dI) vwCl [(w, .inr (2, [.ref qb, .ref qt, .ref qr, .ref qp, .ref qu, .ref qo])), (qb, .inr (0, [.ref gb, .int (nI B.length)])), (gb, .inl (cB, 603, .inl fb)), (qt, .inr (0, [.ref gt, .int (nI T.length)])), (gt, .inl (cB, 603, .inl ft)), (qp, .inr (1, [.ref h0, .ref h1, .ref h2, .int (nI (wy_P B T).length)])), (h0, .inl (cI, 133, .inl (z2.1))), (h1, .inl (cI, 133, .inl (z2.2.1))), (h2, .inl (cI, 133, .inl (z2.2.2))), (qu, .inr (0, [.ref gu, .int (nI T.length)])), (gu, .inl (cB, 603, .inl z1)), (qo, .inr (0, [.ref go_, .int (nI O.length)])), (go_, .inl (cB, 603, .inl fo))] H := hP.sub [4, 5, 6, 7, 8, 9, 10, 11, 12, 0, 1, 2, 3] rfl
  have hD : va_D A [(w, .inr (2, [.ref qb, .ref qt, .ref qr, .ref qp, .ref qu, .ref qo])), (qb, .inr (0, [.ref gb, .int (nI B.length)])), (gb, .inl (cB, 603, .inl fb)), (qt, .inr (0, [.ref gt, .int (nI T.length)])), (gt, .inl (cB, 603, .inl ft)), (qp, .inr (1, [.ref h0, .ref h1, .ref h2, .int (nI (wy_P B T).length)])), (h0, .inl (cI, 133, .inl (z2.1))), (h1, .inl (cI, 133, .inl (z2.2.1))), (h2, .inl (cI, 133, .inl (z2.2.2))), (qu, .inr (0, [.ref gu, .int (nI T.length)])), (gu, .inl (cB, 603, .inl z1)), (qo, .inr (0, [.ref go_, .int (nI O.length)])), (go_, .inl (cB, 603, .inl fo))] := hD.sub [4, 5, 6, 7, 8, 9, 10, 11, 12, 0, 1, 2, 3] (by decide) rfl
  refine lv_aload_n hx hb dX2_make_30 rfl (lv_at hl 0 rfl) ?_
  refine wr_V (wc := [(w, .inr (2, [.ref qb, .ref qt, .ref qr, .ref qp, .ref qu, .ref qo])), (qp, .inr (1, [.ref h0, .ref h1, .ref h2, .int (nI (wy_P B T).length)])), (h0, .inl (cI, 133, .inl (z2.1))), (h1, .inl (cI, 133, .inl (z2.2.1))), (h2, .inl (cI, 133, .inl (z2.2.2))), (qu, .inr (0, [.ref gu, .int (nI T.length)])), (gu, .inl (cB, 603, .inl z1)), (qo, .inr (0, [.ref go_, .int (nI O.length)])), (go_, .inl (cB, 603, .inl fo))]) (wr := [(qb, .inr (0, [.ref gb, .int (nI B.length)])), (gb, .inl (cB, 603, .inl fb)), (qt, .inr (0, [.ref gt, .int (nI T.length)])), (gt, .inl (cB, 603, .inl ft))]) (As := []) (rest := []) ⟨hx, hb, hml, hown, hts⟩ (c_Pw_writeRow l dC dI cB cI cL w qb gb qt gt qr gr qp h0 h1 h2 qu gu qo go_ (wy_P B T) z2.1 z2.2.1 z2.2.2 T O z1 fo B.length hpk hz2 hz1) (cwV 0 hts gX2_make_X2_writeRow rfl rfl rfl (by decide +kernel) ⟨(Nat.le_of_ble_eq_true rfl), (Nat.le_of_ble_eq_true rfl)⟩) hK hN hP hD hS hA [0, 5, 6, 7, 8, 9, 10, 11, 12] [1, 2, 3, 4] rfl rfl (by decide) (by decide) (by decide) 0 rfl rfl rfl rfl hl.1 rfl (Nat.le_of_ble_eq_true rfl) dX2_make_31 ⟨(Nat.le_of_ble_eq_true rfl), (Nat.le_of_ble_eq_true rfl)⟩ (fun z3 H locs hz3 hP hD hS => ?_)
  have hP : va_P (dC, dI) vwCl [(w, .inr (2, [.ref qb, .ref qt, .ref qr, .ref qp, .ref qu, .ref qo])), (qb, .inr (0, [.ref gb, .int (nI B.length)])), (gb, .inl (cB, 603, .inl fb)), (qt, .inr (0, [.ref gt, .int (nI T.length)])), (gt, .inl (cB, 603, .inl ft)), (qp, .inr (1, [.ref h0, .ref h1, .ref h2, .int (nI (wy_P B T).length)])), (h0, .inl (cI, 133, .inl (z2.1))), (h1, .inl (cI, 133, .inl (z2.2.1))), (h2, .inl (cI, 133, .inl (z2.2.2))), (qu, .inr (0, [.ref gu, .int (nI T.length)])), (gu, .inl (cB, 603, .inl z1)), (qo, .inr (0, [.ref go_, .int (nI (rw_R T (wy_P B T)).length)])), (go_, .inl (cB, 603, .inl z3))] H := hP.sub [4, 0, 1, 2, 3, 5, 6, 7, 8, 9, 10, 11, 12] rfl
  have hD : va_D A [(w, .inr (2, [.ref qb, .ref qt, .ref qr, .ref qp, .ref qu, .ref qo])), (qb, .inr (0, [.ref gb, .int (nI B.length)])), (gb, .inl (cB, 603, .inl fb)), (qt, .inr (0, [.ref gt, .int (nI T.length)])), (gt, .inl (cB, 603, .inl ft)), (qp, .inr (1, [.ref h0, .ref h1, .ref h2, .int (nI (wy_P B T).length)])), (h0, .inl (cI, 133, .inl (z2.1))), (h1, .inl (cI, 133, .inl (z2.2.1))), (h2, .inl (cI, 133, .inl (z2.2.2))), (qu, .inr (0, [.ref gu, .int (nI T.length)])), (gu, .inl (cB, 603, .inl z1)), (qo, .inr (0, [.ref go_, .int (nI (rw_R T (wy_P B T)).length)])), (go_, .inl (cB, 603, .inl z3))] := hD.sub [4, 0, 1, 2, 3, 5, 6, 7, 8, 9, 10, 11, 12] (by decide) rfl
  refine lv_aload_n hx hb dX2_make_34 rfl (lv_at hl 0 rfl) ?_
  refine va_get (D := (dC, dI)) (ci := 2) (v := .ref qp) (C := RX2) (T := TX2) (N := 6) hx hb hts (by decide +kernel) hown hK hP 0 rfl rfl 3 (by decide) (hts (.fieldLink RX2 25 "PieceWays" "pieces" "LPieceWays$Pieces;") (by decide +kernel)) (fun _ h9 => h9) rfl dX2_make_35 ?_
  refine rd_V (wc := [(qp, .inr (1, [.ref h0, .ref h1, .ref h2, .int (nI (wy_P B T).length)]))]) (As := []) (rest := []) ⟨hx, hb, hml, hown, hts⟩ (c_Pc_number l dC dI cB cI cL qp h0 h1 h2 (nI (wy_P B T).length)) (cwV 0 hts gX2_make_X1_number rfl rfl rfl (by decide +kernel) ⟨(Nat.le_of_ble_eq_true rfl), (Nat.le_of_ble_eq_true rfl)⟩) hK hN (sb_P hP [5] rfl) 0 rfl rfl rfl rfl hl.1 rfl (Nat.le_of_ble_eq_true rfl) dX2_make_38 ⟨(Nat.le_of_ble_eq_true rfl), (Nat.le_of_ble_eq_true rfl)⟩ ?_
  exact wi_iret hx hb hr hlk (z1, z3, z2.1, z2.2.1, z2.2.2) ⟨rfl, hz1, hz3, hz2⟩ hP hD hS dX2_make_41
end PWMAKE
end
section
section PWPUT
variable (l : Launch) (dC : Nat → ClassId) (dI : Nat → Nat → Nat) (cB cI cL : ClassId)

set_option maxHeartbeats 4000000 in
set_option maxRecDepth 100000 in
/-- put(tg, v, n) -/
theorem c_Pw_put (w qb gb qt gt qr gr qp h0 h1 h2 qu gu qo go_ : Nat) (B T : List Int32) (fb ft : Nat → Int32) (tg : Int32) (v : Int64) (n : Int32) (hB : B.length ≤ 600) (hT : T.length ≤ 600) (hfb : by_k fb B) (hft : by_k ft T) : wi_M l yX2_put wsX2_put ({ frames := 1, cells := 0, slots := 0, locals := 21 } : Room) (dC, dI) vwCl (tk_s cB cI cL) [.ref w, .int tg, .long v, .int n] [(w, .inr (2, [.ref qb, .ref qt, .ref qr, .ref qp, .ref qu, .ref qo])), (qb, .inr (0, [.ref gb, .int (nI B.length)])), (gb, .inl (cB, 603, .inl fb)), (qt, .inr (0, [.ref gt, .int (nI T.length)])), (gt, .inl (cB, 603, .inl ft))] 0 0 (fun (r : Int32) (z : (Nat → Int32) × (Nat → Int32)) => r = pu_r (if tg = 0 then B else T) n ∧ by_k z.1 (if tg = 0 then pu_L B v n (pu_r B n) else B) ∧ by_k z.2 (if tg = 0 then T else pu_L T v n (pu_r T n))) (fun z : (Nat → Int32) × (Nat → Int32) => [(w, .inr (2, [.ref qb, .ref qt, .ref qr, .ref qp, .ref qu, .ref qo])), (qb, .inr (0, [.ref gb, .int (nI (if tg = 0 then pu_L B v n (pu_r B n) else B).length)])), (gb, .inl (cB, 603, .inl (z.1))), (qt, .inr (0, [.ref gt, .int (nI (if tg = 0 then T else pu_L T v n (pu_r T n)).length)])), (gt, .inl (cB, 603, .inl (z.2)))]) := by
  refine wi_ofW (cc := cX2_put) (maxL := 7) (ret := (some .boolean)) (by decide) rfl (Nat.le_of_ble_eq_true rfl) ?_
  intro p e s m below meth c ls A hx hb hr hml hts hown hlk hnm hP hK hN hD hA hS hl
  have hl : lv_has ls 7 [(0, .ref w), (1, .int tg), (2, .long v), (4, .int n)] := hl
  refine lv_iload_n hx hb dX2_put_0 rfl (lv_at hl 1 rfl) ?_
  refine lv_if_eq (tgt := 11) hx hb dX2_put_1 (by decide) (fun c0 => ?_) (fun c0 => ?_)
  · have eL : (if tg = 0 then B else T) = B := if_pos c0
    have eB : (if tg = 0 then pu_L B v n (pu_r B n) else B) = pu_L B v n (pu_r B n) := if_pos c0
    have eT : (if tg = 0 then T else pu_L T v n (pu_r T n)) = T := if_pos c0
    refine lv_aload_n hx hb dX2_put_11 rfl (lv_at hl 0 rfl) ?_
    refine va_get (D := (dC, dI)) (ci := 2) (v := .ref qb) (C := RX2) (T := TX2) (N := 6) hx hb hts (by decide +kernel) hown hK hP 0 rfl rfl 0 (by decide) (hts (.fieldLink RX2 10 "PieceWays" "base" "LPieceWays$Bytes;") (by decide +kernel)) (fun _ h9 => h9) rfl dX2_put_12 ?_
    refine lv_astore (lv' := [(5, .ref qb), (0, .ref w), (1, .int tg), (2, .long v), (4, .int n)]) hx hb dX2_put_15 hl (by decide) rfl (fun ls hl => ?_)
    refine lv_iload hx hb dX2_put_17 (lv_at hl 4 rfl) ?_
    refine lv_if_lt (tgt := 43) hx hb dX2_put_19 (by decide) (fun c1 => ?_) (fun c1 => ?_)
    · refine lv_iconst (v := 0) hx hb dX2_put_43 (by decide) ?_
      have e0 : pu_r B n = 0 := pu_01 c1
      have e1 : pu_L B v n (pu_r B n) = B := pu_L0 e0
      replace eB := eB.trans e1
      refine wi_zret hx hb hr hlk rfl (fb, ft) ⟨by rw [eL, e0], by rw [eB]; exact hfb, by rw [eT]; exact hft⟩ ?_ ?_ hS dX2_put_44
      · show va_P (dC, dI) vwCl [(w, .inr (2, [.ref qb, .ref qt, .ref qr, .ref qp, .ref qu, .ref qo])), (qb, .inr (0, [.ref gb, .int (nI (if tg = 0 then pu_L B v n (pu_r B n) else B).length)])), (gb, .inl (cB, 603, .inl (fb))), (qt, .inr (0, [.ref gt, .int (nI (if tg = 0 then T else pu_L T v n (pu_r T n)).length)])), (gt, .inl (cB, 603, .inl (ft)))] _
        rw [eB, eT]; exact hP
      · show va_D A [(w, .inr (2, [.ref qb, .ref qt, .ref qr, .ref qp, .ref qu, .ref qo])), (qb, .inr (0, [.ref gb, .int (nI (if tg = 0 then pu_L B v n (pu_r B n) else B).length)])), (gb, .inl (cB, 603, .inl (fb))), (qt, .inr (0, [.ref gt, .int (nI (if tg = 0 then T else pu_L T v n (pu_r T n)).length)])), (gt, .inl (cB, 603, .inl (ft)))]
        rw [eB, eT]; exact hD
    · refine lv_iload hx hb dX2_put_22 (lv_at hl 4 rfl) ?_
      refine lv_bipush (v := 8) hx hb dX2_put_24 (by decide) ?_
      refine lv_icmp_gt (tgt := 43) hx hb dX2_put_26 (by decide) (fun c2 => ?_) (fun c2 => ?_)
      · refine lv_iconst (v := 0) hx hb dX2_put_43 (by decide) ?_
        have e0 : pu_r B n = 0 := pu_02 c1 c2
        have e1 : pu_L B v n (pu_r B n) = B := pu_L0 e0
        replace eB := eB.trans e1
        refine wi_zret hx hb hr hlk rfl (fb, ft) ⟨by rw [eL, e0], by rw [eB]; exact hfb, by rw [eT]; exact hft⟩ ?_ ?_ hS dX2_put_44
        · show va_P (dC, dI) vwCl [(w, .inr (2, [.ref qb, .ref qt, .ref qr, .ref qp, .ref qu, .ref qo])), (qb, .inr (0, [.ref gb, .int (nI (if tg = 0 then pu_L B v n (pu_r B n) else B).length)])), (gb, .inl (cB, 603, .inl (fb))), (qt, .inr (0, [.ref gt, .int (nI (if tg = 0 then T else pu_L T v n (pu_r T n)).length)])), (gt, .inl (cB, 603, .inl (ft)))] _
          rw [eB, eT]; exact hP
        · show va_D A [(w, .inr (2, [.ref qb, .ref qt, .ref qr, .ref qp, .ref qu, .ref qo])), (qb, .inr (0, [.ref gb, .int (nI (if tg = 0 then pu_L B v n (pu_r B n) else B).length)])), (gb, .inl (cB, 603, .inl (fb))), (qt, .inr (0, [.ref gt, .int (nI (if tg = 0 then T else pu_L T v n (pu_r T n)).length)])), (gt, .inl (cB, 603, .inl (ft)))]
          rw [eB, eT]; exact hD
      · refine lv_iload hx hb dX2_put_29 (lv_at hl 4 rfl) ?_
        refine lv_sipush (v := 600) hx hb dX2_put_31 (by decide) ?_
        refine lv_aload hx hb dX2_put_34 (lv_at hl 0 rfl) ?_
        refine rd_V (wc := [(qb, .inr (0, [.ref gb, .int (nI B.length)]))]) (As := []) (rest := [.int 600, .int n]) ⟨hx, hb, hml, hown, hts⟩ (c_By_length l dC dI cB cI cL qb gb (nI B.length)) (cwV 0 hts gX2_put_X0_length rfl rfl rfl (by decide +kernel) ⟨(Nat.le_of_ble_eq_true rfl), (Nat.le_of_ble_eq_true rfl)⟩) hK hN (sb_P hP [1] rfl) 0 rfl rfl rfl rfl hl.1 rfl (Nat.le_of_ble_eq_true rfl) dX2_put_36 ⟨(Nat.le_of_ble_eq_true rfl), (Nat.le_of_ble_eq_true rfl)⟩ ?_
        refine lv_isub hx hb dX2_put_39 ?_
        refine lv_icmp_le (tgt := 45) hx hb dX2_put_40 (by decide) (fun c3 => ?_) (fun c3 => ?_)
        · obtain ⟨N, rfl, hN8, hN6⟩ := pu_in hB c1 c2 c3
          have e1 : pu_r B (nI N) = 1 := pu_1 c1 c2 c3
          have e2 : pu_L B v (nI N) (pu_r B (nI N)) = B ++ pb_L v N := by rw [e1]; unfold pu_L; rw [if_neg (by decide), nI_clamp (by omega)]
          replace eB := eB.trans e2
          have loop : ∀ (k : Nat) (i : Int32) (L1 : List Int32) (f1 : Nat → Int32) (H : Heap) (locs : List Loc) (ls : Array Slot), k ≤ N → i = nI k - 1 → L1 ++ pb_L v k = B ++ pb_L v N → by_k f1 L1 → va_P (dC, dI) vwCl [(w, .inr (2, [.ref qb, .ref qt, .ref qr, .ref qp, .ref qu, .ref qo])), (qb, .inr (0, [.ref gb, .int (nI L1.length)])), (gb, .inl (cB, 603, .inl f1)), (qt, .inr (0, [.ref gt, .int (nI T.length)])), (gt, .inl (cB, 603, .inl ft))] H → va_D A [(w, .inr (2, [.ref qb, .ref qt, .ref qr, .ref qp, .ref qu, .ref qo])), (qb, .inr (0, [.ref gb, .int (nI L1.length)])), (gb, .inl (cB, 603, .inl f1)), (qt, .inr (0, [.ref gt, .int (nI T.length)])), (gt, .inl (cB, 603, .inl ft))] → va_S A s.heap H locs → lv_has ls 7 [(6, .int i), (5, .ref qb), (0, .ref w), (2, .long v)] → W p l e ({ frames := 1, cells := 0, slots := 0, locals := 21 } : Room) s m ([.ref w, .int tg, .long v, .int (nI N)] : List Value).toArray below meth c H locs 0 0 (MQ below (va_Qi (fun (r : Int32) (z : (Nat → Int32) × (Nat → Int32)) => r = pu_r (if tg = 0 then B else T) (nI N) ∧ by_k z.1 (if tg = 0 then pu_L B v (nI N) (pu_r B (nI N)) else B) ∧ by_k z.2 (if tg = 0 then T else pu_L T v (nI N) (pu_r T (nI N)))) (fun u t => va_P (dC, dI) vwCl ((fun z : (Nat → Int32) × (Nat → Int32) => [(w, .inr (2, [.ref qb, .ref qt, .ref qr, .ref qp, .ref qu, .ref qo])), (qb, .inr (0, [.ref gb, .int (nI (if tg = 0 then pu_L B v (nI N) (pu_r B (nI N)) else B).length)])), (gb, .inl (cB, 603, .inl (z.1))), (qt, .inr (0, [.ref gt, .int (nI (if tg = 0 then T else pu_L T v (nI N) (pu_r T (nI N))).length)])), (gt, .inl (cB, 603, .inl (z.2)))]) u) t.heap ∧ va_D A ((fun z : (Nat → Int32) × (Nat → Int32) => [(w, .inr (2, [.ref qb, .ref qt, .ref qr, .ref qp, .ref qu, .ref qo])), (qb, .inr (0, [.ref gb, .int (nI (if tg = 0 then pu_L B v (nI N) (pu_r B (nI N)) else B).length)])), (gb, .inl (cB, 603, .inl (z.1))), (qt, .inr (0, [.ref gt, .int (nI (if tg = 0 then T else pu_L T v (nI N) (pu_r T (nI N))).length)])), (gt, .inl (cB, 603, .inl (z.2)))]) u)) A) ([.ref w, .int tg, .long v, .int (nI N)] : List Value).toArray s 0 0 A) (F0 m 51 ls []) := by
            intro k
            induction k with
            | zero =>
              intro i L1 f1 H locs ls hkN hi hL1 hf1 hP hD hS hl
              have hL1 : L1 = B ++ pb_L v N := by rw [← hL1]; exact (List.append_nil L1).symm
              subst hL1
              refine lv_iload hx hb dX2_put_51 (lv_at hl 0 rfl) ?_
              refine lv_if_lt (tgt := 75) hx hb dX2_put_53 (by decide) (fun c4 => ?_) (fun c4 => ?_)
              · refine lv_iconst (v := 1) hx hb dX2_put_75 (by decide) ?_
                refine wi_zret hx hb hr hlk rfl (f1, ft) ⟨by rw [eL, e1], by rw [eB]; exact hf1, by rw [eT]; exact hft⟩ ?_ ?_ hS dX2_put_76
                · show va_P (dC, dI) vwCl [(w, .inr (2, [.ref qb, .ref qt, .ref qr, .ref qp, .ref qu, .ref qo])), (qb, .inr (0, [.ref gb, .int (nI (if tg = 0 then pu_L B v (nI N) (pu_r B (nI N)) else B).length)])), (gb, .inl (cB, 603, .inl (f1))), (qt, .inr (0, [.ref gt, .int (nI (if tg = 0 then T else pu_L T v (nI N) (pu_r T (nI N))).length)])), (gt, .inl (cB, 603, .inl (ft)))] _
                  rw [eB, eT]; exact hP
                · show va_D A [(w, .inr (2, [.ref qb, .ref qt, .ref qr, .ref qp, .ref qu, .ref qo])), (qb, .inr (0, [.ref gb, .int (nI (if tg = 0 then pu_L B v (nI N) (pu_r B (nI N)) else B).length)])), (gb, .inl (cB, 603, .inl (f1))), (qt, .inr (0, [.ref gt, .int (nI (if tg = 0 then T else pu_L T v (nI N) (pu_r T (nI N))).length)])), (gt, .inl (cB, 603, .inl (ft)))]
                  rw [eB, eT]; exact hD
              · exact absurd (by rw [hi]; decide) c4
            | succ k ih =>
              intro i L1 f1 H locs ls hkN hi hL1 hf1 hP hD hS hl
              rw [nI_pred] at hi
              subst hi
              have hlen : L1.length + (k + 1) = B.length + N := by have h9 := congrArg List.length hL1; rw [List.length_append, List.length_append, pb_len, pb_len] at h9; exact h9
              refine lv_iload hx hb dX2_put_51 (lv_at hl 0 rfl) ?_
              refine lv_if_lt (tgt := 75) hx hb dX2_put_53 (by decide) (fun c4 => ?_) (fun c4 => ?_)
              · exact absurd c4 (nI_pos (by omega))
              · refine lv_aload hx hb dX2_put_56 (lv_at hl 1 rfl) ?_
                refine lv_lload_n hx hb dX2_put_58 rfl (lv_at hl 3 rfl) ?_
                refine lv_bipush (v := 8) hx hb dX2_put_59 (by decide) ?_
                refine lv_iload hx hb dX2_put_61 (lv_at hl 0 rfl) ?_
                refine lv_imul hx hb dX2_put_63 ?_
                refine lv_lushr hx hb dX2_put_64 rfl ?_
                refine lv_l2i hx hb dX2_put_65 rfl ?_
                refine wr_V (wc := [(qb, .inr (0, [.ref gb, .int (nI L1.length)])), (gb, .inl (cB, 603, .inl f1))]) (wr := [(w, .inr (2, [.ref qb, .ref qt, .ref qr, .ref qp, .ref qu, .ref qo])), (qt, .inr (0, [.ref gt, .int (nI T.length)])), (gt, .inl (cB, 603, .inl ft))]) (As := [.int (pb_b v k)]) (rest := []) ⟨hx, hb, hml, hown, hts⟩ (c_By_add l dC dI cB cI cL qb gb L1 f1 (pb_b v k) (by omega) hf1) (cwV 1 hts gX2_put_X0_add rfl rfl rfl (by decide +kernel) ⟨(Nat.le_of_ble_eq_true rfl), (Nat.le_of_ble_eq_true rfl)⟩) hK hN hP hD hS hA [1, 2] [0, 3, 4] rfl rfl (by decide) (by decide) (by decide) 0 rfl rfl rfl rfl hl.1 rfl (Nat.le_of_ble_eq_true rfl) dX2_put_66 ⟨(Nat.le_of_ble_eq_true rfl), (Nat.le_of_ble_eq_true rfl)⟩ (fun f2 H locs hf2 hP hD hS => ?_)
                have hP : va_P (dC, dI) vwCl [(w, .inr (2, [.ref qb, .ref qt, .ref qr, .ref qp, .ref qu, .ref qo])), (qb, .inr (0, [.ref gb, .int (nI (L1 ++ [pb_b v k &&& 255]).length)])), (gb, .inl (cB, 603, .inl f2)), (qt, .inr (0, [.ref gt, .int (nI T.length)])), (gt, .inl (cB, 603, .inl ft))] H := hP.sub [0, 3, 4, 1, 2] rfl
                have hD : va_D A [(w, .inr (2, [.ref qb, .ref qt, .ref qr, .ref qp, .ref qu, .ref qo])), (qb, .inr (0, [.ref gb, .int (nI (L1 ++ [pb_b v k &&& 255]).length)])), (gb, .inl (cB, 603, .inl f2)), (qt, .inr (0, [.ref gt, .int (nI T.length)])), (gt, .inl (cB, 603, .inl ft))] := hD.sub [0, 3, 4, 1, 2] (by decide) rfl
                refine lv_iinc (v := ((nI k) + (-1))) (lv' := [(6, .int ((nI k) + (-1))), (5, .ref qb), (0, .ref w), (2, .long v)]) hx hb dX2_put_69 hl (k := 0) rfl rfl (by decide) rfl (fun ls hl => ?_)
                refine lv_goto (tgt := 51) hx hb dX2_put_72 (by decide) ?_
                exact ih _ (L1 ++ [pb_b v k &&& 255]) f2 H locs ls (by omega) (m1_I k) (by rw [List.append_assoc]; exact hL1) hf2 hP hD hS (lv_sub hl [0, 1, 2, 3] rfl)
          refine lv_iload hx hb dX2_put_45 (lv_at hl 4 rfl) ?_
          refine lv_iconst (v := 1) hx hb dX2_put_47 (by decide) ?_
          refine lv_isub hx hb dX2_put_48 ?_
          refine lv_istore (lv' := [(6, .int ((nI N) - 1)), (5, .ref qb), (0, .ref w), (1, .int tg), (2, .long v), (4, .int (nI N))]) hx hb dX2_put_49 hl (by decide) rfl (fun ls hl => ?_)
          exact loop N _ B fb s.heap [] ls (Nat.le_refl _) rfl rfl hfb hP hD hS (lv_sub hl [0, 1, 2, 4] rfl)
        · refine lv_iconst (v := 0) hx hb dX2_put_43 (by decide) ?_
          have e0 : pu_r B n = 0 := pu_03 c1 c2 c3
          have e1 : pu_L B v n (pu_r B n) = B := pu_L0 e0
          replace eB := eB.trans e1
          refine wi_zret hx hb hr hlk rfl (fb, ft) ⟨by rw [eL, e0], by rw [eB]; exact hfb, by rw [eT]; exact hft⟩ ?_ ?_ hS dX2_put_44
          · show va_P (dC, dI) vwCl [(w, .inr (2, [.ref qb, .ref qt, .ref qr, .ref qp, .ref qu, .ref qo])), (qb, .inr (0, [.ref gb, .int (nI (if tg = 0 then pu_L B v n (pu_r B n) else B).length)])), (gb, .inl (cB, 603, .inl (fb))), (qt, .inr (0, [.ref gt, .int (nI (if tg = 0 then T else pu_L T v n (pu_r T n)).length)])), (gt, .inl (cB, 603, .inl (ft)))] _
            rw [eB, eT]; exact hP
          · show va_D A [(w, .inr (2, [.ref qb, .ref qt, .ref qr, .ref qp, .ref qu, .ref qo])), (qb, .inr (0, [.ref gb, .int (nI (if tg = 0 then pu_L B v n (pu_r B n) else B).length)])), (gb, .inl (cB, 603, .inl (fb))), (qt, .inr (0, [.ref gt, .int (nI (if tg = 0 then T else pu_L T v n (pu_r T n)).length)])), (gt, .inl (cB, 603, .inl (ft)))]
            rw [eB, eT]; exact hD
  · have eL : (if tg = 0 then B else T) = T := if_neg c0
    have eB : (if tg = 0 then pu_L B v n (pu_r B n) else B) = B := if_neg c0
    have eT : (if tg = 0 then T else pu_L T v n (pu_r T n)) = pu_L T v n (pu_r T n) := if_neg c0
    refine lv_aload_n hx hb dX2_put_4 rfl (lv_at hl 0 rfl) ?_
    refine va_get (D := (dC, dI)) (ci := 2) (v := .ref qt) (C := RX2) (T := TX2) (N := 6) hx hb hts (by decide +kernel) hown hK hP 0 rfl rfl 1 (by decide) (hts (.fieldLink RX2 16 "PieceWays" "target" "LPieceWays$Bytes;") (by decide +kernel)) (fun _ h9 => h9) rfl dX2_put_5 ?_
    refine lv_goto (tgt := 15) hx hb dX2_put_8 (by decide) ?_
    refine lv_astore (lv' := [(5, .ref qt), (0, .ref w), (1, .int tg), (2, .long v), (4, .int n)]) hx hb dX2_put_15 hl (by decide) rfl (fun ls hl => ?_)
    refine lv_iload hx hb dX2_put_17 (lv_at hl 4 rfl) ?_
    refine lv_if_lt (tgt := 43) hx hb dX2_put_19 (by decide) (fun c1 => ?_) (fun c1 => ?_)
    · refine lv_iconst (v := 0) hx hb dX2_put_43 (by decide) ?_
      have e0 : pu_r T n = 0 := pu_01 c1
      have e1 : pu_L T v n (pu_r T n) = T := pu_L0 e0
      replace eT := eT.trans e1
      refine wi_zret hx hb hr hlk rfl (fb, ft) ⟨by rw [eL, e0], by rw [eB]; exact hfb, by rw [eT]; exact hft⟩ ?_ ?_ hS dX2_put_44
      · show va_P (dC, dI) vwCl [(w, .inr (2, [.ref qb, .ref qt, .ref qr, .ref qp, .ref qu, .ref qo])), (qb, .inr (0, [.ref gb, .int (nI (if tg = 0 then pu_L B v n (pu_r B n) else B).length)])), (gb, .inl (cB, 603, .inl (fb))), (qt, .inr (0, [.ref gt, .int (nI (if tg = 0 then T else pu_L T v n (pu_r T n)).length)])), (gt, .inl (cB, 603, .inl (ft)))] _
        rw [eB, eT]; exact hP
      · show va_D A [(w, .inr (2, [.ref qb, .ref qt, .ref qr, .ref qp, .ref qu, .ref qo])), (qb, .inr (0, [.ref gb, .int (nI (if tg = 0 then pu_L B v n (pu_r B n) else B).length)])), (gb, .inl (cB, 603, .inl (fb))), (qt, .inr (0, [.ref gt, .int (nI (if tg = 0 then T else pu_L T v n (pu_r T n)).length)])), (gt, .inl (cB, 603, .inl (ft)))]
        rw [eB, eT]; exact hD
    · refine lv_iload hx hb dX2_put_22 (lv_at hl 4 rfl) ?_
      refine lv_bipush (v := 8) hx hb dX2_put_24 (by decide) ?_
      refine lv_icmp_gt (tgt := 43) hx hb dX2_put_26 (by decide) (fun c2 => ?_) (fun c2 => ?_)
      · refine lv_iconst (v := 0) hx hb dX2_put_43 (by decide) ?_
        have e0 : pu_r T n = 0 := pu_02 c1 c2
        have e1 : pu_L T v n (pu_r T n) = T := pu_L0 e0
        replace eT := eT.trans e1
        refine wi_zret hx hb hr hlk rfl (fb, ft) ⟨by rw [eL, e0], by rw [eB]; exact hfb, by rw [eT]; exact hft⟩ ?_ ?_ hS dX2_put_44
        · show va_P (dC, dI) vwCl [(w, .inr (2, [.ref qb, .ref qt, .ref qr, .ref qp, .ref qu, .ref qo])), (qb, .inr (0, [.ref gb, .int (nI (if tg = 0 then pu_L B v n (pu_r B n) else B).length)])), (gb, .inl (cB, 603, .inl (fb))), (qt, .inr (0, [.ref gt, .int (nI (if tg = 0 then T else pu_L T v n (pu_r T n)).length)])), (gt, .inl (cB, 603, .inl (ft)))] _
          rw [eB, eT]; exact hP
        · show va_D A [(w, .inr (2, [.ref qb, .ref qt, .ref qr, .ref qp, .ref qu, .ref qo])), (qb, .inr (0, [.ref gb, .int (nI (if tg = 0 then pu_L B v n (pu_r B n) else B).length)])), (gb, .inl (cB, 603, .inl (fb))), (qt, .inr (0, [.ref gt, .int (nI (if tg = 0 then T else pu_L T v n (pu_r T n)).length)])), (gt, .inl (cB, 603, .inl (ft)))]
          rw [eB, eT]; exact hD
      · refine lv_iload hx hb dX2_put_29 (lv_at hl 4 rfl) ?_
        refine lv_sipush (v := 600) hx hb dX2_put_31 (by decide) ?_
        refine lv_aload hx hb dX2_put_34 (lv_at hl 0 rfl) ?_
        refine rd_V (wc := [(qt, .inr (0, [.ref gt, .int (nI T.length)]))]) (As := []) (rest := [.int 600, .int n]) ⟨hx, hb, hml, hown, hts⟩ (c_By_length l dC dI cB cI cL qt gt (nI T.length)) (cwV 0 hts gX2_put_X0_length rfl rfl rfl (by decide +kernel) ⟨(Nat.le_of_ble_eq_true rfl), (Nat.le_of_ble_eq_true rfl)⟩) hK hN (sb_P hP [3] rfl) 0 rfl rfl rfl rfl hl.1 rfl (Nat.le_of_ble_eq_true rfl) dX2_put_36 ⟨(Nat.le_of_ble_eq_true rfl), (Nat.le_of_ble_eq_true rfl)⟩ ?_
        refine lv_isub hx hb dX2_put_39 ?_
        refine lv_icmp_le (tgt := 45) hx hb dX2_put_40 (by decide) (fun c3 => ?_) (fun c3 => ?_)
        · obtain ⟨N, rfl, hN8, hN6⟩ := pu_in hT c1 c2 c3
          have e1 : pu_r T (nI N) = 1 := pu_1 c1 c2 c3
          have e2 : pu_L T v (nI N) (pu_r T (nI N)) = T ++ pb_L v N := by rw [e1]; unfold pu_L; rw [if_neg (by decide), nI_clamp (by omega)]
          replace eT := eT.trans e2
          have loop : ∀ (k : Nat) (i : Int32) (L1 : List Int32) (f1 : Nat → Int32) (H : Heap) (locs : List Loc) (ls : Array Slot), k ≤ N → i = nI k - 1 → L1 ++ pb_L v k = T ++ pb_L v N → by_k f1 L1 → va_P (dC, dI) vwCl [(w, .inr (2, [.ref qb, .ref qt, .ref qr, .ref qp, .ref qu, .ref qo])), (qb, .inr (0, [.ref gb, .int (nI B.length)])), (gb, .inl (cB, 603, .inl fb)), (qt, .inr (0, [.ref gt, .int (nI L1.length)])), (gt, .inl (cB, 603, .inl f1))] H → va_D A [(w, .inr (2, [.ref qb, .ref qt, .ref qr, .ref qp, .ref qu, .ref qo])), (qb, .inr (0, [.ref gb, .int (nI B.length)])), (gb, .inl (cB, 603, .inl fb)), (qt, .inr (0, [.ref gt, .int (nI L1.length)])), (gt, .inl (cB, 603, .inl f1))] → va_S A s.heap H locs → lv_has ls 7 [(6, .int i), (5, .ref qt), (0, .ref w), (2, .long v)] → W p l e ({ frames := 1, cells := 0, slots := 0, locals := 21 } : Room) s m ([.ref w, .int tg, .long v, .int (nI N)] : List Value).toArray below meth c H locs 0 0 (MQ below (va_Qi (fun (r : Int32) (z : (Nat → Int32) × (Nat → Int32)) => r = pu_r (if tg = 0 then B else T) (nI N) ∧ by_k z.1 (if tg = 0 then pu_L B v (nI N) (pu_r B (nI N)) else B) ∧ by_k z.2 (if tg = 0 then T else pu_L T v (nI N) (pu_r T (nI N)))) (fun u t => va_P (dC, dI) vwCl ((fun z : (Nat → Int32) × (Nat → Int32) => [(w, .inr (2, [.ref qb, .ref qt, .ref qr, .ref qp, .ref qu, .ref qo])), (qb, .inr (0, [.ref gb, .int (nI (if tg = 0 then pu_L B v (nI N) (pu_r B (nI N)) else B).length)])), (gb, .inl (cB, 603, .inl (z.1))), (qt, .inr (0, [.ref gt, .int (nI (if tg = 0 then T else pu_L T v (nI N) (pu_r T (nI N))).length)])), (gt, .inl (cB, 603, .inl (z.2)))]) u) t.heap ∧ va_D A ((fun z : (Nat → Int32) × (Nat → Int32) => [(w, .inr (2, [.ref qb, .ref qt, .ref qr, .ref qp, .ref qu, .ref qo])), (qb, .inr (0, [.ref gb, .int (nI (if tg = 0 then pu_L B v (nI N) (pu_r B (nI N)) else B).length)])), (gb, .inl (cB, 603, .inl (z.1))), (qt, .inr (0, [.ref gt, .int (nI (if tg = 0 then T else pu_L T v (nI N) (pu_r T (nI N))).length)])), (gt, .inl (cB, 603, .inl (z.2)))]) u)) A) ([.ref w, .int tg, .long v, .int (nI N)] : List Value).toArray s 0 0 A) (F0 m 51 ls []) := by
            intro k
            induction k with
            | zero =>
              intro i L1 f1 H locs ls hkN hi hL1 hf1 hP hD hS hl
              have hL1 : L1 = T ++ pb_L v N := by rw [← hL1]; exact (List.append_nil L1).symm
              subst hL1
              refine lv_iload hx hb dX2_put_51 (lv_at hl 0 rfl) ?_
              refine lv_if_lt (tgt := 75) hx hb dX2_put_53 (by decide) (fun c4 => ?_) (fun c4 => ?_)
              · refine lv_iconst (v := 1) hx hb dX2_put_75 (by decide) ?_
                refine wi_zret hx hb hr hlk rfl (fb, f1) ⟨by rw [eL, e1], by rw [eB]; exact hfb, by rw [eT]; exact hf1⟩ ?_ ?_ hS dX2_put_76
                · show va_P (dC, dI) vwCl [(w, .inr (2, [.ref qb, .ref qt, .ref qr, .ref qp, .ref qu, .ref qo])), (qb, .inr (0, [.ref gb, .int (nI (if tg = 0 then pu_L B v (nI N) (pu_r B (nI N)) else B).length)])), (gb, .inl (cB, 603, .inl (fb))), (qt, .inr (0, [.ref gt, .int (nI (if tg = 0 then T else pu_L T v (nI N) (pu_r T (nI N))).length)])), (gt, .inl (cB, 603, .inl (f1)))] _
                  rw [eB, eT]; exact hP
                · show va_D A [(w, .inr (2, [.ref qb, .ref qt, .ref qr, .ref qp, .ref qu, .ref qo])), (qb, .inr (0, [.ref gb, .int (nI (if tg = 0 then pu_L B v (nI N) (pu_r B (nI N)) else B).length)])), (gb, .inl (cB, 603, .inl (fb))), (qt, .inr (0, [.ref gt, .int (nI (if tg = 0 then T else pu_L T v (nI N) (pu_r T (nI N))).length)])), (gt, .inl (cB, 603, .inl (f1)))]
                  rw [eB, eT]; exact hD
              · exact absurd (by rw [hi]; decide) c4
            | succ k ih =>
              intro i L1 f1 H locs ls hkN hi hL1 hf1 hP hD hS hl
              rw [nI_pred] at hi
              subst hi
              have hlen : L1.length + (k + 1) = T.length + N := by have h9 := congrArg List.length hL1; rw [List.length_append, List.length_append, pb_len, pb_len] at h9; exact h9
              refine lv_iload hx hb dX2_put_51 (lv_at hl 0 rfl) ?_
              refine lv_if_lt (tgt := 75) hx hb dX2_put_53 (by decide) (fun c4 => ?_) (fun c4 => ?_)
              · exact absurd c4 (nI_pos (by omega))
              · refine lv_aload hx hb dX2_put_56 (lv_at hl 1 rfl) ?_
                refine lv_lload_n hx hb dX2_put_58 rfl (lv_at hl 3 rfl) ?_
                refine lv_bipush (v := 8) hx hb dX2_put_59 (by decide) ?_
                refine lv_iload hx hb dX2_put_61 (lv_at hl 0 rfl) ?_
                refine lv_imul hx hb dX2_put_63 ?_
                refine lv_lushr hx hb dX2_put_64 rfl ?_
                refine lv_l2i hx hb dX2_put_65 rfl ?_
                refine wr_V (wc := [(qt, .inr (0, [.ref gt, .int (nI L1.length)])), (gt, .inl (cB, 603, .inl f1))]) (wr := [(w, .inr (2, [.ref qb, .ref qt, .ref qr, .ref qp, .ref qu, .ref qo])), (qb, .inr (0, [.ref gb, .int (nI B.length)])), (gb, .inl (cB, 603, .inl fb))]) (As := [.int (pb_b v k)]) (rest := []) ⟨hx, hb, hml, hown, hts⟩ (c_By_add l dC dI cB cI cL qt gt L1 f1 (pb_b v k) (by omega) hf1) (cwV 1 hts gX2_put_X0_add rfl rfl rfl (by decide +kernel) ⟨(Nat.le_of_ble_eq_true rfl), (Nat.le_of_ble_eq_true rfl)⟩) hK hN hP hD hS hA [3, 4] [0, 1, 2] rfl rfl (by decide) (by decide) (by decide) 0 rfl rfl rfl rfl hl.1 rfl (Nat.le_of_ble_eq_true rfl) dX2_put_66 ⟨(Nat.le_of_ble_eq_true rfl), (Nat.le_of_ble_eq_true rfl)⟩ (fun f2 H locs hf2 hP hD hS => ?_)
                have hP : va_P (dC, dI) vwCl [(w, .inr (2, [.ref qb, .ref qt, .ref qr, .ref qp, .ref qu, .ref qo])), (qb, .inr (0, [.ref gb, .int (nI B.length)])), (gb, .inl (cB, 603, .inl fb)), (qt, .inr (0, [.ref gt, .int (nI (L1 ++ [pb_b v k &&& 255]).length)])), (gt, .inl (cB, 603, .inl f2))] H := hP.sub [0, 1, 2, 3, 4] rfl
                have hD : va_D A [(w, .inr (2, [.ref qb, .ref qt, .ref qr, .ref qp, .ref qu, .ref qo])), (qb, .inr (0, [.ref gb, .int (nI B.length)])), (gb, .inl (cB, 603, .inl fb)), (qt, .inr (0, [.ref gt, .int (nI (L1 ++ [pb_b v k &&& 255]).length)])), (gt, .inl (cB, 603, .inl f2))] := hD.sub [0, 1, 2, 3, 4] (by decide) rfl
                refine lv_iinc (v := ((nI k) + (-1))) (lv' := [(6, .int ((nI k) + (-1))), (5, .ref qt), (0, .ref w), (2, .long v)]) hx hb dX2_put_69 hl (k := 0) rfl rfl (by decide) rfl (fun ls hl => ?_)
                refine lv_goto (tgt := 51) hx hb dX2_put_72 (by decide) ?_
                exact ih _ (L1 ++ [pb_b v k &&& 255]) f2 H locs ls (by omega) (m1_I k) (by rw [List.append_assoc]; exact hL1) hf2 hP hD hS (lv_sub hl [0, 1, 2, 3] rfl)
          refine lv_iload hx hb dX2_put_45 (lv_at hl 4 rfl) ?_
          refine lv_iconst (v := 1) hx hb dX2_put_47 (by decide) ?_
          refine lv_isub hx hb dX2_put_48 ?_
          refine lv_istore (lv' := [(6, .int ((nI N) - 1)), (5, .ref qt), (0, .ref w), (1, .int tg), (2, .long v), (4, .int (nI N))]) hx hb dX2_put_49 hl (by decide) rfl (fun ls hl => ?_)
          exact loop N _ T ft s.heap [] ls (Nat.le_refl _) rfl rfl hft hP hD hS (lv_sub hl [0, 1, 2, 4] rfl)
        · refine lv_iconst (v := 0) hx hb dX2_put_43 (by decide) ?_
          have e0 : pu_r T n = 0 := pu_03 c1 c2 c3
          have e1 : pu_L T v n (pu_r T n) = T := pu_L0 e0
          replace eT := eT.trans e1
          refine wi_zret hx hb hr hlk rfl (fb, ft) ⟨by rw [eL, e0], by rw [eB]; exact hfb, by rw [eT]; exact hft⟩ ?_ ?_ hS dX2_put_44
          · show va_P (dC, dI) vwCl [(w, .inr (2, [.ref qb, .ref qt, .ref qr, .ref qp, .ref qu, .ref qo])), (qb, .inr (0, [.ref gb, .int (nI (if tg = 0 then pu_L B v n (pu_r B n) else B).length)])), (gb, .inl (cB, 603, .inl (fb))), (qt, .inr (0, [.ref gt, .int (nI (if tg = 0 then T else pu_L T v n (pu_r T n)).length)])), (gt, .inl (cB, 603, .inl (ft)))] _
            rw [eB, eT]; exact hP
          · show va_D A [(w, .inr (2, [.ref qb, .ref qt, .ref qr, .ref qp, .ref qu, .ref qo])), (qb, .inr (0, [.ref gb, .int (nI (if tg = 0 then pu_L B v n (pu_r B n) else B).length)])), (gb, .inl (cB, 603, .inl (fb))), (qt, .inr (0, [.ref gt, .int (nI (if tg = 0 then T else pu_L T v n (pu_r T n)).length)])), (gt, .inl (cB, 603, .inl (ft)))]
            rw [eB, eT]; exact hD
end PWPUT
end
section
/-! The throw of go(): what it needs of the start. -/
def ex_E : String := "java/lang/IllegalStateException"
def ex_n : List String := ["java/lang/RuntimeException", "java/lang/Exception"]
/-- the statics of Throwable, the text, four words that the tables decide -/
def ex_X (A : Nat → Prop) (U : State) : Prop := vx_Zq Bundle.tN "UNASSIGNED_STACK" Bundle.steD A U U.heap ∧ vx_Zq Bundle.tN "SUPPRESSED_SENTINEL" Bundle.listD A U U.heap ∧ (∃ sa : Nat, vk_R RX2 76 "the way copies what the base has not" sa U) ∧ va_Nw (.castable "java/lang/IllegalStateException" "java/lang/IllegalStateException") U ∧ va_Nw (.declares (Bundle.initS "java/lang/RuntimeException")) U ∧ va_Nw (.declares (Bundle.initS "java/lang/Exception")) U ∧ va_Nw (.declares (Bundle.initS Bundle.tN)) U
theorem ex_S {A : Nat → Prop} {u U : State} (h : u.vm = U.vm) (hh : u.heap = U.heap) (q : ex_X A u) : ex_X A U := by
  obtain ⟨a, b, ⟨sa, d⟩, e1, e2, e3, e4⟩ := q
  refine ⟨?_, ?_, ⟨sa, vk_R.same h.symm d⟩, va_Nw.same rfl h e1, va_Nw.same rfl h e2, va_Nw.same rfl h e3, va_Nw.same rfl h e4⟩
  · rw [← hh]; exact vx_Zq.moved (by rw [h]; exact Vm.Alike.refl _) a
  · rw [← hh]; exact vx_Zq.moved (by rw [h]; exact Vm.Alike.refl _) b
/-- .. from the start s to a state U behind it, whose old cells are as they were where A doesn't hold -/
theorem ex_W {A B : Nat → Prop} {s U : State} (hW : s.WarmedH U.vm) (hq : ∀ a : Nat, a < s.heap.size → ¬ A a → U.heap[a]? = s.heap[a]?) (hAB : ∀ q, B q → A q) (q : ex_X A s) : ex_X B U := by
  obtain ⟨a, b, ⟨sa, d⟩, e1, e2, e3, e4⟩ := q
  exact ⟨((a.kept hq).moved hW.alike).narrow hAB, ((b.kept hq).moved hW.alike).narrow hAB, ⟨sa, vk_R.warm hW d⟩, va_Nw.warmC hW e1, va_Nw.warmD hW e2, va_Nw.warmD hW e3, va_Nw.warmD hW e4⟩
set_option maxHeartbeats 1000000 in
set_option maxRecDepth 100000 in
theorem th_go {p : Program} (l : Launch) {e : Env} {s : State} {m : MethodId} {args : Array Value} {below : List Frame} {meth : Method} {c : Code} {D : va_G} {wc : va_W} {A : Nat → Prop} {ls : Array Slot} {px : Prop} {Qc : Array Value → State → Outcome → State → Prop}
    (hst : l.stackTraces = false) (hx : p.tables.exec = Jvm.exec) (hb : c.code = cX2_go) (hown : s.vm.findClass RX2 = some m.cls) (hts : ∀ w ∈ wsX2_go, w.before args s = true) (hX : ex_X A s) (hS : va_S A s.heap s.heap []) (hl1 : ls.size = 3) (hml : c.maxLocals = 3) (hout : ∀ x ∈ c.exceptionTable.toList, False) (hlk : meth.locks = false) (hP : va_P D vwCl wc s.heap) (hc0 : px) :
    W p l e ({ frames := 6, cells := 1, slots := 6, locals := 95 } : Room) s m args below meth c s.heap [] 0 0 (vx_MQ below Qc (vx_X (fun _ : Unit => px) (fun E _ t => E = "java/lang/IllegalStateException" ∧ va_P D vwCl wc t.heap) A) args s 1 6 A) (F0 m 17 ls []) := by
  obtain ⟨hU, hN, ⟨sa, hstr⟩, b1, b2, b3, b4⟩ := hX
  refine vx_throwS (own := RX2) (cls := "java/lang/IllegalStateException") (text := "the way copies what the base has not") (names := ["java/lang/RuntimeException", "java/lang/Exception"]) (ik := 74) (is := 76) (ic := 78) (sa := sa) (A := A) hx hb hst hown (by decide +kernel) (by decide +kernel) (hts (.classLink RX2 74 "java/lang/IllegalStateException") (by decide +kernel)) (hts (.initialized "java/lang/IllegalStateException") (by decide +kernel)) hstr ?_ (by decide +kernel) hU hN hS (hl1.trans hml.symm) dX2_go_17 dX2_go_20 dX2_go_21 dX2_go_23 dX2_go_26 (fun x h => (hout x h).elim) (Nat.le_of_ble_eq_true rfl) (Nat.le_of_ble_eq_true rfl) (Nat.le_of_ble_eq_true rfl) (Nat.le_of_ble_eq_true rfl) hlk (fun t ha hsz hsame => ⟨(), hc0, ⟨rfl, hP.kept (fun k q hk => hsame q.1 ((hP k q hk).lt))⟩, ⟨hsz, fun q h _ => hsame q h⟩⟩) (fun z h => nomatch h) (by omega) (by omega)
  exact vx_hat (B := [.castable "java/lang/IllegalStateException" "java/lang/IllegalStateException", .declares (Bundle.initS "java/lang/RuntimeException"), .declares (Bundle.initS "java/lang/Exception"), .declares (Bundle.initS Bundle.tN)]) (fun w h => hts w (List.mem_cons_of_mem _ (List.mem_append_right _ h))) (by decide +kernel) (vx_c (va_Nw.use rfl b1) (vx_c (va_Nw.use rfl b2) (vx_c (va_Nw.use rfl b3) (vx_c (va_Nw.use rfl b4) vx_n))))
end
section
section PWGO
variable (l : Launch) (dC : Nat → ClassId) (dI : Nat → Nat → Nat) (cB cI cL : ClassId)

set_option maxHeartbeats 1000000 in
set_option maxRecDepth 100000 in
/-- go() -/
theorem c_Pw_go (w qb gb qt gt qr gr qp h0 h1 h2 qu gu qo go_ : Nat) (B Z U : List Int32) (P : List (Nat × Nat × Nat)) (fb fr fu f0 f1 f2 : Nat → Int32) (hst : l.stackTraces = false) (nB : Nat) (hB : B.length ≤ 600) (hk : pk_W nB U.length P) (hfb : by_k fb B) (hpc : pc_k f0 f1 f2 P) (hfu : by_k fu U) : gx_M l yX2_go wsX2_go ({ frames := 6, cells := 1, slots := 6, locals := 95 } : Room) (dC, dI) vwCl (tk_s cB cI cL) [.ref w] [(w, .inr (2, [.ref qb, .ref qt, .ref qr, .ref qp, .ref qu, .ref qo])), (qb, .inr (0, [.ref gb, .int (nI B.length)])), (gb, .inl (cB, 603, .inl fb)), (qr, .inr (0, [.ref gr, .int (nI Z.length)])), (gr, .inl (cB, 603, .inl fr)), (qp, .inr (1, [.ref h0, .ref h1, .ref h2, .int (nI P.length)])), (h0, .inl (cI, 133, .inl f0)), (h1, .inl (cI, 133, .inl f1)), (h2, .inl (cI, 133, .inl f2)), (qu, .inr (0, [.ref gu, .int (nI U.length)])), (gu, .inl (cB, 603, .inl fu))] 1 6 ex_X (fun (r : Int32) (z : Nat → Int32) => r = nI (go_R B U P).length ∧ ce_P P ≤ B.length ∧ by_k z (go_R B U P)) (fun z : Nat → Int32 => [(w, .inr (2, [.ref qb, .ref qt, .ref qr, .ref qp, .ref qu, .ref qo])), (qb, .inr (0, [.ref gb, .int (nI B.length)])), (gb, .inl (cB, 603, .inl fb)), (qr, .inr (0, [.ref gr, .int (nI (go_R B U P).length)])), (gr, .inl (cB, 603, .inl z)), (qp, .inr (1, [.ref h0, .ref h1, .ref h2, .int (nI P.length)])), (h0, .inl (cI, 133, .inl f0)), (h1, .inl (cI, 133, .inl f1)), (h2, .inl (cI, 133, .inl f2)), (qu, .inr (0, [.ref gu, .int (nI U.length)])), (gu, .inl (cB, 603, .inl fu))]) (B.length < ce_P P) "java/lang/IllegalStateException" := by
  refine gx_ofW (cc := cX2_go) (maxL := 3) (ret := (some .int)) (by decide) rfl (Nat.le_of_ble_eq_true rfl) ?_
  intro p e s m below meth c ls A hx hb hr hml hts hown hlk hout hP hK hN hD hX hA hS hl
  have hl : lv_has ls 3 [(0, .ref w)] := hl
  have hln := pk_len hk
  have hsm := pk_sm hk
  have hce := pk_ce hk
  have hu6 := hk.2.1
  have hk3 : ∀ t ∈ P, t.1 < 3 ∧ t.2.1 + t.2.2 ≤ 600 := fun t ht => by have h9 := pk_1 hk ht; omega
  refine lv_aload_n hx hb dX2_go_0 rfl (lv_at hl 0 rfl) ?_
  refine va_get (D := (dC, dI)) (ci := 2) (v := .ref qp) (C := RX2) (T := TX2) (N := 6) hx hb hts (by decide +kernel) hown hK hP 0 rfl rfl 3 (by decide) (hts (.fieldLink RX2 25 "PieceWays" "pieces" "LPieceWays$Pieces;") (by decide +kernel)) (fun _ h9 => h9) rfl dX2_go_1 ?_
  refine rd_V (wc := [(qp, .inr (1, [.ref h0, .ref h1, .ref h2, .int (nI P.length)])), (h0, .inl (cI, 133, .inl f0)), (h1, .inl (cI, 133, .inl f1)), (h2, .inl (cI, 133, .inl f2))]) (As := []) (rest := []) ⟨hx, hb, hml, hown, hts⟩ (c_Pc_copiedEnd l dC dI cB cI cL qp h0 h1 h2 P f0 f1 f2 hk3 hln.1 hpc) (cwV 0 hts gX2_go_X1_copiedEnd rfl rfl rfl (by decide +kernel) ⟨(Nat.le_of_ble_eq_true rfl), (Nat.le_of_ble_eq_true rfl)⟩) hK hN (sb_P hP [5, 6, 7, 8] rfl) 0 rfl rfl rfl rfl hl.1 rfl (Nat.le_of_ble_eq_true rfl) dX2_go_4 ⟨(Nat.le_of_ble_eq_true rfl), (Nat.le_of_ble_eq_true rfl)⟩ ?_
  refine lv_aload_n hx hb dX2_go_7 rfl (lv_at hl 0 rfl) ?_
  refine va_get (D := (dC, dI)) (ci := 2) (v := .ref qb) (C := RX2) (T := TX2) (N := 6) hx hb hts (by decide +kernel) hown hK hP 0 rfl rfl 0 (by decide) (hts (.fieldLink RX2 10 "PieceWays" "base" "LPieceWays$Bytes;") (by decide +kernel)) (fun _ h9 => h9) rfl dX2_go_8 ?_
  refine rd_V (wc := [(qb, .inr (0, [.ref gb, .int (nI B.length)]))]) (As := []) (rest := [.int (nI (ce_P P))]) ⟨hx, hb, hml, hown, hts⟩ (c_By_length l dC dI cB cI cL qb gb (nI B.length)) (cwV 0 hts gX2_go_X0_length rfl rfl rfl (by decide +kernel) ⟨(Nat.le_of_ble_eq_true rfl), (Nat.le_of_ble_eq_true rfl)⟩) hK hN (sb_P hP [1] rfl) 0 rfl rfl rfl rfl hl.1 rfl (Nat.le_of_ble_eq_true rfl) dX2_go_11 ⟨(Nat.le_of_ble_eq_true rfl), (Nat.le_of_ble_eq_true rfl)⟩ ?_
  refine lv_icmp_le (tgt := 27) hx hb dX2_go_14 (by decide) (fun c0 => ?_) (fun c0 => ?_)
  · have hc0 : ce_P P ≤ B.length := (nI_leI (by omega) (by omega)).mp c0
    have loop : ∀ (n j : Nat) (f3 : Nat → Int32) (H : Heap) (locs : List Loc) (ls : Array Slot), n + j = P.length → by_k f3 (go_R B U (P.take j)) → va_P (dC, dI) vwCl [(w, .inr (2, [.ref qb, .ref qt, .ref qr, .ref qp, .ref qu, .ref qo])), (qb, .inr (0, [.ref gb, .int (nI B.length)])), (gb, .inl (cB, 603, .inl fb)), (qr, .inr (0, [.ref gr, .int (nI (go_R B U (P.take j)).length)])), (gr, .inl (cB, 603, .inl f3)), (qp, .inr (1, [.ref h0, .ref h1, .ref h2, .int (nI P.length)])), (h0, .inl (cI, 133, .inl f0)), (h1, .inl (cI, 133, .inl f1)), (h2, .inl (cI, 133, .inl f2)), (qu, .inr (0, [.ref gu, .int (nI U.length)])), (gu, .inl (cB, 603, .inl fu))] H → va_D A [(w, .inr (2, [.ref qb, .ref qt, .ref qr, .ref qp, .ref qu, .ref qo])), (qb, .inr (0, [.ref gb, .int (nI B.length)])), (gb, .inl (cB, 603, .inl fb)), (qr, .inr (0, [.ref gr, .int (nI (go_R B U (P.take j)).length)])), (gr, .inl (cB, 603, .inl f3)), (qp, .inr (1, [.ref h0, .ref h1, .ref h2, .int (nI P.length)])), (h0, .inl (cI, 133, .inl f0)), (h1, .inl (cI, 133, .inl f1)), (h2, .inl (cI, 133, .inl f2)), (qu, .inr (0, [.ref gu, .int (nI U.length)])), (gu, .inl (cB, 603, .inl fu))] → va_S A s.heap H locs → lv_has ls 3 [(1, .int (nI j)), (0, .ref w)] → W p l e ({ frames := 6, cells := 1, slots := 6, locals := 95 } : Room) s m ([.ref w] : List Value).toArray below meth c H locs 0 0 (vx_MQ below (va_Qi (fun (r : Int32) (z : Nat → Int32) => r = nI (go_R B U P).length ∧ ce_P P ≤ B.length ∧ by_k z (go_R B U P)) (fun u t => va_P (dC, dI) vwCl ((fun z : Nat → Int32 => [(w, .inr (2, [.ref qb, .ref qt, .ref qr, .ref qp, .ref qu, .ref qo])), (qb, .inr (0, [.ref gb, .int (nI B.length)])), (gb, .inl (cB, 603, .inl fb)), (qr, .inr (0, [.ref gr, .int (nI (go_R B U P).length)])), (gr, .inl (cB, 603, .inl z)), (qp, .inr (1, [.ref h0, .ref h1, .ref h2, .int (nI P.length)])), (h0, .inl (cI, 133, .inl f0)), (h1, .inl (cI, 133, .inl f1)), (h2, .inl (cI, 133, .inl f2)), (qu, .inr (0, [.ref gu, .int (nI U.length)])), (gu, .inl (cB, 603, .inl fu))]) u) t.heap ∧ va_D A ((fun z : Nat → Int32 => [(w, .inr (2, [.ref qb, .ref qt, .ref qr, .ref qp, .ref qu, .ref qo])), (qb, .inr (0, [.ref gb, .int (nI B.length)])), (gb, .inl (cB, 603, .inl fb)), (qr, .inr (0, [.ref gr, .int (nI (go_R B U P).length)])), (gr, .inl (cB, 603, .inl z)), (qp, .inr (1, [.ref h0, .ref h1, .ref h2, .int (nI P.length)])), (h0, .inl (cI, 133, .inl f0)), (h1, .inl (cI, 133, .inl f1)), (h2, .inl (cI, 133, .inl f2)), (qu, .inr (0, [.ref gu, .int (nI U.length)])), (gu, .inl (cB, 603, .inl fu))]) u)) A) (vx_X (fun _ : Unit => B.length < ce_P P) (fun E _ t => E = "java/lang/IllegalStateException" ∧ va_P (dC, dI) vwCl [(w, .inr (2, [.ref qb, .ref qt, .ref qr, .ref qp, .ref qu, .ref qo])), (qb, .inr (0, [.ref gb, .int (nI B.length)])), (gb, .inl (cB, 603, .inl fb)), (qr, .inr (0, [.ref gr, .int (nI Z.length)])), (gr, .inl (cB, 603, .inl fr)), (qp, .inr (1, [.ref h0, .ref h1, .ref h2, .int (nI P.length)])), (h0, .inl (cI, 133, .inl f0)), (h1, .inl (cI, 133, .inl f1)), (h2, .inl (cI, 133, .inl f2)), (qu, .inr (0, [.ref gu, .int (nI U.length)])), (gu, .inl (cB, 603, .inl fu))] t.heap) A) ([.ref w] : List Value).toArray s 1 6 A) (F0 m 36 ls []) := by
      intro n
      induction n with
      | zero =>
        intro j f3 H locs ls hj hf3 hP hD hS hl
        have hj2 : P.take j = P := List.take_of_length_le (by omega)
        rw [hj2] at hf3 hP hD
        refine lv_iload_n hx hb dX2_go_36 rfl (lv_at hl 0 rfl) ?_
        refine lv_aload_n hx hb dX2_go_37 rfl (lv_at hl 1 rfl) ?_
        refine va_get (D := (dC, dI)) (ci := 2) (v := .ref qp) (C := RX2) (T := TX2) (N := 6) hx hb hts (by decide +kernel) hown hK hP 0 rfl rfl 3 (by decide) (hts (.fieldLink RX2 25 "PieceWays" "pieces" "LPieceWays$Pieces;") (by decide +kernel)) (fun _ h9 => h9) rfl dX2_go_38 ?_
        refine rd_V (wc := [(qp, .inr (1, [.ref h0, .ref h1, .ref h2, .int (nI P.length)]))]) (As := []) (rest := [.int (nI j)]) ⟨hx, hb, hml, hown, hts⟩ (c_Pc_number l dC dI cB cI cL qp h0 h1 h2 (nI P.length)) (cwV 0 hts gX2_go_X1_number rfl rfl rfl (by decide +kernel) ⟨(Nat.le_of_ble_eq_true rfl), (Nat.le_of_ble_eq_true rfl)⟩) hK hN (sb_P hP [5] rfl) 0 rfl rfl rfl rfl hl.1 rfl (Nat.le_of_ble_eq_true rfl) dX2_go_41 ⟨(Nat.le_of_ble_eq_true rfl), (Nat.le_of_ble_eq_true rfl)⟩ ?_
        refine lv_icmp_ge (tgt := 101) hx hb dX2_go_44 (by decide) (fun c1 => ?_) (fun c1 => ?_)
        · refine lv_aload_n hx hb dX2_go_101 rfl (lv_at hl 1 rfl) ?_
          refine va_get (D := (dC, dI)) (ci := 2) (v := .ref qr) (C := RX2) (T := TX2) (N := 6) hx hb hts (by decide +kernel) hown hK hP 0 rfl rfl 2 (by decide) (hts (.fieldLink RX2 19 "PieceWays" "result" "LPieceWays$Bytes;") (by decide +kernel)) (fun _ h9 => h9) rfl dX2_go_102 ?_
          refine rd_V (wc := [(qr, .inr (0, [.ref gr, .int (nI (go_R B U P).length)]))]) (As := []) (rest := []) ⟨hx, hb, hml, hown, hts⟩ (c_By_length l dC dI cB cI cL qr gr (nI (go_R B U P).length)) (cwV 0 hts gX2_go_X0_length rfl rfl rfl (by decide +kernel) ⟨(Nat.le_of_ble_eq_true rfl), (Nat.le_of_ble_eq_true rfl)⟩) hK hN (sb_P hP [3] rfl) 0 rfl rfl rfl rfl hl.1 rfl (Nat.le_of_ble_eq_true rfl) dX2_go_105 ⟨(Nat.le_of_ble_eq_true rfl), (Nat.le_of_ble_eq_true rfl)⟩ ?_
          exact gx_iret hx hb hr hlk (by omega) (by omega) f3 ⟨rfl, hc0, hf3⟩ hP hD hS dX2_go_108
        · exact absurd (nI_le (by omega) (by omega)) c1
      | succ n ih =>
        intro j f3 H locs ls hj hf3 hP hD hS hl
        obtain ⟨t, ht⟩ : ∃ t, P[j]? = some t := ⟨_, List.getElem?_eq_getElem (by omega)⟩
        have htm := List.mem_of_getElem? ht
        have hg := hk.2.2.1 t htm
        have hk6 := pk_1 hk htm
        have hs1 := sm_take P (j + 1)
        rw [sm_tk ht] at hs1
        have hs2 := go_len B U (P.take j)
        refine lv_iload_n hx hb dX2_go_36 rfl (lv_at hl 0 rfl) ?_
        refine lv_aload_n hx hb dX2_go_37 rfl (lv_at hl 1 rfl) ?_
        refine va_get (D := (dC, dI)) (ci := 2) (v := .ref qp) (C := RX2) (T := TX2) (N := 6) hx hb hts (by decide +kernel) hown hK hP 0 rfl rfl 3 (by decide) (hts (.fieldLink RX2 25 "PieceWays" "pieces" "LPieceWays$Pieces;") (by decide +kernel)) (fun _ h9 => h9) rfl dX2_go_38 ?_
        refine rd_V (wc := [(qp, .inr (1, [.ref h0, .ref h1, .ref h2, .int (nI P.length)]))]) (As := []) (rest := [.int (nI j)]) ⟨hx, hb, hml, hown, hts⟩ (c_Pc_number l dC dI cB cI cL qp h0 h1 h2 (nI P.length)) (cwV 0 hts gX2_go_X1_number rfl rfl rfl (by decide +kernel) ⟨(Nat.le_of_ble_eq_true rfl), (Nat.le_of_ble_eq_true rfl)⟩) hK hN (sb_P hP [5] rfl) 0 rfl rfl rfl rfl hl.1 rfl (Nat.le_of_ble_eq_true rfl) dX2_go_41 ⟨(Nat.le_of_ble_eq_true rfl), (Nat.le_of_ble_eq_true rfl)⟩ ?_
        refine lv_icmp_ge (tgt := 101) hx hb dX2_go_44 (by decide) (fun c1 => ?_) (fun c1 => ?_)
        · exact absurd c1 (nI_ge (by omega) (by omega))
        · refine lv_aload_n hx hb dX2_go_47 rfl (lv_at hl 1 rfl) ?_
          refine va_get (D := (dC, dI)) (ci := 2) (v := .ref qp) (C := RX2) (T := TX2) (N := 6) hx hb hts (by decide +kernel) hown hK hP 0 rfl rfl 3 (by decide) (hts (.fieldLink RX2 25 "PieceWays" "pieces" "LPieceWays$Pieces;") (by decide +kernel)) (fun _ h9 => h9) rfl dX2_go_48 ?_
          refine lv_iload_n hx hb dX2_go_51 rfl (lv_at hl 0 rfl) ?_
          refine rd_V (wc := [(qp, .inr (1, [.ref h0, .ref h1, .ref h2, .int (nI P.length)])), (h0, .inl (cI, 133, .inl f0))]) (As := [.int (nI j)]) (rest := []) ⟨hx, hb, hml, hown, hts⟩ (c_Pc_kind l dC dI cB cI cL qp h0 h1 h2 P f0 f1 f2 (nI j) hln.1 hpc) (cwV 1 hts gX2_go_X1_kind rfl rfl rfl (by decide +kernel) ⟨(Nat.le_of_ble_eq_true rfl), (Nat.le_of_ble_eq_true rfl)⟩) hK hN (sb_P hP [5, 6] rfl) 0 rfl rfl rfl rfl hl.1 rfl (Nat.le_of_ble_eq_true rfl) dX2_go_52 ⟨(Nat.le_of_ble_eq_true rfl), (Nat.le_of_ble_eq_true rfl)⟩ ?_
          rw [ps_in (g := fun t => t.1) ht (by omega)]
          refine lv_iconst (v := 1) hx hb dX2_go_55 (by decide) ?_
          refine lv_icmp_ne (tgt := 66) hx hb dX2_go_56 (by decide) (fun c2 => ?_) (fun c2 => ?_)
          · have k1 : ¬ t.1 = 1 := fun h9 => c2 (by rw [h9]; rfl)
            have hg2 : t.2.1 + t.2.2 ≤ U.length := by rcases hg with h9 | h9; exact absurd h9.1 k1; exact h9.2.2
            refine lv_aload_n hx hb dX2_go_66 rfl (lv_at hl 1 rfl) ?_
            refine va_get (D := (dC, dI)) (ci := 2) (v := .ref qu) (C := RX2) (T := TX2) (N := 6) hx hb hts (by decide +kernel) hown hK hP 0 rfl rfl 4 (by decide) (hts (.fieldLink RX2 29 "PieceWays" "targetThen" "LPieceWays$Bytes;") (by decide +kernel)) (fun _ h9 => h9) rfl dX2_go_67 ?_
            refine lv_astore_n (lv' := [(2, .ref qu), (1, .int (nI j)), (0, .ref w)]) hx hb dX2_go_70 rfl hl (by decide) rfl (fun ls hl => ?_)
            refine lv_aload_n hx hb dX2_go_71 rfl (lv_at hl 2 rfl) ?_
            refine va_get (D := (dC, dI)) (ci := 2) (v := .ref qr) (C := RX2) (T := TX2) (N := 6) hx hb hts (by decide +kernel) hown hK hP 0 rfl rfl 2 (by decide) (hts (.fieldLink RX2 19 "PieceWays" "result" "LPieceWays$Bytes;") (by decide +kernel)) (fun _ h9 => h9) rfl dX2_go_72 ?_
            refine lv_aload_n hx hb dX2_go_75 rfl (lv_at hl 0 rfl) ?_
            refine lv_aload_n hx hb dX2_go_76 rfl (lv_at hl 2 rfl) ?_
            refine va_get (D := (dC, dI)) (ci := 2) (v := .ref qp) (C := RX2) (T := TX2) (N := 6) hx hb hts (by decide +kernel) hown hK hP 0 rfl rfl 3 (by decide) (hts (.fieldLink RX2 25 "PieceWays" "pieces" "LPieceWays$Pieces;") (by decide +kernel)) (fun _ h9 => h9) rfl dX2_go_77 ?_
            refine lv_iload_n hx hb dX2_go_80 rfl (lv_at hl 1 rfl) ?_
            refine rd_V (wc := [(qp, .inr (1, [.ref h0, .ref h1, .ref h2, .int (nI P.length)])), (h1, .inl (cI, 133, .inl f1))]) (As := [.int (nI j)]) (rest := [.ref qu, .ref qr]) ⟨hx, hb, hml, hown, hts⟩ (c_Pc_begin l dC dI cB cI cL qp h0 h1 h2 P f0 f1 f2 (nI j) hln.1 hpc) (cwV 1 hts gX2_go_X1_begin rfl rfl rfl (by decide +kernel) ⟨(Nat.le_of_ble_eq_true rfl), (Nat.le_of_ble_eq_true rfl)⟩) hK hN (sb_P hP [5, 7] rfl) 0 rfl rfl rfl rfl hl.1 rfl (Nat.le_of_ble_eq_true rfl) dX2_go_81 ⟨(Nat.le_of_ble_eq_true rfl), (Nat.le_of_ble_eq_true rfl)⟩ ?_
            rw [ps_in (g := fun t => t.2.1) ht (by omega)]
            refine lv_aload_n hx hb dX2_go_84 rfl (lv_at hl 2 rfl) ?_
            refine va_get (D := (dC, dI)) (ci := 2) (v := .ref qp) (C := RX2) (T := TX2) (N := 6) hx hb hts (by decide +kernel) hown hK hP 0 rfl rfl 3 (by decide) (hts (.fieldLink RX2 25 "PieceWays" "pieces" "LPieceWays$Pieces;") (by decide +kernel)) (fun _ h9 => h9) rfl dX2_go_85 ?_
            refine lv_iload_n hx hb dX2_go_88 rfl (lv_at hl 1 rfl) ?_
            refine rd_V (wc := [(qp, .inr (1, [.ref h0, .ref h1, .ref h2, .int (nI P.length)])), (h2, .inl (cI, 133, .inl f2))]) (As := [.int (nI j)]) (rest := [.int (nI t.2.1), .ref qu, .ref qr]) ⟨hx, hb, hml, hown, hts⟩ (c_Pc_length l dC dI cB cI cL qp h0 h1 h2 P f0 f1 f2 (nI j) hln.1 hpc) (cwV 1 hts gX2_go_X1_length rfl rfl rfl (by decide +kernel) ⟨(Nat.le_of_ble_eq_true rfl), (Nat.le_of_ble_eq_true rfl)⟩) hK hN (sb_P hP [5, 8] rfl) 0 rfl rfl rfl rfl hl.1 rfl (Nat.le_of_ble_eq_true rfl) dX2_go_89 ⟨(Nat.le_of_ble_eq_true rfl), (Nat.le_of_ble_eq_true rfl)⟩ ?_
            rw [ps_in (g := fun t => t.2.2) ht (by omega)]
            refine wr_V (wc := [(qr, .inr (0, [.ref gr, .int (nI (go_R B U (P.take j)).length)])), (gr, .inl (cB, 603, .inl f3)), (qu, .inr (0, [.ref gu, .int (nI U.length)])), (gu, .inl (cB, 603, .inl fu))]) (wr := [(w, .inr (2, [.ref qb, .ref qt, .ref qr, .ref qp, .ref qu, .ref qo])), (qb, .inr (0, [.ref gb, .int (nI B.length)])), (gb, .inl (cB, 603, .inl fb)), (qp, .inr (1, [.ref h0, .ref h1, .ref h2, .int (nI P.length)])), (h0, .inl (cI, 133, .inl f0)), (h1, .inl (cI, 133, .inl f1)), (h2, .inl (cI, 133, .inl f2))]) (As := [.ref qu, .int (nI t.2.1), .int (nI t.2.2)]) (rest := []) ⟨hx, hb, hml, hown, hts⟩ (c_By_addFrom l dC dI cB cI cL qr gr qu gu (go_R B U (P.take j)) U f3 fu t.2.1 t.2.2 (by omega) hg2 (by omega) hf3 hfu) (cwV 3 hts gX2_go_X0_addFrom rfl rfl rfl (by decide +kernel) ⟨(Nat.le_of_ble_eq_true rfl), (Nat.le_of_ble_eq_true rfl)⟩) hK hN hP hD hS hA [3, 4, 9, 10] [0, 1, 2, 5, 6, 7, 8] rfl rfl (by decide) (by decide) (by decide) 0 rfl rfl rfl rfl hl.1 rfl (Nat.le_of_ble_eq_true rfl) dX2_go_92 ⟨(Nat.le_of_ble_eq_true rfl), (Nat.le_of_ble_eq_true rfl)⟩ (fun f4 H locs hf4 hP hD hS => ?_)
            have hP : va_P (dC, dI) vwCl [(w, .inr (2, [.ref qb, .ref qt, .ref qr, .ref qp, .ref qu, .ref qo])), (qb, .inr (0, [.ref gb, .int (nI B.length)])), (gb, .inl (cB, 603, .inl fb)), (qr, .inr (0, [.ref gr, .int (nI (go_R B U (P.take j) ++ (U.drop t.2.1).take t.2.2).length)])), (gr, .inl (cB, 603, .inl f4)), (qp, .inr (1, [.ref h0, .ref h1, .ref h2, .int (nI P.length)])), (h0, .inl (cI, 133, .inl f0)), (h1, .inl (cI, 133, .inl f1)), (h2, .inl (cI, 133, .inl f2)), (qu, .inr (0, [.ref gu, .int (nI U.length)])), (gu, .inl (cB, 603, .inl fu))] H := hP.sub [0, 1, 2, 7, 8, 3, 4, 5, 6, 9, 10] rfl
            have hD : va_D A [(w, .inr (2, [.ref qb, .ref qt, .ref qr, .ref qp, .ref qu, .ref qo])), (qb, .inr (0, [.ref gb, .int (nI B.length)])), (gb, .inl (cB, 603, .inl fb)), (qr, .inr (0, [.ref gr, .int (nI (go_R B U (P.take j) ++ (U.drop t.2.1).take t.2.2).length)])), (gr, .inl (cB, 603, .inl f4)), (qp, .inr (1, [.ref h0, .ref h1, .ref h2, .int (nI P.length)])), (h0, .inl (cI, 133, .inl f0)), (h1, .inl (cI, 133, .inl f1)), (h2, .inl (cI, 133, .inl f2)), (qu, .inr (0, [.ref gu, .int (nI U.length)])), (gu, .inl (cB, 603, .inl fu))] := hD.sub [0, 1, 2, 7, 8, 3, 4, 5, 6, 9, 10] (by decide) rfl
            have e5 : go_R B U (P.take j) ++ (U.drop t.2.1).take t.2.2 = go_R B U (P.take (j + 1)) := by rw [go_take ht, go_1, if_neg k1]
            rw [e5] at hf4 hP hD
            refine lv_iinc (v := ((nI j) + 1)) (lv' := [(1, .int ((nI j) + 1)), (2, .ref qu), (0, .ref w)]) hx hb dX2_go_95 hl (k := 1) rfl rfl (by decide) rfl (fun ls hl => ?_)
            refine lv_goto (tgt := 36) hx hb dX2_go_98 (by decide) ?_
            have h9 : lv_has ls 3 [(1, .int (nI j + 1)), (0, .ref w)] := lv_sub hl [0, 2] rfl
            rw [nI_1] at h9
            exact ih (j + 1) f4 H locs ls (by omega) hf4 hP hD hS h9
          · have k1 : t.1 = 1 := (nI_eq (by omega) (by omega)).mp c2
            have hg2 : t.2.1 + t.2.2 ≤ B.length := Nat.le_trans (ce_mem htm k1) hc0
            refine lv_aload_n hx hb dX2_go_59 rfl (lv_at hl 1 rfl) ?_
            refine va_get (D := (dC, dI)) (ci := 2) (v := .ref qb) (C := RX2) (T := TX2) (N := 6) hx hb hts (by decide +kernel) hown hK hP 0 rfl rfl 0 (by decide) (hts (.fieldLink RX2 10 "PieceWays" "base" "LPieceWays$Bytes;") (by decide +kernel)) (fun _ h9 => h9) rfl dX2_go_60 ?_
            refine lv_goto (tgt := 70) hx hb dX2_go_63 (by decide) ?_
            refine lv_astore_n (lv' := [(2, .ref qb), (1, .int (nI j)), (0, .ref w)]) hx hb dX2_go_70 rfl hl (by decide) rfl (fun ls hl => ?_)
            refine lv_aload_n hx hb dX2_go_71 rfl (lv_at hl 2 rfl) ?_
            refine va_get (D := (dC, dI)) (ci := 2) (v := .ref qr) (C := RX2) (T := TX2) (N := 6) hx hb hts (by decide +kernel) hown hK hP 0 rfl rfl 2 (by decide) (hts (.fieldLink RX2 19 "PieceWays" "result" "LPieceWays$Bytes;") (by decide +kernel)) (fun _ h9 => h9) rfl dX2_go_72 ?_
            refine lv_aload_n hx hb dX2_go_75 rfl (lv_at hl 0 rfl) ?_
            refine lv_aload_n hx hb dX2_go_76 rfl (lv_at hl 2 rfl) ?_
            refine va_get (D := (dC, dI)) (ci := 2) (v := .ref qp) (C := RX2) (T := TX2) (N := 6) hx hb hts (by decide +kernel) hown hK hP 0 rfl rfl 3 (by decide) (hts (.fieldLink RX2 25 "PieceWays" "pieces" "LPieceWays$Pieces;") (by decide +kernel)) (fun _ h9 => h9) rfl dX2_go_77 ?_
            refine lv_iload_n hx hb dX2_go_80 rfl (lv_at hl 1 rfl) ?_
            refine rd_V (wc := [(qp, .inr (1, [.ref h0, .ref h1, .ref h2, .int (nI P.length)])), (h1, .inl (cI, 133, .inl f1))]) (As := [.int (nI j)]) (rest := [.ref qb, .ref qr]) ⟨hx, hb, hml, hown, hts⟩ (c_Pc_begin l dC dI cB cI cL qp h0 h1 h2 P f0 f1 f2 (nI j) hln.1 hpc) (cwV 1 hts gX2_go_X1_begin rfl rfl rfl (by decide +kernel) ⟨(Nat.le_of_ble_eq_true rfl), (Nat.le_of_ble_eq_true rfl)⟩) hK hN (sb_P hP [5, 7] rfl) 0 rfl rfl rfl rfl hl.1 rfl (Nat.le_of_ble_eq_true rfl) dX2_go_81 ⟨(Nat.le_of_ble_eq_true rfl), (Nat.le_of_ble_eq_true rfl)⟩ ?_
            rw [ps_in (g := fun t => t.2.1) ht (by omega)]
            refine lv_aload_n hx hb dX2_go_84 rfl (lv_at hl 2 rfl) ?_
            refine va_get (D := (dC, dI)) (ci := 2) (v := .ref qp) (C := RX2) (T := TX2) (N := 6) hx hb hts (by decide +kernel) hown hK hP 0 rfl rfl 3 (by decide) (hts (.fieldLink RX2 25 "PieceWays" "pieces" "LPieceWays$Pieces;") (by decide +kernel)) (fun _ h9 => h9) rfl dX2_go_85 ?_
            refine lv_iload_n hx hb dX2_go_88 rfl (lv_at hl 1 rfl) ?_
            refine rd_V (wc := [(qp, .inr (1, [.ref h0, .ref h1, .ref h2, .int (nI P.length)])), (h2, .inl (cI, 133, .inl f2))]) (As := [.int (nI j)]) (rest := [.int (nI t.2.1), .ref qb, .ref qr]) ⟨hx, hb, hml, hown, hts⟩ (c_Pc_length l dC dI cB cI cL qp h0 h1 h2 P f0 f1 f2 (nI j) hln.1 hpc) (cwV 1 hts gX2_go_X1_length rfl rfl rfl (by decide +kernel) ⟨(Nat.le_of_ble_eq_true rfl), (Nat.le_of_ble_eq_true rfl)⟩) hK hN (sb_P hP [5, 8] rfl) 0 rfl rfl rfl rfl hl.1 rfl (Nat.le_of_ble_eq_true rfl) dX2_go_89 ⟨(Nat.le_of_ble_eq_true rfl), (Nat.le_of_ble_eq_true rfl)⟩ ?_
            rw [ps_in (g := fun t => t.2.2) ht (by omega)]
            refine wr_V (wc := [(qr, .inr (0, [.ref gr, .int (nI (go_R B U (P.take j)).length)])), (gr, .inl (cB, 603, .inl f3)), (qb, .inr (0, [.ref gb, .int (nI B.length)])), (gb, .inl (cB, 603, .inl fb))]) (wr := [(w, .inr (2, [.ref qb, .ref qt, .ref qr, .ref qp, .ref qu, .ref qo])), (qp, .inr (1, [.ref h0, .ref h1, .ref h2, .int (nI P.length)])), (h0, .inl (cI, 133, .inl f0)), (h1, .inl (cI, 133, .inl f1)), (h2, .inl (cI, 133, .inl f2)), (qu, .inr (0, [.ref gu, .int (nI U.length)])), (gu, .inl (cB, 603, .inl fu))]) (As := [.ref qb, .int (nI t.2.1), .int (nI t.2.2)]) (rest := []) ⟨hx, hb, hml, hown, hts⟩ (c_By_addFrom l dC dI cB cI cL qr gr qb gb (go_R B U (P.take j)) B f3 fb t.2.1 t.2.2 (by omega) hg2 (by omega) hf3 hfb) (cwV 3 hts gX2_go_X0_addFrom rfl rfl rfl (by decide +kernel) ⟨(Nat.le_of_ble_eq_true rfl), (Nat.le_of_ble_eq_true rfl)⟩) hK hN hP hD hS hA [3, 4, 1, 2] [0, 5, 6, 7, 8, 9, 10] rfl rfl (by decide) (by decide) (by decide) 0 rfl rfl rfl rfl hl.1 rfl (Nat.le_of_ble_eq_true rfl) dX2_go_92 ⟨(Nat.le_of_ble_eq_true rfl), (Nat.le_of_ble_eq_true rfl)⟩ (fun f4 H locs hf4 hP hD hS => ?_)
            have hP : va_P (dC, dI) vwCl [(w, .inr (2, [.ref qb, .ref qt, .ref qr, .ref qp, .ref qu, .ref qo])), (qb, .inr (0, [.ref gb, .int (nI B.length)])), (gb, .inl (cB, 603, .inl fb)), (qr, .inr (0, [.ref gr, .int (nI (go_R B U (P.take j) ++ (B.drop t.2.1).take t.2.2).length)])), (gr, .inl (cB, 603, .inl f4)), (qp, .inr (1, [.ref h0, .ref h1, .ref h2, .int (nI P.length)])), (h0, .inl (cI, 133, .inl f0)), (h1, .inl (cI, 133, .inl f1)), (h2, .inl (cI, 133, .inl f2)), (qu, .inr (0, [.ref gu, .int (nI U.length)])), (gu, .inl (cB, 603, .inl fu))] H := hP.sub [0, 9, 10, 7, 8, 1, 2, 3, 4, 5, 6] rfl
            have hD : va_D A [(w, .inr (2, [.ref qb, .ref qt, .ref qr, .ref qp, .ref qu, .ref qo])), (qb, .inr (0, [.ref gb, .int (nI B.length)])), (gb, .inl (cB, 603, .inl fb)), (qr, .inr (0, [.ref gr, .int (nI (go_R B U (P.take j) ++ (B.drop t.2.1).take t.2.2).length)])), (gr, .inl (cB, 603, .inl f4)), (qp, .inr (1, [.ref h0, .ref h1, .ref h2, .int (nI P.length)])), (h0, .inl (cI, 133, .inl f0)), (h1, .inl (cI, 133, .inl f1)), (h2, .inl (cI, 133, .inl f2)), (qu, .inr (0, [.ref gu, .int (nI U.length)])), (gu, .inl (cB, 603, .inl fu))] := hD.sub [0, 9, 10, 7, 8, 1, 2, 3, 4, 5, 6] (by decide) rfl
            have e5 : go_R B U (P.take j) ++ (B.drop t.2.1).take t.2.2 = go_R B U (P.take (j + 1)) := by rw [go_take ht, go_1, if_pos k1]
            rw [e5] at hf4 hP hD
            refine lv_iinc (v := ((nI j) + 1)) (lv' := [(1, .int ((nI j) + 1)), (2, .ref qb), (0, .ref w)]) hx hb dX2_go_95 hl (k := 1) rfl rfl (by decide) rfl (fun ls hl => ?_)
            refine lv_goto (tgt := 36) hx hb dX2_go_98 (by decide) ?_
            have h9 : lv_has ls 3 [(1, .int (nI j + 1)), (0, .ref w)] := lv_sub hl [0, 2] rfl
            rw [nI_1] at h9
            exact ih (j + 1) f4 H locs ls (by omega) hf4 hP hD hS h9
    refine lv_aload_n hx hb dX2_go_27 rfl (lv_at hl 0 rfl) ?_
    refine va_get (D := (dC, dI)) (ci := 2) (v := .ref qr) (C := RX2) (T := TX2) (N := 6) hx hb hts (by decide +kernel) hown hK hP 0 rfl rfl 2 (by decide) (hts (.fieldLink RX2 19 "PieceWays" "result" "LPieceWays$Bytes;") (by decide +kernel)) (fun _ h9 => h9) rfl dX2_go_28 ?_
    refine wr_V (wc := [(qr, .inr (0, [.ref gr, .int (nI Z.length)]))]) (wr := [(w, .inr (2, [.ref qb, .ref qt, .ref qr, .ref qp, .ref qu, .ref qo])), (qb, .inr (0, [.ref gb, .int (nI B.length)])), (gb, .inl (cB, 603, .inl fb)), (gr, .inl (cB, 603, .inl fr)), (qp, .inr (1, [.ref h0, .ref h1, .ref h2, .int (nI P.length)])), (h0, .inl (cI, 133, .inl f0)), (h1, .inl (cI, 133, .inl f1)), (h2, .inl (cI, 133, .inl f2)), (qu, .inr (0, [.ref gu, .int (nI U.length)])), (gu, .inl (cB, 603, .inl fu))]) (As := []) (rest := []) ⟨hx, hb, hml, hown, hts⟩ (c_By_empty l dC dI cB cI cL qr gr (nI Z.length)) (cwV 0 hts gX2_go_X0_empty rfl rfl rfl (by decide +kernel) ⟨(Nat.le_of_ble_eq_true rfl), (Nat.le_of_ble_eq_true rfl)⟩) hK hN hP hD hS hA [3] [0, 1, 2, 4, 5, 6, 7, 8, 9, 10] rfl rfl (by decide) (by decide) (by decide) 0 rfl rfl rfl rfl hl.1 rfl (Nat.le_of_ble_eq_true rfl) dX2_go_31 ⟨(Nat.le_of_ble_eq_true rfl), (Nat.le_of_ble_eq_true rfl)⟩ (fun _u H locs _hu hP hD hS => ?_)
    have hP : va_P (dC, dI) vwCl [(w, .inr (2, [.ref qb, .ref qt, .ref qr, .ref qp, .ref qu, .ref qo])), (qb, .inr (0, [.ref gb, .int (nI B.length)])), (gb, .inl (cB, 603, .inl fb)), (qr, .inr (0, [.ref gr, .int (nI (go_R B U (P.take 0)).length)])), (gr, .inl (cB, 603, .inl fr)), (qp, .inr (1, [.ref h0, .ref h1, .ref h2, .int (nI P.length)])), (h0, .inl (cI, 133, .inl f0)), (h1, .inl (cI, 133, .inl f1)), (h2, .inl (cI, 133, .inl f2)), (qu, .inr (0, [.ref gu, .int (nI U.length)])), (gu, .inl (cB, 603, .inl fu))] H := hP.sub [0, 1, 2, 10, 3, 4, 5, 6, 7, 8, 9] rfl
    have hD : va_D A [(w, .inr (2, [.ref qb, .ref qt, .ref qr, .ref qp, .ref qu, .ref qo])), (qb, .inr (0, [.ref gb, .int (nI B.length)])), (gb, .inl (cB, 603, .inl fb)), (qr, .inr (0, [.ref gr, .int (nI (go_R B U (P.take 0)).length)])), (gr, .inl (cB, 603, .inl fr)), (qp, .inr (1, [.ref h0, .ref h1, .ref h2, .int (nI P.length)])), (h0, .inl (cI, 133, .inl f0)), (h1, .inl (cI, 133, .inl f1)), (h2, .inl (cI, 133, .inl f2)), (qu, .inr (0, [.ref gu, .int (nI U.length)])), (gu, .inl (cB, 603, .inl fu))] := hD.sub [0, 1, 2, 10, 3, 4, 5, 6, 7, 8, 9] (by decide) rfl
    refine lv_iconst (v := 0) hx hb dX2_go_34 (by decide) ?_
    refine lv_istore_n (lv' := [(1, .int 0), (0, .ref w)]) hx hb dX2_go_35 rfl hl (by decide) rfl (fun ls hl => ?_)
    exact loop P.length 0 fr H locs ls (by omega) (by_nil _) hP hD hS (lv_sub hl [0, 1] rfl)
  · have hc0 : B.length < ce_P P := by rcases Nat.lt_or_ge B.length (ce_P P) with h9 | h9; exact h9; exact absurd (nI_le h9 (by omega)) c0
    exact th_go l hst hx hb hown hts hX hS hl.1 hml hout hlk hP hc0
end PWGO
end
section
section PWBINIT
variable (l : Launch) (dC : Nat → ClassId) (dI : Nat → Nat → Nat) (cB cI cL : ClassId)

set_option maxHeartbeats 400000 in
set_option maxRecDepth 100000 in
/-- Bytes(): one array of 603 comes -/
theorem c_By_init (a : Nat) : wr_M l yX0_init wsX0_init ({ frames := 1, cells := 1, slots := 603, locals := 12 } : Room) (dC, dI) vwCl (tk_s cB cI cL) [.ref a] [(a, .inr (0, [.null, .int 0]))] 1 603 (fun _ : Nat => True) (fun h => [(a, .inr (0, [.ref h, .int (nI 0)])), (h, .inl (cB, 603, .inl (fun _ => 0)))]) := by
  refine wr_ofW (cc := cX0_init) (maxL := 1) (ret := none) (by decide) rfl (Nat.le_of_ble_eq_true rfl) ?_
  intro p e s m below meth c ls A hx hb hr hml hts hown hlk hnm hP hK hN hD hA hS hl
  have hl : lv_has ls 1 [(0, .ref a)] := hl
  refine lv_aload_n hx hb dX0_init_0 rfl (lv_at hl 0 rfl) ?_
  refine W.objInit hx hb hown (hts (.methodLink RX0 3 objectInit) (by decide +kernel)) (hts (.instanceMethod objectInit) (by decide +kernel)) (hts (.code objectInit ⟨#[0xb1]⟩ 1 none) (by decide +kernel)) rfl (by rw [hml]; exact hl.1) rfl dX0_init_1 (Nat.le_of_ble_eq_true rfl) (Nat.le_of_ble_eq_true rfl) ?_
  refine W.eq (g2 := F0 m 4 ls []) rfl ?_
  refine lv_aload_n hx hb dX0_init_4 rfl (lv_at hl 0 rfl) ?_
  refine lv_sipush (v := 603) hx hb dX0_init_5 (by decide) ?_
  rw [show (603 : Int32) = nI 603 by decide]
  refine na_new (atype := .byte) (ty := .byte) (a0 := (603, .inl (fun _ => 0))) (N' := 603) (nm := "[B") hx hb (hts (.arrayClass .byte) (by decide +kernel)) rfl hK hP hD hS hA 0 rfl (fun _ h9 => h9) (fun cA => vp_cell_i cA 603 (fun _ => 0)) (nI_pos (n := 603) (by omega)) (nI_clamp (n := 603) (by omega)) (by decide +kernel) (by decide +kernel) (by decide +kernel) dX0_init_8 (fun h H hP hD hS => ?_)
  have hP : va_P (dC, dI) vwCl [(a, .inr (0, [.null, .int 0])), (h, .inl (cB, 603, .inl ((fun _ => 0))))] H := hP
  have hD : va_D A [(a, .inr (0, [.null, .int 0])), (h, .inl (cB, 603, .inl ((fun _ => 0))))] := hD
  refine W.widen (k := 1) (n := 603) (by omega) (by omega) ?_
  refine va_putF (D := (dC, dI)) (ci := 0) (v := .ref h) (ty := (.array .byte)) (C := RX0) (T := TX0) (N := 2) hx hb hts (by decide +kernel) tyX0 tyX0_ok nmX0 hown hK hP hD hS 0 rfl rfl 0 (by decide) (hts (.fieldLink RX0 9 "PieceWays$Bytes" "held" "[B") (by decide +kernel)) (fun _ h9 => h9) rfl hnm rfl (by decide +kernel) rfl rfl (Nat.le_of_ble_eq_true rfl) dX0_init_10 (fun H locs hP hD hS => ?_)
  have hP : va_P (dC, dI) vwCl [(a, .inr (0, [.ref h, .int 0])), (h, .inl (cB, 603, .inl ((fun _ => 0))))] H := hP
  have hD : va_D A [(a, .inr (0, [.ref h, .int 0])), (h, .inl (cB, 603, .inl ((fun _ => 0))))] := hD
  refine lv_aload_n hx hb dX0_init_13 rfl (lv_at hl 0 rfl) ?_
  refine lv_iconst (v := 0) hx hb dX0_init_14 (by decide) ?_
  refine va_put (D := (dC, dI)) (ci := 0) (v := .int (nI 0)) (ty := .int) (C := RX0) (T := TX0) (N := 2) hx hb hts (by decide +kernel) tyX0 tyX0_ok nmX0 hown hK hP hD hS 0 rfl rfl 1 (by decide) (hts (.fieldLink RX0 15 "PieceWays$Bytes" "used" "I") (by decide +kernel)) (fun _ h9 => h9) rfl (by decide +kernel) rfl rfl (Nat.le_of_ble_eq_true rfl) dX0_init_15 (fun H locs hP hD hS => ?_)
  have hP : va_P (dC, dI) vwCl [(a, .inr (0, [.ref h, .int (nI 0)])), (h, .inl (cB, 603, .inl ((fun _ => 0))))] H := hP
  have hD : va_D A [(a, .inr (0, [.ref h, .int (nI 0)])), (h, .inl (cB, 603, .inl ((fun _ => 0))))] := hD
  exact wr_vret hx hb hr hlk h trivial hP hD hS dX0_init_18
end PWBINIT
end
section
section PWPINIT
variable (l : Launch) (dC : Nat → ClassId) (dI : Nat → Nat → Nat) (cB cI cL : ClassId)

set_option maxHeartbeats 400000 in
set_option maxRecDepth 100000 in
/-- Pieces(): three arrays of 133 come -/
theorem c_Pc_init (a : Nat) : wr_M l yX1_init wsX1_init ({ frames := 1, cells := 3, slots := 399, locals := 12 } : Room) (dC, dI) vwCl (tk_s cB cI cL) [.ref a] [(a, .inr (1, [.null, .null, .null, .int 0]))] 3 399 (fun _ : Nat × Nat × Nat => True) (fun z => [(a, .inr (1, [.ref z.1, .ref z.2.1, .ref z.2.2, .int (nI 0)])), (z.1, .inl (cI, 133, .inl (fun _ => 0))), (z.2.1, .inl (cI, 133, .inl (fun _ => 0))), (z.2.2, .inl (cI, 133, .inl (fun _ => 0)))]) := by
  refine wr_ofW (cc := cX1_init) (maxL := 1) (ret := none) (by decide) rfl (Nat.le_of_ble_eq_true rfl) ?_
  intro p e s m below meth c ls A hx hb hr hml hts hown hlk hnm hP hK hN hD hA hS hl
  have hl : lv_has ls 1 [(0, .ref a)] := hl
  refine lv_aload_n hx hb dX1_init_0 rfl (lv_at hl 0 rfl) ?_
  refine W.objInit hx hb hown (hts (.methodLink RX1 3 objectInit) (by decide +kernel)) (hts (.instanceMethod objectInit) (by decide +kernel)) (hts (.code objectInit ⟨#[0xb1]⟩ 1 none) (by decide +kernel)) rfl (by rw [hml]; exact hl.1) rfl dX1_init_1 (Nat.le_of_ble_eq_true rfl) (Nat.le_of_ble_eq_true rfl) ?_
  refine W.eq (g2 := F0 m 4 ls []) rfl ?_
  refine lv_aload_n hx hb dX1_init_4 rfl (lv_at hl 0 rfl) ?_
  refine lv_sipush (v := 133) hx hb dX1_init_5 (by decide) ?_
  rw [show (133 : Int32) = nI 133 by decide]
  refine na_new (atype := .int) (ty := .int) (a0 := (133, .inl (fun _ => 0))) (N' := 133) (nm := "[I") hx hb (hts (.arrayClass .int) (by decide +kernel)) rfl hK hP hD hS hA 1 rfl (fun _ h9 => h9) (fun cA => vp_cell_i cA 133 (fun _ => 0)) (nI_pos (n := 133) (by omega)) (nI_clamp (n := 133) (by omega)) (by decide +kernel) (by decide +kernel) (by decide +kernel) dX1_init_8 (fun h0 H hP hD hS => ?_)
  have hP : va_P (dC, dI) vwCl [(a, .inr (1, [.null, .null, .null, .int 0])), (h0, .inl (cI, 133, .inl ((fun _ => 0))))] H := hP
  have hD : va_D A [(a, .inr (1, [.null, .null, .null, .int 0])), (h0, .inl (cI, 133, .inl ((fun _ => 0))))] := hD
  refine W.widen (k := 1) (n := 133) (by omega) (by omega) ?_
  refine va_putF (D := (dC, dI)) (ci := 1) (v := .ref h0) (ty := (.array .int)) (C := RX1) (T := TX1) (N := 4) hx hb hts (by decide +kernel) tyX1 tyX1_ok nmX1 hown hK hP hD hS 0 rfl rfl 0 (by decide) (hts (.fieldLink RX1 9 "PieceWays$Pieces" "kinds" "[I") (by decide +kernel)) (fun _ h9 => h9) rfl hnm rfl (by decide +kernel) rfl rfl (Nat.le_of_ble_eq_true rfl) dX1_init_10 (fun H locs hP hD hS => ?_)
  have hP : va_P (dC, dI) vwCl [(a, .inr (1, [.ref h0, .null, .null, .int 0])), (h0, .inl (cI, 133, .inl ((fun _ => 0))))] H := hP
  have hD : va_D A [(a, .inr (1, [.ref h0, .null, .null, .int 0])), (h0, .inl (cI, 133, .inl ((fun _ => 0))))] := hD
  refine lv_aload_n hx hb dX1_init_13 rfl (lv_at hl 0 rfl) ?_
  refine lv_sipush (v := 133) hx hb dX1_init_14 (by decide) ?_
  rw [show (133 : Int32) = nI 133 by decide]
  refine na_new (atype := .int) (ty := .int) (a0 := (133, .inl (fun _ => 0))) (N' := 133) (nm := "[I") hx hb (hts (.arrayClass .int) (by decide +kernel)) rfl hK hP hD hS hA 1 rfl (fun _ h9 => h9) (fun cA => vp_cell_i cA 133 (fun _ => 0)) (nI_pos (n := 133) (by omega)) (nI_clamp (n := 133) (by omega)) (by decide +kernel) (by decide +kernel) (by decide +kernel) dX1_init_17 (fun h1 H hP hD hS => ?_)
  have hP : va_P (dC, dI) vwCl [(a, .inr (1, [.ref h0, .null, .null, .int 0])), (h0, .inl (cI, 133, .inl ((fun _ => 0)))), (h1, .inl (cI, 133, .inl ((fun _ => 0))))] H := hP
  have hD : va_D A [(a, .inr (1, [.ref h0, .null, .null, .int 0])), (h0, .inl (cI, 133, .inl ((fun _ => 0)))), (h1, .inl (cI, 133, .inl ((fun _ => 0))))] := hD
  refine W.widen (k := 2) (n := 266) (by omega) (by omega) ?_
  refine va_putF (D := (dC, dI)) (ci := 1) (v := .ref h1) (ty := (.array .int)) (C := RX1) (T := TX1) (N := 4) hx hb hts (by decide +kernel) tyX1 tyX1_ok nmX1 hown hK hP hD hS 0 rfl rfl 1 (by decide) (hts (.fieldLink RX1 15 "PieceWays$Pieces" "begins" "[I") (by decide +kernel)) (fun _ h9 => h9) rfl hnm rfl (by decide +kernel) rfl rfl (Nat.le_of_ble_eq_true rfl) dX1_init_19 (fun H locs hP hD hS => ?_)
  have hP : va_P (dC, dI) vwCl [(a, .inr (1, [.ref h0, .ref h1, .null, .int 0])), (h0, .inl (cI, 133, .inl ((fun _ => 0)))), (h1, .inl (cI, 133, .inl ((fun _ => 0))))] H := hP
  have hD : va_D A [(a, .inr (1, [.ref h0, .ref h1, .null, .int 0])), (h0, .inl (cI, 133, .inl ((fun _ => 0)))), (h1, .inl (cI, 133, .inl ((fun _ => 0))))] := hD
  refine lv_aload_n hx hb dX1_init_22 rfl (lv_at hl 0 rfl) ?_
  refine lv_sipush (v := 133) hx hb dX1_init_23 (by decide) ?_
  rw [show (133 : Int32) = nI 133 by decide]
  refine na_new (atype := .int) (ty := .int) (a0 := (133, .inl (fun _ => 0))) (N' := 133) (nm := "[I") hx hb (hts (.arrayClass .int) (by decide +kernel)) rfl hK hP hD hS hA 1 rfl (fun _ h9 => h9) (fun cA => vp_cell_i cA 133 (fun _ => 0)) (nI_pos (n := 133) (by omega)) (nI_clamp (n := 133) (by omega)) (by decide +kernel) (by decide +kernel) (by decide +kernel) dX1_init_26 (fun h2 H hP hD hS => ?_)
  have hP : va_P (dC, dI) vwCl [(a, .inr (1, [.ref h0, .ref h1, .null, .int 0])), (h0, .inl (cI, 133, .inl ((fun _ => 0)))), (h1, .inl (cI, 133, .inl ((fun _ => 0)))), (h2, .inl (cI, 133, .inl ((fun _ => 0))))] H := hP
  have hD : va_D A [(a, .inr (1, [.ref h0, .ref h1, .null, .int 0])), (h0, .inl (cI, 133, .inl ((fun _ => 0)))), (h1, .inl (cI, 133, .inl ((fun _ => 0)))), (h2, .inl (cI, 133, .inl ((fun _ => 0))))] := hD
  refine W.widen (k := 3) (n := 399) (by omega) (by omega) ?_
  refine va_putF (D := (dC, dI)) (ci := 1) (v := .ref h2) (ty := (.array .int)) (C := RX1) (T := TX1) (N := 4) hx hb hts (by decide +kernel) tyX1 tyX1_ok nmX1 hown hK hP hD hS 0 rfl rfl 2 (by decide) (hts (.fieldLink RX1 18 "PieceWays$Pieces" "lengths" "[I") (by decide +kernel)) (fun _ h9 => h9) rfl hnm rfl (by decide +kernel) rfl rfl (Nat.le_of_ble_eq_true rfl) dX1_init_28 (fun H locs hP hD hS => ?_)
  have hP : va_P (dC, dI) vwCl [(a, .inr (1, [.ref h0, .ref h1, .ref h2, .int 0])), (h0, .inl (cI, 133, .inl ((fun _ => 0)))), (h1, .inl (cI, 133, .inl ((fun _ => 0)))), (h2, .inl (cI, 133, .inl ((fun _ => 0))))] H := hP
  have hD : va_D A [(a, .inr (1, [.ref h0, .ref h1, .ref h2, .int 0])), (h0, .inl (cI, 133, .inl ((fun _ => 0)))), (h1, .inl (cI, 133, .inl ((fun _ => 0)))), (h2, .inl (cI, 133, .inl ((fun _ => 0))))] := hD
  refine lv_aload_n hx hb dX1_init_31 rfl (lv_at hl 0 rfl) ?_
  refine lv_iconst (v := 0) hx hb dX1_init_32 (by decide) ?_
  refine va_put (D := (dC, dI)) (ci := 1) (v := .int (nI 0)) (ty := .int) (C := RX1) (T := TX1) (N := 4) hx hb hts (by decide +kernel) tyX1 tyX1_ok nmX1 hown hK hP hD hS 0 rfl rfl 3 (by decide) (hts (.fieldLink RX1 21 "PieceWays$Pieces" "used" "I") (by decide +kernel)) (fun _ h9 => h9) rfl (by decide +kernel) rfl rfl (Nat.le_of_ble_eq_true rfl) dX1_init_33 (fun H locs hP hD hS => ?_)
  have hP : va_P (dC, dI) vwCl [(a, .inr (1, [.ref h0, .ref h1, .ref h2, .int (nI 0)])), (h0, .inl (cI, 133, .inl ((fun _ => 0)))), (h1, .inl (cI, 133, .inl ((fun _ => 0)))), (h2, .inl (cI, 133, .inl ((fun _ => 0))))] H := hP
  have hD : va_D A [(a, .inr (1, [.ref h0, .ref h1, .ref h2, .int (nI 0)])), (h0, .inl (cI, 133, .inl ((fun _ => 0)))), (h1, .inl (cI, 133, .inl ((fun _ => 0)))), (h2, .inl (cI, 133, .inl ((fun _ => 0))))] := hD
  exact wr_vret hx hb hr hlk (h0, h1, h2) trivial hP hD hS dX1_init_36
end PWPINIT
end
section
section PWINIT
variable (l : Launch) (dC : Nat → ClassId) (dI : Nat → Nat → Nat) (cB cI cL : ClassId)

set_option maxHeartbeats 800000 in
set_option maxRecDepth 100000 in
/-- PieceWays() -/
theorem c_Pw_init (w : Nat) : wr_M l yX2_init wsX2_init ({ frames := 2, cells := 14, slots := 3428, locals := 32 } : Room) (dC, dI) vwCl (tk_s cB cI cL) [.ref w] [(w, .inr (2, [.null, .null, .null, .null, .null, .null]))] 14 3428 (fun _ : Nat × Nat × Nat × Nat × Nat × Nat × Nat × Nat × Nat × Nat × Nat × Nat × Nat × Nat => True) (fun z => [(w, .inr (2, [.ref z.1, .ref z.2.2.1, .ref z.2.2.2.2.1, .ref z.2.2.2.2.2.2.1, .ref z.2.2.2.2.2.2.2.2.2.2.1, .ref z.2.2.2.2.2.2.2.2.2.2.2.2.1])), (z.1, .inr (0, [.ref z.2.1, .int (nI (([] : List Int32)).length)])), (z.2.1, .inl (cB, 603, .inl ((fun _ => 0)))), (z.2.2.1, .inr (0, [.ref z.2.2.2.1, .int (nI (([] : List Int32)).length)])), (z.2.2.2.1, .inl (cB, 603, .inl ((fun _ => 0)))), (z.2.2.2.2.1, .inr (0, [.ref z.2.2.2.2.2.1, .int (nI (([] : List Int32)).length)])), (z.2.2.2.2.2.1, .inl (cB, 603, .inl ((fun _ => 0)))), (z.2.2.2.2.2.2.1, .inr (1, [.ref z.2.2.2.2.2.2.2.1, .ref z.2.2.2.2.2.2.2.2.1, .ref z.2.2.2.2.2.2.2.2.2.1, .int (nI (([] : List (Nat × Nat × Nat))).length)])), (z.2.2.2.2.2.2.2.1, .inl (cI, 133, .inl ((fun _ => 0)))), (z.2.2.2.2.2.2.2.2.1, .inl (cI, 133, .inl ((fun _ => 0)))), (z.2.2.2.2.2.2.2.2.2.1, .inl (cI, 133, .inl ((fun _ => 0)))), (z.2.2.2.2.2.2.2.2.2.2.1, .inr (0, [.ref z.2.2.2.2.2.2.2.2.2.2.2.1, .int (nI (([] : List Int32)).length)])), (z.2.2.2.2.2.2.2.2.2.2.2.1, .inl (cB, 603, .inl ((fun _ => 0)))), (z.2.2.2.2.2.2.2.2.2.2.2.2.1, .inr (0, [.ref z.2.2.2.2.2.2.2.2.2.2.2.2.2, .int (nI (([] : List Int32)).length)])), (z.2.2.2.2.2.2.2.2.2.2.2.2.2, .inl (cB, 603, .inl ((fun _ => 0))))]) := by
  refine wr_ofW (cc := cX2_init) (maxL := 1) (ret := none) (by decide) rfl (Nat.le_of_ble_eq_true rfl) ?_
  intro p e s m below meth c ls A hx hb hr hml hts hown hlk hnm hP hK hN hD hA hS hl
  have hl : lv_has ls 1 [(0, .ref w)] := hl
  refine lv_aload_n hx hb dX2_init_0 rfl (lv_at hl 0 rfl) ?_
  refine W.objInit hx hb hown (hts (.methodLink RX2 1 objectInit) (by decide +kernel)) (hts (.instanceMethod objectInit) (by decide +kernel)) (hts (.code objectInit ⟨#[0xb1]⟩ 1 none) (by decide +kernel)) rfl (by rw [hml]; exact hl.1) rfl dX2_init_1 (Nat.le_of_ble_eq_true rfl) (Nat.le_of_ble_eq_true rfl) ?_
  refine W.eq (g2 := F0 m 4 ls []) rfl ?_
  refine lv_aload_n hx hb dX2_init_4 rfl (lv_at hl 0 rfl) ?_
  refine va_new (ci := 0) (fs := [.null, .int 0]) (C := RX0) (T := TX0) (N := 2) hx hb hts (by decide +kernel) tyX0 tyX0_ok hown (hts (.classLink RX2 7 RX0) (by decide +kernel)) (hts (.instantiable RX0 2) (by decide +kernel)) (hts (.initialized RX0) (by decide +kernel)) hK hP hD hS hA rfl (fun j hj => by rcases (show j = 0 ∨ j = 1 by omega) with rfl | rfl <;> rfl) (Nat.le_of_ble_eq_true rfl) (Nat.le_of_ble_eq_true rfl) dX2_init_5 (fun qb H hP hD hS => ?_)
  have hP : va_P (dC, dI) vwCl [(w, .inr (2, [.null, .null, .null, .null, .null, .null])), (qb, .inr (0, [.null, .int 0]))] H := hP
  have hD : va_D A [(w, .inr (2, [.null, .null, .null, .null, .null, .null])), (qb, .inr (0, [.null, .int 0]))] := hD
  refine W.widen (k := 1) (n := 2) (by omega) (by omega) ?_
  refine lv_dup hx hb dX2_init_8 rfl ?_
  refine wr_IN (wc := [(qb, .inr (0, [.null, .int 0]))]) (wr := [(w, .inr (2, [.null, .null, .null, .null, .null, .null]))]) (As := []) (rest := [.ref qb, .ref w]) ⟨hx, hb, hml, hown, hts⟩ (c_By_init l dC dI cB cI cL qb) ⟨va_cnB 0 hts ggX2_init_X0_init rfl rfl rfl hN.1 (hts (.initialized RX0) (by decide +kernel)) (by decide +kernel) ⟨(Nat.le_of_ble_eq_true rfl), (Nat.le_of_ble_eq_true rfl)⟩, rfl, hts (.instanceMethod yX0_init) (by decide +kernel)⟩ hK hN hP hD hS hA [1] [0] rfl rfl (by decide) (by decide) (by decide) rfl hl.1 rfl (Nat.le_of_ble_eq_true rfl) dX2_init_9 ⟨(Nat.le_of_ble_eq_true rfl), (Nat.le_of_ble_eq_true rfl)⟩ (fun gb H locs _hu hP hD hS => ?_)
  have hP : va_P (dC, dI) vwCl [(w, .inr (2, [.null, .null, .null, .null, .null, .null])), (qb, .inr (0, [.ref gb, .int (nI 0)])), (gb, .inl (cB, 603, .inl ((fun _ => 0))))] H := hP.sub [0, 1, 2] rfl
  have hD : va_D A [(w, .inr (2, [.null, .null, .null, .null, .null, .null])), (qb, .inr (0, [.ref gb, .int (nI 0)])), (gb, .inl (cB, 603, .inl ((fun _ => 0))))] := hD.sub [0, 1, 2] (by decide) rfl
  refine W.widen (k := 2) (n := 605) (by omega) (by omega) ?_
  refine va_putF (D := (dC, dI)) (ci := 2) (v := .ref qb) (ty := (.object "PieceWays$Bytes")) (C := RX2) (T := TX2) (N := 6) hx hb hts (by decide +kernel) tyX2 tyX2_ok nmX2 hown hK hP hD hS 0 rfl rfl 0 (by decide) (hts (.fieldLink RX2 10 "PieceWays" "base" "LPieceWays$Bytes;") (by decide +kernel)) (fun _ h9 => h9) rfl hnm rfl (by decide +kernel) rfl rfl (Nat.le_of_ble_eq_true rfl) dX2_init_12 (fun H locs hP hD hS => ?_)
  have hP : va_P (dC, dI) vwCl [(w, .inr (2, [.ref qb, .null, .null, .null, .null, .null])), (qb, .inr (0, [.ref gb, .int (nI 0)])), (gb, .inl (cB, 603, .inl ((fun _ => 0))))] H := hP
  have hD : va_D A [(w, .inr (2, [.ref qb, .null, .null, .null, .null, .null])), (qb, .inr (0, [.ref gb, .int (nI 0)])), (gb, .inl (cB, 603, .inl ((fun _ => 0))))] := hD
  refine lv_aload_n hx hb dX2_init_15 rfl (lv_at hl 0 rfl) ?_
  refine va_new (ci := 0) (fs := [.null, .int 0]) (C := RX0) (T := TX0) (N := 2) hx hb hts (by decide +kernel) tyX0 tyX0_ok hown (hts (.classLink RX2 7 RX0) (by decide +kernel)) (hts (.instantiable RX0 2) (by decide +kernel)) (hts (.initialized RX0) (by decide +kernel)) hK hP hD hS hA rfl (fun j hj => by rcases (show j = 0 ∨ j = 1 by omega) with rfl | rfl <;> rfl) (Nat.le_of_ble_eq_true rfl) (Nat.le_of_ble_eq_true rfl) dX2_init_16 (fun qt H hP hD hS => ?_)
  have hP : va_P (dC, dI) vwCl [(w, .inr (2, [.ref qb, .null, .null, .null, .null, .null])), (qb, .inr (0, [.ref gb, .int (nI 0)])), (gb, .inl (cB, 603, .inl ((fun _ => 0)))), (qt, .inr (0, [.null, .int 0]))] H := hP
  have hD : va_D A [(w, .inr (2, [.ref qb, .null, .null, .null, .null, .null])), (qb, .inr (0, [.ref gb, .int (nI 0)])), (gb, .inl (cB, 603, .inl ((fun _ => 0)))), (qt, .inr (0, [.null, .int 0]))] := hD
  refine W.widen (k := 3) (n := 607) (by omega) (by omega) ?_
  refine lv_dup hx hb dX2_init_19 rfl ?_
  refine wr_IN (wc := [(qt, .inr (0, [.null, .int 0]))]) (wr := [(w, .inr (2, [.ref qb, .null, .null, .null, .null, .null])), (qb, .inr (0, [.ref gb, .int (nI 0)])), (gb, .inl (cB, 603, .inl ((fun _ => 0))))]) (As := []) (rest := [.ref qt, .ref w]) ⟨hx, hb, hml, hown, hts⟩ (c_By_init l dC dI cB cI cL qt) ⟨va_cnB 0 hts ggX2_init_X0_init rfl rfl rfl hN.1 (hts (.initialized RX0) (by decide +kernel)) (by decide +kernel) ⟨(Nat.le_of_ble_eq_true rfl), (Nat.le_of_ble_eq_true rfl)⟩, rfl, hts (.instanceMethod yX0_init) (by decide +kernel)⟩ hK hN hP hD hS hA [3] [0, 1, 2] rfl rfl (by decide) (by decide) (by decide) rfl hl.1 rfl (Nat.le_of_ble_eq_true rfl) dX2_init_20 ⟨(Nat.le_of_ble_eq_true rfl), (Nat.le_of_ble_eq_true rfl)⟩ (fun gt H locs _hu hP hD hS => ?_)
  have hP : va_P (dC, dI) vwCl [(w, .inr (2, [.ref qb, .null, .null, .null, .null, .null])), (qb, .inr (0, [.ref gb, .int (nI 0)])), (gb, .inl (cB, 603, .inl ((fun _ => 0)))), (qt, .inr (0, [.ref gt, .int (nI 0)])), (gt, .inl (cB, 603, .inl ((fun _ => 0))))] H := hP.sub [0, 1, 2, 3, 4] rfl
  have hD : va_D A [(w, .inr (2, [.ref qb, .null, .null, .null, .null, .null])), (qb, .inr (0, [.ref gb, .int (nI 0)])), (gb, .inl (cB, 603, .inl ((fun _ => 0)))), (qt, .inr (0, [.ref gt, .int (nI 0)])), (gt, .inl (cB, 603, .inl ((fun _ => 0))))] := hD.sub [0, 1, 2, 3, 4] (by decide) rfl
  refine W.widen (k := 4) (n := 1210) (by omega) (by omega) ?_
  refine va_putF (D := (dC, dI)) (ci := 2) (v := .ref qt) (ty := (.object "PieceWays$Bytes")) (C := RX2) (T := TX2) (N := 6) hx hb hts (by decide +kernel) tyX2 tyX2_ok nmX2 hown hK hP hD hS 0 rfl rfl 1 (by decide) (hts (.fieldLink RX2 16 "PieceWays" "target" "LPieceWays$Bytes;") (by decide +kernel)) (fun _ h9 => h9) rfl hnm rfl (by decide +kernel) rfl rfl (Nat.le_of_ble_eq_true rfl) dX2_init_23 (fun H locs hP hD hS => ?_)
  have hP : va_P (dC, dI) vwCl [(w, .inr (2, [.ref qb, .ref qt, .null, .null, .null, .null])), (qb, .inr (0, [.ref gb, .int (nI 0)])), (gb, .inl (cB, 603, .inl ((fun _ => 0)))), (qt, .inr (0, [.ref gt, .int (nI 0)])), (gt, .inl (cB, 603, .inl ((fun _ => 0))))] H := hP
  have hD : va_D A [(w, .inr (2, [.ref qb, .ref qt, .null, .null, .null, .null])), (qb, .inr (0, [.ref gb, .int (nI 0)])), (gb, .inl (cB, 603, .inl ((fun _ => 0)))), (qt, .inr (0, [.ref gt, .int (nI 0)])), (gt, .inl (cB, 603, .inl ((fun _ => 0))))] := hD
  refine lv_aload_n hx hb dX2_init_26 rfl (lv_at hl 0 rfl) ?_
  refine va_new (ci := 0) (fs := [.null, .int 0]) (C := RX0) (T := TX0) (N := 2) hx hb hts (by decide +kernel) tyX0 tyX0_ok hown (hts (.classLink RX2 7 RX0) (by decide +kernel)) (hts (.instantiable RX0 2) (by decide +kernel)) (hts (.initialized RX0) (by decide +kernel)) hK hP hD hS hA rfl (fun j hj => by rcases (show j = 0 ∨ j = 1 by omega) with rfl | rfl <;> rfl) (Nat.le_of_ble_eq_true rfl) (Nat.le_of_ble_eq_true rfl) dX2_init_27 (fun qr H hP hD hS => ?_)
  have hP : va_P (dC, dI) vwCl [(w, .inr (2, [.ref qb, .ref qt, .null, .null, .null, .null])), (qb, .inr (0, [.ref gb, .int (nI 0)])), (gb, .inl (cB, 603, .inl ((fun _ => 0)))), (qt, .inr (0, [.ref gt, .int (nI 0)])), (gt, .inl (cB, 603, .inl ((fun _ => 0)))), (qr, .inr (0, [.null, .int 0]))] H := hP
  have hD : va_D A [(w, .inr (2, [.ref qb, .ref qt, .null, .null, .null, .null])), (qb, .inr (0, [.ref gb, .int (nI 0)])), (gb, .inl (cB, 603, .inl ((fun _ => 0)))), (qt, .inr (0, [.ref gt, .int (nI 0)])), (gt, .inl (cB, 603, .inl ((fun _ => 0)))), (qr, .inr (0, [.null, .int 0]))] := hD
  refine W.widen (k := 5) (n := 1212) (by omega) (by omega) ?_
  refine lv_dup hx hb dX2_init_30 rfl ?_
  refine wr_IN (wc := [(qr, .inr (0, [.null, .int 0]))]) (wr := [(w, .inr (2, [.ref qb, .ref qt, .null, .null, .null, .null])), (qb, .inr (0, [.ref gb, .int (nI 0)])), (gb, .inl (cB, 603, .inl ((fun _ => 0)))), (qt, .inr (0, [.ref gt, .int (nI 0)])), (gt, .inl (cB, 603, .inl ((fun _ => 0))))]) (As := []) (rest := [.ref qr, .ref w]) ⟨hx, hb, hml, hown, hts⟩ (c_By_init l dC dI cB cI cL qr) ⟨va_cnB 0 hts ggX2_init_X0_init rfl rfl rfl hN.1 (hts (.initialized RX0) (by decide +kernel)) (by decide +kernel) ⟨(Nat.le_of_ble_eq_true rfl), (Nat.le_of_ble_eq_true rfl)⟩, rfl, hts (.instanceMethod yX0_init) (by decide +kernel)⟩ hK hN hP hD hS hA [5] [0, 1, 2, 3, 4] rfl rfl (by decide) (by decide) (by decide) rfl hl.1 rfl (Nat.le_of_ble_eq_true rfl) dX2_init_31 ⟨(Nat.le_of_ble_eq_true rfl), (Nat.le_of_ble_eq_true rfl)⟩ (fun gr H locs _hu hP hD hS => ?_)
  have hP : va_P (dC, dI) vwCl [(w, .inr (2, [.ref qb, .ref qt, .null, .null, .null, .null])), (qb, .inr (0, [.ref gb, .int (nI 0)])), (gb, .inl (cB, 603, .inl ((fun _ => 0)))), (qt, .inr (0, [.ref gt, .int (nI 0)])), (gt, .inl (cB, 603, .inl ((fun _ => 0)))), (qr, .inr (0, [.ref gr, .int (nI 0)])), (gr, .inl (cB, 603, .inl ((fun _ => 0))))] H := hP.sub [0, 1, 2, 3, 4, 5, 6] rfl
  have hD : va_D A [(w, .inr (2, [.ref qb, .ref qt, .null, .null, .null, .null])), (qb, .inr (0, [.ref gb, .int (nI 0)])), (gb, .inl (cB, 603, .inl ((fun _ => 0)))), (qt, .inr (0, [.ref gt, .int (nI 0)])), (gt, .inl (cB, 603, .inl ((fun _ => 0)))), (qr, .inr (0, [.ref gr, .int (nI 0)])), (gr, .inl (cB, 603, .inl ((fun _ => 0))))] := hD.sub [0, 1, 2, 3, 4, 5, 6] (by decide) rfl
  refine W.widen (k := 6) (n := 1815) (by omega) (by omega) ?_
  refine va_putF (D := (dC, dI)) (ci := 2) (v := .ref qr) (ty := (.object "PieceWays$Bytes")) (C := RX2) (T := TX2) (N := 6) hx hb hts (by decide +kernel) tyX2 tyX2_ok nmX2 hown hK hP hD hS 0 rfl rfl 2 (by decide) (hts (.fieldLink RX2 19 "PieceWays" "result" "LPieceWays$Bytes;") (by decide +kernel)) (fun _ h9 => h9) rfl hnm rfl (by decide +kernel) rfl rfl (Nat.le_of_ble_eq_true rfl) dX2_init_34 (fun H locs hP hD hS => ?_)
  have hP : va_P (dC, dI) vwCl [(w, .inr (2, [.ref qb, .ref qt, .ref qr, .null, .null, .null])), (qb, .inr (0, [.ref gb, .int (nI 0)])), (gb, .inl (cB, 603, .inl ((fun _ => 0)))), (qt, .inr (0, [.ref gt, .int (nI 0)])), (gt, .inl (cB, 603, .inl ((fun _ => 0)))), (qr, .inr (0, [.ref gr, .int (nI 0)])), (gr, .inl (cB, 603, .inl ((fun _ => 0))))] H := hP
  have hD : va_D A [(w, .inr (2, [.ref qb, .ref qt, .ref qr, .null, .null, .null])), (qb, .inr (0, [.ref gb, .int (nI 0)])), (gb, .inl (cB, 603, .inl ((fun _ => 0)))), (qt, .inr (0, [.ref gt, .int (nI 0)])), (gt, .inl (cB, 603, .inl ((fun _ => 0)))), (qr, .inr (0, [.ref gr, .int (nI 0)])), (gr, .inl (cB, 603, .inl ((fun _ => 0))))] := hD
  refine lv_aload_n hx hb dX2_init_37 rfl (lv_at hl 0 rfl) ?_
  refine va_new (ci := 1) (fs := [.null, .null, .null, .int 0]) (C := RX1) (T := TX1) (N := 4) hx hb hts (by decide +kernel) tyX1 tyX1_ok hown (hts (.classLink RX2 22 RX1) (by decide +kernel)) (hts (.instantiable RX1 4) (by decide +kernel)) (hts (.initialized RX1) (by decide +kernel)) hK hP hD hS hA rfl (fun j hj => by rcases (show j = 0 ∨ j = 1 ∨ j = 2 ∨ j = 3 by omega) with rfl | rfl | rfl | rfl <;> rfl) (Nat.le_of_ble_eq_true rfl) (Nat.le_of_ble_eq_true rfl) dX2_init_38 (fun qp H hP hD hS => ?_)
  have hP : va_P (dC, dI) vwCl [(w, .inr (2, [.ref qb, .ref qt, .ref qr, .null, .null, .null])), (qb, .inr (0, [.ref gb, .int (nI 0)])), (gb, .inl (cB, 603, .inl ((fun _ => 0)))), (qt, .inr (0, [.ref gt, .int (nI 0)])), (gt, .inl (cB, 603, .inl ((fun _ => 0)))), (qr, .inr (0, [.ref gr, .int (nI 0)])), (gr, .inl (cB, 603, .inl ((fun _ => 0)))), (qp, .inr (1, [.null, .null, .null, .int 0]))] H := hP
  have hD : va_D A [(w, .inr (2, [.ref qb, .ref qt, .ref qr, .null, .null, .null])), (qb, .inr (0, [.ref gb, .int (nI 0)])), (gb, .inl (cB, 603, .inl ((fun _ => 0)))), (qt, .inr (0, [.ref gt, .int (nI 0)])), (gt, .inl (cB, 603, .inl ((fun _ => 0)))), (qr, .inr (0, [.ref gr, .int (nI 0)])), (gr, .inl (cB, 603, .inl ((fun _ => 0)))), (qp, .inr (1, [.null, .null, .null, .int 0]))] := hD
  refine W.widen (k := 7) (n := 1819) (by omega) (by omega) ?_
  refine lv_dup hx hb dX2_init_41 rfl ?_
  refine wr_IN (wc := [(qp, .inr (1, [.null, .null, .null, .int 0]))]) (wr := [(w, .inr (2, [.ref qb, .ref qt, .ref qr, .null, .null, .null])), (qb, .inr (0, [.ref gb, .int (nI 0)])), (gb, .inl (cB, 603, .inl ((fun _ => 0)))), (qt, .inr (0, [.ref gt, .int (nI 0)])), (gt, .inl (cB, 603, .inl ((fun _ => 0)))), (qr, .inr (0, [.ref gr, .int (nI 0)])), (gr, .inl (cB, 603, .inl ((fun _ => 0))))]) (As := []) (rest := [.ref qp, .ref w]) ⟨hx, hb, hml, hown, hts⟩ (c_Pc_init l dC dI cB cI cL qp) ⟨va_cnB 0 hts ggX2_init_X1_init rfl rfl rfl hN.2 (hts (.initialized RX1) (by decide +kernel)) (by decide +kernel) ⟨(Nat.le_of_ble_eq_true rfl), (Nat.le_of_ble_eq_true rfl)⟩, rfl, hts (.instanceMethod yX1_init) (by decide +kernel)⟩ hK hN hP hD hS hA [7] [0, 1, 2, 3, 4, 5, 6] rfl rfl (by decide) (by decide) (by decide) rfl hl.1 rfl (Nat.le_of_ble_eq_true rfl) dX2_init_42 ⟨(Nat.le_of_ble_eq_true rfl), (Nat.le_of_ble_eq_true rfl)⟩ (fun ⟨h0, h1, h2⟩ H locs _hu hP hD hS => ?_)
  have hP : va_P (dC, dI) vwCl [(w, .inr (2, [.ref qb, .ref qt, .ref qr, .null, .null, .null])), (qb, .inr (0, [.ref gb, .int (nI 0)])), (gb, .inl (cB, 603, .inl ((fun _ => 0)))), (qt, .inr (0, [.ref gt, .int (nI 0)])), (gt, .inl (cB, 603, .inl ((fun _ => 0)))), (qr, .inr (0, [.ref gr, .int (nI 0)])), (gr, .inl (cB, 603, .inl ((fun _ => 0)))), (qp, .inr (1, [.ref h0, .ref h1, .ref h2, .int (nI 0)])), (h0, .inl (cI, 133, .inl ((fun _ => 0)))), (h1, .inl (cI, 133, .inl ((fun _ => 0)))), (h2, .inl (cI, 133, .inl ((fun _ => 0))))] H := hP.sub [0, 1, 2, 3, 4, 5, 6, 7, 8, 9, 10] rfl
  have hD : va_D A [(w, .inr (2, [.ref qb, .ref qt, .ref qr, .null, .null, .null])), (qb, .inr (0, [.ref gb, .int (nI 0)])), (gb, .inl (cB, 603, .inl ((fun _ => 0)))), (qt, .inr (0, [.ref gt, .int (nI 0)])), (gt, .inl (cB, 603, .inl ((fun _ => 0)))), (qr, .inr (0, [.ref gr, .int (nI 0)])), (gr, .inl (cB, 603, .inl ((fun _ => 0)))), (qp, .inr (1, [.ref h0, .ref h1, .ref h2, .int (nI 0)])), (h0, .inl (cI, 133, .inl ((fun _ => 0)))), (h1, .inl (cI, 133, .inl ((fun _ => 0)))), (h2, .inl (cI, 133, .inl ((fun _ => 0))))] := hD.sub [0, 1, 2, 3, 4, 5, 6, 7, 8, 9, 10] (by decide) rfl
  refine W.widen (k := 10) (n := 2218) (by omega) (by omega) ?_
  refine va_putF (D := (dC, dI)) (ci := 2) (v := .ref qp) (ty := (.object "PieceWays$Pieces")) (C := RX2) (T := TX2) (N := 6) hx hb hts (by decide +kernel) tyX2 tyX2_ok nmX2 hown hK hP hD hS 0 rfl rfl 3 (by decide) (hts (.fieldLink RX2 25 "PieceWays" "pieces" "LPieceWays$Pieces;") (by decide +kernel)) (fun _ h9 => h9) rfl hnm rfl (by decide +kernel) rfl rfl (Nat.le_of_ble_eq_true rfl) dX2_init_45 (fun H locs hP hD hS => ?_)
  have hP : va_P (dC, dI) vwCl [(w, .inr (2, [.ref qb, .ref qt, .ref qr, .ref qp, .null, .null])), (qb, .inr (0, [.ref gb, .int (nI 0)])), (gb, .inl (cB, 603, .inl ((fun _ => 0)))), (qt, .inr (0, [.ref gt, .int (nI 0)])), (gt, .inl (cB, 603, .inl ((fun _ => 0)))), (qr, .inr (0, [.ref gr, .int (nI 0)])), (gr, .inl (cB, 603, .inl ((fun _ => 0)))), (qp, .inr (1, [.ref h0, .ref h1, .ref h2, .int (nI 0)])), (h0, .inl (cI, 133, .inl ((fun _ => 0)))), (h1, .inl (cI, 133, .inl ((fun _ => 0)))), (h2, .inl (cI, 133, .inl ((fun _ => 0))))] H := hP
  have hD : va_D A [(w, .inr (2, [.ref qb, .ref qt, .ref qr, .ref qp, .null, .null])), (qb, .inr (0, [.ref gb, .int (nI 0)])), (gb, .inl (cB, 603, .inl ((fun _ => 0)))), (qt, .inr (0, [.ref gt, .int (nI 0)])), (gt, .inl (cB, 603, .inl ((fun _ => 0)))), (qr, .inr (0, [.ref gr, .int (nI 0)])), (gr, .inl (cB, 603, .inl ((fun _ => 0)))), (qp, .inr (1, [.ref h0, .ref h1, .ref h2, .int (nI 0)])), (h0, .inl (cI, 133, .inl ((fun _ => 0)))), (h1, .inl (cI, 133, .inl ((fun _ => 0)))), (h2, .inl (cI, 133, .inl ((fun _ => 0))))] := hD
  refine lv_aload_n hx hb dX2_init_48 rfl (lv_at hl 0 rfl) ?_
  refine va_new (ci := 0) (fs := [.null, .int 0]) (C := RX0) (T := TX0) (N := 2) hx hb hts (by decide +kernel) tyX0 tyX0_ok hown (hts (.classLink RX2 7 RX0) (by decide +kernel)) (hts (.instantiable RX0 2) (by decide +kernel)) (hts (.initialized RX0) (by decide +kernel)) hK hP hD hS hA rfl (fun j hj => by rcases (show j = 0 ∨ j = 1 by omega) with rfl | rfl <;> rfl) (Nat.le_of_ble_eq_true rfl) (Nat.le_of_ble_eq_true rfl) dX2_init_49 (fun qu H hP hD hS => ?_)
  have hP : va_P (dC, dI) vwCl [(w, .inr (2, [.ref qb, .ref qt, .ref qr, .ref qp, .null, .null])), (qb, .inr (0, [.ref gb, .int (nI 0)])), (gb, .inl (cB, 603, .inl ((fun _ => 0)))), (qt, .inr (0, [.ref gt, .int (nI 0)])), (gt, .inl (cB, 603, .inl ((fun _ => 0)))), (qr, .inr (0, [.ref gr, .int (nI 0)])), (gr, .inl (cB, 603, .inl ((fun _ => 0)))), (qp, .inr (1, [.ref h0, .ref h1, .ref h2, .int (nI 0)])), (h0, .inl (cI, 133, .inl ((fun _ => 0)))), (h1, .inl (cI, 133, .inl ((fun _ => 0)))), (h2, .inl (cI, 133, .inl ((fun _ => 0)))), (qu, .inr (0, [.null, .int 0]))] H := hP
  have hD : va_D A [(w, .inr (2, [.ref qb, .ref qt, .ref qr, .ref qp, .null, .null])), (qb, .inr (0, [.ref gb, .int (nI 0)])), (gb, .inl (cB, 603, .inl ((fun _ => 0)))), (qt, .inr (0, [.ref gt, .int (nI 0)])), (gt, .inl (cB, 603, .inl ((fun _ => 0)))), (qr, .inr (0, [.ref gr, .int (nI 0)])), (gr, .inl (cB, 603, .inl ((fun _ => 0)))), (qp, .inr (1, [.ref h0, .ref h1, .ref h2, .int (nI 0)])), (h0, .inl (cI, 133, .inl ((fun _ => 0)))), (h1, .inl (cI, 133, .inl ((fun _ => 0)))), (h2, .inl (cI, 133, .inl ((fun _ => 0)))), (qu, .inr (0, [.null, .int 0]))] := hD
  refine W.widen (k := 11) (n := 2220) (by omega) (by omega) ?_
  refine lv_dup hx hb dX2_init_52 rfl ?_
  refine wr_IN (wc := [(qu, .inr (0, [.null, .int 0]))]) (wr := [(w, .inr (2, [.ref qb, .ref qt, .ref qr, .ref qp, .null, .null])), (qb, .inr (0, [.ref gb, .int (nI 0)])), (gb, .inl (cB, 603, .inl ((fun _ => 0)))), (qt, .inr (0, [.ref gt, .int (nI 0)])), (gt, .inl (cB, 603, .inl ((fun _ => 0)))), (qr, .inr (0, [.ref gr, .int (nI 0)])), (gr, .inl (cB, 603, .inl ((fun _ => 0)))), (qp, .inr (1, [.ref h0, .ref h1, .ref h2, .int (nI 0)])), (h0, .inl (cI, 133, .inl ((fun _ => 0)))), (h1, .inl (cI, 133, .inl ((fun _ => 0)))), (h2, .inl (cI, 133, .inl ((fun _ => 0))))]) (As := []) (rest := [.ref qu, .ref w]) ⟨hx, hb, hml, hown, hts⟩ (c_By_init l dC dI cB cI cL qu) ⟨va_cnB 0 hts ggX2_init_X0_init rfl rfl rfl hN.1 (hts (.initialized RX0) (by decide +kernel)) (by decide +kernel) ⟨(Nat.le_of_ble_eq_true rfl), (Nat.le_of_ble_eq_true rfl)⟩, rfl, hts (.instanceMethod yX0_init) (by decide +kernel)⟩ hK hN hP hD hS hA [11] [0, 1, 2, 3, 4, 5, 6, 7, 8, 9, 10] rfl rfl (by decide) (by decide) (by decide) rfl hl.1 rfl (Nat.le_of_ble_eq_true rfl) dX2_init_53 ⟨(Nat.le_of_ble_eq_true rfl), (Nat.le_of_ble_eq_true rfl)⟩ (fun gu H locs _hu hP hD hS => ?_)
  have hP : va_P (dC, dI) vwCl [(w, .inr (2, [.ref qb, .ref qt, .ref qr, .ref qp, .null, .null])), (qb, .inr (0, [.ref gb, .int (nI 0)])), (gb, .inl (cB, 603, .inl ((fun _ => 0)))), (qt, .inr (0, [.ref gt, .int (nI 0)])), (gt, .inl (cB, 603, .inl ((fun _ => 0)))), (qr, .inr (0, [.ref gr, .int (nI 0)])), (gr, .inl (cB, 603, .inl ((fun _ => 0)))), (qp, .inr (1, [.ref h0, .ref h1, .ref h2, .int (nI 0)])), (h0, .inl (cI, 133, .inl ((fun _ => 0)))), (h1, .inl (cI, 133, .inl ((fun _ => 0)))), (h2, .inl (cI, 133, .inl ((fun _ => 0)))), (qu, .inr (0, [.ref gu, .int (nI 0)])), (gu, .inl (cB, 603, .inl ((fun _ => 0))))] H := hP.sub [0, 1, 2, 3, 4, 5, 6, 7, 8, 9, 10, 11, 12] rfl
  have hD : va_D A [(w, .inr (2, [.ref qb, .ref qt, .ref qr, .ref qp, .null, .null])), (qb, .inr (0, [.ref gb, .int (nI 0)])), (gb, .inl (cB, 603, .inl ((fun _ => 0)))), (qt, .inr (0, [.ref gt, .int (nI 0)])), (gt, .inl (cB, 603, .inl ((fun _ => 0)))), (qr, .inr (0, [.ref gr, .int (nI 0)])), (gr, .inl (cB, 603, .inl ((fun _ => 0)))), (qp, .inr (1, [.ref h0, .ref h1, .ref h2, .int (nI 0)])), (h0, .inl (cI, 133, .inl ((fun _ => 0)))), (h1, .inl (cI, 133, .inl ((fun _ => 0)))), (h2, .inl (cI, 133, .inl ((fun _ => 0)))), (qu, .inr (0, [.ref gu, .int (nI 0)])), (gu, .inl (cB, 603, .inl ((fun _ => 0))))] := hD.sub [0, 1, 2, 3, 4, 5, 6, 7, 8, 9, 10, 11, 12] (by decide) rfl
  refine W.widen (k := 12) (n := 2823) (by omega) (by omega) ?_
  refine va_putF (D := (dC, dI)) (ci := 2) (v := .ref qu) (ty := (.object "PieceWays$Bytes")) (C := RX2) (T := TX2) (N := 6) hx hb hts (by decide +kernel) tyX2 tyX2_ok nmX2 hown hK hP hD hS 0 rfl rfl 4 (by decide) (hts (.fieldLink RX2 29 "PieceWays" "targetThen" "LPieceWays$Bytes;") (by decide +kernel)) (fun _ h9 => h9) rfl hnm rfl (by decide +kernel) rfl rfl (Nat.le_of_ble_eq_true rfl) dX2_init_56 (fun H locs hP hD hS => ?_)
  have hP : va_P (dC, dI) vwCl [(w, .inr (2, [.ref qb, .ref qt, .ref qr, .ref qp, .ref qu, .null])), (qb, .inr (0, [.ref gb, .int (nI 0)])), (gb, .inl (cB, 603, .inl ((fun _ => 0)))), (qt, .inr (0, [.ref gt, .int (nI 0)])), (gt, .inl (cB, 603, .inl ((fun _ => 0)))), (qr, .inr (0, [.ref gr, .int (nI 0)])), (gr, .inl (cB, 603, .inl ((fun _ => 0)))), (qp, .inr (1, [.ref h0, .ref h1, .ref h2, .int (nI 0)])), (h0, .inl (cI, 133, .inl ((fun _ => 0)))), (h1, .inl (cI, 133, .inl ((fun _ => 0)))), (h2, .inl (cI, 133, .inl ((fun _ => 0)))), (qu, .inr (0, [.ref gu, .int (nI 0)])), (gu, .inl (cB, 603, .inl ((fun _ => 0))))] H := hP
  have hD : va_D A [(w, .inr (2, [.ref qb, .ref qt, .ref qr, .ref qp, .ref qu, .null])), (qb, .inr (0, [.ref gb, .int (nI 0)])), (gb, .inl (cB, 603, .inl ((fun _ => 0)))), (qt, .inr (0, [.ref gt, .int (nI 0)])), (gt, .inl (cB, 603, .inl ((fun _ => 0)))), (qr, .inr (0, [.ref gr, .int (nI 0)])), (gr, .inl (cB, 603, .inl ((fun _ => 0)))), (qp, .inr (1, [.ref h0, .ref h1, .ref h2, .int (nI 0)])), (h0, .inl (cI, 133, .inl ((fun _ => 0)))), (h1, .inl (cI, 133, .inl ((fun _ => 0)))), (h2, .inl (cI, 133, .inl ((fun _ => 0)))), (qu, .inr (0, [.ref gu, .int (nI 0)])), (gu, .inl (cB, 603, .inl ((fun _ => 0))))] := hD
  refine lv_aload_n hx hb dX2_init_59 rfl (lv_at hl 0 rfl) ?_
  refine va_new (ci := 0) (fs := [.null, .int 0]) (C := RX0) (T := TX0) (N := 2) hx hb hts (by decide +kernel) tyX0 tyX0_ok hown (hts (.classLink RX2 7 RX0) (by decide +kernel)) (hts (.instantiable RX0 2) (by decide +kernel)) (hts (.initialized RX0) (by decide +kernel)) hK hP hD hS hA rfl (fun j hj => by rcases (show j = 0 ∨ j = 1 by omega) with rfl | rfl <;> rfl) (Nat.le_of_ble_eq_true rfl) (Nat.le_of_ble_eq_true rfl) dX2_init_60 (fun qo H hP hD hS => ?_)
  have hP : va_P (dC, dI) vwCl [(w, .inr (2, [.ref qb, .ref qt, .ref qr, .ref qp, .ref qu, .null])), (qb, .inr (0, [.ref gb, .int (nI 0)])), (gb, .inl (cB, 603, .inl ((fun _ => 0)))), (qt, .inr (0, [.ref gt, .int (nI 0)])), (gt, .inl (cB, 603, .inl ((fun _ => 0)))), (qr, .inr (0, [.ref gr, .int (nI 0)])), (gr, .inl (cB, 603, .inl ((fun _ => 0)))), (qp, .inr (1, [.ref h0, .ref h1, .ref h2, .int (nI 0)])), (h0, .inl (cI, 133, .inl ((fun _ => 0)))), (h1, .inl (cI, 133, .inl ((fun _ => 0)))), (h2, .inl (cI, 133, .inl ((fun _ => 0)))), (qu, .inr (0, [.ref gu, .int (nI 0)])), (gu, .inl (cB, 603, .inl ((fun _ => 0)))), (qo, .inr (0, [.null, .int 0]))] H := hP
  have hD : va_D A [(w, .inr (2, [.ref qb, .ref qt, .ref qr, .ref qp, .ref qu, .null])), (qb, .inr (0, [.ref gb, .int (nI 0)])), (gb, .inl (cB, 603, .inl ((fun _ => 0)))), (qt, .inr (0, [.ref gt, .int (nI 0)])), (gt, .inl (cB, 603, .inl ((fun _ => 0)))), (qr, .inr (0, [.ref gr, .int (nI 0)])), (gr, .inl (cB, 603, .inl ((fun _ => 0)))), (qp, .inr (1, [.ref h0, .ref h1, .ref h2, .int (nI 0)])), (h0, .inl (cI, 133, .inl ((fun _ => 0)))), (h1, .inl (cI, 133, .inl ((fun _ => 0)))), (h2, .inl (cI, 133, .inl ((fun _ => 0)))), (qu, .inr (0, [.ref gu, .int (nI 0)])), (gu, .inl (cB, 603, .inl ((fun _ => 0)))), (qo, .inr (0, [.null, .int 0]))] := hD
  refine W.widen (k := 13) (n := 2825) (by omega) (by omega) ?_
  refine lv_dup hx hb dX2_init_63 rfl ?_
  refine wr_IN (wc := [(qo, .inr (0, [.null, .int 0]))]) (wr := [(w, .inr (2, [.ref qb, .ref qt, .ref qr, .ref qp, .ref qu, .null])), (qb, .inr (0, [.ref gb, .int (nI 0)])), (gb, .inl (cB, 603, .inl ((fun _ => 0)))), (qt, .inr (0, [.ref gt, .int (nI 0)])), (gt, .inl (cB, 603, .inl ((fun _ => 0)))), (qr, .inr (0, [.ref gr, .int (nI 0)])), (gr, .inl (cB, 603, .inl ((fun _ => 0)))), (qp, .inr (1, [.ref h0, .ref h1, .ref h2, .int (nI 0)])), (h0, .inl (cI, 133, .inl ((fun _ => 0)))), (h1, .inl (cI, 133, .inl ((fun _ => 0)))), (h2, .inl (cI, 133, .inl ((fun _ => 0)))), (qu, .inr (0, [.ref gu, .int (nI 0)])), (gu, .inl (cB, 603, .inl ((fun _ => 0))))]) (As := []) (rest := [.ref qo, .ref w]) ⟨hx, hb, hml, hown, hts⟩ (c_By_init l dC dI cB cI cL qo) ⟨va_cnB 0 hts ggX2_init_X0_init rfl rfl rfl hN.1 (hts (.initialized RX0) (by decide +kernel)) (by decide +kernel) ⟨(Nat.le_of_ble_eq_true rfl), (Nat.le_of_ble_eq_true rfl)⟩, rfl, hts (.instanceMethod yX0_init) (by decide +kernel)⟩ hK hN hP hD hS hA [13] [0, 1, 2, 3, 4, 5, 6, 7, 8, 9, 10, 11, 12] rfl rfl (by decide) (by decide) (by decide) rfl hl.1 rfl (Nat.le_of_ble_eq_true rfl) dX2_init_64 ⟨(Nat.le_of_ble_eq_true rfl), (Nat.le_of_ble_eq_true rfl)⟩ (fun go_ H locs _hu hP hD hS => ?_)
  have hP : va_P (dC, dI) vwCl [(w, .inr (2, [.ref qb, .ref qt, .ref qr, .ref qp, .ref qu, .null])), (qb, .inr (0, [.ref gb, .int (nI 0)])), (gb, .inl (cB, 603, .inl ((fun _ => 0)))), (qt, .inr (0, [.ref gt, .int (nI 0)])), (gt, .inl (cB, 603, .inl ((fun _ => 0)))), (qr, .inr (0, [.ref gr, .int (nI 0)])), (gr, .inl (cB, 603, .inl ((fun _ => 0)))), (qp, .inr (1, [.ref h0, .ref h1, .ref h2, .int (nI 0)])), (h0, .inl (cI, 133, .inl ((fun _ => 0)))), (h1, .inl (cI, 133, .inl ((fun _ => 0)))), (h2, .inl (cI, 133, .inl ((fun _ => 0)))), (qu, .inr (0, [.ref gu, .int (nI 0)])), (gu, .inl (cB, 603, .inl ((fun _ => 0)))), (qo, .inr (0, [.ref go_, .int (nI 0)])), (go_, .inl (cB, 603, .inl ((fun _ => 0))))] H := hP.sub [0, 1, 2, 3, 4, 5, 6, 7, 8, 9, 10, 11, 12, 13, 14] rfl
  have hD : va_D A [(w, .inr (2, [.ref qb, .ref qt, .ref qr, .ref qp, .ref qu, .null])), (qb, .inr (0, [.ref gb, .int (nI 0)])), (gb, .inl (cB, 603, .inl ((fun _ => 0)))), (qt, .inr (0, [.ref gt, .int (nI 0)])), (gt, .inl (cB, 603, .inl ((fun _ => 0)))), (qr, .inr (0, [.ref gr, .int (nI 0)])), (gr, .inl (cB, 603, .inl ((fun _ => 0)))), (qp, .inr (1, [.ref h0, .ref h1, .ref h2, .int (nI 0)])), (h0, .inl (cI, 133, .inl ((fun _ => 0)))), (h1, .inl (cI, 133, .inl ((fun _ => 0)))), (h2, .inl (cI, 133, .inl ((fun _ => 0)))), (qu, .inr (0, [.ref gu, .int (nI 0)])), (gu, .inl (cB, 603, .inl ((fun _ => 0)))), (qo, .inr (0, [.ref go_, .int (nI 0)])), (go_, .inl (cB, 603, .inl ((fun _ => 0))))] := hD.sub [0, 1, 2, 3, 4, 5, 6, 7, 8, 9, 10, 11, 12, 13, 14] (by decide) rfl
  refine W.widen (k := 14) (n := 3428) (by omega) (by omega) ?_
  refine va_putF (D := (dC, dI)) (ci := 2) (v := .ref qo) (ty := (.object "PieceWays$Bytes")) (C := RX2) (T := TX2) (N := 6) hx hb hts (by decide +kernel) tyX2 tyX2_ok nmX2 hown hK hP hD hS 0 rfl rfl 5 (by decide) (hts (.fieldLink RX2 32 "PieceWays" "row" "LPieceWays$Bytes;") (by decide +kernel)) (fun _ h9 => h9) rfl hnm rfl (by decide +kernel) rfl rfl (Nat.le_of_ble_eq_true rfl) dX2_init_67 (fun H locs hP hD hS => ?_)
  have hP : va_P (dC, dI) vwCl [(w, .inr (2, [.ref qb, .ref qt, .ref qr, .ref qp, .ref qu, .ref qo])), (qb, .inr (0, [.ref gb, .int (nI 0)])), (gb, .inl (cB, 603, .inl ((fun _ => 0)))), (qt, .inr (0, [.ref gt, .int (nI 0)])), (gt, .inl (cB, 603, .inl ((fun _ => 0)))), (qr, .inr (0, [.ref gr, .int (nI 0)])), (gr, .inl (cB, 603, .inl ((fun _ => 0)))), (qp, .inr (1, [.ref h0, .ref h1, .ref h2, .int (nI 0)])), (h0, .inl (cI, 133, .inl ((fun _ => 0)))), (h1, .inl (cI, 133, .inl ((fun _ => 0)))), (h2, .inl (cI, 133, .inl ((fun _ => 0)))), (qu, .inr (0, [.ref gu, .int (nI 0)])), (gu, .inl (cB, 603, .inl ((fun _ => 0)))), (qo, .inr (0, [.ref go_, .int (nI 0)])), (go_, .inl (cB, 603, .inl ((fun _ => 0))))] H := hP
  have hD : va_D A [(w, .inr (2, [.ref qb, .ref qt, .ref qr, .ref qp, .ref qu, .ref qo])), (qb, .inr (0, [.ref gb, .int (nI 0)])), (gb, .inl (cB, 603, .inl ((fun _ => 0)))), (qt, .inr (0, [.ref gt, .int (nI 0)])), (gt, .inl (cB, 603, .inl ((fun _ => 0)))), (qr, .inr (0, [.ref gr, .int (nI 0)])), (gr, .inl (cB, 603, .inl ((fun _ => 0)))), (qp, .inr (1, [.ref h0, .ref h1, .ref h2, .int (nI 0)])), (h0, .inl (cI, 133, .inl ((fun _ => 0)))), (h1, .inl (cI, 133, .inl ((fun _ => 0)))), (h2, .inl (cI, 133, .inl ((fun _ => 0)))), (qu, .inr (0, [.ref gu, .int (nI 0)])), (gu, .inl (cB, 603, .inl ((fun _ => 0)))), (qo, .inr (0, [.ref go_, .int (nI 0)])), (go_, .inl (cB, 603, .inl ((fun _ => 0))))] := hD
  have hP9 := hP.sub (ws' := [(w, .inr (2, [.ref qb, .ref qt, .ref qr, .ref qp, .ref qu, .ref qo])), (qb, .inr (0, [.ref gb, .int (nI (([] : List Int32)).length)])), (gb, .inl (cB, 603, .inl ((fun _ => 0)))), (qt, .inr (0, [.ref gt, .int (nI (([] : List Int32)).length)])), (gt, .inl (cB, 603, .inl ((fun _ => 0)))), (qr, .inr (0, [.ref gr, .int (nI (([] : List Int32)).length)])), (gr, .inl (cB, 603, .inl ((fun _ => 0)))), (qp, .inr (1, [.ref h0, .ref h1, .ref h2, .int (nI (([] : List (Nat × Nat × Nat))).length)])), (h0, .inl (cI, 133, .inl ((fun _ => 0)))), (h1, .inl (cI, 133, .inl ((fun _ => 0)))), (h2, .inl (cI, 133, .inl ((fun _ => 0)))), (qu, .inr (0, [.ref gu, .int (nI (([] : List Int32)).length)])), (gu, .inl (cB, 603, .inl ((fun _ => 0)))), (qo, .inr (0, [.ref go_, .int (nI (([] : List Int32)).length)])), (go_, .inl (cB, 603, .inl ((fun _ => 0))))]) [0, 1, 2, 3, 4, 5, 6, 7, 8, 9, 10, 11, 12, 13, 14] rfl
  have hD9 := hD.sub (ws' := [(w, .inr (2, [.ref qb, .ref qt, .ref qr, .ref qp, .ref qu, .ref qo])), (qb, .inr (0, [.ref gb, .int (nI (([] : List Int32)).length)])), (gb, .inl (cB, 603, .inl ((fun _ => 0)))), (qt, .inr (0, [.ref gt, .int (nI (([] : List Int32)).length)])), (gt, .inl (cB, 603, .inl ((fun _ => 0)))), (qr, .inr (0, [.ref gr, .int (nI (([] : List Int32)).length)])), (gr, .inl (cB, 603, .inl ((fun _ => 0)))), (qp, .inr (1, [.ref h0, .ref h1, .ref h2, .int (nI (([] : List (Nat × Nat × Nat))).length)])), (h0, .inl (cI, 133, .inl ((fun _ => 0)))), (h1, .inl (cI, 133, .inl ((fun _ => 0)))), (h2, .inl (cI, 133, .inl ((fun _ => 0)))), (qu, .inr (0, [.ref gu, .int (nI (([] : List Int32)).length)])), (gu, .inl (cB, 603, .inl ((fun _ => 0)))), (qo, .inr (0, [.ref go_, .int (nI (([] : List Int32)).length)])), (go_, .inl (cB, 603, .inl ((fun _ => 0))))]) [0, 1, 2, 3, 4, 5, 6, 7, 8, 9, 10, 11, 12, 13, 14] (by decide) rfl
  exact wr_vret hx hb hr hlk (qb, gb, qt, gt, qr, gr, qp, h0, h1, h2, qu, gu, qo, go_) trivial hP9 hD9 hS dX2_init_70
end PWINIT
end
section
/-! Pure words for the reference: what its arrays hold; the row, read back. -/
def im_k (f : Nat → Int32) (L : List Int32) : Prop := ∀ (j : Nat) (x : Int32), L[j]? = some x → f j = x
theorem im_nil (f : Nat → Int32) : im_k f [] := fun j x h => by simp at h
theorem im_add {f : Nat → Int32} {L : List Int32} (h : im_k f L) (v : Int32) : im_k (upd f L.length v) (L ++ [v]) := by
  intro j x hj
  rcases Nat.lt_or_ge j L.length with hl | hl
  · rw [List.getElem?_append_left hl] at hj
    rw [pk_un (by omega)]
    exact h j x hj
  · have h1 := (List.getElem?_eq_some_iff.mp hj).1
    simp only [List.length_append, List.length_cons, List.length_nil] at h1
    have h2 : j = L.length := by omega
    subst h2
    rw [List.getElem?_append_right (Nat.le_refl _), Nat.sub_self] at hj
    simp only [List.getElem?_cons_zero, Option.some.injEq] at hj
    rw [pk_us]
    exact hj
theorem im_set {f : Nat → Int32} {L : List Int32} (h : im_k f L) (k : Nat) (v : Int32) : im_k (upd f k v) (L.set k v) := by
  intro j x hj
  by_cases hk : k = j
  · subst hk
    rw [List.getElem?_set_self' ] at hj
    rw [pk_us]
    cases hL : L[k]? with
    | none => rw [hL] at hj; simp at hj
    | some y => rw [hL] at hj; simpa using hj
  · rw [List.getElem?_set_ne hk] at hj
    rw [pk_un (fun q => hk q.symm)]
    exact h j x hj
theorem hb_eq {n : Nat} (h : n < 65536) : hb_I n = [nI (n / 256), nI (n % 256)] := by
  have e1 : nI n >>> ((8 : Int32) &&& 31) = nI (n / 2 ^ 8) := pk_shrN (by omega) _ 8 (by decide)
  have e2 : ∀ k : Nat, k < 2 ^ 32 → nI k &&& 255 = nI (k % 2 ^ 8) := fun k hk => pk_andN hk 8 (by decide)
  unfold hb_I
  rw [e1, e2 _ (by omega), e2 _ (by omega), Nat.mod_eq_of_lt (a := n / 2 ^ 8) (by omega)]
theorem k8_I {n : Nat} (h : n < 256) : nI n &&& 255 = nI n := by
  have e2 : nI n &&& 255 = nI (n % 2 ^ 8) := pk_andN (by omega) 8 (by decide)
  rw [e2, Nat.mod_eq_of_lt (by omega)]
/-- a piece as it stands in a row -/
def pa_O (O : List Int32) (a : Nat) (t : Nat × Nat × Nat) : Prop := O[a]? = some (nI t.1) ∧ (t.1 = 1 → (O[a + 1]? = some (nI (t.2.1 / 256)) ∧ O[a + 2]? = some (nI (t.2.1 % 256))) ∧ (O[a + 3]? = some (nI (t.2.2 / 256)) ∧ O[a + 4]? = some (nI (t.2.2 % 256)))) ∧ (¬ t.1 = 1 → O[a + 1]? = some (nI (t.2.2 / 256)) ∧ O[a + 2]? = some (nI (t.2.2 % 256)))
theorem rw_1C {T : List Int32} {t : Nat × Nat × Nat} (h1 : t.1 = 1) (h2 : t.2.1 + t.2.2 ≤ 600) : rw_1 T t = [nI t.1, nI (t.2.1 / 256), nI (t.2.1 % 256), nI (t.2.2 / 256), nI (t.2.2 % 256)] := by
  unfold rw_1
  rw [if_pos h1, hb_eq (by omega), hb_eq (by omega), k8_I (by omega)]
  rfl
theorem rw_1P {T : List Int32} {t : Nat × Nat × Nat} (h1 : t.1 = 2) (h2 : t.2.1 + t.2.2 ≤ 600) : rw_1 T t = nI t.1 :: nI (t.2.2 / 256) :: nI (t.2.2 % 256) :: (T.drop t.2.1).take t.2.2 := by
  unfold rw_1
  rw [if_neg (by omega), hb_eq (by omega), k8_I (by omega)]
  rfl
theorem rw_split {T : List Int32} {P : List (Nat × Nat × Nat)} {j : Nat} {t : Nat × Nat × Nat} (h : P[j]? = some t) : rw_R T P = rw_R T (P.take j) ++ (rw_1 T t ++ rw_R T (P.drop (j + 1))) := by
  obtain ⟨h1, e1⟩ := List.getElem?_eq_some_iff.mp h
  have e2 : P = P.take j ++ t :: P.drop (j + 1) := by rw [← e1, ← List.drop_eq_getElem_cons h1, List.take_append_drop]
  have e3 : rw_R T P = rw_R T (P.take j ++ t :: P.drop (j + 1)) := by rw [← e2]
  rw [e3]
  simp [rw_R, List.flatMap_append]
theorem pa_of {T : List Int32} {P : List (Nat × Nat × Nat)} {j : Nat} {t : Nat × Nat × Nat} (h : P[j]? = some t) (h1 : t.1 = 1 ∨ t.1 = 2) (h2 : t.2.1 + t.2.2 ≤ 600) : pa_O (rw_R T P) (rw_R T (P.take j)).length t := by
  have e : ∀ i : Nat, (rw_R T P)[(rw_R T (P.take j)).length + i]? = (rw_1 T t ++ rw_R T (P.drop (j + 1)))[i]? := fun i => by
    rw [rw_split h, List.getElem?_append_right (by omega), Nat.add_sub_cancel_left]
  have e0 := e 0
  rw [Nat.add_zero] at e0
  rcases h1 with h1 | h1
  · have er := rw_1C (T := T) h1 h2
    refine ⟨?_, fun _ => ⟨⟨?_, ?_⟩, ⟨?_, ?_⟩⟩, fun q => absurd h1 q⟩
    · rw [e0, er]; rfl
    · rw [e, er]; rfl
    · rw [e, er]; rfl
    · rw [e, er]; rfl
    · rw [e, er]; rfl
  · have er := rw_1P (T := T) h1 h2
    refine ⟨?_, fun q => absurd q (by omega), fun _ => ⟨?_, ?_⟩⟩
    · rw [e0, er]; rfl
    · rw [e, er]; rfl
    · rw [e, er]; rfl
theorem pa_byte {T : List Int32} {P : List (Nat × Nat × Nat)} {j k : Nat} {t : Nat × Nat × Nat} (h : P[j]? = some t) (h1 : t.1 = 2) (h2 : t.2.1 + t.2.2 ≤ 600) (hk : k < t.2.2) (hT : t.2.1 + t.2.2 ≤ T.length) : (rw_R T P)[(rw_R T (P.take j)).length + (3 + k)]? = T[t.2.1 + k]? := by
  rw [rw_split h, List.getElem?_append_right (by omega), Nat.add_sub_cancel_left, rw_1P h1 h2, List.getElem?_append_left (by simp only [List.length_cons, List.length_take, List.length_drop]; omega)]
  rw [show 3 + k = k + 1 + 1 + 1 by omega, List.getElem?_cons_succ, List.getElem?_cons_succ, List.getElem?_cons_succ, List.getElem?_take_of_lt hk, List.getElem?_drop]
/-- where a plain piece begins in the target: behind all before it -/
def bg_P (P : List (Nat × Nat × Nat)) : Prop := ∀ (j : Nat) (t : Nat × Nat × Nat), P[j]? = some t → ¬ t.1 = 1 → t.2.1 = sm_P (P.take j)
theorem bg_nil : bg_P [] := fun j t h => by simp at h
theorem bg_app {P : List (Nat × Nat × Nat)} {t : Nat × Nat × Nat} (h : bg_P P) (ht : ¬ t.1 = 1 → t.2.1 = sm_P P) : bg_P (P ++ [t]) := by
  intro j z hj hz
  rcases Nat.lt_or_ge j P.length with hl | hl
  · rw [List.getElem?_append_left hl] at hj
    rw [List.take_append_of_le_length (by omega)]
    exact h j z hj hz
  · have h1 := (List.getElem?_eq_some_iff.mp hj).1
    simp only [List.length_append, List.length_cons, List.length_nil] at h1
    have h2 : j = P.length := by omega
    subst h2
    rw [List.getElem?_append_right (Nat.le_refl _), Nat.sub_self] at hj
    simp only [List.getElem?_cons_zero, Option.some.injEq] at hj
    subst hj
    rw [List.take_append_of_le_length (Nat.le_refl _), List.take_length]
    exact ht hz
theorem bg_of {P : List (Nat × Nat × Nat)} {t : Nat × Nat × Nat} (h : bg_P (P ++ [t])) : bg_P P ∧ (¬ t.1 = 1 → t.2.1 = sm_P P) := by
  refine ⟨fun j z hj hz => ?_, fun hz => ?_⟩
  · have hl := (List.getElem?_eq_some_iff.mp hj).1
    have h1 := h j z (by rw [List.getElem?_append_left hl]; exact hj) hz
    rw [List.take_append_of_le_length (by omega)] at h1
    exact h1
  · have h1 := h P.length t (by rw [List.getElem?_append_right (Nat.le_refl _), Nat.sub_self]; rfl) hz
    rw [List.take_append_of_le_length (Nat.le_refl _), List.take_length] at h1
    exact h1
theorem bg_plain {P : List (Nat × Nat × Nat)} {pl : Nat} (h : bg_P P) (hs : sm_P P = pl) : bg_P (ap_P P pl) := by
  rcases sp_last P with rfl | ⟨Q, t, rfl⟩
  · exact bg_app (P := []) bg_nil (fun _ => hs.symm)
  · by_cases ht : t.1 = 2
    · rw [ap_grow ht]
      exact bg_app (bg_of h).1 (fun q => (bg_of h).2 q)
    · rw [ap_new (by intro z hz; rw [List.getLast?_concat] at hz; cases hz; exact ht)]
      exact bg_app h (fun _ => hs.symm)
theorem fp_B {B T : List Int32} : ∀ (n pl : Nat) (P : List (Nat × Nat × Nat)), pw_I B.length T.length P pl → bg_P P → bg_P (fp_P B T n pl P) := by
  intro n
  induction n with
  | zero => intro pl P _ h; exact h
  | succ n ih =>
    intro pl P hI h
    unfold fp_P
    by_cases hp : pl < T.length
    · rw [if_pos hp]
      rcases lg_ok B T pl (B.length / 8) with ⟨h1, -⟩ | ⟨b, h1, h2, h3, h4⟩
      · rw [h1]
        exact ih _ _ (pw_plain hI hp) (bg_plain h hI.2.2.2.1)
      · rw [h1]
        have h5 := lc_le (B.drop b) (T.drop pl)
        rw [List.length_drop, List.length_drop] at h5
        exact ih _ _ (pw_copy hI h3 (by omega) (by omega)) (bg_app h (fun q => absurd rfl q))
    · rw [if_neg hp]
      exact h
theorem wy_B (B T : List Int32) : bg_P (wy_P B T) := fp_B _ _ _ (pw_0 _ _) bg_nil
theorem bt_I (v : Int64) : ∀ k : Nat, k < 8 → (v >>> ((8 * nI k).toInt64 &&& 63)).toInt32 &&& 255 = pb_b v k &&& 255 := by
  intro k hk
  have hs : 8 * nI k = nI (8 * k) := pk_mul 8 k
  have e1 : ((nI (8 * k)).toInt64 &&& 63).toBitVec.smod 64 = BitVec.ofNat 64 (8 * k) := (by decide +kernel : ∀ k, k < 8 → ((nI (8 * k)).toInt64 &&& 63).toBitVec.smod 64 = BitVec.ofNat 64 (8 * k)) k hk
  have e2 : ((nI (8 * k)).toInt64.toUInt64 &&& Int64.toUInt64 63).toBitVec % 64 = BitVec.ofNat 64 (8 * k) := (by decide +kernel : ∀ k, k < 8 → ((nI (8 * k)).toInt64.toUInt64 &&& Int64.toUInt64 63).toBitVec % 64 = BitVec.ofNat 64 (8 * k)) k hk
  have e3 : (BitVec.ofNat 64 (8 * k)).toNat = 8 * k := by rw [BitVec.toNat_ofNat]; omega
  unfold pb_b
  rw [hs]
  apply Int32.toBitVec_inj.mp
  rw [Int32.toBitVec_and, Int32.toBitVec_and, Int64.toBitVec_toInt32, Int64.toBitVec_toInt32, Int64.toBitVec_shiftRight, UInt64.toBitVec_toInt64, UInt64.toBitVec_shiftRight, e1, e2]
  apply BitVec.eq_of_getLsbD_eq
  intro i hi
  rw [BitVec.getLsbD_and, BitVec.getLsbD_and]
  have hm : ∀ i < 32, 8 ≤ i → (255 : Int32).toBitVec.getLsbD i = false := by decide
  rcases Nat.lt_or_ge i 8 with z | z
  · have h1 : 8 * k + i < 64 := by omega
    have h2 : i < 64 := by omega
    simp only [BitVec.getLsbD_signExtend, BitVec.getLsbD_setWidth, BitVec.sshiftRight', BitVec.getLsbD_sshiftRight, BitVec.ushiftRight_eq', BitVec.getLsbD_ushiftRight, e3, h1, h2, hi, if_true, decide_true, Bool.true_and]
    simp [h2, Int64.toBitVec_toUInt64]
    rw [show decide (64 ≤ i) = false from decide_eq_false (by omega)]
    simp
  · rw [hm i hi z]; simp
theorem pu_m {L : List Int32} {n : Int32} (hL : L.length ≤ 600) (h0 : ¬ n < 0) (h8 : ¬ (8 : Int32) < n) : nI L.length + n ≤ 600 ↔ n ≤ 600 - nI L.length := by
  obtain ⟨N, hN, rfl⟩ := nI_of h0
  have h9 : N ≤ 8 := by
    rcases Nat.lt_or_ge 8 N with q | q
    · exact absurd (nI_lt (a := 8) q hN) h8
    · exact q
  have e1 : (600 : Int32) - nI L.length = nI (600 - L.length) := pk_sub (a := 600) hL
  rw [e1, nI_add, show (600 : Int32) = nI 600 from rfl, nI_leI (by omega) (by omega), nI_leI (by omega) (by omega)]
  omega
/-- where the open plain piece stands in the row, or -1 -/
def op_I (T : List Int32) (Q : List (Nat × Nat × Nat)) : Int32 := match Q.getLast? with
  | some t => if t.1 = 2 then nI (rw_R T Q.dropLast).length else -1
  | none => -1
theorem op_app (T : List Int32) (Q : List (Nat × Nat × Nat)) (t : Nat × Nat × Nat) : op_I T (Q ++ [t]) = if t.1 = 2 then nI (rw_R T Q).length else -1 := by
  unfold op_I
  rw [List.getLast?_concat, List.dropLast_concat]
def fr_I : Option Nat → Int32
  | none => 0
  | some b => nI b
theorem rw_copy {T : List Int32} {Q : List (Nat × Nat × Nat)} {b n : Nat} (h : b + n ≤ 600) : ((rw_R T Q ++ [1]) ++ [nI (b / 256), nI (b % 256)]) ++ [nI (n / 256), nI (n % 256)] = rw_R T (Q ++ [(1, b, n)]) := by
  rw [rw_app, rw_1C rfl h]
  simp [show nI 1 = 1 from rfl]
theorem rw_open {T : List Int32} {Q : List (Nat × Nat × Nat)} {b : Nat} (h : b ≤ 600) : (rw_R T Q ++ [2]) ++ [nI (0 / 256), nI (0 % 256)] = rw_R T (Q ++ [(2, b, 0)]) := by
  rw [rw_app, rw_1P (t := (2, b, 0)) rfl (by show b + 0 ≤ 600; omega)]
  simp [show nI 2 = 2 from rfl]
theorem rw_more {T : List Int32} {Q : List (Nat × Nat × Nat)} {b n : Nat} {y : Int32} (h : b + (n + 1) ≤ 600) (hy : T[b + n]? = some y) : (((rw_R T (Q ++ [(2, b, n)])).set ((rw_R T Q).length + 1) (nI ((n + 1) / 256))).set ((rw_R T Q).length + 2) (nI ((n + 1) % 256))) ++ [y] = rw_R T (Q ++ [(2, b, n + 1)]) := by
  rw [rw_app, rw_app, rw_1P (t := (2, b, n)) rfl (by show b + n ≤ 600; omega), rw_1P (t := (2, b, n + 1)) rfl h]
  show (((rw_R T Q ++ (nI 2 :: nI (n / 256) :: nI (n % 256) :: (T.drop b).take n)).set ((rw_R T Q).length + 1) (nI ((n + 1) / 256))).set ((rw_R T Q).length + 2) (nI ((n + 1) % 256))) ++ [y] = rw_R T Q ++ (nI 2 :: nI ((n + 1) / 256) :: nI ((n + 1) % 256) :: (T.drop b).take (n + 1))
  rw [tk_snoc hy, List.set_append_right _ _ (by omega), List.set_append_right _ _ (by omega), Nat.add_sub_cancel_left, Nat.add_sub_cancel_left, List.append_assoc]
  rfl
theorem rw_two {T : List Int32} {Q : List (Nat × Nat × Nat)} {b n : Nat} (h : b + n ≤ 600) : (rw_R T (Q ++ [(2, b, n)]))[(rw_R T Q).length + 1]? = some (nI (n / 256)) ∧ (rw_R T (Q ++ [(2, b, n)]))[(rw_R T Q).length + 1 + 1]? = some (nI (n % 256)) := by
  rw [rw_app, rw_1P (t := (2, b, n)) rfl h, List.getElem?_append_right (by omega), List.getElem?_append_right (by omega), Nat.add_sub_cancel_left, show (rw_R T Q).length + 1 + 1 - (rw_R T Q).length = 2 by omega]
  exact ⟨rfl, rfl⟩
theorem rw_lenP {T : List Int32} {Q : List (Nat × Nat × Nat)} {b n : Nat} (h : b + n ≤ 600) (hT : b + n ≤ T.length) : (rw_R T (Q ++ [(2, b, n)])).length = (rw_R T Q).length + (3 + n) := by
  rw [rw_app, rw_1P (t := (2, b, n)) rfl h]
  simp only [List.length_append, List.length_cons, List.length_take, List.length_drop]
  omega
end
section
section PWMREAD
variable (l : Launch) (dC : Nat → ClassId) (dI : Nat → Nat → Nat) (cB cI cL : ClassId)

set_option maxHeartbeats 4000000 in
set_option maxRecDepth 100000 in
/-- thrown() -/
theorem c_Md_thrown (md a1 a2 a3 a4 a5 : Nat) (B T O Z : List Int32) (th : Int32) : rd_M l yX3_thrown wsX3_thrown ({ frames := 0, cells := 0, slots := 0, locals := 0 } : Room) (dC, dI) vwCl (tk_s cB cI cL) [.ref md] [(md, .inr (3, [.int th, .ref a1, .int (nI B.length), .ref a2, .int (nI T.length), .ref a3, .int (nI O.length), .ref a4, .int (nI Z.length), .ref a5]))] th := by
  refine rd_ofW (cc := cX3_thrown) (maxL := 1) (ret := (some .int)) (by decide) rfl (Nat.le_of_ble_eq_true rfl) ?_
  intro p e s m below meth c ls hx hb hr hml hts hown hlk hP hK hN hl
  have hl : lv_has ls 1 [(0, .ref md)] := hl
  refine lv_aload_n hx hb dX3_thrown_0 rfl (lv_at hl 0 rfl) ?_
  refine va_get (D := (dC, dI)) (ci := 3) (v := .int th) (C := RX3) (T := TX3) (N := 10) hx hb hts (by decide +kernel) hown hK hP 0 rfl rfl 0 (by decide) (hts (.fieldLink RX3 7 "PieceWaysModel" "thrownCode" "I") (by decide +kernel)) (fun _ h9 => h9) rfl dX3_thrown_1 ?_
  exact rd_iret hx hb hr hlk (rfl) dX3_thrown_4
set_option maxHeartbeats 4000000 in
set_option maxRecDepth 100000 in
/-- two(a) -/
theorem c_Md_two (md a1 a2 a3 a4 a5 : Nat) (B T O Z : List Int32) (th : Int32) (eo : Nat → Int32) (a n : Nat) (hO : O.length ≤ 603) (ho : im_k eo O) (h1 : O[a]? = some (nI (n / 256))) (h2 : O[a + 1]? = some (nI (n % 256))) : rd_M l yX3_two wsX3_two ({ frames := 0, cells := 0, slots := 0, locals := 0 } : Room) (dC, dI) vwCl (tk_s cB cI cL) [.ref md, .int (nI a)] [(md, .inr (3, [.int th, .ref a1, .int (nI B.length), .ref a2, .int (nI T.length), .ref a3, .int (nI O.length), .ref a4, .int (nI Z.length), .ref a5])), (a3, .inl (cI, 2000, .inl eo))] (nI n) := by
  refine rd_ofW (cc := cX3_two) (maxL := 2) (ret := (some .int)) (by decide) rfl (Nat.le_of_ble_eq_true rfl) ?_
  intro p e s m below meth c ls hx hb hr hml hts hown hlk hP hK hN hl
  have hl : lv_has ls 2 [(0, .ref md), (1, .int (nI a))] := hl
  have g1 := (List.getElem?_eq_some_iff.mp h1).1
  have g2 := (List.getElem?_eq_some_iff.mp h2).1
  refine lv_sipush (v := 256) hx hb dX3_two_0 (by decide) ?_
  refine lv_aload_n hx hb dX3_two_3 rfl (lv_at hl 0 rfl) ?_
  refine va_get (D := (dC, dI)) (ci := 3) (v := .ref a3) (C := RX3) (T := TX3) (N := 10) hx hb hts (by decide +kernel) hown hK hP 0 rfl rfl 5 (by decide) (hts (.fieldLink RX3 26 "PieceWaysModel" "row" "[I") (by decide +kernel)) (fun _ h9 => h9) rfl dX3_two_4 ?_
  refine lv_iload_n hx hb dX3_two_7 rfl (lv_at hl 1 rfl) ?_
  refine va_iald hx hb hK hP 1 1 rfl rfl (vp_in_nI (by omega) (by omega)) dX3_two_8 ?_
  rw [nI_clamp (by omega), ho a _ h1]
  refine lv_imul hx hb dX3_two_9 ?_
  refine lv_aload_n hx hb dX3_two_10 rfl (lv_at hl 0 rfl) ?_
  refine va_get (D := (dC, dI)) (ci := 3) (v := .ref a3) (C := RX3) (T := TX3) (N := 10) hx hb hts (by decide +kernel) hown hK hP 0 rfl rfl 5 (by decide) (hts (.fieldLink RX3 26 "PieceWaysModel" "row" "[I") (by decide +kernel)) (fun _ h9 => h9) rfl dX3_two_11 ?_
  refine lv_iload_n hx hb dX3_two_14 rfl (lv_at hl 1 rfl) ?_
  refine lv_iconst (v := 1) hx hb dX3_two_15 (by decide) ?_
  refine lv_iadd hx hb dX3_two_16 ?_
  refine va_iald hx hb hK hP 1 1 rfl rfl (by rw [nI_1 a]; exact vp_in_nI (by omega) (by omega)) dX3_two_17 ?_
  rw [nI_1 a, nI_clamp (by omega), ho _ _ h2]
  refine lv_iadd hx hb dX3_two_18 ?_
  exact rd_iret hx hb hr hlk (by rw [show (256 : Int32) = nI 256 from rfl, pk_mul, nI_add, Nat.div_add_mod]) dX3_two_19
set_option maxHeartbeats 4000000 in
set_option maxRecDepth 100000 in
/-- many(a) -/
theorem c_Md_many (md a1 a2 a3 a4 a5 : Nat) (B T O Z : List Int32) (th : Int32) (eo : Nat → Int32) (a : Nat) (t : Nat × Nat × Nat) (hO : O.length ≤ 603) (ho : im_k eo O) (ht : t.1 < 3) (ht6 : t.2.1 + t.2.2 ≤ 600) (hp : pa_O O a t) : rd_M l yX3_many wsX3_many ({ frames := 1, cells := 0, slots := 0, locals := 21 } : Room) (dC, dI) vwCl (tk_s cB cI cL) [.ref md, .int (nI a)] [(md, .inr (3, [.int th, .ref a1, .int (nI B.length), .ref a2, .int (nI T.length), .ref a3, .int (nI O.length), .ref a4, .int (nI Z.length), .ref a5])), (a3, .inl (cI, 2000, .inl eo))] (nI t.2.2) := by
  refine rd_ofW (cc := cX3_many) (maxL := 2) (ret := (some .int)) (by decide) rfl (Nat.le_of_ble_eq_true rfl) ?_
  intro p e s m below meth c ls hx hb hr hml hts hown hlk hP hK hN hl
  have hl : lv_has ls 2 [(0, .ref md), (1, .int (nI a))] := hl
  obtain ⟨p0, p1, p2⟩ := hp
  have g1 := (List.getElem?_eq_some_iff.mp p0).1
  refine lv_aload_n hx hb dX3_many_0 rfl (lv_at hl 0 rfl) ?_
  refine lv_aload_n hx hb dX3_many_1 rfl (lv_at hl 0 rfl) ?_
  refine va_get (D := (dC, dI)) (ci := 3) (v := .ref a3) (C := RX3) (T := TX3) (N := 10) hx hb hts (by decide +kernel) hown hK hP 0 rfl rfl 5 (by decide) (hts (.fieldLink RX3 26 "PieceWaysModel" "row" "[I") (by decide +kernel)) (fun _ h9 => h9) rfl dX3_many_2 ?_
  refine lv_iload_n hx hb dX3_many_5 rfl (lv_at hl 1 rfl) ?_
  refine va_iald hx hb hK hP 1 1 rfl rfl (vp_in_nI (by omega) (by omega)) dX3_many_6 ?_
  rw [nI_clamp (by omega), ho a _ p0]
  refine lv_iconst (v := 1) hx hb dX3_many_7 (by decide) ?_
  refine lv_icmp_ne (tgt := 17) hx hb dX3_many_8 (by decide) (fun c1 => ?_) (fun c1 => ?_)
  · have k1 : ¬ t.1 = 1 := fun h9 => c1 (by rw [h9]; rfl)
    refine lv_iload_n hx hb dX3_many_17 rfl (lv_at hl 1 rfl) ?_
    refine lv_iconst (v := 1) hx hb dX3_many_18 (by decide) ?_
    refine lv_iadd hx hb dX3_many_19 ?_
    rw [nI_1 a]
    refine rd_V (wc := [(md, .inr (3, [.int th, .ref a1, .int (nI B.length), .ref a2, .int (nI T.length), .ref a3, .int (nI O.length), .ref a4, .int (nI Z.length), .ref a5])), (a3, .inl (cI, 2000, .inl eo))]) (As := [.int (nI (a + 1))]) (rest := []) ⟨hx, hb, hml, hown, hts⟩ (c_Md_two l dC dI cB cI cL md a1 a2 a3 a4 a5 B T O Z th eo (a + 1) t.2.2 hO ho (p2 k1).1 (p2 k1).2) (cwV 1 hts gX3_many_X3_two rfl rfl rfl (by decide +kernel) ⟨(Nat.le_of_ble_eq_true rfl), (Nat.le_of_ble_eq_true rfl)⟩) hK hN (sb_P hP [0, 1] rfl) 0 rfl rfl rfl rfl hl.1 rfl (Nat.le_of_ble_eq_true rfl) dX3_many_20 ⟨(Nat.le_of_ble_eq_true rfl), (Nat.le_of_ble_eq_true rfl)⟩ ?_
    exact rd_iret hx hb hr hlk (rfl) dX3_many_23
  · have k1 : t.1 = 1 := (nI_eq (by omega) (by omega)).mp c1
    refine lv_iload_n hx hb dX3_many_11 rfl (lv_at hl 1 rfl) ?_
    refine lv_iconst (v := 3) hx hb dX3_many_12 (by decide) ?_
    refine lv_iadd hx hb dX3_many_13 ?_
    refine lv_goto (tgt := 20) hx hb dX3_many_14 (by decide) ?_
    rw [show (3 : Int32) = nI 3 from rfl, nI_add]
    refine rd_V (wc := [(md, .inr (3, [.int th, .ref a1, .int (nI B.length), .ref a2, .int (nI T.length), .ref a3, .int (nI O.length), .ref a4, .int (nI Z.length), .ref a5])), (a3, .inl (cI, 2000, .inl eo))]) (As := [.int (nI (a + 3))]) (rest := []) ⟨hx, hb, hml, hown, hts⟩ (c_Md_two l dC dI cB cI cL md a1 a2 a3 a4 a5 B T O Z th eo (a + 3) t.2.2 hO ho (p1 k1).2.1 (p1 k1).2.2) (cwV 1 hts gX3_many_X3_two rfl rfl rfl (by decide +kernel) ⟨(Nat.le_of_ble_eq_true rfl), (Nat.le_of_ble_eq_true rfl)⟩) hK hN (sb_P hP [0, 1] rfl) 0 rfl rfl rfl rfl hl.1 rfl (Nat.le_of_ble_eq_true rfl) dX3_many_20 ⟨(Nat.le_of_ble_eq_true rfl), (Nat.le_of_ble_eq_true rfl)⟩ ?_
    exact rd_iret hx hb hr hlk (rfl) dX3_many_23
set_option maxHeartbeats 4000000 in
set_option maxRecDepth 100000 in
/-- behind(a) -/
theorem c_Md_behind (md a1 a2 a3 a4 a5 : Nat) (B T O Z : List Int32) (th : Int32) (eo : Nat → Int32) (a : Nat) (t : Nat × Nat × Nat) (hO : O.length ≤ 603) (ho : im_k eo O) (ht : t.1 < 3) (ht6 : t.2.1 + t.2.2 ≤ 600) (hp : pa_O O a t) : rd_M l yX3_behind wsX3_behind ({ frames := 1, cells := 0, slots := 0, locals := 21 } : Room) (dC, dI) vwCl (tk_s cB cI cL) [.ref md, .int (nI a)] [(md, .inr (3, [.int th, .ref a1, .int (nI B.length), .ref a2, .int (nI T.length), .ref a3, .int (nI O.length), .ref a4, .int (nI Z.length), .ref a5])), (a3, .inl (cI, 2000, .inl eo))] (nI (a + (if t.1 = 1 then 5 else 3 + t.2.2))) := by
  refine rd_ofW (cc := cX3_behind) (maxL := 2) (ret := (some .int)) (by decide) rfl (Nat.le_of_ble_eq_true rfl) ?_
  intro p e s m below meth c ls hx hb hr hml hts hown hlk hP hK hN hl
  have hl : lv_has ls 2 [(0, .ref md), (1, .int (nI a))] := hl
  obtain ⟨p0, p1, p2⟩ := hp
  have g1 := (List.getElem?_eq_some_iff.mp p0).1
  refine lv_aload_n hx hb dX3_behind_0 rfl (lv_at hl 0 rfl) ?_
  refine va_get (D := (dC, dI)) (ci := 3) (v := .ref a3) (C := RX3) (T := TX3) (N := 10) hx hb hts (by decide +kernel) hown hK hP 0 rfl rfl 5 (by decide) (hts (.fieldLink RX3 26 "PieceWaysModel" "row" "[I") (by decide +kernel)) (fun _ h9 => h9) rfl dX3_behind_1 ?_
  refine lv_iload_n hx hb dX3_behind_4 rfl (lv_at hl 1 rfl) ?_
  refine va_iald hx hb hK hP 1 1 rfl rfl (vp_in_nI (by omega) (by omega)) dX3_behind_5 ?_
  rw [nI_clamp (by omega), ho a _ p0]
  refine lv_iconst (v := 1) hx hb dX3_behind_6 (by decide) ?_
  refine lv_icmp_ne (tgt := 16) hx hb dX3_behind_7 (by decide) (fun c1 => ?_) (fun c1 => ?_)
  · have k1 : ¬ t.1 = 1 := fun h9 => c1 (by rw [h9]; rfl)
    refine lv_iload_n hx hb dX3_behind_16 rfl (lv_at hl 1 rfl) ?_
    refine lv_iconst (v := 3) hx hb dX3_behind_17 (by decide) ?_
    refine lv_iadd hx hb dX3_behind_18 ?_
    refine lv_aload_n hx hb dX3_behind_19 rfl (lv_at hl 0 rfl) ?_
    refine lv_iload_n hx hb dX3_behind_20 rfl (lv_at hl 1 rfl) ?_
    refine lv_iconst (v := 1) hx hb dX3_behind_21 (by decide) ?_
    refine lv_iadd hx hb dX3_behind_22 ?_
    rw [nI_1 a]
    refine rd_V (wc := [(md, .inr (3, [.int th, .ref a1, .int (nI B.length), .ref a2, .int (nI T.length), .ref a3, .int (nI O.length), .ref a4, .int (nI Z.length), .ref a5])), (a3, .inl (cI, 2000, .inl eo))]) (As := [.int (nI (a + 1))]) (rest := [.int ((nI a) + 3)]) ⟨hx, hb, hml, hown, hts⟩ (c_Md_two l dC dI cB cI cL md a1 a2 a3 a4 a5 B T O Z th eo (a + 1) t.2.2 hO ho (p2 k1).1 (p2 k1).2) (cwV 1 hts gX3_behind_X3_two rfl rfl rfl (by decide +kernel) ⟨(Nat.le_of_ble_eq_true rfl), (Nat.le_of_ble_eq_true rfl)⟩) hK hN (sb_P hP [0, 1] rfl) 0 rfl rfl rfl rfl hl.1 rfl (Nat.le_of_ble_eq_true rfl) dX3_behind_23 ⟨(Nat.le_of_ble_eq_true rfl), (Nat.le_of_ble_eq_true rfl)⟩ ?_
    refine lv_iadd hx hb dX3_behind_26 ?_
    exact rd_iret hx hb hr hlk (by rw [if_neg k1, show (3 : Int32) = nI 3 from rfl, nI_add, nI_add, Nat.add_assoc]) dX3_behind_27
  · have k1 : t.1 = 1 := (nI_eq (by omega) (by omega)).mp c1
    refine lv_iload_n hx hb dX3_behind_10 rfl (lv_at hl 1 rfl) ?_
    refine lv_iconst (v := 5) hx hb dX3_behind_11 (by decide) ?_
    refine lv_iadd hx hb dX3_behind_12 ?_
    refine lv_goto (tgt := 27) hx hb dX3_behind_13 (by decide) ?_
    exact rd_iret hx hb hr hlk (by rw [if_pos k1, show (5 : Int32) = nI 5 from rfl, nI_add]) dX3_behind_27
set_option maxHeartbeats 4000000 in
set_option maxRecDepth 100000 in
/-- alike(bp, tp) -/
theorem c_Md_alike (md a1 a2 a3 a4 a5 : Nat) (B T O Z : List Int32) (th : Int32) (eb et : Nat → Int32) (bp tp : Nat) (hbp : bp ≤ 600) (htp : tp ≤ 600) (hB : B.length ≤ 600) (hT : T.length ≤ 600) (hb1 : im_k eb B) (ht1 : im_k et T) : rd_M l yX3_alike wsX3_alike ({ frames := 0, cells := 0, slots := 0, locals := 0 } : Room) (dC, dI) vwCl (tk_s cB cI cL) [.ref md, .int (nI bp), .int (nI tp)] [(md, .inr (3, [.int th, .ref a1, .int (nI B.length), .ref a2, .int (nI T.length), .ref a3, .int (nI O.length), .ref a4, .int (nI Z.length), .ref a5])), (a1, .inl (cI, 600, .inl eb)), (a2, .inl (cI, 600, .inl et))] (nI (lc_p (B.drop bp) (T.drop tp))) := by
  refine rd_ofW (cc := cX3_alike) (maxL := 4) (ret := (some .int)) (by decide) rfl (Nat.le_of_ble_eq_true rfl) ?_
  intro p e s m below meth c ls hx hb hr hml hts hown hlk hP hK hN hl
  have hl : lv_has ls 4 [(0, .ref md), (1, .int (nI bp)), (2, .int (nI tp))] := hl
  have loop : ∀ (k n : Nat) (ls : Array Slot), B.length ≤ bp + n + k → n ≤ 600 → lc_p (B.drop bp) (T.drop tp) = n + lc_p (B.drop (bp + n)) (T.drop (tp + n)) → lv_has ls 4 [(3, .int (nI n)), (0, .ref md), (1, .int (nI bp)), (2, .int (nI tp))] → W p l e ({ frames := 0, cells := 0, slots := 0, locals := 0 } : Room) s m ([.ref md, .int (nI bp), .int (nI tp)] : List Value).toArray below meth c s.heap [] 0 0 (MQ below (QcRead (nI (lc_p (B.drop bp) (T.drop tp)))) ([.ref md, .int (nI bp), .int (nI tp)] : List Value).toArray s 0 0 (fun _ => False)) (F0 m 2 ls []) := by
    intro k
    induction k with
    | zero =>
      intro n ls hk hn he hl
      refine lv_iload_n hx hb dX3_alike_2 rfl (lv_at hl 2 rfl) ?_
      refine lv_iload_n hx hb dX3_alike_3 rfl (lv_at hl 0 rfl) ?_
      refine lv_iadd hx hb dX3_alike_4 ?_
      refine lv_aload_n hx hb dX3_alike_5 rfl (lv_at hl 1 rfl) ?_
      refine va_get (D := (dC, dI)) (ci := 3) (v := .int (nI B.length)) (C := RX3) (T := TX3) (N := 10) hx hb hts (by decide +kernel) hown hK hP 0 rfl rfl 2 (by decide) (hts (.fieldLink RX3 17 "PieceWaysModel" "bases" "I") (by decide +kernel)) (fun _ h9 => h9) rfl dX3_alike_6 ?_
      refine lv_icmp_ge (tgt := 47) hx hb dX3_alike_9 (by decide) (fun c1 => ?_) (fun c1 => ?_)
      · refine lv_iload_n hx hb dX3_alike_47 rfl (lv_at hl 0 rfl) ?_
        have q1 : B.length ≤ bp + n := by rw [nI_add] at c1; exact (nI_leI (by omega) (by omega)).mp c1
        exact rd_iret hx hb hr hlk (by rw [he, lc_end1 q1, Nat.add_zero]) dX3_alike_48
      · exact absurd (by rw [nI_add]; exact nI_le (by omega) (by omega)) c1
    | succ k ih =>
      intro n ls hk hn he hl
      refine lv_iload_n hx hb dX3_alike_2 rfl (lv_at hl 2 rfl) ?_
      refine lv_iload_n hx hb dX3_alike_3 rfl (lv_at hl 0 rfl) ?_
      refine lv_iadd hx hb dX3_alike_4 ?_
      refine lv_aload_n hx hb dX3_alike_5 rfl (lv_at hl 1 rfl) ?_
      refine va_get (D := (dC, dI)) (ci := 3) (v := .int (nI B.length)) (C := RX3) (T := TX3) (N := 10) hx hb hts (by decide +kernel) hown hK hP 0 rfl rfl 2 (by decide) (hts (.fieldLink RX3 17 "PieceWaysModel" "bases" "I") (by decide +kernel)) (fun _ h9 => h9) rfl dX3_alike_6 ?_
      refine lv_icmp_ge (tgt := 47) hx hb dX3_alike_9 (by decide) (fun c1 => ?_) (fun c1 => ?_)
      · refine lv_iload_n hx hb dX3_alike_47 rfl (lv_at hl 0 rfl) ?_
        have q1 : B.length ≤ bp + n := by rw [nI_add] at c1; exact (nI_leI (by omega) (by omega)).mp c1
        exact rd_iret hx hb hr hlk (by rw [he, lc_end1 q1, Nat.add_zero]) dX3_alike_48
      · have q1 : bp + n < B.length := by rcases Nat.lt_or_ge (bp + n) B.length with h9 | h9; exact h9; exact absurd (by rw [nI_add]; exact nI_le h9 (by omega)) c1
        refine lv_iload_n hx hb dX3_alike_12 rfl (lv_at hl 3 rfl) ?_
        refine lv_iload_n hx hb dX3_alike_13 rfl (lv_at hl 0 rfl) ?_
        refine lv_iadd hx hb dX3_alike_14 ?_
        refine lv_aload_n hx hb dX3_alike_15 rfl (lv_at hl 1 rfl) ?_
        refine va_get (D := (dC, dI)) (ci := 3) (v := .int (nI T.length)) (C := RX3) (T := TX3) (N := 10) hx hb hts (by decide +kernel) hown hK hP 0 rfl rfl 4 (by decide) (hts (.fieldLink RX3 23 "PieceWaysModel" "targets" "I") (by decide +kernel)) (fun _ h9 => h9) rfl dX3_alike_16 ?_
        refine lv_icmp_ge (tgt := 47) hx hb dX3_alike_19 (by decide) (fun c2 => ?_) (fun c2 => ?_)
        · refine lv_iload_n hx hb dX3_alike_47 rfl (lv_at hl 0 rfl) ?_
          have q2 : T.length ≤ tp + n := by rw [nI_add] at c2; exact (nI_leI (by omega) (by omega)).mp c2
          exact rd_iret hx hb hr hlk (by rw [he, lc_end2 q2, Nat.add_zero]) dX3_alike_48
        · have q2 : tp + n < T.length := by rcases Nat.lt_or_ge (tp + n) T.length with h9 | h9; exact h9; exact absurd (by rw [nI_add]; exact nI_le h9 (by omega)) c2
          obtain ⟨y1, hy1⟩ : ∃ y, B[bp + n]? = some y := ⟨_, List.getElem?_eq_getElem q1⟩
          obtain ⟨y2, hy2⟩ : ∃ y, T[tp + n]? = some y := ⟨_, List.getElem?_eq_getElem q2⟩
          refine lv_aload_n hx hb dX3_alike_22 rfl (lv_at hl 1 rfl) ?_
          refine va_get (D := (dC, dI)) (ci := 3) (v := .ref a1) (C := RX3) (T := TX3) (N := 10) hx hb hts (by decide +kernel) hown hK hP 0 rfl rfl 1 (by decide) (hts (.fieldLink RX3 13 "PieceWaysModel" "base" "[I") (by decide +kernel)) (fun _ h9 => h9) rfl dX3_alike_23 ?_
          refine lv_iload_n hx hb dX3_alike_26 rfl (lv_at hl 2 rfl) ?_
          refine lv_iload_n hx hb dX3_alike_27 rfl (lv_at hl 0 rfl) ?_
          refine lv_iadd hx hb dX3_alike_28 ?_
          refine va_iald hx hb hK hP 1 1 rfl rfl (by rw [nI_add bp n]; exact vp_in_nI (by omega) (by omega)) dX3_alike_29 ?_
          rw [nI_add bp n, nI_clamp (by omega), hb1 _ _ hy1]
          refine lv_aload_n hx hb dX3_alike_30 rfl (lv_at hl 1 rfl) ?_
          refine va_get (D := (dC, dI)) (ci := 3) (v := .ref a2) (C := RX3) (T := TX3) (N := 10) hx hb hts (by decide +kernel) hown hK hP 0 rfl rfl 3 (by decide) (hts (.fieldLink RX3 20 "PieceWaysModel" "target" "[I") (by decide +kernel)) (fun _ h9 => h9) rfl dX3_alike_31 ?_
          refine lv_iload_n hx hb dX3_alike_34 rfl (lv_at hl 3 rfl) ?_
          refine lv_iload_n hx hb dX3_alike_35 rfl (lv_at hl 0 rfl) ?_
          refine lv_iadd hx hb dX3_alike_36 ?_
          refine va_iald hx hb hK hP 2 1 rfl rfl (by rw [nI_add tp n]; exact vp_in_nI (by omega) (by omega)) dX3_alike_37 ?_
          rw [nI_add tp n, nI_clamp (by omega), ht1 _ _ hy2]
          refine lv_icmp_ne (tgt := 47) hx hb dX3_alike_38 (by decide) (fun c3 => ?_) (fun c3 => ?_)
          · refine lv_iload_n hx hb dX3_alike_47 rfl (lv_at hl 0 rfl) ?_
            exact rd_iret hx hb hr hlk (by rw [he, lc_stop hy1 hy2 c3, Nat.add_zero]) dX3_alike_48
          · have e3 := lc_step hy1 (c3 ▸ hy2)
            refine lv_iinc (v := ((nI n) + 1)) (lv' := [(3, .int ((nI n) + 1)), (0, .ref md), (1, .int (nI bp)), (2, .int (nI tp))]) hx hb dX3_alike_41 hl (k := 0) rfl rfl (by decide) rfl (fun ls hl => ?_)
            refine lv_goto (tgt := 2) hx hb dX3_alike_44 (by decide) ?_
            have hl : lv_has ls 4 [(3, .int (nI (n + 1))), (0, .ref md), (1, .int (nI bp)), (2, .int (nI tp))] := by have h9 := lv_sub (l' := [(3, .int ((nI n) + 1)), (0, .ref md), (1, .int (nI bp)), (2, .int (nI tp))]) hl [0, 1, 2, 3] rfl; rw [nI_1] at h9; exact h9
            exact ih (n + 1) ls (by omega) (by omega) (by rw [he, e3]; show n + (lc_p (B.drop (bp + n + 1)) (T.drop (tp + n + 1)) + 1) = n + 1 + lc_p (B.drop (bp + n + 1)) (T.drop (tp + n + 1)); omega) hl
  refine lv_iconst (v := 0) hx hb dX3_alike_0 (by decide) ?_
  refine lv_istore_n (lv' := [(3, .int 0), (0, .ref md), (1, .int (nI bp)), (2, .int (nI tp))]) hx hb dX3_alike_1 rfl hl (by decide) rfl (fun ls hl => ?_)
  exact loop B.length 0 ls (by omega) (by omega) (by rw [Nat.add_zero, Nat.add_zero, Nat.zero_add]) (lv_sub hl [0, 1, 2, 3] rfl)
end PWMREAD
end
section
section PWMPUT
variable (l : Launch) (dC : Nat → ClassId) (dI : Nat → Nat → Nat) (cB cI cL : ClassId)

set_option maxHeartbeats 1000000 in
set_option maxRecDepth 100000 in
/-- put(tg, v, n) -/
theorem c_Md_put (md a1 a2 a3 a4 a5 : Nat) (B T O Z : List Int32) (th : Int32) (eb et : Nat → Int32) (tg : Int32) (v : Int64) (n : Int32) (hB : B.length ≤ 600) (hT : T.length ≤ 600) (heb : im_k eb B) (het : im_k et T) : wi_M l yX3_put wsX3_put ({ frames := 0, cells := 0, slots := 0, locals := 0 } : Room) (dC, dI) vwCl (tk_s cB cI cL) [.ref md, .int tg, .long v, .int n] [(md, .inr (3, [.int th, .ref a1, .int (nI B.length), .ref a2, .int (nI T.length), .ref a3, .int (nI O.length), .ref a4, .int (nI Z.length), .ref a5])), (a1, .inl (cI, 600, .inl eb)), (a2, .inl (cI, 600, .inl et))] 0 0 (fun (r : Int32) (z : (Nat → Int32) × (Nat → Int32)) => r = pu_r (if tg = 0 then B else T) n ∧ im_k z.1 (if tg = 0 then pu_L B v n (pu_r B n) else B) ∧ im_k z.2 (if tg = 0 then T else pu_L T v n (pu_r T n))) (fun z : (Nat → Int32) × (Nat → Int32) => [(md, .inr (3, [.int 0, .ref a1, .int (nI (if tg = 0 then pu_L B v n (pu_r B n) else B).length), .ref a2, .int (nI (if tg = 0 then T else pu_L T v n (pu_r T n)).length), .ref a3, .int (nI O.length), .ref a4, .int (nI Z.length), .ref a5])), (a1, .inl (cI, 600, .inl (z.1))), (a2, .inl (cI, 600, .inl (z.2)))]) := by
  refine wi_ofW (cc := cX3_put) (maxL := 8) (ret := (some .boolean)) (by decide) rfl (Nat.le_of_ble_eq_true rfl) ?_
  intro p e s m below meth c ls A hx hb hr hml hts hown hlk hnm hP hK hN hD hA hS hl
  have hl : lv_has ls 8 [(0, .ref md), (1, .int tg), (2, .long v), (4, .int n)] := hl
  refine lv_aload_n hx hb dX3_put_0 rfl (lv_at hl 0 rfl) ?_
  refine lv_iconst (v := 0) hx hb dX3_put_1 (by decide) ?_
  refine va_put (D := (dC, dI)) (ci := 3) (v := .int 0) (ty := .int) (C := RX3) (T := TX3) (N := 10) hx hb hts (by decide +kernel) tyX3 tyX3_ok nmX3 hown hK hP hD hS 0 rfl rfl 0 (by decide) (hts (.fieldLink RX3 7 "PieceWaysModel" "thrownCode" "I") (by decide +kernel)) (fun _ h9 => h9) rfl (by decide +kernel) rfl rfl (Nat.le_of_ble_eq_true rfl) dX3_put_2 (fun H locs hP hD hS => ?_)
  have hP : va_P (dC, dI) vwCl [(md, .inr (3, [.int 0, .ref a1, .int (nI B.length), .ref a2, .int (nI T.length), .ref a3, .int (nI O.length), .ref a4, .int (nI Z.length), .ref a5])), (a1, .inl (cI, 600, .inl eb)), (a2, .inl (cI, 600, .inl et))] H := hP
  have hD : va_D A [(md, .inr (3, [.int 0, .ref a1, .int (nI B.length), .ref a2, .int (nI T.length), .ref a3, .int (nI O.length), .ref a4, .int (nI Z.length), .ref a5])), (a1, .inl (cI, 600, .inl eb)), (a2, .inl (cI, 600, .inl et))] := hD
  refine lv_iload_n hx hb dX3_put_5 rfl (lv_at hl 1 rfl) ?_
  refine lv_if_eq (tgt := 16) hx hb dX3_put_6 (by decide) (fun c0 => ?_) (fun c0 => ?_)
  · have eL : (if tg = 0 then B else T) = B := if_pos c0
    have eB : (if tg = 0 then pu_L B v n (pu_r B n) else B) = pu_L B v n (pu_r B n) := if_pos c0
    have eT : (if tg = 0 then T else pu_L T v n (pu_r T n)) = T := if_pos c0
    refine lv_aload_n hx hb dX3_put_16 rfl (lv_at hl 0 rfl) ?_
    refine va_get (D := (dC, dI)) (ci := 3) (v := .int (nI B.length)) (C := RX3) (T := TX3) (N := 10) hx hb hts (by decide +kernel) hown hK hP 0 rfl rfl 2 (by decide) (hts (.fieldLink RX3 17 "PieceWaysModel" "bases" "I") (by decide +kernel)) (fun _ h9 => h9) rfl dX3_put_17 ?_
    refine lv_istore (lv' := [(5, .int (nI B.length)), (0, .ref md), (1, .int tg), (2, .long v), (4, .int n)]) hx hb dX3_put_20 hl (by decide) rfl (fun ls hl => ?_)
    refine lv_iload hx hb dX3_put_22 (lv_at hl 4 rfl) ?_
    refine lv_if_lt (tgt := 45) hx hb dX3_put_24 (by decide) (fun c1 => ?_) (fun c1 => ?_)
    · refine lv_iconst (v := 0) hx hb dX3_put_45 (by decide) ?_
      have e0 : pu_r B n = 0 := pu_01 c1
      have e1 : pu_L B v n (pu_r B n) = B := pu_L0 e0
      replace eB := eB.trans e1
      refine wi_zret hx hb hr hlk rfl (eb, et) ⟨by rw [eL, e0], by rw [eB]; exact heb, by rw [eT]; exact het⟩ ?_ ?_ hS dX3_put_46
      · show va_P (dC, dI) vwCl [(md, .inr (3, [.int 0, .ref a1, .int (nI (if tg = 0 then pu_L B v n (pu_r B n) else B).length), .ref a2, .int (nI (if tg = 0 then T else pu_L T v n (pu_r T n)).length), .ref a3, .int (nI O.length), .ref a4, .int (nI Z.length), .ref a5])), (a1, .inl (cI, 600, .inl (eb))), (a2, .inl (cI, 600, .inl (et)))] _
        rw [eB, eT]; exact hP
      · show va_D A [(md, .inr (3, [.int 0, .ref a1, .int (nI (if tg = 0 then pu_L B v n (pu_r B n) else B).length), .ref a2, .int (nI (if tg = 0 then T else pu_L T v n (pu_r T n)).length), .ref a3, .int (nI O.length), .ref a4, .int (nI Z.length), .ref a5])), (a1, .inl (cI, 600, .inl (eb))), (a2, .inl (cI, 600, .inl (et)))]
        rw [eB, eT]; exact hD
    · refine lv_iload hx hb dX3_put_27 (lv_at hl 4 rfl) ?_
      refine lv_bipush (v := 8) hx hb dX3_put_29 (by decide) ?_
      refine lv_icmp_gt (tgt := 45) hx hb dX3_put_31 (by decide) (fun c2 => ?_) (fun c2 => ?_)
      · refine lv_iconst (v := 0) hx hb dX3_put_45 (by decide) ?_
        have e0 : pu_r B n = 0 := pu_02 c1 c2
        have e1 : pu_L B v n (pu_r B n) = B := pu_L0 e0
        replace eB := eB.trans e1
        refine wi_zret hx hb hr hlk rfl (eb, et) ⟨by rw [eL, e0], by rw [eB]; exact heb, by rw [eT]; exact het⟩ ?_ ?_ hS dX3_put_46
        · show va_P (dC, dI) vwCl [(md, .inr (3, [.int 0, .ref a1, .int (nI (if tg = 0 then pu_L B v n (pu_r B n) else B).length), .ref a2, .int (nI (if tg = 0 then T else pu_L T v n (pu_r T n)).length), .ref a3, .int (nI O.length), .ref a4, .int (nI Z.length), .ref a5])), (a1, .inl (cI, 600, .inl (eb))), (a2, .inl (cI, 600, .inl (et)))] _
          rw [eB, eT]; exact hP
        · show va_D A [(md, .inr (3, [.int 0, .ref a1, .int (nI (if tg = 0 then pu_L B v n (pu_r B n) else B).length), .ref a2, .int (nI (if tg = 0 then T else pu_L T v n (pu_r T n)).length), .ref a3, .int (nI O.length), .ref a4, .int (nI Z.length), .ref a5])), (a1, .inl (cI, 600, .inl (eb))), (a2, .inl (cI, 600, .inl (et)))]
          rw [eB, eT]; exact hD
      · refine lv_iload hx hb dX3_put_34 (lv_at hl 0 rfl) ?_
        refine lv_iload hx hb dX3_put_36 (lv_at hl 4 rfl) ?_
        refine lv_iadd hx hb dX3_put_38 ?_
        refine lv_sipush (v := 600) hx hb dX3_put_39 (by decide) ?_
        refine lv_icmp_le (tgt := 47) hx hb dX3_put_42 (by decide) (fun c3 => ?_) (fun c3 => ?_)
        · have c3 := (pu_m hB c1 c2).mp c3
          obtain ⟨N, rfl, hN8, hN6⟩ := pu_in hB c1 c2 c3
          have e1 : pu_r B (nI N) = 1 := pu_1 c1 c2 c3
          have e2 : pu_L B v (nI N) (pu_r B (nI N)) = B ++ pb_L v N := by rw [e1]; unfold pu_L; rw [if_neg (by decide), nI_clamp (by omega)]
          replace eB := eB.trans e2
          have loop : ∀ (k : Nat) (i : Int32) (L1 : List Int32) (f1 : Nat → Int32) (H : Heap) (locs : List Loc) (ls : Array Slot), k ≤ N → i = nI k - 1 → L1 ++ pb_L v k = B ++ pb_L v N → im_k f1 L1 → va_P (dC, dI) vwCl [(md, .inr (3, [.int 0, .ref a1, .int (nI L1.length), .ref a2, .int (nI T.length), .ref a3, .int (nI O.length), .ref a4, .int (nI Z.length), .ref a5])), (a1, .inl (cI, 600, .inl f1)), (a2, .inl (cI, 600, .inl et))] H → va_D A [(md, .inr (3, [.int 0, .ref a1, .int (nI L1.length), .ref a2, .int (nI T.length), .ref a3, .int (nI O.length), .ref a4, .int (nI Z.length), .ref a5])), (a1, .inl (cI, 600, .inl f1)), (a2, .inl (cI, 600, .inl et))] → va_S A s.heap H locs → lv_has ls 8 [(6, .int i), (1, .int tg), (0, .ref md), (2, .long v)] → W p l e ({ frames := 0, cells := 0, slots := 0, locals := 0 } : Room) s m ([.ref md, .int tg, .long v, .int (nI N)] : List Value).toArray below meth c H locs 0 0 (MQ below (va_Qi (fun (r : Int32) (z : (Nat → Int32) × (Nat → Int32)) => r = pu_r (if tg = 0 then B else T) (nI N) ∧ im_k z.1 (if tg = 0 then pu_L B v (nI N) (pu_r B (nI N)) else B) ∧ im_k z.2 (if tg = 0 then T else pu_L T v (nI N) (pu_r T (nI N)))) (fun u t => va_P (dC, dI) vwCl ((fun z : (Nat → Int32) × (Nat → Int32) => [(md, .inr (3, [.int 0, .ref a1, .int (nI (if tg = 0 then pu_L B v (nI N) (pu_r B (nI N)) else B).length), .ref a2, .int (nI (if tg = 0 then T else pu_L T v (nI N) (pu_r T (nI N))).length), .ref a3, .int (nI O.length), .ref a4, .int (nI Z.length), .ref a5])), (a1, .inl (cI, 600, .inl (z.1))), (a2, .inl (cI, 600, .inl (z.2)))]) u) t.heap ∧ va_D A ((fun z : (Nat → Int32) × (Nat → Int32) => [(md, .inr (3, [.int 0, .ref a1, .int (nI (if tg = 0 then pu_L B v (nI N) (pu_r B (nI N)) else B).length), .ref a2, .int (nI (if tg = 0 then T else pu_L T v (nI N) (pu_r T (nI N))).length), .ref a3, .int (nI O.length), .ref a4, .int (nI Z.length), .ref a5])), (a1, .inl (cI, 600, .inl (z.1))), (a2, .inl (cI, 600, .inl (z.2)))]) u)) A) ([.ref md, .int tg, .long v, .int (nI N)] : List Value).toArray s 0 0 A) (F0 m 53 ls []) := by
            intro k
            induction k with
            | zero =>
              intro i L1 f1 H locs ls hkN hi hL1 hf1 hP hD hS hl
              have hL1 : L1 = B ++ pb_L v N := by rw [← hL1]; exact (List.append_nil L1).symm
              subst hL1
              refine lv_iload hx hb dX3_put_53 (lv_at hl 0 rfl) ?_
              refine lv_if_lt (tgt := 127) hx hb dX3_put_55 (by decide) (fun c4 => ?_) (fun c4 => ?_)
              · refine lv_iconst (v := 1) hx hb dX3_put_127 (by decide) ?_
                refine wi_zret hx hb hr hlk rfl (f1, et) ⟨by rw [eL, e1], by rw [eB]; exact hf1, by rw [eT]; exact het⟩ ?_ ?_ hS dX3_put_128
                · show va_P (dC, dI) vwCl [(md, .inr (3, [.int 0, .ref a1, .int (nI (if tg = 0 then pu_L B v (nI N) (pu_r B (nI N)) else B).length), .ref a2, .int (nI (if tg = 0 then T else pu_L T v (nI N) (pu_r T (nI N))).length), .ref a3, .int (nI O.length), .ref a4, .int (nI Z.length), .ref a5])), (a1, .inl (cI, 600, .inl (f1))), (a2, .inl (cI, 600, .inl (et)))] _
                  rw [eB, eT]; exact hP
                · show va_D A [(md, .inr (3, [.int 0, .ref a1, .int (nI (if tg = 0 then pu_L B v (nI N) (pu_r B (nI N)) else B).length), .ref a2, .int (nI (if tg = 0 then T else pu_L T v (nI N) (pu_r T (nI N))).length), .ref a3, .int (nI O.length), .ref a4, .int (nI Z.length), .ref a5])), (a1, .inl (cI, 600, .inl (f1))), (a2, .inl (cI, 600, .inl (et)))]
                  rw [eB, eT]; exact hD
              · exact absurd (by rw [hi]; decide) c4
            | succ k ih =>
              intro i L1 f1 H locs ls hkN hi hL1 hf1 hP hD hS hl
              rw [nI_pred] at hi
              subst hi
              have hlen : L1.length + (k + 1) = B.length + N := by have h9 := congrArg List.length hL1; rw [List.length_append, List.length_append, pb_len, pb_len] at h9; exact h9
              have hbt := bt_I v k (by omega)
              refine lv_iload hx hb dX3_put_53 (lv_at hl 0 rfl) ?_
              refine lv_if_lt (tgt := 127) hx hb dX3_put_55 (by decide) (fun c4 => ?_) (fun c4 => ?_)
              · exact absurd c4 (nI_pos (by omega))
              · refine lv_lload_n hx hb dX3_put_58 rfl (lv_at hl 3 rfl) ?_
                refine lv_bipush (v := 8) hx hb dX3_put_59 (by decide) ?_
                refine lv_iload hx hb dX3_put_61 (lv_at hl 0 rfl) ?_
                refine lv_imul hx hb dX3_put_63 ?_
                refine lv_lshr hx hb dX3_put_64 rfl ?_
                refine lv_l2i hx hb dX3_put_65 rfl ?_
                refine lv_sipush (v := 255) hx hb dX3_put_66 (by decide) ?_
                refine lv_iand hx hb dX3_put_69 ?_
                rw [hbt]
                refine lv_istore (lv' := [(7, .int (pb_b v k &&& 255)), (6, .int (nI k)), (1, .int tg), (0, .ref md), (2, .long v)]) hx hb dX3_put_70 hl (by decide) rfl (fun ls hl => ?_)
                refine lv_iload_n hx hb dX3_put_72 rfl (lv_at hl 2 rfl) ?_
                refine lv_if_eq (tgt := 100) hx hb dX3_put_73 (by decide) (fun c5 => ?_) (fun c5 => ?_)
                · refine lv_aload_n hx hb dX3_put_100 rfl (lv_at hl 3 rfl) ?_
                  refine va_get (D := (dC, dI)) (ci := 3) (v := .ref a1) (C := RX3) (T := TX3) (N := 10) hx hb hts (by decide +kernel) hown hK hP 0 rfl rfl 1 (by decide) (hts (.fieldLink RX3 13 "PieceWaysModel" "base" "[I") (by decide +kernel)) (fun _ h9 => h9) rfl dX3_put_101 ?_
                  refine lv_aload_n hx hb dX3_put_104 rfl (lv_at hl 3 rfl) ?_
                  refine va_get (D := (dC, dI)) (ci := 3) (v := .int (nI L1.length)) (C := RX3) (T := TX3) (N := 10) hx hb hts (by decide +kernel) hown hK hP 0 rfl rfl 2 (by decide) (hts (.fieldLink RX3 17 "PieceWaysModel" "bases" "I") (by decide +kernel)) (fun _ h9 => h9) rfl dX3_put_105 ?_
                  refine lv_iload hx hb dX3_put_108 (lv_at hl 0 rfl) ?_
                  refine va_iast hx hb hK hP hD hS 1 1 rfl rfl (vp_in_nI (by omega) (by omega)) dX3_put_110 (fun H locs hP hD hS => ?_)
                  have hP : va_P (dC, dI) vwCl [(md, .inr (3, [.int 0, .ref a1, .int (nI L1.length), .ref a2, .int (nI T.length), .ref a3, .int (nI O.length), .ref a4, .int (nI Z.length), .ref a5])), (a1, .inl (cI, 600, .inl (upd f1 (nI L1.length).toNatClampNeg (pb_b v k &&& 255)))), (a2, .inl (cI, 600, .inl et))] H := hP
                  have hD : va_D A [(md, .inr (3, [.int 0, .ref a1, .int (nI L1.length), .ref a2, .int (nI T.length), .ref a3, .int (nI O.length), .ref a4, .int (nI Z.length), .ref a5])), (a1, .inl (cI, 600, .inl (upd f1 (nI L1.length).toNatClampNeg (pb_b v k &&& 255)))), (a2, .inl (cI, 600, .inl et))] := hD
                  refine lv_aload_n hx hb dX3_put_111 rfl (lv_at hl 3 rfl) ?_
                  refine lv_dup hx hb dX3_put_112 rfl ?_
                  refine va_get (D := (dC, dI)) (ci := 3) (v := .int (nI L1.length)) (C := RX3) (T := TX3) (N := 10) hx hb hts (by decide +kernel) hown hK hP 0 rfl rfl 2 (by decide) (hts (.fieldLink RX3 17 "PieceWaysModel" "bases" "I") (by decide +kernel)) (fun _ h9 => h9) rfl dX3_put_113 ?_
                  refine lv_iconst (v := 1) hx hb dX3_put_116 (by decide) ?_
                  refine lv_iadd hx hb dX3_put_117 ?_
                  refine va_put (D := (dC, dI)) (ci := 3) (v := .int ((nI L1.length) + 1)) (ty := .int) (C := RX3) (T := TX3) (N := 10) hx hb hts (by decide +kernel) tyX3 tyX3_ok nmX3 hown hK hP hD hS 0 rfl rfl 2 (by decide) (hts (.fieldLink RX3 17 "PieceWaysModel" "bases" "I") (by decide +kernel)) (fun _ h9 => h9) rfl (by decide +kernel) rfl rfl (Nat.le_of_ble_eq_true rfl) dX3_put_118 (fun H locs hP hD hS => ?_)
                  have hP : va_P (dC, dI) vwCl [(md, .inr (3, [.int 0, .ref a1, .int ((nI L1.length) + 1), .ref a2, .int (nI T.length), .ref a3, .int (nI O.length), .ref a4, .int (nI Z.length), .ref a5])), (a1, .inl (cI, 600, .inl (upd f1 (nI L1.length).toNatClampNeg (pb_b v k &&& 255)))), (a2, .inl (cI, 600, .inl et))] H := hP
                  have hD : va_D A [(md, .inr (3, [.int 0, .ref a1, .int ((nI L1.length) + 1), .ref a2, .int (nI T.length), .ref a3, .int (nI O.length), .ref a4, .int (nI Z.length), .ref a5])), (a1, .inl (cI, 600, .inl (upd f1 (nI L1.length).toNatClampNeg (pb_b v k &&& 255)))), (a2, .inl (cI, 600, .inl et))] := hD
                  rw [nI_clamp (by omega)] at hP hD
                  have e7 : nI L1.length + 1 = nI (L1 ++ [pb_b v k &&& 255]).length := by rw [List.length_append]; exact nI_1 _
                  rw [e7] at hP hD
                  refine lv_iinc (v := ((nI k) + (-1))) (lv' := [(6, .int ((nI k) + (-1))), (7, .int (pb_b v k &&& 255)), (1, .int tg), (0, .ref md), (2, .long v)]) hx hb dX3_put_121 hl (k := 1) rfl rfl (by decide) rfl (fun ls hl => ?_)
                  refine lv_goto (tgt := 53) hx hb dX3_put_124 (by decide) ?_
                  exact ih _ (L1 ++ [pb_b v k &&& 255]) (upd f1 L1.length (pb_b v k &&& 255)) H locs ls (by omega) (m1_I k) (by rw [List.append_assoc]; exact hL1) (im_add hf1 _) hP hD hS (lv_sub hl [0, 2, 3, 4] rfl)
                · exact absurd c0 c5
          refine lv_iload hx hb dX3_put_47 (lv_at hl 4 rfl) ?_
          refine lv_iconst (v := 1) hx hb dX3_put_49 (by decide) ?_
          refine lv_isub hx hb dX3_put_50 ?_
          refine lv_istore (lv' := [(6, .int ((nI N) - 1)), (5, .int (nI B.length)), (0, .ref md), (1, .int tg), (2, .long v), (4, .int (nI N))]) hx hb dX3_put_51 hl (by decide) rfl (fun ls hl => ?_)
          exact loop N _ B eb H locs ls (Nat.le_refl _) rfl rfl heb hP hD hS (lv_sub hl [0, 3, 2, 4] rfl)
        · refine lv_iconst (v := 0) hx hb dX3_put_45 (by decide) ?_
          have e0 : pu_r B n = 0 := pu_03 c1 c2 (fun h9 => c3 ((pu_m hB c1 c2).mpr h9))
          have e1 : pu_L B v n (pu_r B n) = B := pu_L0 e0
          replace eB := eB.trans e1
          refine wi_zret hx hb hr hlk rfl (eb, et) ⟨by rw [eL, e0], by rw [eB]; exact heb, by rw [eT]; exact het⟩ ?_ ?_ hS dX3_put_46
          · show va_P (dC, dI) vwCl [(md, .inr (3, [.int 0, .ref a1, .int (nI (if tg = 0 then pu_L B v n (pu_r B n) else B).length), .ref a2, .int (nI (if tg = 0 then T else pu_L T v n (pu_r T n)).length), .ref a3, .int (nI O.length), .ref a4, .int (nI Z.length), .ref a5])), (a1, .inl (cI, 600, .inl (eb))), (a2, .inl (cI, 600, .inl (et)))] _
            rw [eB, eT]; exact hP
          · show va_D A [(md, .inr (3, [.int 0, .ref a1, .int (nI (if tg = 0 then pu_L B v n (pu_r B n) else B).length), .ref a2, .int (nI (if tg = 0 then T else pu_L T v n (pu_r T n)).length), .ref a3, .int (nI O.length), .ref a4, .int (nI Z.length), .ref a5])), (a1, .inl (cI, 600, .inl (eb))), (a2, .inl (cI, 600, .inl (et)))]
            rw [eB, eT]; exact hD
  · have eL : (if tg = 0 then B else T) = T := if_neg c0
    have eB : (if tg = 0 then pu_L B v n (pu_r B n) else B) = B := if_neg c0
    have eT : (if tg = 0 then T else pu_L T v n (pu_r T n)) = pu_L T v n (pu_r T n) := if_neg c0
    refine lv_aload_n hx hb dX3_put_9 rfl (lv_at hl 0 rfl) ?_
    refine va_get (D := (dC, dI)) (ci := 3) (v := .int (nI T.length)) (C := RX3) (T := TX3) (N := 10) hx hb hts (by decide +kernel) hown hK hP 0 rfl rfl 4 (by decide) (hts (.fieldLink RX3 23 "PieceWaysModel" "targets" "I") (by decide +kernel)) (fun _ h9 => h9) rfl dX3_put_10 ?_
    refine lv_goto (tgt := 20) hx hb dX3_put_13 (by decide) ?_
    refine lv_istore (lv' := [(5, .int (nI T.length)), (0, .ref md), (1, .int tg), (2, .long v), (4, .int n)]) hx hb dX3_put_20 hl (by decide) rfl (fun ls hl => ?_)
    refine lv_iload hx hb dX3_put_22 (lv_at hl 4 rfl) ?_
    refine lv_if_lt (tgt := 45) hx hb dX3_put_24 (by decide) (fun c1 => ?_) (fun c1 => ?_)
    · refine lv_iconst (v := 0) hx hb dX3_put_45 (by decide) ?_
      have e0 : pu_r T n = 0 := pu_01 c1
      have e1 : pu_L T v n (pu_r T n) = T := pu_L0 e0
      replace eT := eT.trans e1
      refine wi_zret hx hb hr hlk rfl (eb, et) ⟨by rw [eL, e0], by rw [eB]; exact heb, by rw [eT]; exact het⟩ ?_ ?_ hS dX3_put_46
      · show va_P (dC, dI) vwCl [(md, .inr (3, [.int 0, .ref a1, .int (nI (if tg = 0 then pu_L B v n (pu_r B n) else B).length), .ref a2, .int (nI (if tg = 0 then T else pu_L T v n (pu_r T n)).length), .ref a3, .int (nI O.length), .ref a4, .int (nI Z.length), .ref a5])), (a1, .inl (cI, 600, .inl (eb))), (a2, .inl (cI, 600, .inl (et)))] _
        rw [eB, eT]; exact hP
      · show va_D A [(md, .inr (3, [.int 0, .ref a1, .int (nI (if tg = 0 then pu_L B v n (pu_r B n) else B).length), .ref a2, .int (nI (if tg = 0 then T else pu_L T v n (pu_r T n)).length), .ref a3, .int (nI O.length), .ref a4, .int (nI Z.length), .ref a5])), (a1, .inl (cI, 600, .inl (eb))), (a2, .inl (cI, 600, .inl (et)))]
        rw [eB, eT]; exact hD
    · refine lv_iload hx hb dX3_put_27 (lv_at hl 4 rfl) ?_
      refine lv_bipush (v := 8) hx hb dX3_put_29 (by decide) ?_
      refine lv_icmp_gt (tgt := 45) hx hb dX3_put_31 (by decide) (fun c2 => ?_) (fun c2 => ?_)
      · refine lv_iconst (v := 0) hx hb dX3_put_45 (by decide) ?_
        have e0 : pu_r T n = 0 := pu_02 c1 c2
        have e1 : pu_L T v n (pu_r T n) = T := pu_L0 e0
        replace eT := eT.trans e1
        refine wi_zret hx hb hr hlk rfl (eb, et) ⟨by rw [eL, e0], by rw [eB]; exact heb, by rw [eT]; exact het⟩ ?_ ?_ hS dX3_put_46
        · show va_P (dC, dI) vwCl [(md, .inr (3, [.int 0, .ref a1, .int (nI (if tg = 0 then pu_L B v n (pu_r B n) else B).length), .ref a2, .int (nI (if tg = 0 then T else pu_L T v n (pu_r T n)).length), .ref a3, .int (nI O.length), .ref a4, .int (nI Z.length), .ref a5])), (a1, .inl (cI, 600, .inl (eb))), (a2, .inl (cI, 600, .inl (et)))] _
          rw [eB, eT]; exact hP
        · show va_D A [(md, .inr (3, [.int 0, .ref a1, .int (nI (if tg = 0 then pu_L B v n (pu_r B n) else B).length), .ref a2, .int (nI (if tg = 0 then T else pu_L T v n (pu_r T n)).length), .ref a3, .int (nI O.length), .ref a4, .int (nI Z.length), .ref a5])), (a1, .inl (cI, 600, .inl (eb))), (a2, .inl (cI, 600, .inl (et)))]
          rw [eB, eT]; exact hD
      · refine lv_iload hx hb dX3_put_34 (lv_at hl 0 rfl) ?_
        refine lv_iload hx hb dX3_put_36 (lv_at hl 4 rfl) ?_
        refine lv_iadd hx hb dX3_put_38 ?_
        refine lv_sipush (v := 600) hx hb dX3_put_39 (by decide) ?_
        refine lv_icmp_le (tgt := 47) hx hb dX3_put_42 (by decide) (fun c3 => ?_) (fun c3 => ?_)
        · have c3 := (pu_m hT c1 c2).mp c3
          obtain ⟨N, rfl, hN8, hN6⟩ := pu_in hT c1 c2 c3
          have e1 : pu_r T (nI N) = 1 := pu_1 c1 c2 c3
          have e2 : pu_L T v (nI N) (pu_r T (nI N)) = T ++ pb_L v N := by rw [e1]; unfold pu_L; rw [if_neg (by decide), nI_clamp (by omega)]
          replace eT := eT.trans e2
          have loop : ∀ (k : Nat) (i : Int32) (L1 : List Int32) (f1 : Nat → Int32) (H : Heap) (locs : List Loc) (ls : Array Slot), k ≤ N → i = nI k - 1 → L1 ++ pb_L v k = T ++ pb_L v N → im_k f1 L1 → va_P (dC, dI) vwCl [(md, .inr (3, [.int 0, .ref a1, .int (nI B.length), .ref a2, .int (nI L1.length), .ref a3, .int (nI O.length), .ref a4, .int (nI Z.length), .ref a5])), (a1, .inl (cI, 600, .inl eb)), (a2, .inl (cI, 600, .inl f1))] H → va_D A [(md, .inr (3, [.int 0, .ref a1, .int (nI B.length), .ref a2, .int (nI L1.length), .ref a3, .int (nI O.length), .ref a4, .int (nI Z.length), .ref a5])), (a1, .inl (cI, 600, .inl eb)), (a2, .inl (cI, 600, .inl f1))] → va_S A s.heap H locs → lv_has ls 8 [(6, .int i), (1, .int tg), (0, .ref md), (2, .long v)] → W p l e ({ frames := 0, cells := 0, slots := 0, locals := 0 } : Room) s m ([.ref md, .int tg, .long v, .int (nI N)] : List Value).toArray below meth c H locs 0 0 (MQ below (va_Qi (fun (r : Int32) (z : (Nat → Int32) × (Nat → Int32)) => r = pu_r (if tg = 0 then B else T) (nI N) ∧ im_k z.1 (if tg = 0 then pu_L B v (nI N) (pu_r B (nI N)) else B) ∧ im_k z.2 (if tg = 0 then T else pu_L T v (nI N) (pu_r T (nI N)))) (fun u t => va_P (dC, dI) vwCl ((fun z : (Nat → Int32) × (Nat → Int32) => [(md, .inr (3, [.int 0, .ref a1, .int (nI (if tg = 0 then pu_L B v (nI N) (pu_r B (nI N)) else B).length), .ref a2, .int (nI (if tg = 0 then T else pu_L T v (nI N) (pu_r T (nI N))).length), .ref a3, .int (nI O.length), .ref a4, .int (nI Z.length), .ref a5])), (a1, .inl (cI, 600, .inl (z.1))), (a2, .inl (cI, 600, .inl (z.2)))]) u) t.heap ∧ va_D A ((fun z : (Nat → Int32) × (Nat → Int32) => [(md, .inr (3, [.int 0, .ref a1, .int (nI (if tg = 0 then pu_L B v (nI N) (pu_r B (nI N)) else B).length), .ref a2, .int (nI (if tg = 0 then T else pu_L T v (nI N) (pu_r T (nI N))).length), .ref a3, .int (nI O.length), .ref a4, .int (nI Z.length), .ref a5])), (a1, .inl (cI, 600, .inl (z.1))), (a2, .inl (cI, 600, .inl (z.2)))]) u)) A) ([.ref md, .int tg, .long v, .int (nI N)] : List Value).toArray s 0 0 A) (F0 m 53 ls []) := by
            intro k
            induction k with
            | zero =>
              intro i L1 f1 H locs ls hkN hi hL1 hf1 hP hD hS hl
              have hL1 : L1 = T ++ pb_L v N := by rw [← hL1]; exact (List.append_nil L1).symm
              subst hL1
              refine lv_iload hx hb dX3_put_53 (lv_at hl 0 rfl) ?_
              refine lv_if_lt (tgt := 127) hx hb dX3_put_55 (by decide) (fun c4 => ?_) (fun c4 => ?_)
              · refine lv_iconst (v := 1) hx hb dX3_put_127 (by decide) ?_
                refine wi_zret hx hb hr hlk rfl (eb, f1) ⟨by rw [eL, e1], by rw [eB]; exact heb, by rw [eT]; exact hf1⟩ ?_ ?_ hS dX3_put_128
                · show va_P (dC, dI) vwCl [(md, .inr (3, [.int 0, .ref a1, .int (nI (if tg = 0 then pu_L B v (nI N) (pu_r B (nI N)) else B).length), .ref a2, .int (nI (if tg = 0 then T else pu_L T v (nI N) (pu_r T (nI N))).length), .ref a3, .int (nI O.length), .ref a4, .int (nI Z.length), .ref a5])), (a1, .inl (cI, 600, .inl (eb))), (a2, .inl (cI, 600, .inl (f1)))] _
                  rw [eB, eT]; exact hP
                · show va_D A [(md, .inr (3, [.int 0, .ref a1, .int (nI (if tg = 0 then pu_L B v (nI N) (pu_r B (nI N)) else B).length), .ref a2, .int (nI (if tg = 0 then T else pu_L T v (nI N) (pu_r T (nI N))).length), .ref a3, .int (nI O.length), .ref a4, .int (nI Z.length), .ref a5])), (a1, .inl (cI, 600, .inl (eb))), (a2, .inl (cI, 600, .inl (f1)))]
                  rw [eB, eT]; exact hD
              · exact absurd (by rw [hi]; decide) c4
            | succ k ih =>
              intro i L1 f1 H locs ls hkN hi hL1 hf1 hP hD hS hl
              rw [nI_pred] at hi
              subst hi
              have hlen : L1.length + (k + 1) = T.length + N := by have h9 := congrArg List.length hL1; rw [List.length_append, List.length_append, pb_len, pb_len] at h9; exact h9
              have hbt := bt_I v k (by omega)
              refine lv_iload hx hb dX3_put_53 (lv_at hl 0 rfl) ?_
              refine lv_if_lt (tgt := 127) hx hb dX3_put_55 (by decide) (fun c4 => ?_) (fun c4 => ?_)
              · exact absurd c4 (nI_pos (by omega))
              · refine lv_lload_n hx hb dX3_put_58 rfl (lv_at hl 3 rfl) ?_
                refine lv_bipush (v := 8) hx hb dX3_put_59 (by decide) ?_
                refine lv_iload hx hb dX3_put_61 (lv_at hl 0 rfl) ?_
                refine lv_imul hx hb dX3_put_63 ?_
                refine lv_lshr hx hb dX3_put_64 rfl ?_
                refine lv_l2i hx hb dX3_put_65 rfl ?_
                refine lv_sipush (v := 255) hx hb dX3_put_66 (by decide) ?_
                refine lv_iand hx hb dX3_put_69 ?_
                rw [hbt]
                refine lv_istore (lv' := [(7, .int (pb_b v k &&& 255)), (6, .int (nI k)), (1, .int tg), (0, .ref md), (2, .long v)]) hx hb dX3_put_70 hl (by decide) rfl (fun ls hl => ?_)
                refine lv_iload_n hx hb dX3_put_72 rfl (lv_at hl 2 rfl) ?_
                refine lv_if_eq (tgt := 100) hx hb dX3_put_73 (by decide) (fun c5 => ?_) (fun c5 => ?_)
                · exact absurd c5 c0
                · refine lv_aload_n hx hb dX3_put_76 rfl (lv_at hl 3 rfl) ?_
                  refine va_get (D := (dC, dI)) (ci := 3) (v := .ref a2) (C := RX3) (T := TX3) (N := 10) hx hb hts (by decide +kernel) hown hK hP 0 rfl rfl 3 (by decide) (hts (.fieldLink RX3 20 "PieceWaysModel" "target" "[I") (by decide +kernel)) (fun _ h9 => h9) rfl dX3_put_77 ?_
                  refine lv_aload_n hx hb dX3_put_80 rfl (lv_at hl 3 rfl) ?_
                  refine va_get (D := (dC, dI)) (ci := 3) (v := .int (nI L1.length)) (C := RX3) (T := TX3) (N := 10) hx hb hts (by decide +kernel) hown hK hP 0 rfl rfl 4 (by decide) (hts (.fieldLink RX3 23 "PieceWaysModel" "targets" "I") (by decide +kernel)) (fun _ h9 => h9) rfl dX3_put_81 ?_
                  refine lv_iload hx hb dX3_put_84 (lv_at hl 0 rfl) ?_
                  refine va_iast hx hb hK hP hD hS 2 1 rfl rfl (vp_in_nI (by omega) (by omega)) dX3_put_86 (fun H locs hP hD hS => ?_)
                  have hP : va_P (dC, dI) vwCl [(md, .inr (3, [.int 0, .ref a1, .int (nI B.length), .ref a2, .int (nI L1.length), .ref a3, .int (nI O.length), .ref a4, .int (nI Z.length), .ref a5])), (a1, .inl (cI, 600, .inl eb)), (a2, .inl (cI, 600, .inl (upd f1 (nI L1.length).toNatClampNeg (pb_b v k &&& 255))))] H := hP
                  have hD : va_D A [(md, .inr (3, [.int 0, .ref a1, .int (nI B.length), .ref a2, .int (nI L1.length), .ref a3, .int (nI O.length), .ref a4, .int (nI Z.length), .ref a5])), (a1, .inl (cI, 600, .inl eb)), (a2, .inl (cI, 600, .inl (upd f1 (nI L1.length).toNatClampNeg (pb_b v k &&& 255))))] := hD
                  refine lv_aload_n hx hb dX3_put_87 rfl (lv_at hl 3 rfl) ?_
                  refine lv_dup hx hb dX3_put_88 rfl ?_
                  refine va_get (D := (dC, dI)) (ci := 3) (v := .int (nI L1.length)) (C := RX3) (T := TX3) (N := 10) hx hb hts (by decide +kernel) hown hK hP 0 rfl rfl 4 (by decide) (hts (.fieldLink RX3 23 "PieceWaysModel" "targets" "I") (by decide +kernel)) (fun _ h9 => h9) rfl dX3_put_89 ?_
                  refine lv_iconst (v := 1) hx hb dX3_put_92 (by decide) ?_
                  refine lv_iadd hx hb dX3_put_93 ?_
                  refine va_put (D := (dC, dI)) (ci := 3) (v := .int ((nI L1.length) + 1)) (ty := .int) (C := RX3) (T := TX3) (N := 10) hx hb hts (by decide +kernel) tyX3 tyX3_ok nmX3 hown hK hP hD hS 0 rfl rfl 4 (by decide) (hts (.fieldLink RX3 23 "PieceWaysModel" "targets" "I") (by decide +kernel)) (fun _ h9 => h9) rfl (by decide +kernel) rfl rfl (Nat.le_of_ble_eq_true rfl) dX3_put_94 (fun H locs hP hD hS => ?_)
                  have hP : va_P (dC, dI) vwCl [(md, .inr (3, [.int 0, .ref a1, .int (nI B.length), .ref a2, .int ((nI L1.length) + 1), .ref a3, .int (nI O.length), .ref a4, .int (nI Z.length), .ref a5])), (a1, .inl (cI, 600, .inl eb)), (a2, .inl (cI, 600, .inl (upd f1 (nI L1.length).toNatClampNeg (pb_b v k &&& 255))))] H := hP
                  have hD : va_D A [(md, .inr (3, [.int 0, .ref a1, .int (nI B.length), .ref a2, .int ((nI L1.length) + 1), .ref a3, .int (nI O.length), .ref a4, .int (nI Z.length), .ref a5])), (a1, .inl (cI, 600, .inl eb)), (a2, .inl (cI, 600, .inl (upd f1 (nI L1.length).toNatClampNeg (pb_b v k &&& 255))))] := hD
                  rw [nI_clamp (by omega)] at hP hD
                  have e7 : nI L1.length + 1 = nI (L1 ++ [pb_b v k &&& 255]).length := by rw [List.length_append]; exact nI_1 _
                  rw [e7] at hP hD
                  refine lv_goto (tgt := 121) hx hb dX3_put_97 (by decide) ?_
                  refine lv_iinc (v := ((nI k) + (-1))) (lv' := [(6, .int ((nI k) + (-1))), (7, .int (pb_b v k &&& 255)), (1, .int tg), (0, .ref md), (2, .long v)]) hx hb dX3_put_121 hl (k := 1) rfl rfl (by decide) rfl (fun ls hl => ?_)
                  refine lv_goto (tgt := 53) hx hb dX3_put_124 (by decide) ?_
                  exact ih _ (L1 ++ [pb_b v k &&& 255]) (upd f1 L1.length (pb_b v k &&& 255)) H locs ls (by omega) (m1_I k) (by rw [List.append_assoc]; exact hL1) (im_add hf1 _) hP hD hS (lv_sub hl [0, 2, 3, 4] rfl)
          refine lv_iload hx hb dX3_put_47 (lv_at hl 4 rfl) ?_
          refine lv_iconst (v := 1) hx hb dX3_put_49 (by decide) ?_
          refine lv_isub hx hb dX3_put_50 ?_
          refine lv_istore (lv' := [(6, .int ((nI N) - 1)), (5, .int (nI T.length)), (0, .ref md), (1, .int tg), (2, .long v), (4, .int (nI N))]) hx hb dX3_put_51 hl (by decide) rfl (fun ls hl => ?_)
          exact loop N _ T et H locs ls (Nat.le_refl _) rfl rfl het hP hD hS (lv_sub hl [0, 3, 2, 4] rfl)
        · refine lv_iconst (v := 0) hx hb dX3_put_45 (by decide) ?_
          have e0 : pu_r T n = 0 := pu_03 c1 c2 (fun h9 => c3 ((pu_m hT c1 c2).mpr h9))
          have e1 : pu_L T v n (pu_r T n) = T := pu_L0 e0
          replace eT := eT.trans e1
          refine wi_zret hx hb hr hlk rfl (eb, et) ⟨by rw [eL, e0], by rw [eB]; exact heb, by rw [eT]; exact het⟩ ?_ ?_ hS dX3_put_46
          · show va_P (dC, dI) vwCl [(md, .inr (3, [.int 0, .ref a1, .int (nI (if tg = 0 then pu_L B v n (pu_r B n) else B).length), .ref a2, .int (nI (if tg = 0 then T else pu_L T v n (pu_r T n)).length), .ref a3, .int (nI O.length), .ref a4, .int (nI Z.length), .ref a5])), (a1, .inl (cI, 600, .inl (eb))), (a2, .inl (cI, 600, .inl (et)))] _
            rw [eB, eT]; exact hP
          · show va_D A [(md, .inr (3, [.int 0, .ref a1, .int (nI (if tg = 0 then pu_L B v n (pu_r B n) else B).length), .ref a2, .int (nI (if tg = 0 then T else pu_L T v n (pu_r T n)).length), .ref a3, .int (nI O.length), .ref a4, .int (nI Z.length), .ref a5])), (a1, .inl (cI, 600, .inl (eb))), (a2, .inl (cI, 600, .inl (et)))]
            rw [eB, eT]; exact hD
end PWMPUT
end
section
section PWMWRITE
variable (l : Launch) (dC : Nat → ClassId) (dI : Nat → Nat → Nat) (cB cI cL : ClassId)

set_option maxHeartbeats 1000000 in
set_option maxRecDepth 100000 in
/-- write(v) -/
theorem c_Md_write (md a1 a2 a3 a4 a5 : Nat) (B T O Z : List Int32) (th : Int32) (eo : Nat → Int32) (v : Int32) (hO : O.length < 2000) (ho : im_k eo O) : wr_M l yX3_write wsX3_write ({ frames := 0, cells := 0, slots := 0, locals := 0 } : Room) (dC, dI) vwCl (tk_s cB cI cL) [.ref md, .int v] [(md, .inr (3, [.int th, .ref a1, .int (nI B.length), .ref a2, .int (nI T.length), .ref a3, .int (nI O.length), .ref a4, .int (nI Z.length), .ref a5])), (a3, .inl (cI, 2000, .inl eo))] 0 0 (fun z : Nat → Int32 => im_k z (O ++ [v])) (fun z => [(md, .inr (3, [.int th, .ref a1, .int (nI B.length), .ref a2, .int (nI T.length), .ref a3, .int (nI (O ++ [v]).length), .ref a4, .int (nI Z.length), .ref a5])), (a3, .inl (cI, 2000, .inl z))]) := by
  refine wr_ofW (cc := cX3_write) (maxL := 2) (ret := none) (by decide) rfl (Nat.le_of_ble_eq_true rfl) ?_
  intro p e s m below meth c ls A hx hb hr hml hts hown hlk hnm hP hK hN hD hA hS hl
  have hl : lv_has ls 2 [(0, .ref md), (1, .int v)] := hl
  refine lv_aload_n hx hb dX3_write_0 rfl (lv_at hl 0 rfl) ?_
  refine va_get (D := (dC, dI)) (ci := 3) (v := .ref a3) (C := RX3) (T := TX3) (N := 10) hx hb hts (by decide +kernel) hown hK hP 0 rfl rfl 5 (by decide) (hts (.fieldLink RX3 26 "PieceWaysModel" "row" "[I") (by decide +kernel)) (fun _ h9 => h9) rfl dX3_write_1 ?_
  refine lv_aload_n hx hb dX3_write_4 rfl (lv_at hl 0 rfl) ?_
  refine va_get (D := (dC, dI)) (ci := 3) (v := .int (nI O.length)) (C := RX3) (T := TX3) (N := 10) hx hb hts (by decide +kernel) hown hK hP 0 rfl rfl 6 (by decide) (hts (.fieldLink RX3 29 "PieceWaysModel" "size" "I") (by decide +kernel)) (fun _ h9 => h9) rfl dX3_write_5 ?_
  refine lv_iload_n hx hb dX3_write_8 rfl (lv_at hl 1 rfl) ?_
  refine va_iast hx hb hK hP hD hS 1 1 rfl rfl (vp_in_nI hO (by omega)) dX3_write_9 (fun H locs hP hD hS => ?_)
  have hP : va_P (dC, dI) vwCl [(md, .inr (3, [.int th, .ref a1, .int (nI B.length), .ref a2, .int (nI T.length), .ref a3, .int (nI O.length), .ref a4, .int (nI Z.length), .ref a5])), (a3, .inl (cI, 2000, .inl (upd eo (nI O.length).toNatClampNeg v)))] H := hP
  have hD : va_D A [(md, .inr (3, [.int th, .ref a1, .int (nI B.length), .ref a2, .int (nI T.length), .ref a3, .int (nI O.length), .ref a4, .int (nI Z.length), .ref a5])), (a3, .inl (cI, 2000, .inl (upd eo (nI O.length).toNatClampNeg v)))] := hD
  refine lv_aload_n hx hb dX3_write_10 rfl (lv_at hl 0 rfl) ?_
  refine lv_dup hx hb dX3_write_11 rfl ?_
  refine va_get (D := (dC, dI)) (ci := 3) (v := .int (nI O.length)) (C := RX3) (T := TX3) (N := 10) hx hb hts (by decide +kernel) hown hK hP 0 rfl rfl 6 (by decide) (hts (.fieldLink RX3 29 "PieceWaysModel" "size" "I") (by decide +kernel)) (fun _ h9 => h9) rfl dX3_write_12 ?_
  refine lv_iconst (v := 1) hx hb dX3_write_15 (by decide) ?_
  refine lv_iadd hx hb dX3_write_16 ?_
  refine va_put (D := (dC, dI)) (ci := 3) (v := .int ((nI O.length) + 1)) (ty := .int) (C := RX3) (T := TX3) (N := 10) hx hb hts (by decide +kernel) tyX3 tyX3_ok nmX3 hown hK hP hD hS 0 rfl rfl 6 (by decide) (hts (.fieldLink RX3 29 "PieceWaysModel" "size" "I") (by decide +kernel)) (fun _ h9 => h9) rfl (by decide +kernel) rfl rfl (Nat.le_of_ble_eq_true rfl) dX3_write_17 (fun H locs hP hD hS => ?_)
  have hP : va_P (dC, dI) vwCl [(md, .inr (3, [.int th, .ref a1, .int (nI B.length), .ref a2, .int (nI T.length), .ref a3, .int ((nI O.length) + 1), .ref a4, .int (nI Z.length), .ref a5])), (a3, .inl (cI, 2000, .inl (upd eo (nI O.length).toNatClampNeg v)))] H := hP
  have hD : va_D A [(md, .inr (3, [.int th, .ref a1, .int (nI B.length), .ref a2, .int (nI T.length), .ref a3, .int ((nI O.length) + 1), .ref a4, .int (nI Z.length), .ref a5])), (a3, .inl (cI, 2000, .inl (upd eo (nI O.length).toNatClampNeg v)))] := hD
  rw [nI_clamp (by omega)] at hP hD
  have e1 : nI O.length + 1 = nI (O ++ [v]).length := by rw [List.length_append]; exact nI_1 _
  rw [e1] at hP hD
  exact wr_vret hx hb hr hlk (upd eo O.length v) (im_add ho v) hP hD hS dX3_write_20
set_option maxHeartbeats 1000000 in
set_option maxRecDepth 100000 in
/-- writeTwo(n) -/
theorem c_Md_writeTwo (md a1 a2 a3 a4 a5 : Nat) (B T O Z : List Int32) (th : Int32) (eo : Nat → Int32) (n : Nat) (hn : n < 65536) (hO : O.length + 2 ≤ 2000) (ho : im_k eo O) : wr_M l yX3_writeTwo wsX3_writeTwo ({ frames := 1, cells := 0, slots := 0, locals := 21 } : Room) (dC, dI) vwCl (tk_s cB cI cL) [.ref md, .int (nI n)] [(md, .inr (3, [.int th, .ref a1, .int (nI B.length), .ref a2, .int (nI T.length), .ref a3, .int (nI O.length), .ref a4, .int (nI Z.length), .ref a5])), (a3, .inl (cI, 2000, .inl eo))] 0 0 (fun z : Nat → Int32 => im_k z (O ++ [nI (n / 256), nI (n % 256)])) (fun z => [(md, .inr (3, [.int th, .ref a1, .int (nI B.length), .ref a2, .int (nI T.length), .ref a3, .int (nI (O ++ [nI (n / 256), nI (n % 256)]).length), .ref a4, .int (nI Z.length), .ref a5])), (a3, .inl (cI, 2000, .inl z))]) := by
  refine wr_ofW (cc := cX3_writeTwo) (maxL := 2) (ret := none) (by decide) rfl (Nat.le_of_ble_eq_true rfl) ?_
  intro p e s m below meth c ls A hx hb hr hml hts hown hlk hnm hP hK hN hD hA hS hl
  have hl : lv_has ls 2 [(0, .ref md), (1, .int (nI n))] := hl
  refine lv_aload_n hx hb dX3_writeTwo_0 rfl (lv_at hl 0 rfl) ?_
  refine lv_iload_n hx hb dX3_writeTwo_1 rfl (lv_at hl 1 rfl) ?_
  refine lv_sipush (v := 256) hx hb dX3_writeTwo_2 (by decide) ?_
  refine lv_idiv hx hb dX3_writeTwo_5 (by decide) ?_
  rw [show (256 : Int32) = nI 256 from rfl, pk_div (by omega) (by omega) (by omega)]
  refine wr_V (wc := [(md, .inr (3, [.int th, .ref a1, .int (nI B.length), .ref a2, .int (nI T.length), .ref a3, .int (nI O.length), .ref a4, .int (nI Z.length), .ref a5])), (a3, .inl (cI, 2000, .inl eo))]) (wr := []) (As := [.int (nI (n / 256))]) (rest := []) ⟨hx, hb, hml, hown, hts⟩ (c_Md_write l dC dI cB cI cL md a1 a2 a3 a4 a5 B T O Z th eo (nI (n / 256)) (by omega) ho) (cwV 1 hts gX3_writeTwo_X3_write rfl rfl rfl (by decide +kernel) ⟨(Nat.le_of_ble_eq_true rfl), (Nat.le_of_ble_eq_true rfl)⟩) hK hN hP hD hS hA [0, 1] [] rfl rfl (by decide) (by decide) (by decide) 0 rfl rfl rfl rfl hl.1 rfl (Nat.le_of_ble_eq_true rfl) dX3_writeTwo_6 ⟨(Nat.le_of_ble_eq_true rfl), (Nat.le_of_ble_eq_true rfl)⟩ (fun f1 H locs hf1 hP hD hS => ?_)
  have hP : va_P (dC, dI) vwCl [(md, .inr (3, [.int th, .ref a1, .int (nI B.length), .ref a2, .int (nI T.length), .ref a3, .int (nI (O ++ [nI (n / 256)]).length), .ref a4, .int (nI Z.length), .ref a5])), (a3, .inl (cI, 2000, .inl f1))] H := hP.sub [0, 1] rfl
  have hD : va_D A [(md, .inr (3, [.int th, .ref a1, .int (nI B.length), .ref a2, .int (nI T.length), .ref a3, .int (nI (O ++ [nI (n / 256)]).length), .ref a4, .int (nI Z.length), .ref a5])), (a3, .inl (cI, 2000, .inl f1))] := hD.sub [0, 1] (by decide) rfl
  refine lv_aload_n hx hb dX3_writeTwo_9 rfl (lv_at hl 0 rfl) ?_
  refine lv_iload_n hx hb dX3_writeTwo_10 rfl (lv_at hl 1 rfl) ?_
  refine lv_sipush (v := 256) hx hb dX3_writeTwo_11 (by decide) ?_
  refine lv_irem hx hb dX3_writeTwo_14 (by decide) ?_
  rw [show (256 : Int32) = nI 256 from rfl, pk_rem (by omega) (by omega) (by omega)]
  refine wr_V (wc := [(md, .inr (3, [.int th, .ref a1, .int (nI B.length), .ref a2, .int (nI T.length), .ref a3, .int (nI (O ++ [nI (n / 256)]).length), .ref a4, .int (nI Z.length), .ref a5])), (a3, .inl (cI, 2000, .inl f1))]) (wr := []) (As := [.int (nI (n % 256))]) (rest := []) ⟨hx, hb, hml, hown, hts⟩ (c_Md_write l dC dI cB cI cL md a1 a2 a3 a4 a5 B T (O ++ [nI (n / 256)]) Z th f1 (nI (n % 256)) (by simp only [List.length_append, List.length_cons, List.length_nil]; omega) hf1) (cwV 1 hts gX3_writeTwo_X3_write rfl rfl rfl (by decide +kernel) ⟨(Nat.le_of_ble_eq_true rfl), (Nat.le_of_ble_eq_true rfl)⟩) hK hN hP hD hS hA [0, 1] [] rfl rfl (by decide) (by decide) (by decide) 0 rfl rfl rfl rfl hl.1 rfl (Nat.le_of_ble_eq_true rfl) dX3_writeTwo_15 ⟨(Nat.le_of_ble_eq_true rfl), (Nat.le_of_ble_eq_true rfl)⟩ (fun f2 H locs hf2 hP hD hS => ?_)
  have hP : va_P (dC, dI) vwCl [(md, .inr (3, [.int th, .ref a1, .int (nI B.length), .ref a2, .int (nI T.length), .ref a3, .int (nI ((O ++ [nI (n / 256)]) ++ [nI (n % 256)]).length), .ref a4, .int (nI Z.length), .ref a5])), (a3, .inl (cI, 2000, .inl f2))] H := hP.sub [0, 1] rfl
  have hD : va_D A [(md, .inr (3, [.int th, .ref a1, .int (nI B.length), .ref a2, .int (nI T.length), .ref a3, .int (nI ((O ++ [nI (n / 256)]) ++ [nI (n % 256)]).length), .ref a4, .int (nI Z.length), .ref a5])), (a3, .inl (cI, 2000, .inl f2))] := hD.sub [0, 1] (by decide) rfl
  have e2 : (O ++ [nI (n / 256)]) ++ [nI (n % 256)] = O ++ [nI (n / 256), nI (n % 256)] := by simp
  rw [e2] at hf2 hP hD
  exact wr_vret hx hb hr hlk f2 hf2 hP hD hS dX3_writeTwo_18
set_option maxHeartbeats 1000000 in
set_option maxRecDepth 100000 in
/-- size() -/
theorem c_Md_size (md a1 a2 a3 a4 a5 : Nat) (B T O Z : List Int32) (th : Int32) : wi_M l yX3_size wsX3_size ({ frames := 0, cells := 0, slots := 0, locals := 0 } : Room) (dC, dI) vwCl (tk_s cB cI cL) [.ref md] [(md, .inr (3, [.int th, .ref a1, .int (nI B.length), .ref a2, .int (nI T.length), .ref a3, .int (nI O.length), .ref a4, .int (nI Z.length), .ref a5]))] 0 0 (fun (r : Int32) (_ : Unit) => r = nI O.length) (fun _ => [(md, .inr (3, [.int 0, .ref a1, .int (nI B.length), .ref a2, .int (nI T.length), .ref a3, .int (nI O.length), .ref a4, .int (nI Z.length), .ref a5]))]) := by
  refine wi_ofW (cc := cX3_size) (maxL := 1) (ret := (some .int)) (by decide) rfl (Nat.le_of_ble_eq_true rfl) ?_
  intro p e s m below meth c ls A hx hb hr hml hts hown hlk hnm hP hK hN hD hA hS hl
  have hl : lv_has ls 1 [(0, .ref md)] := hl
  refine lv_aload_n hx hb dX3_size_0 rfl (lv_at hl 0 rfl) ?_
  refine lv_iconst (v := 0) hx hb dX3_size_1 (by decide) ?_
  refine va_put (D := (dC, dI)) (ci := 3) (v := .int 0) (ty := .int) (C := RX3) (T := TX3) (N := 10) hx hb hts (by decide +kernel) tyX3 tyX3_ok nmX3 hown hK hP hD hS 0 rfl rfl 0 (by decide) (hts (.fieldLink RX3 7 "PieceWaysModel" "thrownCode" "I") (by decide +kernel)) (fun _ h9 => h9) rfl (by decide +kernel) rfl rfl (Nat.le_of_ble_eq_true rfl) dX3_size_2 (fun H locs hP hD hS => ?_)
  have hP : va_P (dC, dI) vwCl [(md, .inr (3, [.int 0, .ref a1, .int (nI B.length), .ref a2, .int (nI T.length), .ref a3, .int (nI O.length), .ref a4, .int (nI Z.length), .ref a5]))] H := hP
  have hD : va_D A [(md, .inr (3, [.int 0, .ref a1, .int (nI B.length), .ref a2, .int (nI T.length), .ref a3, .int (nI O.length), .ref a4, .int (nI Z.length), .ref a5]))] := hD
  refine lv_aload_n hx hb dX3_size_5 rfl (lv_at hl 0 rfl) ?_
  refine va_get (D := (dC, dI)) (ci := 3) (v := .int (nI O.length)) (C := RX3) (T := TX3) (N := 10) hx hb hts (by decide +kernel) hown hK hP 0 rfl rfl 6 (by decide) (hts (.fieldLink RX3 29 "PieceWaysModel" "size" "I") (by decide +kernel)) (fun _ h9 => h9) rfl dX3_size_6 ?_
  exact wi_iret hx hb hr hlk () rfl hP hD hS dX3_size_9
set_option maxHeartbeats 1000000 in
set_option maxRecDepth 100000 in
/-- way(x) -/
theorem c_Md_way (md a1 a2 a3 a4 a5 : Nat) (B T O Z : List Int32) (th : Int32) (eo : Nat → Int32) (x : Int32) (hL : O.length ≤ 2000) (hf : im_k eo O) : wi_M l yX3_way wsX3_way ({ frames := 0, cells := 0, slots := 0, locals := 0 } : Room) (dC, dI) vwCl (tk_s cB cI cL) [.ref md, .int x] [(md, .inr (3, [.int th, .ref a1, .int (nI B.length), .ref a2, .int (nI T.length), .ref a3, .int (nI O.length), .ref a4, .int (nI Z.length), .ref a5])), (a3, .inl (cI, 2000, .inl eo))] 0 0 (fun (r : Int32) (_ : Unit) => r = at_L O x) (fun _ => [(md, .inr (3, [.int 0, .ref a1, .int (nI B.length), .ref a2, .int (nI T.length), .ref a3, .int (nI O.length), .ref a4, .int (nI Z.length), .ref a5])), (a3, .inl (cI, 2000, .inl eo))]) := by
  refine wi_ofW (cc := cX3_way) (maxL := 2) (ret := (some .int)) (by decide) rfl (Nat.le_of_ble_eq_true rfl) ?_
  intro p e s m below meth c ls A hx hb hr hml hts hown hlk hnm hP hK hN hD hA hS hl
  have hl : lv_has ls 2 [(0, .ref md), (1, .int x)] := hl
  refine lv_aload_n hx hb dX3_way_0 rfl (lv_at hl 0 rfl) ?_
  refine lv_iconst (v := 0) hx hb dX3_way_1 (by decide) ?_
  refine va_put (D := (dC, dI)) (ci := 3) (v := .int 0) (ty := .int) (C := RX3) (T := TX3) (N := 10) hx hb hts (by decide +kernel) tyX3 tyX3_ok nmX3 hown hK hP hD hS 0 rfl rfl 0 (by decide) (hts (.fieldLink RX3 7 "PieceWaysModel" "thrownCode" "I") (by decide +kernel)) (fun _ h9 => h9) rfl (by decide +kernel) rfl rfl (Nat.le_of_ble_eq_true rfl) dX3_way_2 (fun H locs hP hD hS => ?_)
  have hP : va_P (dC, dI) vwCl [(md, .inr (3, [.int 0, .ref a1, .int (nI B.length), .ref a2, .int (nI T.length), .ref a3, .int (nI O.length), .ref a4, .int (nI Z.length), .ref a5])), (a3, .inl (cI, 2000, .inl eo))] H := hP
  have hD : va_D A [(md, .inr (3, [.int 0, .ref a1, .int (nI B.length), .ref a2, .int (nI T.length), .ref a3, .int (nI O.length), .ref a4, .int (nI Z.length), .ref a5])), (a3, .inl (cI, 2000, .inl eo))] := hD
  refine lv_iload_n hx hb dX3_way_5 rfl (lv_at hl 1 rfl) ?_
  refine lv_if_lt (tgt := 17) hx hb dX3_way_6 (by decide) (fun c1 => ?_) (fun c1 => ?_)
  · refine lv_iconst (v := (-1)) hx hb dX3_way_17 (by decide) ?_
    refine lv_goto (tgt := 27) hx hb dX3_way_18 (by decide) ?_
    exact wi_iret hx hb hr hlk () ((at_neg c1).symm) hP hD hS dX3_way_27
  · refine lv_iload_n hx hb dX3_way_9 rfl (lv_at hl 1 rfl) ?_
    refine lv_aload_n hx hb dX3_way_10 rfl (lv_at hl 0 rfl) ?_
    refine va_get (D := (dC, dI)) (ci := 3) (v := .int (nI O.length)) (C := RX3) (T := TX3) (N := 10) hx hb hts (by decide +kernel) hown hK hP 0 rfl rfl 6 (by decide) (hts (.fieldLink RX3 29 "PieceWaysModel" "size" "I") (by decide +kernel)) (fun _ h9 => h9) rfl dX3_way_11 ?_
    refine lv_icmp_lt (tgt := 21) hx hb dX3_way_14 (by decide) (fun c2 => ?_) (fun c2 => ?_)
    · obtain ⟨j, hj, rfl⟩ : ∃ j : Nat, j < O.length ∧ x = nI j := by
        rcases pk_ix x (n := O.length) (by omega) with q | q | q
        · exact absurd q c1
        · exact absurd c2 (fun h9 => by have h8 := Int32.lt_iff_toInt_lt.mp h9; have h7 := Int32.le_iff_toInt_le.mp q; omega)
        · exact q
      obtain ⟨y, hy⟩ : ∃ y, O[j]? = some y := ⟨_, List.getElem?_eq_getElem hj⟩
      refine lv_aload_n hx hb dX3_way_21 rfl (lv_at hl 0 rfl) ?_
      refine va_get (D := (dC, dI)) (ci := 3) (v := .ref a3) (C := RX3) (T := TX3) (N := 10) hx hb hts (by decide +kernel) hown hK hP 0 rfl rfl 5 (by decide) (hts (.fieldLink RX3 26 "PieceWaysModel" "row" "[I") (by decide +kernel)) (fun _ h9 => h9) rfl dX3_way_22 ?_
      refine lv_iload_n hx hb dX3_way_25 rfl (lv_at hl 1 rfl) ?_
      refine va_iald hx hb hK hP 1 1 rfl rfl (vp_in_nI (by omega) (by omega)) dX3_way_26 ?_
      rw [nI_clamp (by omega), hf j _ hy]
      exact wi_iret hx hb hr hlk () ((at_in hy (by omega)).symm) hP hD hS dX3_way_27
    · have q2 : nI O.length ≤ x := by have h8 := mt Int32.lt_iff_toInt_lt.mpr c2; exact Int32.le_iff_toInt_le.mpr (by omega)
      refine lv_iconst (v := (-1)) hx hb dX3_way_17 (by decide) ?_
      refine lv_goto (tgt := 27) hx hb dX3_way_18 (by decide) ?_
      exact wi_iret hx hb hr hlk () ((at_hi (by omega) c1 q2).symm) hP hD hS dX3_way_27
set_option maxHeartbeats 1000000 in
set_option maxRecDepth 100000 in
/-- result(x) -/
theorem c_Md_result (md a1 a2 a3 a4 a5 : Nat) (B T O Z : List Int32) (th : Int32) (er : Nat → Int32) (x : Int32) (hL : Z.length ≤ 600) (hf : im_k er Z) : wi_M l yX3_result wsX3_result ({ frames := 0, cells := 0, slots := 0, locals := 0 } : Room) (dC, dI) vwCl (tk_s cB cI cL) [.ref md, .int x] [(md, .inr (3, [.int th, .ref a1, .int (nI B.length), .ref a2, .int (nI T.length), .ref a3, .int (nI O.length), .ref a4, .int (nI Z.length), .ref a5])), (a4, .inl (cI, 600, .inl er))] 0 0 (fun (r : Int32) (_ : Unit) => r = at_L Z x) (fun _ => [(md, .inr (3, [.int 0, .ref a1, .int (nI B.length), .ref a2, .int (nI T.length), .ref a3, .int (nI O.length), .ref a4, .int (nI Z.length), .ref a5])), (a4, .inl (cI, 600, .inl er))]) := by
  refine wi_ofW (cc := cX3_result) (maxL := 2) (ret := (some .int)) (by decide) rfl (Nat.le_of_ble_eq_true rfl) ?_
  intro p e s m below meth c ls A hx hb hr hml hts hown hlk hnm hP hK hN hD hA hS hl
  have hl : lv_has ls 2 [(0, .ref md), (1, .int x)] := hl
  refine lv_aload_n hx hb dX3_result_0 rfl (lv_at hl 0 rfl) ?_
  refine lv_iconst (v := 0) hx hb dX3_result_1 (by decide) ?_
  refine va_put (D := (dC, dI)) (ci := 3) (v := .int 0) (ty := .int) (C := RX3) (T := TX3) (N := 10) hx hb hts (by decide +kernel) tyX3 tyX3_ok nmX3 hown hK hP hD hS 0 rfl rfl 0 (by decide) (hts (.fieldLink RX3 7 "PieceWaysModel" "thrownCode" "I") (by decide +kernel)) (fun _ h9 => h9) rfl (by decide +kernel) rfl rfl (Nat.le_of_ble_eq_true rfl) dX3_result_2 (fun H locs hP hD hS => ?_)
  have hP : va_P (dC, dI) vwCl [(md, .inr (3, [.int 0, .ref a1, .int (nI B.length), .ref a2, .int (nI T.length), .ref a3, .int (nI O.length), .ref a4, .int (nI Z.length), .ref a5])), (a4, .inl (cI, 600, .inl er))] H := hP
  have hD : va_D A [(md, .inr (3, [.int 0, .ref a1, .int (nI B.length), .ref a2, .int (nI T.length), .ref a3, .int (nI O.length), .ref a4, .int (nI Z.length), .ref a5])), (a4, .inl (cI, 600, .inl er))] := hD
  refine lv_iload_n hx hb dX3_result_5 rfl (lv_at hl 1 rfl) ?_
  refine lv_if_lt (tgt := 17) hx hb dX3_result_6 (by decide) (fun c1 => ?_) (fun c1 => ?_)
  · refine lv_iconst (v := (-1)) hx hb dX3_result_17 (by decide) ?_
    refine lv_goto (tgt := 27) hx hb dX3_result_18 (by decide) ?_
    exact wi_iret hx hb hr hlk () ((at_neg c1).symm) hP hD hS dX3_result_27
  · refine lv_iload_n hx hb dX3_result_9 rfl (lv_at hl 1 rfl) ?_
    refine lv_aload_n hx hb dX3_result_10 rfl (lv_at hl 0 rfl) ?_
    refine va_get (D := (dC, dI)) (ci := 3) (v := .int (nI Z.length)) (C := RX3) (T := TX3) (N := 10) hx hb hts (by decide +kernel) hown hK hP 0 rfl rfl 8 (by decide) (hts (.fieldLink RX3 35 "PieceWaysModel" "results" "I") (by decide +kernel)) (fun _ h9 => h9) rfl dX3_result_11 ?_
    refine lv_icmp_lt (tgt := 21) hx hb dX3_result_14 (by decide) (fun c2 => ?_) (fun c2 => ?_)
    · obtain ⟨j, hj, rfl⟩ : ∃ j : Nat, j < Z.length ∧ x = nI j := by
        rcases pk_ix x (n := Z.length) (by omega) with q | q | q
        · exact absurd q c1
        · exact absurd c2 (fun h9 => by have h8 := Int32.lt_iff_toInt_lt.mp h9; have h7 := Int32.le_iff_toInt_le.mp q; omega)
        · exact q
      obtain ⟨y, hy⟩ : ∃ y, Z[j]? = some y := ⟨_, List.getElem?_eq_getElem hj⟩
      refine lv_aload_n hx hb dX3_result_21 rfl (lv_at hl 0 rfl) ?_
      refine va_get (D := (dC, dI)) (ci := 3) (v := .ref a4) (C := RX3) (T := TX3) (N := 10) hx hb hts (by decide +kernel) hown hK hP 0 rfl rfl 7 (by decide) (hts (.fieldLink RX3 32 "PieceWaysModel" "result" "[I") (by decide +kernel)) (fun _ h9 => h9) rfl dX3_result_22 ?_
      refine lv_iload_n hx hb dX3_result_25 rfl (lv_at hl 1 rfl) ?_
      refine va_iald hx hb hK hP 1 1 rfl rfl (vp_in_nI (by omega) (by omega)) dX3_result_26 ?_
      rw [nI_clamp (by omega), hf j _ hy]
      exact wi_iret hx hb hr hlk () ((at_in hy (by omega)).symm) hP hD hS dX3_result_27
    · have q2 : nI Z.length ≤ x := by have h8 := mt Int32.lt_iff_toInt_lt.mpr c2; exact Int32.le_iff_toInt_le.mpr (by omega)
      refine lv_iconst (v := (-1)) hx hb dX3_result_17 (by decide) ?_
      refine lv_goto (tgt := 27) hx hb dX3_result_18 (by decide) ?_
      exact wi_iret hx hb hr hlk () ((at_hi (by omega) c1 q2).symm) hP hD hS dX3_result_27
set_option maxHeartbeats 1000000 in
set_option maxRecDepth 100000 in
/-- count(x) -/
theorem c_Md_count (md a1 a2 a3 a4 a5 : Nat) (B T O Z : List Int32) (th : Int32) (x : Int32) : wi_M l yX3_count wsX3_count ({ frames := 0, cells := 0, slots := 0, locals := 0 } : Room) (dC, dI) vwCl (tk_s cB cI cL) [.ref md, .int x] [(md, .inr (3, [.int th, .ref a1, .int (nI B.length), .ref a2, .int (nI T.length), .ref a3, .int (nI O.length), .ref a4, .int (nI Z.length), .ref a5]))] 0 0 (fun (r : Int32) (_ : Unit) => r = ct_I B T Z x) (fun _ => [(md, .inr (3, [.int 0, .ref a1, .int (nI B.length), .ref a2, .int (nI T.length), .ref a3, .int (nI O.length), .ref a4, .int (nI Z.length), .ref a5]))]) := by
  refine wi_ofW (cc := cX3_count) (maxL := 2) (ret := (some .int)) (by decide) rfl (Nat.le_of_ble_eq_true rfl) ?_
  intro p e s m below meth c ls A hx hb hr hml hts hown hlk hnm hP hK hN hD hA hS hl
  have hl : lv_has ls 2 [(0, .ref md), (1, .int x)] := hl
  refine lv_aload_n hx hb dX3_count_0 rfl (lv_at hl 0 rfl) ?_
  refine lv_iconst (v := 0) hx hb dX3_count_1 (by decide) ?_
  refine va_put (D := (dC, dI)) (ci := 3) (v := .int 0) (ty := .int) (C := RX3) (T := TX3) (N := 10) hx hb hts (by decide +kernel) tyX3 tyX3_ok nmX3 hown hK hP hD hS 0 rfl rfl 0 (by decide) (hts (.fieldLink RX3 7 "PieceWaysModel" "thrownCode" "I") (by decide +kernel)) (fun _ h9 => h9) rfl (by decide +kernel) rfl rfl (Nat.le_of_ble_eq_true rfl) dX3_count_2 (fun H locs hP hD hS => ?_)
  have hP : va_P (dC, dI) vwCl [(md, .inr (3, [.int 0, .ref a1, .int (nI B.length), .ref a2, .int (nI T.length), .ref a3, .int (nI O.length), .ref a4, .int (nI Z.length), .ref a5]))] H := hP
  have hD : va_D A [(md, .inr (3, [.int 0, .ref a1, .int (nI B.length), .ref a2, .int (nI T.length), .ref a3, .int (nI O.length), .ref a4, .int (nI Z.length), .ref a5]))] := hD
  refine lv_iload_n hx hb dX3_count_5 rfl (lv_at hl 1 rfl) ?_
  refine lv_if_ne (tgt := 16) hx hb dX3_count_6 (by decide) (fun c1 => ?_) (fun c1 => ?_)
  · refine lv_iload_n hx hb dX3_count_16 rfl (lv_at hl 1 rfl) ?_
    refine lv_iconst (v := 1) hx hb dX3_count_17 (by decide) ?_
    refine lv_icmp_ne (tgt := 28) hx hb dX3_count_18 (by decide) (fun c2 => ?_) (fun c2 => ?_)
    · refine lv_iload_n hx hb dX3_count_28 rfl (lv_at hl 1 rfl) ?_
      refine lv_iconst (v := 2) hx hb dX3_count_29 (by decide) ?_
      refine lv_icmp_ne (tgt := 40) hx hb dX3_count_30 (by decide) (fun c3 => ?_) (fun c3 => ?_)
      · refine lv_iconst (v := (-1)) hx hb dX3_count_40 (by decide) ?_
        exact wi_iret hx hb hr hlk () ((ct_no c1 c2 c3).symm) hP hD hS dX3_count_41
      · refine lv_aload_n hx hb dX3_count_33 rfl (lv_at hl 0 rfl) ?_
        refine va_get (D := (dC, dI)) (ci := 3) (v := .int (nI Z.length)) (C := RX3) (T := TX3) (N := 10) hx hb hts (by decide +kernel) hown hK hP 0 rfl rfl 8 (by decide) (hts (.fieldLink RX3 35 "PieceWaysModel" "results" "I") (by decide +kernel)) (fun _ h9 => h9) rfl dX3_count_34 ?_
        refine lv_goto (tgt := 41) hx hb dX3_count_37 (by decide) ?_
        exact wi_iret hx hb hr hlk () (by rw [c3]; rfl) hP hD hS dX3_count_41
    · refine lv_aload_n hx hb dX3_count_21 rfl (lv_at hl 0 rfl) ?_
      refine va_get (D := (dC, dI)) (ci := 3) (v := .int (nI T.length)) (C := RX3) (T := TX3) (N := 10) hx hb hts (by decide +kernel) hown hK hP 0 rfl rfl 4 (by decide) (hts (.fieldLink RX3 23 "PieceWaysModel" "targets" "I") (by decide +kernel)) (fun _ h9 => h9) rfl dX3_count_22 ?_
      refine lv_goto (tgt := 41) hx hb dX3_count_25 (by decide) ?_
      exact wi_iret hx hb hr hlk () (by rw [c2]; rfl) hP hD hS dX3_count_41
  · refine lv_aload_n hx hb dX3_count_9 rfl (lv_at hl 0 rfl) ?_
    refine va_get (D := (dC, dI)) (ci := 3) (v := .int (nI B.length)) (C := RX3) (T := TX3) (N := 10) hx hb hts (by decide +kernel) hown hK hP 0 rfl rfl 2 (by decide) (hts (.fieldLink RX3 17 "PieceWaysModel" "bases" "I") (by decide +kernel)) (fun _ h9 => h9) rfl dX3_count_10 ?_
    refine lv_goto (tgt := 41) hx hb dX3_count_13 (by decide) ?_
    exact wi_iret hx hb hr hlk () (by rw [c1]; rfl) hP hD hS dX3_count_41
set_option maxHeartbeats 1000000 in
set_option maxRecDepth 100000 in
/-- clear(tg) -/
theorem c_Md_clear (md a1 a2 a3 a4 a5 : Nat) (B T O Z : List Int32) (th : Int32) (tg : Int32) : wr_M l yX3_clear wsX3_clear ({ frames := 0, cells := 0, slots := 0, locals := 0 } : Room) (dC, dI) vwCl (tk_s cB cI cL) [.ref md, .int tg] [(md, .inr (3, [.int th, .ref a1, .int (nI B.length), .ref a2, .int (nI T.length), .ref a3, .int (nI O.length), .ref a4, .int (nI Z.length), .ref a5]))] 0 0 (fun _ : Unit => True) (fun _ => [(md, .inr (3, [.int 0, .ref a1, .int (nI (if tg = 0 then ([] : List Int32) else B).length), .ref a2, .int (nI (if tg = 0 then T else ([] : List Int32)).length), .ref a3, .int (nI O.length), .ref a4, .int (nI Z.length), .ref a5]))]) := by
  refine wr_ofW (cc := cX3_clear) (maxL := 2) (ret := none) (by decide) rfl (Nat.le_of_ble_eq_true rfl) ?_
  intro p e s m below meth c ls A hx hb hr hml hts hown hlk hnm hP hK hN hD hA hS hl
  have hl : lv_has ls 2 [(0, .ref md), (1, .int tg)] := hl
  refine lv_aload_n hx hb dX3_clear_0 rfl (lv_at hl 0 rfl) ?_
  refine lv_iconst (v := 0) hx hb dX3_clear_1 (by decide) ?_
  refine va_put (D := (dC, dI)) (ci := 3) (v := .int 0) (ty := .int) (C := RX3) (T := TX3) (N := 10) hx hb hts (by decide +kernel) tyX3 tyX3_ok nmX3 hown hK hP hD hS 0 rfl rfl 0 (by decide) (hts (.fieldLink RX3 7 "PieceWaysModel" "thrownCode" "I") (by decide +kernel)) (fun _ h9 => h9) rfl (by decide +kernel) rfl rfl (Nat.le_of_ble_eq_true rfl) dX3_clear_2 (fun H locs hP hD hS => ?_)
  have hP : va_P (dC, dI) vwCl [(md, .inr (3, [.int 0, .ref a1, .int (nI B.length), .ref a2, .int (nI T.length), .ref a3, .int (nI O.length), .ref a4, .int (nI Z.length), .ref a5]))] H := hP
  have hD : va_D A [(md, .inr (3, [.int 0, .ref a1, .int (nI B.length), .ref a2, .int (nI T.length), .ref a3, .int (nI O.length), .ref a4, .int (nI Z.length), .ref a5]))] := hD
  refine lv_iload_n hx hb dX3_clear_5 rfl (lv_at hl 1 rfl) ?_
  refine lv_if_eq (tgt := 17) hx hb dX3_clear_6 (by decide) (fun c1 => ?_) (fun c1 => ?_)
  · rw [if_pos c1, if_pos c1]
    refine lv_aload_n hx hb dX3_clear_17 rfl (lv_at hl 0 rfl) ?_
    refine lv_iconst (v := 0) hx hb dX3_clear_18 (by decide) ?_
    refine va_put (D := (dC, dI)) (ci := 3) (v := .int (nI ([] : List Int32).length)) (ty := .int) (C := RX3) (T := TX3) (N := 10) hx hb hts (by decide +kernel) tyX3 tyX3_ok nmX3 hown hK hP hD hS 0 rfl rfl 2 (by decide) (hts (.fieldLink RX3 17 "PieceWaysModel" "bases" "I") (by decide +kernel)) (fun _ h9 => h9) rfl (by decide +kernel) rfl rfl (Nat.le_of_ble_eq_true rfl) dX3_clear_19 (fun H locs hP hD hS => ?_)
    have hP : va_P (dC, dI) vwCl [(md, .inr (3, [.int 0, .ref a1, .int (nI ([] : List Int32).length), .ref a2, .int (nI T.length), .ref a3, .int (nI O.length), .ref a4, .int (nI Z.length), .ref a5]))] H := hP
    have hD : va_D A [(md, .inr (3, [.int 0, .ref a1, .int (nI ([] : List Int32).length), .ref a2, .int (nI T.length), .ref a3, .int (nI O.length), .ref a4, .int (nI Z.length), .ref a5]))] := hD
    exact wr_vret hx hb hr hlk () trivial hP hD hS dX3_clear_22
  · rw [if_neg c1, if_neg c1]
    refine lv_aload_n hx hb dX3_clear_9 rfl (lv_at hl 0 rfl) ?_
    refine lv_iconst (v := 0) hx hb dX3_clear_10 (by decide) ?_
    refine va_put (D := (dC, dI)) (ci := 3) (v := .int (nI ([] : List Int32).length)) (ty := .int) (C := RX3) (T := TX3) (N := 10) hx hb hts (by decide +kernel) tyX3 tyX3_ok nmX3 hown hK hP hD hS 0 rfl rfl 4 (by decide) (hts (.fieldLink RX3 23 "PieceWaysModel" "targets" "I") (by decide +kernel)) (fun _ h9 => h9) rfl (by decide +kernel) rfl rfl (Nat.le_of_ble_eq_true rfl) dX3_clear_11 (fun H locs hP hD hS => ?_)
    have hP : va_P (dC, dI) vwCl [(md, .inr (3, [.int 0, .ref a1, .int (nI B.length), .ref a2, .int (nI ([] : List Int32).length), .ref a3, .int (nI O.length), .ref a4, .int (nI Z.length), .ref a5]))] H := hP
    have hD : va_D A [(md, .inr (3, [.int 0, .ref a1, .int (nI B.length), .ref a2, .int (nI ([] : List Int32).length), .ref a3, .int (nI O.length), .ref a4, .int (nI Z.length), .ref a5]))] := hD
    refine lv_goto (tgt := 22) hx hb dX3_clear_14 (by decide) ?_
    exact wr_vret hx hb hr hlk () trivial hP hD hS dX3_clear_22
end PWMWRITE
end
section
section PWMMAKE
variable (l : Launch) (dC : Nat → ClassId) (dI : Nat → Nat → Nat) (cB cI cL : ClassId)

set_option maxHeartbeats 1000000 in
set_option maxRecDepth 100000 in
/-- make() -/
theorem c_Md_make (md a1 a2 a3 a4 a5 : Nat) (B T O Z : List Int32) (th : Int32) (eb et eo : Nat → Int32) (hB : B.length ≤ 600) (hT : T.length ≤ 600) (heb : im_k eb B) (het : im_k et T) : wi_M l yX3_make wsX3_make ({ frames := 2, cells := 0, slots := 0, locals := 42 } : Room) (dC, dI) vwCl (tk_s cB cI cL) [.ref md] [(md, .inr (3, [.int th, .ref a1, .int (nI B.length), .ref a2, .int (nI T.length), .ref a3, .int (nI O.length), .ref a4, .int (nI Z.length), .ref a5])), (a1, .inl (cI, 600, .inl eb)), (a2, .inl (cI, 600, .inl et)), (a3, .inl (cI, 2000, .inl eo))] 0 0 (fun (r : Int32) (z : Nat → Int32) => r = nI (wy_P B T).length ∧ im_k z (rw_R T (wy_P B T))) (fun z : Nat → Int32 => [(md, .inr (3, [.int 0, .ref a1, .int (nI B.length), .ref a2, .int (nI T.length), .ref a3, .int (nI (rw_R T (wy_P B T)).length), .ref a4, .int (nI Z.length), .ref a5])), (a1, .inl (cI, 600, .inl eb)), (a2, .inl (cI, 600, .inl et)), (a3, .inl (cI, 2000, .inl z))]) := by
  refine wi_ofW (cc := cX3_make) (maxL := 8) (ret := (some .int)) (by decide) rfl (Nat.le_of_ble_eq_true rfl) ?_
  intro p e s m below meth c ls A hx hb hr hml hts hown hlk hnm hP hK hN hD hA hS hl
  have hl : lv_has ls 8 [(0, .ref md)] := hl
  have loop : ∀ (n pl : Nat) (Q : List (Nat × Nat × Nat)) (f : Nat → Int32) (H : Heap) (locs : List Loc) (ls : Array Slot), T.length ≤ pl + n → pw_I B.length T.length Q pl → fp_P B T n pl Q = wy_P B T → im_k f (rw_R T Q) → va_P (dC, dI) vwCl [(md, .inr (3, [.int 0, .ref a1, .int (nI B.length), .ref a2, .int (nI T.length), .ref a3, .int (nI (rw_R T Q).length), .ref a4, .int (nI Z.length), .ref a5])), (a1, .inl (cI, 600, .inl eb)), (a2, .inl (cI, 600, .inl et)), (a3, .inl (cI, 2000, .inl f))] H → va_D A [(md, .inr (3, [.int 0, .ref a1, .int (nI B.length), .ref a2, .int (nI T.length), .ref a3, .int (nI (rw_R T Q).length), .ref a4, .int (nI Z.length), .ref a5])), (a1, .inl (cI, 600, .inl eb)), (a2, .inl (cI, 600, .inl et)), (a3, .inl (cI, 2000, .inl f))] → va_S A s.heap H locs → lv_has ls 8 [(3, .int (nI pl)), (2, .int (op_I T Q)), (1, .int (nI Q.length)), (0, .ref md)] → W p l e ({ frames := 2, cells := 0, slots := 0, locals := 42 } : Room) s m ([.ref md] : List Value).toArray below meth c H locs 0 0 (MQ below (va_Qi (fun (r : Int32) (z : Nat → Int32) => r = nI (wy_P B T).length ∧ im_k z (rw_R T (wy_P B T))) (fun u t => va_P (dC, dI) vwCl ((fun z : Nat → Int32 => [(md, .inr (3, [.int 0, .ref a1, .int (nI B.length), .ref a2, .int (nI T.length), .ref a3, .int (nI (rw_R T (wy_P B T)).length), .ref a4, .int (nI Z.length), .ref a5])), (a1, .inl (cI, 600, .inl eb)), (a2, .inl (cI, 600, .inl et)), (a3, .inl (cI, 2000, .inl z))]) u) t.heap ∧ va_D A ((fun z : Nat → Int32 => [(md, .inr (3, [.int 0, .ref a1, .int (nI B.length), .ref a2, .int (nI T.length), .ref a3, .int (nI (rw_R T (wy_P B T)).length), .ref a4, .int (nI Z.length), .ref a5])), (a1, .inl (cI, 600, .inl eb)), (a2, .inl (cI, 600, .inl et)), (a3, .inl (cI, 2000, .inl z))]) u)) A) ([.ref md] : List Value).toArray s 0 0 A) (F0 m 16 ls []) := by
    intro n
    induction n with
    | zero =>
      intro pl Q f H locs ls hn hI hfp hf hP hD hS hl
      have hpl : pl = T.length := by have := hI.2.2.2.2.1; omega
      have hQ : Q = wy_P B T := hfp
      subst hQ
      refine lv_iload_n hx hb dX3_make_16 rfl (lv_at hl 0 rfl) ?_
      refine lv_aload_n hx hb dX3_make_17 rfl (lv_at hl 3 rfl) ?_
      refine va_get (D := (dC, dI)) (ci := 3) (v := .int (nI T.length)) (C := RX3) (T := TX3) (N := 10) hx hb hts (by decide +kernel) hown hK hP 0 rfl rfl 4 (by decide) (hts (.fieldLink RX3 23 "PieceWaysModel" "targets" "I") (by decide +kernel)) (fun _ h9 => h9) rfl dX3_make_18 ?_
      refine lv_icmp_ge (tgt := 190) hx hb dX3_make_21 (by decide) (fun c1 => ?_) (fun c1 => ?_)
      · refine lv_iload_n hx hb dX3_make_190 rfl (lv_at hl 2 rfl) ?_
        exact wi_iret hx hb hr hlk f ⟨rfl, hf⟩ hP hD hS dX3_make_191
      · exact absurd (nI_le (by omega) (by omega)) c1
    | succ n ih =>
      intro pl Q f H locs ls hn hI hfp hf hP hD hS hl
      have hpT := hI.2.2.2.2.1
      have hQn := pw_num hI hT
      have hOl := rw_len (nB := B.length) (T := T) hI.1
      have plain : ∀ (Q1 : List (Nat × Nat × Nat)) (b k : Nat) (y : Int32) (f1 : Nat → Int32) (H : Heap) (locs : List Loc) (ls : Array Slot), b + k = pl → pl < T.length → T[pl]? = some y → (rw_R T Q1).length ≤ 603 → pw_I B.length T.length (Q1 ++ [(2, b, k + 1)]) (pl + 1) → fp_P B T n (pl + 1) (Q1 ++ [(2, b, k + 1)]) = wy_P B T → im_k f1 (rw_R T (Q1 ++ [(2, b, k)])) → va_P (dC, dI) vwCl [(md, .inr (3, [.int 0, .ref a1, .int (nI B.length), .ref a2, .int (nI T.length), .ref a3, .int (nI (rw_R T (Q1 ++ [(2, b, k)])).length), .ref a4, .int (nI Z.length), .ref a5])), (a1, .inl (cI, 600, .inl eb)), (a2, .inl (cI, 600, .inl et)), (a3, .inl (cI, 2000, .inl f1))] H → va_D A [(md, .inr (3, [.int 0, .ref a1, .int (nI B.length), .ref a2, .int (nI T.length), .ref a3, .int (nI (rw_R T (Q1 ++ [(2, b, k)])).length), .ref a4, .int (nI Z.length), .ref a5])), (a1, .inl (cI, 600, .inl eb)), (a2, .inl (cI, 600, .inl et)), (a3, .inl (cI, 2000, .inl f1))] → va_S A s.heap H locs → lv_has ls 8 [(2, .int (nI (rw_R T Q1).length)), (1, .int (nI (Q1.length + 1))), (3, .int (nI pl)), (0, .ref md)] → W p l e ({ frames := 2, cells := 0, slots := 0, locals := 42 } : Room) s m ([.ref md] : List Value).toArray below meth c H locs 0 0 (MQ below (va_Qi (fun (r : Int32) (z : Nat → Int32) => r = nI (wy_P B T).length ∧ im_k z (rw_R T (wy_P B T))) (fun u t => va_P (dC, dI) vwCl ((fun z : Nat → Int32 => [(md, .inr (3, [.int 0, .ref a1, .int (nI B.length), .ref a2, .int (nI T.length), .ref a3, .int (nI (rw_R T (wy_P B T)).length), .ref a4, .int (nI Z.length), .ref a5])), (a1, .inl (cI, 600, .inl eb)), (a2, .inl (cI, 600, .inl et)), (a3, .inl (cI, 2000, .inl z))]) u) t.heap ∧ va_D A ((fun z : Nat → Int32 => [(md, .inr (3, [.int 0, .ref a1, .int (nI B.length), .ref a2, .int (nI T.length), .ref a3, .int (nI (rw_R T (wy_P B T)).length), .ref a4, .int (nI Z.length), .ref a5])), (a1, .inl (cI, 600, .inl eb)), (a2, .inl (cI, 600, .inl et)), (a3, .inl (cI, 2000, .inl z))]) u)) A) ([.ref md] : List Value).toArray s 0 0 A) (F0 m 135 ls []) := by
        intro Q1 b k y f1 H locs ls hbk hplT hy hQ1 hI2 hfp2 hf1 hP hD hS hl
        have hlen := rw_lenP (T := T) (Q := Q1) (b := b) (n := k) (by omega) (by omega)
        have h2 := rw_two (T := T) (Q := Q1) (b := b) (n := k) (by omega)
        refine lv_aload_n hx hb dX3_make_135 rfl (lv_at hl 3 rfl) ?_
        refine lv_iload_n hx hb dX3_make_136 rfl (lv_at hl 0 rfl) ?_
        refine lv_iconst (v := 1) hx hb dX3_make_137 (by decide) ?_
        refine lv_iadd hx hb dX3_make_138 ?_
        rw [nI_1 (rw_R T Q1).length]
        have hn2 := pw_num hI2 hT
        have hl2 := rw_len (nB := B.length) (T := T) hI2.1
        have hlen2 := rw_lenP (T := T) (Q := Q1) (b := b) (n := k + 1) (by omega) (by omega)
        refine rd_V (wc := [(md, .inr (3, [.int 0, .ref a1, .int (nI B.length), .ref a2, .int (nI T.length), .ref a3, .int (nI (rw_R T (Q1 ++ [(2, b, k)])).length), .ref a4, .int (nI Z.length), .ref a5])), (a3, .inl (cI, 2000, .inl f1))]) (As := [.int (nI ((rw_R T Q1).length + 1))]) (rest := []) ⟨hx, hb, hml, hown, hts⟩ (c_Md_two l dC dI cB cI cL md a1 a2 a3 a4 a5 B T (rw_R T (Q1 ++ [(2, b, k)])) Z 0 f1 ((rw_R T Q1).length + 1) k (by omega) hf1 h2.1 h2.2) (cwV 1 hts gX3_make_X3_two rfl rfl rfl (by decide +kernel) ⟨(Nat.le_of_ble_eq_true rfl), (Nat.le_of_ble_eq_true rfl)⟩) hK hN (sb_P hP [0, 3] rfl) 0 rfl rfl rfl rfl hl.1 rfl (Nat.le_of_ble_eq_true rfl) dX3_make_139 ⟨(Nat.le_of_ble_eq_true rfl), (Nat.le_of_ble_eq_true rfl)⟩ ?_
        refine lv_iconst (v := 1) hx hb dX3_make_142 (by decide) ?_
        refine lv_iadd hx hb dX3_make_143 ?_
        rw [nI_1 k]
        refine lv_istore (lv' := [(6, .int (nI (k + 1))), (2, .int (nI (rw_R T Q1).length)), (1, .int (nI (Q1.length + 1))), (3, .int (nI pl)), (0, .ref md)]) hx hb dX3_make_144 hl (by decide) rfl (fun ls hl => ?_)
        refine lv_aload_n hx hb dX3_make_146 rfl (lv_at hl 4 rfl) ?_
        refine va_get (D := (dC, dI)) (ci := 3) (v := .ref a3) (C := RX3) (T := TX3) (N := 10) hx hb hts (by decide +kernel) hown hK hP 0 rfl rfl 5 (by decide) (hts (.fieldLink RX3 26 "PieceWaysModel" "row" "[I") (by decide +kernel)) (fun _ h9 => h9) rfl dX3_make_147 ?_
        refine lv_iload_n hx hb dX3_make_150 rfl (lv_at hl 1 rfl) ?_
        refine lv_iconst (v := 1) hx hb dX3_make_151 (by decide) ?_
        refine lv_iadd hx hb dX3_make_152 ?_
        refine lv_iload hx hb dX3_make_153 (lv_at hl 0 rfl) ?_
        refine lv_sipush (v := 256) hx hb dX3_make_155 (by decide) ?_
        refine lv_idiv hx hb dX3_make_158 (by decide) ?_
        rw [nI_1 (rw_R T Q1).length, show (256 : Int32) = nI 256 from rfl, pk_div (a := k + 1) (by omega) (by omega) (by omega)]
        refine va_iast hx hb hK hP hD hS 3 1 rfl rfl (vp_in_nI (by omega) (by omega)) dX3_make_159 (fun H locs hP hD hS => ?_)
        have hP : va_P (dC, dI) vwCl [(md, .inr (3, [.int 0, .ref a1, .int (nI B.length), .ref a2, .int (nI T.length), .ref a3, .int (nI (rw_R T (Q1 ++ [(2, b, k)])).length), .ref a4, .int (nI Z.length), .ref a5])), (a1, .inl (cI, 600, .inl eb)), (a2, .inl (cI, 600, .inl et)), (a3, .inl (cI, 2000, .inl (upd f1 (nI ((rw_R T Q1).length + 1)).toNatClampNeg (nI ((k + 1) / 256)))))] H := hP
        have hD : va_D A [(md, .inr (3, [.int 0, .ref a1, .int (nI B.length), .ref a2, .int (nI T.length), .ref a3, .int (nI (rw_R T (Q1 ++ [(2, b, k)])).length), .ref a4, .int (nI Z.length), .ref a5])), (a1, .inl (cI, 600, .inl eb)), (a2, .inl (cI, 600, .inl et)), (a3, .inl (cI, 2000, .inl (upd f1 (nI ((rw_R T Q1).length + 1)).toNatClampNeg (nI ((k + 1) / 256)))))] := hD
        rw [nI_clamp (by omega)] at hP hD
        have hf2 := im_set hf1 ((rw_R T Q1).length + 1) (nI ((k + 1) / 256))
        generalize upd f1 ((rw_R T Q1).length + 1) (nI ((k + 1) / 256)) = f2 at hf2 hP hD
        refine lv_aload_n hx hb dX3_make_160 rfl (lv_at hl 4 rfl) ?_
        refine va_get (D := (dC, dI)) (ci := 3) (v := .ref a3) (C := RX3) (T := TX3) (N := 10) hx hb hts (by decide +kernel) hown hK hP 0 rfl rfl 5 (by decide) (hts (.fieldLink RX3 26 "PieceWaysModel" "row" "[I") (by decide +kernel)) (fun _ h9 => h9) rfl dX3_make_161 ?_
        refine lv_iload_n hx hb dX3_make_164 rfl (lv_at hl 1 rfl) ?_
        refine lv_iconst (v := 2) hx hb dX3_make_165 (by decide) ?_
        refine lv_iadd hx hb dX3_make_166 ?_
        refine lv_iload hx hb dX3_make_167 (lv_at hl 0 rfl) ?_
        refine lv_sipush (v := 256) hx hb dX3_make_169 (by decide) ?_
        refine lv_irem hx hb dX3_make_172 (by decide) ?_
        rw [show (2 : Int32) = nI 2 from rfl, nI_add (rw_R T Q1).length 2, show (256 : Int32) = nI 256 from rfl, pk_rem (a := k + 1) (by omega) (by omega) (by omega)]
        refine va_iast hx hb hK hP hD hS 3 1 rfl rfl (vp_in_nI (by omega) (by omega)) dX3_make_173 (fun H locs hP hD hS => ?_)
        have hP : va_P (dC, dI) vwCl [(md, .inr (3, [.int 0, .ref a1, .int (nI B.length), .ref a2, .int (nI T.length), .ref a3, .int (nI (rw_R T (Q1 ++ [(2, b, k)])).length), .ref a4, .int (nI Z.length), .ref a5])), (a1, .inl (cI, 600, .inl eb)), (a2, .inl (cI, 600, .inl et)), (a3, .inl (cI, 2000, .inl (upd f2 (nI ((rw_R T Q1).length + 2)).toNatClampNeg (nI ((k + 1) % 256)))))] H := hP
        have hD : va_D A [(md, .inr (3, [.int 0, .ref a1, .int (nI B.length), .ref a2, .int (nI T.length), .ref a3, .int (nI (rw_R T (Q1 ++ [(2, b, k)])).length), .ref a4, .int (nI Z.length), .ref a5])), (a1, .inl (cI, 600, .inl eb)), (a2, .inl (cI, 600, .inl et)), (a3, .inl (cI, 2000, .inl (upd f2 (nI ((rw_R T Q1).length + 2)).toNatClampNeg (nI ((k + 1) % 256)))))] := hD
        rw [nI_clamp (by omega)] at hP hD
        have hf3 := im_set hf2 ((rw_R T Q1).length + 2) (nI ((k + 1) % 256))
        generalize upd f2 ((rw_R T Q1).length + 2) (nI ((k + 1) % 256)) = f3 at hf3 hP hD
        generalize hO3 : (((rw_R T (Q1 ++ [(2, b, k)])).set ((rw_R T Q1).length + 1) (nI ((k + 1) / 256))).set ((rw_R T Q1).length + 2) (nI ((k + 1) % 256))) = O3 at hf3
        have hO3l : O3.length = (rw_R T (Q1 ++ [(2, b, k)])).length := by rw [← hO3, List.length_set, List.length_set]
        rw [← hO3l] at hP hD
        refine lv_aload_n hx hb dX3_make_174 rfl (lv_at hl 4 rfl) ?_
        refine lv_aload_n hx hb dX3_make_175 rfl (lv_at hl 4 rfl) ?_
        refine va_get (D := (dC, dI)) (ci := 3) (v := .ref a2) (C := RX3) (T := TX3) (N := 10) hx hb hts (by decide +kernel) hown hK hP 0 rfl rfl 3 (by decide) (hts (.fieldLink RX3 20 "PieceWaysModel" "target" "[I") (by decide +kernel)) (fun _ h9 => h9) rfl dX3_make_176 ?_
        refine lv_iload_n hx hb dX3_make_179 rfl (lv_at hl 3 rfl) ?_
        refine va_iald hx hb hK hP 2 1 rfl rfl (vp_in_nI (by omega) (by omega)) dX3_make_180 ?_
        rw [nI_clamp (by omega), het pl _ hy]
        refine wr_V (wc := [(md, .inr (3, [.int 0, .ref a1, .int (nI B.length), .ref a2, .int (nI T.length), .ref a3, .int (nI O3.length), .ref a4, .int (nI Z.length), .ref a5])), (a3, .inl (cI, 2000, .inl f3))]) (wr := [(a1, .inl (cI, 600, .inl eb)), (a2, .inl (cI, 600, .inl et))]) (As := [.int y]) (rest := []) ⟨hx, hb, hml, hown, hts⟩ (c_Md_write l dC dI cB cI cL md a1 a2 a3 a4 a5 B T O3 Z 0 f3 y (by omega) hf3) (cwV 1 hts gX3_make_X3_write rfl rfl rfl (by decide +kernel) ⟨(Nat.le_of_ble_eq_true rfl), (Nat.le_of_ble_eq_true rfl)⟩) hK hN hP hD hS hA [0, 3] [1, 2] rfl rfl (by decide) (by decide) (by decide) 0 rfl rfl rfl rfl hl.1 rfl (Nat.le_of_ble_eq_true rfl) dX3_make_181 ⟨(Nat.le_of_ble_eq_true rfl), (Nat.le_of_ble_eq_true rfl)⟩ (fun f4 H locs hf4 hP hD hS => ?_)
        have hP : va_P (dC, dI) vwCl [(md, .inr (3, [.int 0, .ref a1, .int (nI B.length), .ref a2, .int (nI T.length), .ref a3, .int (nI (O3 ++ [y]).length), .ref a4, .int (nI Z.length), .ref a5])), (a1, .inl (cI, 600, .inl eb)), (a2, .inl (cI, 600, .inl et)), (a3, .inl (cI, 2000, .inl f4))] H := hP.sub [2, 0, 1, 3] rfl
        have hD : va_D A [(md, .inr (3, [.int 0, .ref a1, .int (nI B.length), .ref a2, .int (nI T.length), .ref a3, .int (nI (O3 ++ [y]).length), .ref a4, .int (nI Z.length), .ref a5])), (a1, .inl (cI, 600, .inl eb)), (a2, .inl (cI, 600, .inl et)), (a3, .inl (cI, 2000, .inl f4))] := hD.sub [2, 0, 1, 3] (by decide) rfl
        have e9 : O3 ++ [y] = rw_R T (Q1 ++ [(2, b, k + 1)]) := by rw [← hO3]; exact rw_more (by omega) (by rw [hbk]; exact hy)
        rw [e9] at hf4 hP hD
        refine lv_iinc (v := ((nI pl) + 1)) (lv' := [(3, .int ((nI pl) + 1)), (6, .int (nI (k + 1))), (2, .int (nI (rw_R T Q1).length)), (1, .int (nI (Q1.length + 1))), (0, .ref md)]) hx hb dX3_make_184 hl (k := 3) rfl rfl (by decide) rfl (fun ls hl => ?_)
        refine lv_goto (tgt := 16) hx hb dX3_make_187 (by decide) ?_
        refine ih (pl + 1) (Q1 ++ [(2, b, k + 1)]) f4 H locs ls (by omega) hI2 hfp2 hf4 hP hD hS ?_
        rw [op_app, if_pos rfl, List.length_append, List.length_singleton, ← nI_1 pl]
        exact lv_sub hl [0, 2, 3, 4] rfl
      refine lv_iload_n hx hb dX3_make_16 rfl (lv_at hl 0 rfl) ?_
      refine lv_aload_n hx hb dX3_make_17 rfl (lv_at hl 3 rfl) ?_
      refine va_get (D := (dC, dI)) (ci := 3) (v := .int (nI T.length)) (C := RX3) (T := TX3) (N := 10) hx hb hts (by decide +kernel) hown hK hP 0 rfl rfl 4 (by decide) (hts (.fieldLink RX3 23 "PieceWaysModel" "targets" "I") (by decide +kernel)) (fun _ h9 => h9) rfl dX3_make_18 ?_
      refine lv_icmp_ge (tgt := 190) hx hb dX3_make_21 (by decide) (fun c1 => ?_) (fun c1 => ?_)
      · have hpl : ¬ pl < T.length := fun h9 => absurd c1 (nI_ge h9 (by omega))
        have hQ : Q = wy_P B T := by unfold fp_P at hfp; rw [if_neg hpl] at hfp; exact hfp
        subst hQ
        refine lv_iload_n hx hb dX3_make_190 rfl (lv_at hl 2 rfl) ?_
        exact wi_iret hx hb hr hlk f ⟨rfl, hf⟩ hP hD hS dX3_make_191
      · have hpl : pl < T.length := by rcases Nat.lt_or_ge pl T.length with h9 | h9; exact h9; exact absurd (nI_le h9 (by omega)) c1
        unfold fp_P at hfp
        rw [if_pos hpl] at hfp
        have inner : (∀ ls : Array Slot, lv_has ls 8 [(5, .int (fr_I (lg_S B T pl (B.length / 8)).1)), (4, .int (nI (lg_S B T pl (B.length / 8)).2)), (3, .int (nI pl)), (2, .int (op_I T Q)), (1, .int (nI Q.length)), (0, .ref md)] → W p l e ({ frames := 2, cells := 0, slots := 0, locals := 42 } : Room) s m ([.ref md] : List Value).toArray below meth c H locs 0 0 (MQ below (va_Qi (fun (r : Int32) (z : Nat → Int32) => r = nI (wy_P B T).length ∧ im_k z (rw_R T (wy_P B T))) (fun u t => va_P (dC, dI) vwCl ((fun z : Nat → Int32 => [(md, .inr (3, [.int 0, .ref a1, .int (nI B.length), .ref a2, .int (nI T.length), .ref a3, .int (nI (rw_R T (wy_P B T)).length), .ref a4, .int (nI Z.length), .ref a5])), (a1, .inl (cI, 600, .inl eb)), (a2, .inl (cI, 600, .inl et)), (a3, .inl (cI, 2000, .inl z))]) u) t.heap ∧ va_D A ((fun z : Nat → Int32 => [(md, .inr (3, [.int 0, .ref a1, .int (nI B.length), .ref a2, .int (nI T.length), .ref a3, .int (nI (rw_R T (wy_P B T)).length), .ref a4, .int (nI Z.length), .ref a5])), (a1, .inl (cI, 600, .inl eb)), (a2, .inl (cI, 600, .inl et)), (a3, .inl (cI, 2000, .inl z))]) u)) A) ([.ref md] : List Value).toArray s 0 0 A) (F0 m 76 ls [])) → ∀ (j k : Nat) (ls : Array Slot), j + k = B.length / 8 → lv_has ls 8 [(6, .int (nI (8 * k))), (5, .int (fr_I (lg_S B T pl k).1)), (4, .int (nI (lg_S B T pl k).2)), (3, .int (nI pl)), (2, .int (op_I T Q)), (1, .int (nI Q.length)), (0, .ref md)] → W p l e ({ frames := 2, cells := 0, slots := 0, locals := 42 } : Room) s m ([.ref md] : List Value).toArray below meth c H locs 0 0 (MQ below (va_Qi (fun (r : Int32) (z : Nat → Int32) => r = nI (wy_P B T).length ∧ im_k z (rw_R T (wy_P B T))) (fun u t => va_P (dC, dI) vwCl ((fun z : Nat → Int32 => [(md, .inr (3, [.int 0, .ref a1, .int (nI B.length), .ref a2, .int (nI T.length), .ref a3, .int (nI (rw_R T (wy_P B T)).length), .ref a4, .int (nI Z.length), .ref a5])), (a1, .inl (cI, 600, .inl eb)), (a2, .inl (cI, 600, .inl et)), (a3, .inl (cI, 2000, .inl z))]) u) t.heap ∧ va_D A ((fun z : Nat → Int32 => [(md, .inr (3, [.int 0, .ref a1, .int (nI B.length), .ref a2, .int (nI T.length), .ref a3, .int (nI (rw_R T (wy_P B T)).length), .ref a4, .int (nI Z.length), .ref a5])), (a1, .inl (cI, 600, .inl eb)), (a2, .inl (cI, 600, .inl et)), (a3, .inl (cI, 2000, .inl z))]) u)) A) ([.ref md] : List Value).toArray s 0 0 A) (F0 m 34 ls []) := by
          intro kx j
          induction j with
          | zero =>
            intro k ls hk hl
            have hk : k = B.length / 8 := by omega
            refine lv_iload hx hb dX3_make_34 (lv_at hl 0 rfl) ?_
            refine lv_bipush (v := 8) hx hb dX3_make_36 (by decide) ?_
            refine lv_iadd hx hb dX3_make_38 ?_
            refine lv_aload_n hx hb dX3_make_39 rfl (lv_at hl 6 rfl) ?_
            refine va_get (D := (dC, dI)) (ci := 3) (v := .int (nI B.length)) (C := RX3) (T := TX3) (N := 10) hx hb hts (by decide +kernel) hown hK hP 0 rfl rfl 2 (by decide) (hts (.fieldLink RX3 17 "PieceWaysModel" "bases" "I") (by decide +kernel)) (fun _ h9 => h9) rfl dX3_make_40 ?_
            refine lv_icmp_gt (tgt := 76) hx hb dX3_make_43 (by decide) (fun d1 => ?_) (fun d1 => ?_)
            · rw [hk] at hl
              exact kx ls (lv_sub hl [1, 2, 3, 4, 5, 6] rfl)
            · exact absurd (by rw [show (8 : Int32) = nI 8 from rfl, nI_add]; exact nI_lt (by omega) (by omega)) d1
          | succ j jh =>
            intro k ls hk hl
            have h8 : 8 * k + 8 ≤ B.length := by omega
            have hlm := lg_most B T pl k
            have hlc := lc_le (B.drop (8 * k)) (T.drop pl)
            rw [List.length_drop, List.length_drop] at hlc
            have hm6 : (lg_S B T pl k).2 ≤ 600 := by
              rcases lg_ok B T pl k with ⟨-, h9⟩ | ⟨b, -, h9, -, -⟩
              · omega
              · rw [h9]; have h7 := lc_le (B.drop b) (T.drop pl); rw [List.length_drop, List.length_drop] at h7; omega
            refine lv_iload hx hb dX3_make_34 (lv_at hl 0 rfl) ?_
            refine lv_bipush (v := 8) hx hb dX3_make_36 (by decide) ?_
            refine lv_iadd hx hb dX3_make_38 ?_
            refine lv_aload_n hx hb dX3_make_39 rfl (lv_at hl 6 rfl) ?_
            refine va_get (D := (dC, dI)) (ci := 3) (v := .int (nI B.length)) (C := RX3) (T := TX3) (N := 10) hx hb hts (by decide +kernel) hown hK hP 0 rfl rfl 2 (by decide) (hts (.fieldLink RX3 17 "PieceWaysModel" "bases" "I") (by decide +kernel)) (fun _ h9 => h9) rfl dX3_make_40 ?_
            refine lv_icmp_gt (tgt := 76) hx hb dX3_make_43 (by decide) (fun d1 => ?_) (fun d1 => ?_)
            · exact absurd d1 (by rw [show (8 : Int32) = nI 8 from rfl, nI_add]; exact nI_nlt (by omega) (by omega))
            · refine lv_aload_n hx hb dX3_make_46 rfl (lv_at hl 6 rfl) ?_
              refine lv_iload hx hb dX3_make_47 (lv_at hl 0 rfl) ?_
              refine lv_iload_n hx hb dX3_make_49 rfl (lv_at hl 3 rfl) ?_
              refine rd_V (wc := [(md, .inr (3, [.int 0, .ref a1, .int (nI B.length), .ref a2, .int (nI T.length), .ref a3, .int (nI (rw_R T Q).length), .ref a4, .int (nI Z.length), .ref a5])), (a1, .inl (cI, 600, .inl eb)), (a2, .inl (cI, 600, .inl et))]) (As := [.int (nI (8 * k)), .int (nI pl)]) (rest := []) ⟨hx, hb, hml, hown, hts⟩ (c_Md_alike l dC dI cB cI cL md a1 a2 a3 a4 a5 B T (rw_R T Q) Z 0 eb et (8 * k) pl (by omega) (by omega) hB hT heb het) (cwV 2 hts gX3_make_X3_alike rfl rfl rfl (by decide +kernel) ⟨(Nat.le_of_ble_eq_true rfl), (Nat.le_of_ble_eq_true rfl)⟩) hK hN (sb_P hP [0, 1, 2] rfl) 0 rfl rfl rfl rfl hl.1 rfl (Nat.le_of_ble_eq_true rfl) dX3_make_50 ⟨(Nat.le_of_ble_eq_true rfl), (Nat.le_of_ble_eq_true rfl)⟩ ?_
              refine lv_istore (lv' := [(7, .int (nI (lc_p (B.drop (8 * k)) (T.drop pl)))), (6, .int (nI (8 * k))), (5, .int (fr_I (lg_S B T pl k).1)), (4, .int (nI (lg_S B T pl k).2)), (3, .int (nI pl)), (2, .int (op_I T Q)), (1, .int (nI Q.length)), (0, .ref md)]) hx hb dX3_make_53 hl (by decide) rfl (fun ls hl => ?_)
              refine lv_iload hx hb dX3_make_55 (lv_at hl 0 rfl) ?_
              refine lv_iload hx hb dX3_make_57 (lv_at hl 3 rfl) ?_
              refine lv_icmp_le (tgt := 70) hx hb dX3_make_59 (by decide) (fun d2 => ?_) (fun d2 => ?_)
              · have e4 : lg_S B T pl (k + 1) = lg_S B T pl k := lg_keep (by have := (nI_leI (by omega) (by omega)).mp d2; omega)
                refine lv_iinc (v := ((nI (8 * k)) + 8)) (lv' := [(6, .int ((nI (8 * k)) + 8)), (7, .int (nI (lc_p (B.drop (8 * k)) (T.drop pl)))), (5, .int (fr_I (lg_S B T pl k).1)), (4, .int (nI (lg_S B T pl k).2)), (3, .int (nI pl)), (2, .int (op_I T Q)), (1, .int (nI Q.length)), (0, .ref md)]) hx hb dX3_make_70 hl (k := 1) rfl rfl (by decide) rfl (fun ls hl => ?_)
                refine lv_goto (tgt := 34) hx hb dX3_make_73 (by decide) ?_
                have h9 : lv_has ls 8 [(6, .int ((nI (8 * k)) + 8)), (5, .int (fr_I (lg_S B T pl k).1)), (4, .int (nI (lg_S B T pl k).2)), (3, .int (nI pl)), (2, .int (op_I T Q)), (1, .int (nI Q.length)), (0, .ref md)] := lv_sub hl [0, 2, 3, 4, 5, 6, 7] rfl
                refine jh (k + 1) ls (by omega) ?_
                rw [e4, show 8 * (k + 1) = 8 * k + 8 from rfl, ← nI_add]
                exact h9
              · have e4 : lg_S B T pl (k + 1) = (some (8 * k), lc_p (B.drop (8 * k)) (T.drop pl)) := lg_take (by rcases Nat.lt_or_ge (lg_S B T pl k).2 (lc_p (B.drop (8 * k)) (T.drop pl)) with h9 | h9; exact h9; exact absurd (nI_le h9 (by omega)) d2)
                refine lv_iload hx hb dX3_make_62 (lv_at hl 0 rfl) ?_
                refine lv_istore (lv' := [(4, .int (nI (lc_p (B.drop (8 * k)) (T.drop pl)))), (7, .int (nI (lc_p (B.drop (8 * k)) (T.drop pl)))), (6, .int (nI (8 * k))), (5, .int (fr_I (lg_S B T pl k).1)), (3, .int (nI pl)), (2, .int (op_I T Q)), (1, .int (nI Q.length)), (0, .ref md)]) hx hb dX3_make_64 hl (by decide) rfl (fun ls hl => ?_)
                refine lv_iload hx hb dX3_make_66 (lv_at hl 2 rfl) ?_
                refine lv_istore (lv' := [(5, .int (nI (8 * k))), (4, .int (nI (lc_p (B.drop (8 * k)) (T.drop pl)))), (7, .int (nI (lc_p (B.drop (8 * k)) (T.drop pl)))), (6, .int (nI (8 * k))), (3, .int (nI pl)), (2, .int (op_I T Q)), (1, .int (nI Q.length)), (0, .ref md)]) hx hb dX3_make_68 hl (by decide) rfl (fun ls hl => ?_)
                refine lv_iinc (v := ((nI (8 * k)) + 8)) (lv' := [(6, .int ((nI (8 * k)) + 8)), (5, .int (nI (8 * k))), (4, .int (nI (lc_p (B.drop (8 * k)) (T.drop pl)))), (7, .int (nI (lc_p (B.drop (8 * k)) (T.drop pl)))), (3, .int (nI pl)), (2, .int (op_I T Q)), (1, .int (nI Q.length)), (0, .ref md)]) hx hb dX3_make_70 hl (k := 3) rfl rfl (by decide) rfl (fun ls hl => ?_)
                refine lv_goto (tgt := 34) hx hb dX3_make_73 (by decide) ?_
                have h9 : lv_has ls 8 [(6, .int ((nI (8 * k)) + 8)), (5, .int (nI (8 * k))), (4, .int (nI (lc_p (B.drop (8 * k)) (T.drop pl)))), (3, .int (nI pl)), (2, .int (op_I T Q)), (1, .int (nI Q.length)), (0, .ref md)] := lv_sub hl [0, 1, 2, 4, 5, 6, 7] rfl
                refine jh (k + 1) ls (by omega) ?_
                rw [e4, show 8 * (k + 1) = 8 * k + 8 from rfl, ← nI_add]
                exact h9
        refine lv_bipush (v := 7) hx hb dX3_make_24 (by decide) ?_
        refine lv_istore (lv' := [(4, .int 7), (3, .int (nI pl)), (2, .int (op_I T Q)), (1, .int (nI Q.length)), (0, .ref md)]) hx hb dX3_make_26 hl (by decide) rfl (fun ls hl => ?_)
        refine lv_iconst (v := 0) hx hb dX3_make_28 (by decide) ?_
        refine lv_istore (lv' := [(5, .int 0), (4, .int 7), (3, .int (nI pl)), (2, .int (op_I T Q)), (1, .int (nI Q.length)), (0, .ref md)]) hx hb dX3_make_29 hl (by decide) rfl (fun ls hl => ?_)
        refine lv_iconst (v := 0) hx hb dX3_make_31 (by decide) ?_
        refine lv_istore (lv' := [(6, .int 0), (5, .int 0), (4, .int 7), (3, .int (nI pl)), (2, .int (op_I T Q)), (1, .int (nI Q.length)), (0, .ref md)]) hx hb dX3_make_32 hl (by decide) rfl (fun ls hl => ?_)
        refine inner ?_ (B.length / 8) 0 ls (by omega) (lv_sub hl [0, 1, 2, 3, 4, 5, 6] rfl)
        intro ls hl
        rcases lg_ok B T pl (B.length / 8) with ⟨k1, k2⟩ | ⟨b, k1, k2, k3, k4⟩
        · rw [k1] at hfp
          rw [k2, k1] at hl
          have hl : lv_has ls 8 [(5, .int 0), (4, .int (nI 7)), (3, .int (nI pl)), (2, .int (op_I T Q)), (1, .int (nI Q.length)), (0, .ref md)] := hl
          have hI2 := pw_plain hI hpl
          obtain ⟨y, hy⟩ : ∃ y, T[pl]? = some y := ⟨_, List.getElem?_eq_getElem hpl⟩
          refine lv_iload hx hb dX3_make_76 (lv_at hl 1 rfl) ?_
          refine lv_bipush (v := 7) hx hb dX3_make_78 (by decide) ?_
          refine lv_icmp_le (tgt := 113) hx hb dX3_make_80 (by decide) (fun c2 => ?_) (fun c2 => ?_)
          · rcases sp_last Q with rfl | ⟨Q1, t, rfl⟩
            · have e8 : ap_P [] pl = ([] : List (Nat × Nat × Nat)) ++ [(2, pl, 0 + 1)] := rfl
              refine lv_iload_n hx hb dX3_make_113 rfl (lv_at hl 3 rfl) ?_
              refine lv_if_ge (tgt := 135) hx hb dX3_make_114 (by decide) (fun c3 => ?_) (fun c3 => ?_)
              · exact absurd c3 (by rw [show op_I T ([] : List (Nat × Nat × Nat)) = -1 from rfl]; decide)
              · refine lv_aload_n hx hb dX3_make_117 rfl (lv_at hl 5 rfl) ?_
                refine va_get (D := (dC, dI)) (ci := 3) (v := .int (nI (rw_R T ([] : List (Nat × Nat × Nat))).length)) (C := RX3) (T := TX3) (N := 10) hx hb hts (by decide +kernel) hown hK hP 0 rfl rfl 6 (by decide) (hts (.fieldLink RX3 29 "PieceWaysModel" "size" "I") (by decide +kernel)) (fun _ h9 => h9) rfl dX3_make_118 ?_
                refine lv_istore_n (lv' := [(2, .int (nI (rw_R T ([] : List (Nat × Nat × Nat))).length)), (5, .int 0), (4, .int (nI 7)), (3, .int (nI pl)), (1, .int (nI ([] : List (Nat × Nat × Nat)).length)), (0, .ref md)]) hx hb dX3_make_121 rfl hl (by decide) rfl (fun ls hl => ?_)
                refine lv_aload_n hx hb dX3_make_122 rfl (lv_at hl 5 rfl) ?_
                refine lv_iconst (v := 2) hx hb dX3_make_123 (by decide) ?_
                refine wr_V (wc := [(md, .inr (3, [.int 0, .ref a1, .int (nI B.length), .ref a2, .int (nI T.length), .ref a3, .int (nI (rw_R T ([] : List (Nat × Nat × Nat))).length), .ref a4, .int (nI Z.length), .ref a5])), (a3, .inl (cI, 2000, .inl f))]) (wr := [(a1, .inl (cI, 600, .inl eb)), (a2, .inl (cI, 600, .inl et))]) (As := [.int 2]) (rest := []) ⟨hx, hb, hml, hown, hts⟩ (c_Md_write l dC dI cB cI cL md a1 a2 a3 a4 a5 B T (rw_R T ([] : List (Nat × Nat × Nat))) Z 0 f 2 (by omega) hf) (cwV 1 hts gX3_make_X3_write rfl rfl rfl (by decide +kernel) ⟨(Nat.le_of_ble_eq_true rfl), (Nat.le_of_ble_eq_true rfl)⟩) hK hN hP hD hS hA [0, 3] [1, 2] rfl rfl (by decide) (by decide) (by decide) 0 rfl rfl rfl rfl hl.1 rfl (Nat.le_of_ble_eq_true rfl) dX3_make_124 ⟨(Nat.le_of_ble_eq_true rfl), (Nat.le_of_ble_eq_true rfl)⟩ (fun g1 H locs hg1 hP hD hS => ?_)
                have hP : va_P (dC, dI) vwCl [(md, .inr (3, [.int 0, .ref a1, .int (nI B.length), .ref a2, .int (nI T.length), .ref a3, .int (nI (rw_R T ([] : List (Nat × Nat × Nat)) ++ [2]).length), .ref a4, .int (nI Z.length), .ref a5])), (a1, .inl (cI, 600, .inl eb)), (a2, .inl (cI, 600, .inl et)), (a3, .inl (cI, 2000, .inl g1))] H := hP.sub [2, 0, 1, 3] rfl
                have hD : va_D A [(md, .inr (3, [.int 0, .ref a1, .int (nI B.length), .ref a2, .int (nI T.length), .ref a3, .int (nI (rw_R T ([] : List (Nat × Nat × Nat)) ++ [2]).length), .ref a4, .int (nI Z.length), .ref a5])), (a1, .inl (cI, 600, .inl eb)), (a2, .inl (cI, 600, .inl et)), (a3, .inl (cI, 2000, .inl g1))] := hD.sub [2, 0, 1, 3] (by decide) rfl
                refine lv_aload_n hx hb dX3_make_127 rfl (lv_at hl 5 rfl) ?_
                refine lv_iconst (v := 0) hx hb dX3_make_128 (by decide) ?_
                refine wr_V (wc := [(md, .inr (3, [.int 0, .ref a1, .int (nI B.length), .ref a2, .int (nI T.length), .ref a3, .int (nI (rw_R T ([] : List (Nat × Nat × Nat)) ++ [2]).length), .ref a4, .int (nI Z.length), .ref a5])), (a3, .inl (cI, 2000, .inl g1))]) (wr := [(a1, .inl (cI, 600, .inl eb)), (a2, .inl (cI, 600, .inl et))]) (As := [.int (nI 0)]) (rest := []) ⟨hx, hb, hml, hown, hts⟩ (c_Md_writeTwo l dC dI cB cI cL md a1 a2 a3 a4 a5 B T (rw_R T ([] : List (Nat × Nat × Nat)) ++ [2]) Z 0 g1 0 (by omega) (by simp only [List.length_append, List.length_cons, List.length_nil]; omega) hg1) (cwV 1 hts gX3_make_X3_writeTwo rfl rfl rfl (by decide +kernel) ⟨(Nat.le_of_ble_eq_true rfl), (Nat.le_of_ble_eq_true rfl)⟩) hK hN hP hD hS hA [0, 3] [1, 2] rfl rfl (by decide) (by decide) (by decide) 0 rfl rfl rfl rfl hl.1 rfl (Nat.le_of_ble_eq_true rfl) dX3_make_129 ⟨(Nat.le_of_ble_eq_true rfl), (Nat.le_of_ble_eq_true rfl)⟩ (fun g2 H locs hg2 hP hD hS => ?_)
                have hP : va_P (dC, dI) vwCl [(md, .inr (3, [.int 0, .ref a1, .int (nI B.length), .ref a2, .int (nI T.length), .ref a3, .int (nI ((rw_R T ([] : List (Nat × Nat × Nat)) ++ [2]) ++ [nI (0 / 256), nI (0 % 256)]).length), .ref a4, .int (nI Z.length), .ref a5])), (a1, .inl (cI, 600, .inl eb)), (a2, .inl (cI, 600, .inl et)), (a3, .inl (cI, 2000, .inl g2))] H := hP.sub [2, 0, 1, 3] rfl
                have hD : va_D A [(md, .inr (3, [.int 0, .ref a1, .int (nI B.length), .ref a2, .int (nI T.length), .ref a3, .int (nI ((rw_R T ([] : List (Nat × Nat × Nat)) ++ [2]) ++ [nI (0 / 256), nI (0 % 256)]).length), .ref a4, .int (nI Z.length), .ref a5])), (a1, .inl (cI, 600, .inl eb)), (a2, .inl (cI, 600, .inl et)), (a3, .inl (cI, 2000, .inl g2))] := hD.sub [2, 0, 1, 3] (by decide) rfl
                rw [rw_open (b := pl) (by omega)] at hg2 hP hD
                refine lv_iinc (v := ((nI ([] : List (Nat × Nat × Nat)).length) + 1)) (lv' := [(1, .int ((nI ([] : List (Nat × Nat × Nat)).length) + 1)), (2, .int (nI (rw_R T ([] : List (Nat × Nat × Nat))).length)), (5, .int 0), (4, .int (nI 7)), (3, .int (nI pl)), (0, .ref md)]) hx hb dX3_make_132 hl (k := 4) rfl rfl (by decide) rfl (fun ls hl => ?_)
                have h9 : lv_has ls 8 [(2, .int (nI (rw_R T ([] : List (Nat × Nat × Nat))).length)), (1, .int (nI (([] : List (Nat × Nat × Nat))).length + 1)), (3, .int (nI pl)), (0, .ref md)] := lv_sub hl [1, 0, 4, 5] rfl
                rw [nI_1] at h9
                exact plain ([] : List (Nat × Nat × Nat)) pl 0 y g2 H locs ls (by omega) hpl hy (by omega) (by rw [e8] at hI2; exact hI2) (by rw [e8] at hfp; exact hfp) hg2 hP hD hS h9
            · by_cases ht : t.1 = 2
              · have e8 : ap_P (Q1 ++ [t]) pl = Q1 ++ [(t.1, t.2.1, t.2.2 + 1)] := ap_grow ht
                rw [e8] at hI2 hfp
                have hO : op_I T (Q1 ++ [t]) = nI (rw_R T Q1).length := by rw [op_app, if_pos ht]
                have hlast := hI.2.2.2.2.2
                rw [pl_app, if_pos ht] at hlast
                obtain ⟨k, b, j⟩ := t
                have ht : k = 2 := ht
                subst ht
                have hQ1 : (rw_R T Q1).length ≤ 603 := by rw [rw_app, List.length_append] at hOl; omega
                refine lv_iload_n hx hb dX3_make_113 rfl (lv_at hl 3 rfl) ?_
                refine lv_if_ge (tgt := 135) hx hb dX3_make_114 (by decide) (fun c3 => ?_) (fun c3 => ?_)
                · rw [hO, List.length_append, List.length_singleton] at hl
                  exact plain Q1 b j y f H locs ls hlast.2 hpl hy hQ1 hI2 hfp hf hP hD hS (lv_sub hl [3, 4, 2, 5] rfl)
                · exact absurd (by rw [hO]; exact nI_pos' (by omega)) c3
              · have e8 : ap_P (Q1 ++ [t]) pl = (Q1 ++ [t]) ++ [(2, pl, 0 + 1)] := ap_new (by intro z hz; rw [List.getLast?_concat] at hz; cases hz; exact ht)
                refine lv_iload_n hx hb dX3_make_113 rfl (lv_at hl 3 rfl) ?_
                refine lv_if_ge (tgt := 135) hx hb dX3_make_114 (by decide) (fun c3 => ?_) (fun c3 => ?_)
                · exact absurd c3 (by rw [show op_I T (Q1 ++ [t]) = -1 by rw [op_app, if_neg ht]]; decide)
                · refine lv_aload_n hx hb dX3_make_117 rfl (lv_at hl 5 rfl) ?_
                  refine va_get (D := (dC, dI)) (ci := 3) (v := .int (nI (rw_R T (Q1 ++ [t])).length)) (C := RX3) (T := TX3) (N := 10) hx hb hts (by decide +kernel) hown hK hP 0 rfl rfl 6 (by decide) (hts (.fieldLink RX3 29 "PieceWaysModel" "size" "I") (by decide +kernel)) (fun _ h9 => h9) rfl dX3_make_118 ?_
                  refine lv_istore_n (lv' := [(2, .int (nI (rw_R T (Q1 ++ [t])).length)), (5, .int 0), (4, .int (nI 7)), (3, .int (nI pl)), (1, .int (nI (Q1 ++ [t]).length)), (0, .ref md)]) hx hb dX3_make_121 rfl hl (by decide) rfl (fun ls hl => ?_)
                  refine lv_aload_n hx hb dX3_make_122 rfl (lv_at hl 5 rfl) ?_
                  refine lv_iconst (v := 2) hx hb dX3_make_123 (by decide) ?_
                  refine wr_V (wc := [(md, .inr (3, [.int 0, .ref a1, .int (nI B.length), .ref a2, .int (nI T.length), .ref a3, .int (nI (rw_R T (Q1 ++ [t])).length), .ref a4, .int (nI Z.length), .ref a5])), (a3, .inl (cI, 2000, .inl f))]) (wr := [(a1, .inl (cI, 600, .inl eb)), (a2, .inl (cI, 600, .inl et))]) (As := [.int 2]) (rest := []) ⟨hx, hb, hml, hown, hts⟩ (c_Md_write l dC dI cB cI cL md a1 a2 a3 a4 a5 B T (rw_R T (Q1 ++ [t])) Z 0 f 2 (by omega) hf) (cwV 1 hts gX3_make_X3_write rfl rfl rfl (by decide +kernel) ⟨(Nat.le_of_ble_eq_true rfl), (Nat.le_of_ble_eq_true rfl)⟩) hK hN hP hD hS hA [0, 3] [1, 2] rfl rfl (by decide) (by decide) (by decide) 0 rfl rfl rfl rfl hl.1 rfl (Nat.le_of_ble_eq_true rfl) dX3_make_124 ⟨(Nat.le_of_ble_eq_true rfl), (Nat.le_of_ble_eq_true rfl)⟩ (fun g1 H locs hg1 hP hD hS => ?_)
                  have hP : va_P (dC, dI) vwCl [(md, .inr (3, [.int 0, .ref a1, .int (nI B.length), .ref a2, .int (nI T.length), .ref a3, .int (nI (rw_R T (Q1 ++ [t]) ++ [2]).length), .ref a4, .int (nI Z.length), .ref a5])), (a1, .inl (cI, 600, .inl eb)), (a2, .inl (cI, 600, .inl et)), (a3, .inl (cI, 2000, .inl g1))] H := hP.sub [2, 0, 1, 3] rfl
                  have hD : va_D A [(md, .inr (3, [.int 0, .ref a1, .int (nI B.length), .ref a2, .int (nI T.length), .ref a3, .int (nI (rw_R T (Q1 ++ [t]) ++ [2]).length), .ref a4, .int (nI Z.length), .ref a5])), (a1, .inl (cI, 600, .inl eb)), (a2, .inl (cI, 600, .inl et)), (a3, .inl (cI, 2000, .inl g1))] := hD.sub [2, 0, 1, 3] (by decide) rfl
                  refine lv_aload_n hx hb dX3_make_127 rfl (lv_at hl 5 rfl) ?_
                  refine lv_iconst (v := 0) hx hb dX3_make_128 (by decide) ?_
                  refine wr_V (wc := [(md, .inr (3, [.int 0, .ref a1, .int (nI B.length), .ref a2, .int (nI T.length), .ref a3, .int (nI (rw_R T (Q1 ++ [t]) ++ [2]).length), .ref a4, .int (nI Z.length), .ref a5])), (a3, .inl (cI, 2000, .inl g1))]) (wr := [(a1, .inl (cI, 600, .inl eb)), (a2, .inl (cI, 600, .inl et))]) (As := [.int (nI 0)]) (rest := []) ⟨hx, hb, hml, hown, hts⟩ (c_Md_writeTwo l dC dI cB cI cL md a1 a2 a3 a4 a5 B T (rw_R T (Q1 ++ [t]) ++ [2]) Z 0 g1 0 (by omega) (by simp only [List.length_append, List.length_cons, List.length_nil]; omega) hg1) (cwV 1 hts gX3_make_X3_writeTwo rfl rfl rfl (by decide +kernel) ⟨(Nat.le_of_ble_eq_true rfl), (Nat.le_of_ble_eq_true rfl)⟩) hK hN hP hD hS hA [0, 3] [1, 2] rfl rfl (by decide) (by decide) (by decide) 0 rfl rfl rfl rfl hl.1 rfl (Nat.le_of_ble_eq_true rfl) dX3_make_129 ⟨(Nat.le_of_ble_eq_true rfl), (Nat.le_of_ble_eq_true rfl)⟩ (fun g2 H locs hg2 hP hD hS => ?_)
                  have hP : va_P (dC, dI) vwCl [(md, .inr (3, [.int 0, .ref a1, .int (nI B.length), .ref a2, .int (nI T.length), .ref a3, .int (nI ((rw_R T (Q1 ++ [t]) ++ [2]) ++ [nI (0 / 256), nI (0 % 256)]).length), .ref a4, .int (nI Z.length), .ref a5])), (a1, .inl (cI, 600, .inl eb)), (a2, .inl (cI, 600, .inl et)), (a3, .inl (cI, 2000, .inl g2))] H := hP.sub [2, 0, 1, 3] rfl
                  have hD : va_D A [(md, .inr (3, [.int 0, .ref a1, .int (nI B.length), .ref a2, .int (nI T.length), .ref a3, .int (nI ((rw_R T (Q1 ++ [t]) ++ [2]) ++ [nI (0 / 256), nI (0 % 256)]).length), .ref a4, .int (nI Z.length), .ref a5])), (a1, .inl (cI, 600, .inl eb)), (a2, .inl (cI, 600, .inl et)), (a3, .inl (cI, 2000, .inl g2))] := hD.sub [2, 0, 1, 3] (by decide) rfl
                  rw [rw_open (b := pl) (by omega)] at hg2 hP hD
                  refine lv_iinc (v := ((nI (Q1 ++ [t]).length) + 1)) (lv' := [(1, .int ((nI (Q1 ++ [t]).length) + 1)), (2, .int (nI (rw_R T (Q1 ++ [t])).length)), (5, .int 0), (4, .int (nI 7)), (3, .int (nI pl)), (0, .ref md)]) hx hb dX3_make_132 hl (k := 4) rfl rfl (by decide) rfl (fun ls hl => ?_)
                  have h9 : lv_has ls 8 [(2, .int (nI (rw_R T (Q1 ++ [t])).length)), (1, .int (nI ((Q1 ++ [t])).length + 1)), (3, .int (nI pl)), (0, .ref md)] := lv_sub hl [1, 0, 4, 5] rfl
                  rw [nI_1] at h9
                  exact plain (Q1 ++ [t]) pl 0 y g2 H locs ls (by omega) hpl hy (by omega) (by rw [e8] at hI2; exact hI2) (by rw [e8] at hfp; exact hfp) hg2 hP hD hS h9
          · exact absurd (by decide) c2
        · rw [k1] at hfp
          rw [k2, k1] at hl
          have hl : lv_has ls 8 [(5, .int (nI b)), (4, .int (nI (lc_p (B.drop b) (T.drop pl)))), (3, .int (nI pl)), (2, .int (op_I T Q)), (1, .int (nI Q.length)), (0, .ref md)] := hl
          have hlc := lc_le (B.drop b) (T.drop pl)
          rw [List.length_drop, List.length_drop] at hlc
          have hI2 := pw_copy (b := b) hI k3 (by omega) (by omega)
          refine lv_iload hx hb dX3_make_76 (lv_at hl 1 rfl) ?_
          refine lv_bipush (v := 7) hx hb dX3_make_78 (by decide) ?_
          refine lv_icmp_le (tgt := 113) hx hb dX3_make_80 (by decide) (fun c2 => ?_) (fun c2 => ?_)
          · exact absurd c2 (nI_ge (a := 7) (by omega) (by omega))
          · refine lv_aload_n hx hb dX3_make_83 rfl (lv_at hl 5 rfl) ?_
            refine lv_iconst (v := 1) hx hb dX3_make_84 (by decide) ?_
            refine wr_V (wc := [(md, .inr (3, [.int 0, .ref a1, .int (nI B.length), .ref a2, .int (nI T.length), .ref a3, .int (nI (rw_R T Q).length), .ref a4, .int (nI Z.length), .ref a5])), (a3, .inl (cI, 2000, .inl f))]) (wr := [(a1, .inl (cI, 600, .inl eb)), (a2, .inl (cI, 600, .inl et))]) (As := [.int 1]) (rest := []) ⟨hx, hb, hml, hown, hts⟩ (c_Md_write l dC dI cB cI cL md a1 a2 a3 a4 a5 B T (rw_R T Q) Z 0 f 1 (by omega) hf) (cwV 1 hts gX3_make_X3_write rfl rfl rfl (by decide +kernel) ⟨(Nat.le_of_ble_eq_true rfl), (Nat.le_of_ble_eq_true rfl)⟩) hK hN hP hD hS hA [0, 3] [1, 2] rfl rfl (by decide) (by decide) (by decide) 0 rfl rfl rfl rfl hl.1 rfl (Nat.le_of_ble_eq_true rfl) dX3_make_85 ⟨(Nat.le_of_ble_eq_true rfl), (Nat.le_of_ble_eq_true rfl)⟩ (fun g1 H locs hg1 hP hD hS => ?_)
            have hP : va_P (dC, dI) vwCl [(md, .inr (3, [.int 0, .ref a1, .int (nI B.length), .ref a2, .int (nI T.length), .ref a3, .int (nI (rw_R T Q ++ [1]).length), .ref a4, .int (nI Z.length), .ref a5])), (a1, .inl (cI, 600, .inl eb)), (a2, .inl (cI, 600, .inl et)), (a3, .inl (cI, 2000, .inl g1))] H := hP.sub [2, 0, 1, 3] rfl
            have hD : va_D A [(md, .inr (3, [.int 0, .ref a1, .int (nI B.length), .ref a2, .int (nI T.length), .ref a3, .int (nI (rw_R T Q ++ [1]).length), .ref a4, .int (nI Z.length), .ref a5])), (a1, .inl (cI, 600, .inl eb)), (a2, .inl (cI, 600, .inl et)), (a3, .inl (cI, 2000, .inl g1))] := hD.sub [2, 0, 1, 3] (by decide) rfl
            refine lv_aload_n hx hb dX3_make_88 rfl (lv_at hl 5 rfl) ?_
            refine lv_iload hx hb dX3_make_89 (lv_at hl 0 rfl) ?_
            refine wr_V (wc := [(md, .inr (3, [.int 0, .ref a1, .int (nI B.length), .ref a2, .int (nI T.length), .ref a3, .int (nI (rw_R T Q ++ [1]).length), .ref a4, .int (nI Z.length), .ref a5])), (a3, .inl (cI, 2000, .inl g1))]) (wr := [(a1, .inl (cI, 600, .inl eb)), (a2, .inl (cI, 600, .inl et))]) (As := [.int (nI b)]) (rest := []) ⟨hx, hb, hml, hown, hts⟩ (c_Md_writeTwo l dC dI cB cI cL md a1 a2 a3 a4 a5 B T (rw_R T Q ++ [1]) Z 0 g1 b (by omega) (by simp only [List.length_append, List.length_cons, List.length_nil]; omega) hg1) (cwV 1 hts gX3_make_X3_writeTwo rfl rfl rfl (by decide +kernel) ⟨(Nat.le_of_ble_eq_true rfl), (Nat.le_of_ble_eq_true rfl)⟩) hK hN hP hD hS hA [0, 3] [1, 2] rfl rfl (by decide) (by decide) (by decide) 0 rfl rfl rfl rfl hl.1 rfl (Nat.le_of_ble_eq_true rfl) dX3_make_91 ⟨(Nat.le_of_ble_eq_true rfl), (Nat.le_of_ble_eq_true rfl)⟩ (fun g2 H locs hg2 hP hD hS => ?_)
            have hP : va_P (dC, dI) vwCl [(md, .inr (3, [.int 0, .ref a1, .int (nI B.length), .ref a2, .int (nI T.length), .ref a3, .int (nI ((rw_R T Q ++ [1]) ++ [nI (b / 256), nI (b % 256)]).length), .ref a4, .int (nI Z.length), .ref a5])), (a1, .inl (cI, 600, .inl eb)), (a2, .inl (cI, 600, .inl et)), (a3, .inl (cI, 2000, .inl g2))] H := hP.sub [2, 0, 1, 3] rfl
            have hD : va_D A [(md, .inr (3, [.int 0, .ref a1, .int (nI B.length), .ref a2, .int (nI T.length), .ref a3, .int (nI ((rw_R T Q ++ [1]) ++ [nI (b / 256), nI (b % 256)]).length), .ref a4, .int (nI Z.length), .ref a5])), (a1, .inl (cI, 600, .inl eb)), (a2, .inl (cI, 600, .inl et)), (a3, .inl (cI, 2000, .inl g2))] := hD.sub [2, 0, 1, 3] (by decide) rfl
            refine lv_aload_n hx hb dX3_make_94 rfl (lv_at hl 5 rfl) ?_
            refine lv_iload hx hb dX3_make_95 (lv_at hl 1 rfl) ?_
            refine wr_V (wc := [(md, .inr (3, [.int 0, .ref a1, .int (nI B.length), .ref a2, .int (nI T.length), .ref a3, .int (nI ((rw_R T Q ++ [1]) ++ [nI (b / 256), nI (b % 256)]).length), .ref a4, .int (nI Z.length), .ref a5])), (a3, .inl (cI, 2000, .inl g2))]) (wr := [(a1, .inl (cI, 600, .inl eb)), (a2, .inl (cI, 600, .inl et))]) (As := [.int (nI (lc_p (B.drop b) (T.drop pl)))]) (rest := []) ⟨hx, hb, hml, hown, hts⟩ (c_Md_writeTwo l dC dI cB cI cL md a1 a2 a3 a4 a5 B T ((rw_R T Q ++ [1]) ++ [nI (b / 256), nI (b % 256)]) Z 0 g2 (lc_p (B.drop b) (T.drop pl)) (by omega) (by simp only [List.length_append, List.length_cons, List.length_nil]; omega) hg2) (cwV 1 hts gX3_make_X3_writeTwo rfl rfl rfl (by decide +kernel) ⟨(Nat.le_of_ble_eq_true rfl), (Nat.le_of_ble_eq_true rfl)⟩) hK hN hP hD hS hA [0, 3] [1, 2] rfl rfl (by decide) (by decide) (by decide) 0 rfl rfl rfl rfl hl.1 rfl (Nat.le_of_ble_eq_true rfl) dX3_make_97 ⟨(Nat.le_of_ble_eq_true rfl), (Nat.le_of_ble_eq_true rfl)⟩ (fun g3 H locs hg3 hP hD hS => ?_)
            have hP : va_P (dC, dI) vwCl [(md, .inr (3, [.int 0, .ref a1, .int (nI B.length), .ref a2, .int (nI T.length), .ref a3, .int (nI (((rw_R T Q ++ [1]) ++ [nI (b / 256), nI (b % 256)]) ++ [nI ((lc_p (B.drop b) (T.drop pl)) / 256), nI ((lc_p (B.drop b) (T.drop pl)) % 256)]).length), .ref a4, .int (nI Z.length), .ref a5])), (a1, .inl (cI, 600, .inl eb)), (a2, .inl (cI, 600, .inl et)), (a3, .inl (cI, 2000, .inl g3))] H := hP.sub [2, 0, 1, 3] rfl
            have hD : va_D A [(md, .inr (3, [.int 0, .ref a1, .int (nI B.length), .ref a2, .int (nI T.length), .ref a3, .int (nI (((rw_R T Q ++ [1]) ++ [nI (b / 256), nI (b % 256)]) ++ [nI ((lc_p (B.drop b) (T.drop pl)) / 256), nI ((lc_p (B.drop b) (T.drop pl)) % 256)]).length), .ref a4, .int (nI Z.length), .ref a5])), (a1, .inl (cI, 600, .inl eb)), (a2, .inl (cI, 600, .inl et)), (a3, .inl (cI, 2000, .inl g3))] := hD.sub [2, 0, 1, 3] (by decide) rfl
            rw [rw_copy (b := b) (n := (lc_p (B.drop b) (T.drop pl))) (by omega)] at hg3 hP hD
            refine lv_iinc (v := ((nI Q.length) + 1)) (lv' := [(1, .int ((nI Q.length) + 1)), (5, .int (nI b)), (4, .int (nI (lc_p (B.drop b) (T.drop pl)))), (3, .int (nI pl)), (2, .int (op_I T Q)), (0, .ref md)]) hx hb dX3_make_100 hl (k := 4) rfl rfl (by decide) rfl (fun ls hl => ?_)
            refine lv_iconst (v := (-1)) hx hb dX3_make_103 (by decide) ?_
            refine lv_istore_n (lv' := [(2, .int (-1)), (1, .int ((nI Q.length) + 1)), (5, .int (nI b)), (4, .int (nI (lc_p (B.drop b) (T.drop pl)))), (3, .int (nI pl)), (0, .ref md)]) hx hb dX3_make_104 rfl hl (by decide) rfl (fun ls hl => ?_)
            refine lv_iload_n hx hb dX3_make_105 rfl (lv_at hl 4 rfl) ?_
            refine lv_iload hx hb dX3_make_106 (lv_at hl 3 rfl) ?_
            refine lv_iadd hx hb dX3_make_108 ?_
            refine lv_istore_n (lv' := [(3, .int ((nI pl) + (nI (lc_p (B.drop b) (T.drop pl))))), (2, .int (-1)), (1, .int ((nI Q.length) + 1)), (5, .int (nI b)), (4, .int (nI (lc_p (B.drop b) (T.drop pl)))), (0, .ref md)]) hx hb dX3_make_109 rfl hl (by decide) rfl (fun ls hl => ?_)
            refine lv_goto (tgt := 187) hx hb dX3_make_110 (by decide) ?_
            refine lv_goto (tgt := 16) hx hb dX3_make_187 (by decide) ?_
            refine ih (pl + (lc_p (B.drop b) (T.drop pl))) (Q ++ [(1, b, (lc_p (B.drop b) (T.drop pl)))]) g3 H locs ls (by omega) hI2 hfp hg3 hP hD hS ?_
            rw [op_app, if_neg (by simp), List.length_append, List.length_singleton, ← nI_1 Q.length, ← nI_add pl]
            exact lv_sub hl [0, 1, 2, 5] rfl
  refine lv_aload_n hx hb dX3_make_0 rfl (lv_at hl 0 rfl) ?_
  refine lv_iconst (v := 0) hx hb dX3_make_1 (by decide) ?_
  refine va_put (D := (dC, dI)) (ci := 3) (v := .int 0) (ty := .int) (C := RX3) (T := TX3) (N := 10) hx hb hts (by decide +kernel) tyX3 tyX3_ok nmX3 hown hK hP hD hS 0 rfl rfl 0 (by decide) (hts (.fieldLink RX3 7 "PieceWaysModel" "thrownCode" "I") (by decide +kernel)) (fun _ h9 => h9) rfl (by decide +kernel) rfl rfl (Nat.le_of_ble_eq_true rfl) dX3_make_2 (fun H locs hP hD hS => ?_)
  have hP : va_P (dC, dI) vwCl [(md, .inr (3, [.int 0, .ref a1, .int (nI B.length), .ref a2, .int (nI T.length), .ref a3, .int (nI O.length), .ref a4, .int (nI Z.length), .ref a5])), (a1, .inl (cI, 600, .inl eb)), (a2, .inl (cI, 600, .inl et)), (a3, .inl (cI, 2000, .inl eo))] H := hP
  have hD : va_D A [(md, .inr (3, [.int 0, .ref a1, .int (nI B.length), .ref a2, .int (nI T.length), .ref a3, .int (nI O.length), .ref a4, .int (nI Z.length), .ref a5])), (a1, .inl (cI, 600, .inl eb)), (a2, .inl (cI, 600, .inl et)), (a3, .inl (cI, 2000, .inl eo))] := hD
  refine lv_aload_n hx hb dX3_make_5 rfl (lv_at hl 0 rfl) ?_
  refine lv_iconst (v := 0) hx hb dX3_make_6 (by decide) ?_
  refine va_put (D := (dC, dI)) (ci := 3) (v := .int (nI (rw_R T ([] : List (Nat × Nat × Nat))).length)) (ty := .int) (C := RX3) (T := TX3) (N := 10) hx hb hts (by decide +kernel) tyX3 tyX3_ok nmX3 hown hK hP hD hS 0 rfl rfl 6 (by decide) (hts (.fieldLink RX3 29 "PieceWaysModel" "size" "I") (by decide +kernel)) (fun _ h9 => h9) rfl (by decide +kernel) rfl rfl (Nat.le_of_ble_eq_true rfl) dX3_make_7 (fun H locs hP hD hS => ?_)
  have hP : va_P (dC, dI) vwCl [(md, .inr (3, [.int 0, .ref a1, .int (nI B.length), .ref a2, .int (nI T.length), .ref a3, .int (nI (rw_R T ([] : List (Nat × Nat × Nat))).length), .ref a4, .int (nI Z.length), .ref a5])), (a1, .inl (cI, 600, .inl eb)), (a2, .inl (cI, 600, .inl et)), (a3, .inl (cI, 2000, .inl eo))] H := hP
  have hD : va_D A [(md, .inr (3, [.int 0, .ref a1, .int (nI B.length), .ref a2, .int (nI T.length), .ref a3, .int (nI (rw_R T ([] : List (Nat × Nat × Nat))).length), .ref a4, .int (nI Z.length), .ref a5])), (a1, .inl (cI, 600, .inl eb)), (a2, .inl (cI, 600, .inl et)), (a3, .inl (cI, 2000, .inl eo))] := hD
  refine lv_iconst (v := 0) hx hb dX3_make_10 (by decide) ?_
  refine lv_istore_n (lv' := [(1, .int 0), (0, .ref md)]) hx hb dX3_make_11 rfl hl (by decide) rfl (fun ls hl => ?_)
  refine lv_iconst (v := (-1)) hx hb dX3_make_12 (by decide) ?_
  refine lv_istore_n (lv' := [(2, .int (-1)), (1, .int 0), (0, .ref md)]) hx hb dX3_make_13 rfl hl (by decide) rfl (fun ls hl => ?_)
  refine lv_iconst (v := 0) hx hb dX3_make_14 (by decide) ?_
  refine lv_istore_n (lv' := [(3, .int 0), (2, .int (-1)), (1, .int 0), (0, .ref md)]) hx hb dX3_make_15 rfl hl (by decide) rfl (fun ls hl => ?_)
  exact loop T.length 0 [] eo H locs ls (by omega) (pw_0 _ _) rfl (im_nil _) hP hD hS (lv_sub hl [0, 1, 2, 3] rfl)
end PWMMAKE
end
section
/-! Pure words for piece and go of the reference. -/
theorem pi_neg {P : List (Nat × Nat × Nat)} {y x : Int32} (h : y < 0) : pi_I P y x = -1 := by
  unfold pi_I
  rw [ps_neg h, ps_neg h, ps_neg h]
  simp
theorem pi_hi {P : List (Nat × Nat × Nat)} {y x : Int32} (hn : P.length < 2 ^ 31) (h0 : ¬ y < 0) (h : nI P.length ≤ y) : pi_I P y x = -1 := by
  unfold pi_I
  rw [ps_hi hn h0 h, ps_hi hn h0 h, ps_hi hn h0 h]
  simp
theorem rl_lt {T : List Int32} {P : List (Nat × Nat × Nat)} {j : Nat} {t : Nat × Nat × Nat} (h : P[j]? = some t) (h1 : t.1 = 1 ∨ t.1 = 2) (h2 : t.2.1 + t.2.2 ≤ 600) : (rw_R T (P.take j)).length < (rw_R T P).length := by
  have e : (rw_R T P).length = (rw_R T (P.take j)).length + ((rw_1 T t).length + (rw_R T (P.drop (j + 1))).length) := by
    rw [rw_split h, List.length_append, List.length_append]
  rcases h1 with h1 | h1
  · rw [rw_1C h1 h2] at e
    simp only [List.length_cons, List.length_nil] at e
    omega
  · rw [rw_1P h1 h2] at e
    simp only [List.length_cons] at e
    omega
theorem rl_step {nB : Nat} {T : List Int32} {P : List (Nat × Nat × Nat)} {j : Nat} {t : Nat × Nat × Nat} (h : P[j]? = some t) (hg : pg_1 nB T.length t) : (rw_R T (P.take (j + 1))).length = (rw_R T (P.take j)).length + (if t.1 = 1 then 5 else 3 + t.2.2) := by
  rw [rw_take h, List.length_append, rw_len1 hg]
end
section
section PWMPIECE
variable (l : Launch) (dC : Nat → ClassId) (dI : Nat → Nat → Nat) (cB cI cL : ClassId)

set_option maxHeartbeats 1000000 in
set_option maxRecDepth 100000 in
/-- piece(y, x) -/
theorem c_Md_piece (md a1 a2 a3 a4 a5 : Nat) (B T Z U : List Int32) (P : List (Nat × Nat × Nat)) (th : Int32) (eo : Nat → Int32) (y x : Int32) (nB : Nat) (hk : pk_W nB U.length P) (hbg : bg_P P) (ho : im_k eo (rw_R U P)) : wi_M l yX3_piece wsX3_piece ({ frames := 2, cells := 0, slots := 0, locals := 42 } : Room) (dC, dI) vwCl (tk_s cB cI cL) [.ref md, .int y, .int x] [(md, .inr (3, [.int th, .ref a1, .int (nI B.length), .ref a2, .int (nI T.length), .ref a3, .int (nI (rw_R U P).length), .ref a4, .int (nI Z.length), .ref a5])), (a3, .inl (cI, 2000, .inl eo))] 0 0 (fun (r : Int32) (_ : Unit) => r = pi_I P y x) (fun _ : Unit => [(md, .inr (3, [.int 0, .ref a1, .int (nI B.length), .ref a2, .int (nI T.length), .ref a3, .int (nI (rw_R U P).length), .ref a4, .int (nI Z.length), .ref a5])), (a3, .inl (cI, 2000, .inl eo))]) := by
  refine wi_ofW (cc := cX3_piece) (maxL := 6) (ret := (some .int)) (by decide) rfl (Nat.le_of_ble_eq_true rfl) ?_
  intro p e s m below meth c ls A hx hb hr hml hts hown hlk hnm hP hK hN hD hA hS hl
  have hl : lv_has ls 6 [(0, .ref md), (1, .int y), (2, .int x)] := hl
  have hln := pk_len hk
  have hOl : (rw_R U P).length ≤ 603 := by rw [rw_len (nB := nB) hk.2.2.1]; exact hln.2
  refine lv_aload_n hx hb dX3_piece_0 rfl (lv_at hl 0 rfl) ?_
  refine lv_iconst (v := 0) hx hb dX3_piece_1 (by decide) ?_
  refine va_put (D := (dC, dI)) (ci := 3) (v := .int 0) (ty := .int) (C := RX3) (T := TX3) (N := 10) hx hb hts (by decide +kernel) tyX3 tyX3_ok nmX3 hown hK hP hD hS 0 rfl rfl 0 (by decide) (hts (.fieldLink RX3 7 "PieceWaysModel" "thrownCode" "I") (by decide +kernel)) (fun _ h9 => h9) rfl (by decide +kernel) rfl rfl (Nat.le_of_ble_eq_true rfl) dX3_piece_2 (fun H locs hP hD hS => ?_)
  have hP : va_P (dC, dI) vwCl [(md, .inr (3, [.int 0, .ref a1, .int (nI B.length), .ref a2, .int (nI T.length), .ref a3, .int (nI (rw_R U P).length), .ref a4, .int (nI Z.length), .ref a5])), (a3, .inl (cI, 2000, .inl eo))] H := hP
  have hD : va_D A [(md, .inr (3, [.int 0, .ref a1, .int (nI B.length), .ref a2, .int (nI T.length), .ref a3, .int (nI (rw_R U P).length), .ref a4, .int (nI Z.length), .ref a5])), (a3, .inl (cI, 2000, .inl eo))] := hD
  refine lv_iload_n hx hb dX3_piece_5 rfl (lv_at hl 1 rfl) ?_
  refine lv_if_lt (tgt := 18) hx hb dX3_piece_6 (by decide) (fun c1 => ?_) (fun c1 => ?_)
  · refine lv_iconst (v := (-1)) hx hb dX3_piece_18 (by decide) ?_
    exact wi_iret hx hb hr hlk () ((pi_neg c1).symm) hP hD hS dX3_piece_19
  · refine lv_iload_n hx hb dX3_piece_9 rfl (lv_at hl 2 rfl) ?_
    refine lv_if_lt (tgt := 18) hx hb dX3_piece_10 (by decide) (fun c2 => ?_) (fun c2 => ?_)
    · refine lv_iconst (v := (-1)) hx hb dX3_piece_18 (by decide) ?_
      exact wi_iret hx hb hr hlk () ((pi_no (fun h9 => absurd c2 (by rw [h9]; decide)) (fun h9 => absurd c2 (by rw [h9]; decide)) (fun h9 => absurd c2 (by rw [h9]; decide))).symm) hP hD hS dX3_piece_19
    · refine lv_iload_n hx hb dX3_piece_13 rfl (lv_at hl 2 rfl) ?_
      refine lv_iconst (v := 2) hx hb dX3_piece_14 (by decide) ?_
      refine lv_icmp_le (tgt := 20) hx hb dX3_piece_15 (by decide) (fun c3 => ?_) (fun c3 => ?_)
      · obtain ⟨I, hI, rfl⟩ := nI_of c1
        have fin : ∀ ls : Array Slot, lv_has ls 6 [(3, .int (nI (rw_R U (P.take (min I P.length))).length)), (4, .int (nI (sm_P (P.take (min I P.length))))), (0, .ref md), (1, .int (nI I)), (2, .int x)] → W p l e ({ frames := 2, cells := 0, slots := 0, locals := 42 } : Room) s m ([.ref md, .int (nI I), .int x] : List Value).toArray below meth c H locs 0 0 (MQ below (va_Qi (fun (r : Int32) (_ : Unit) => r = pi_I P (nI I) x) (fun u t => va_P (dC, dI) vwCl ((fun _ : Unit => [(md, .inr (3, [.int 0, .ref a1, .int (nI B.length), .ref a2, .int (nI T.length), .ref a3, .int (nI (rw_R U P).length), .ref a4, .int (nI Z.length), .ref a5])), (a3, .inl (cI, 2000, .inl eo))]) u) t.heap ∧ va_D A ((fun _ : Unit => [(md, .inr (3, [.int 0, .ref a1, .int (nI B.length), .ref a2, .int (nI T.length), .ref a3, .int (nI (rw_R U P).length), .ref a4, .int (nI Z.length), .ref a5])), (a3, .inl (cI, 2000, .inl eo))]) u)) A) ([.ref md, .int (nI I), .int x] : List Value).toArray s 0 0 A) (F0 m 64 ls []) := by
          intro ls hl
          rcases Nat.lt_or_ge I P.length with hIP | hIP
          · rw [Nat.min_eq_left (by omega)] at hl
            obtain ⟨t, ht⟩ : ∃ t, P[I]? = some t := ⟨_, List.getElem?_eq_getElem hIP⟩
            have h16 := pk_1 hk (List.mem_of_getElem? ht)
            have hlt := rl_lt (T := U) ht h16.1 h16.2
            have hpa := pa_of (T := U) ht h16.1 h16.2
            have hb2 := hbg I t ht
            refine lv_iload_n hx hb dX3_piece_64 rfl (lv_at hl 0 rfl) ?_
            refine lv_aload_n hx hb dX3_piece_65 rfl (lv_at hl 2 rfl) ?_
            refine va_get (D := (dC, dI)) (ci := 3) (v := .int (nI (rw_R U P).length)) (C := RX3) (T := TX3) (N := 10) hx hb hts (by decide +kernel) hown hK hP 0 rfl rfl 6 (by decide) (hts (.fieldLink RX3 29 "PieceWaysModel" "size" "I") (by decide +kernel)) (fun _ h9 => h9) rfl dX3_piece_66 ?_
            refine lv_icmp_lt (tgt := 74) hx hb dX3_piece_69 (by decide) (fun d1 => ?_) (fun d1 => ?_)
            · refine lv_iload_n hx hb dX3_piece_74 rfl (lv_at hl 4 rfl) ?_
              refine lv_if_ne (tgt := 87) hx hb dX3_piece_75 (by decide) (fun d2 => ?_) (fun d2 => ?_)
              · refine lv_iload_n hx hb dX3_piece_87 rfl (lv_at hl 4 rfl) ?_
                refine lv_iconst (v := 2) hx hb dX3_piece_88 (by decide) ?_
                refine lv_icmp_ne (tgt := 100) hx hb dX3_piece_89 (by decide) (fun d3 => ?_) (fun d3 => ?_)
                · have hx1 : x = 1 := by rcases sw_3 x with q | q | q | ⟨-, -, -, q⟩; exact absurd q d2; exact q; exact absurd q d3; exact absurd c3 (fun h9 => by have h8 := Int32.le_iff_toInt_le.mp h9; have h7 := mt Int32.lt_iff_toInt_lt.mpr c2; have e2 : (2 : Int32).toInt = 2 := (by decide); have e0 : (0 : Int32).toInt = 0 := (by decide); omega)
                  have er : pi_I P (nI I) x = nI t.2.1 := by rw [hx1]; exact ps_in (g := fun t => t.2.1) ht (by omega)
                  refine lv_aload_n hx hb dX3_piece_100 rfl (lv_at hl 2 rfl) ?_
                  refine va_get (D := (dC, dI)) (ci := 3) (v := .ref a3) (C := RX3) (T := TX3) (N := 10) hx hb hts (by decide +kernel) hown hK hP 0 rfl rfl 5 (by decide) (hts (.fieldLink RX3 26 "PieceWaysModel" "row" "[I") (by decide +kernel)) (fun _ h9 => h9) rfl dX3_piece_101 ?_
                  refine lv_iload_n hx hb dX3_piece_104 rfl (lv_at hl 0 rfl) ?_
                  refine va_iald hx hb hK hP 1 1 rfl rfl (vp_in_nI (by omega) (by omega)) dX3_piece_105 ?_
                  rw [nI_clamp (by omega), ho _ _ hpa.1]
                  refine lv_iconst (v := 1) hx hb dX3_piece_106 (by decide) ?_
                  refine lv_icmp_ne (tgt := 120) hx hb dX3_piece_107 (by decide) (fun d4 => ?_) (fun d4 => ?_)
                  · have k1 : ¬ t.1 = 1 := fun h9 => d4 (by rw [h9]; rfl)
                    refine lv_iload hx hb dX3_piece_120 (lv_at hl 1 rfl) ?_
                    exact wi_iret hx hb hr hlk () (by rw [er, hb2 k1]) hP hD hS dX3_piece_122
                  · have k1 : t.1 = 1 := (nI_eq (by omega) (by omega)).mp d4
                    refine lv_aload_n hx hb dX3_piece_110 rfl (lv_at hl 2 rfl) ?_
                    refine lv_iload_n hx hb dX3_piece_111 rfl (lv_at hl 0 rfl) ?_
                    refine lv_iconst (v := 1) hx hb dX3_piece_112 (by decide) ?_
                    refine lv_iadd hx hb dX3_piece_113 ?_
                    rw [nI_1 (rw_R U (P.take I)).length]
                    refine rd_V (wc := [(md, .inr (3, [.int 0, .ref a1, .int (nI B.length), .ref a2, .int (nI T.length), .ref a3, .int (nI (rw_R U P).length), .ref a4, .int (nI Z.length), .ref a5])), (a3, .inl (cI, 2000, .inl eo))]) (As := [.int (nI ((rw_R U (P.take I)).length + 1))]) (rest := []) ⟨hx, hb, hml, hown, hts⟩ (c_Md_two l dC dI cB cI cL md a1 a2 a3 a4 a5 B T (rw_R U P) Z 0 eo ((rw_R U (P.take I)).length + 1) t.2.1 hOl ho (hpa.2.1 k1).1.1 (hpa.2.1 k1).1.2) (cwV 1 hts gX3_piece_X3_two rfl rfl rfl (by decide +kernel) ⟨(Nat.le_of_ble_eq_true rfl), (Nat.le_of_ble_eq_true rfl)⟩) hK hN (sb_P hP [0, 1] rfl) 0 rfl rfl rfl rfl hl.1 rfl (Nat.le_of_ble_eq_true rfl) dX3_piece_114 ⟨(Nat.le_of_ble_eq_true rfl), (Nat.le_of_ble_eq_true rfl)⟩ ?_
                    refine lv_goto (tgt := 122) hx hb dX3_piece_117 (by decide) ?_
                    exact wi_iret hx hb hr hlk () (er.symm) hP hD hS dX3_piece_122
                · refine lv_aload_n hx hb dX3_piece_92 rfl (lv_at hl 2 rfl) ?_
                  refine lv_iload_n hx hb dX3_piece_93 rfl (lv_at hl 0 rfl) ?_
                  refine rd_V (wc := [(md, .inr (3, [.int 0, .ref a1, .int (nI B.length), .ref a2, .int (nI T.length), .ref a3, .int (nI (rw_R U P).length), .ref a4, .int (nI Z.length), .ref a5])), (a3, .inl (cI, 2000, .inl eo))]) (As := [.int (nI (rw_R U (P.take I)).length)]) (rest := []) ⟨hx, hb, hml, hown, hts⟩ (c_Md_many l dC dI cB cI cL md a1 a2 a3 a4 a5 B T (rw_R U P) Z 0 eo (rw_R U (P.take I)).length t hOl ho (by omega) h16.2 hpa) (cwV 1 hts gX3_piece_X3_many rfl rfl rfl (by decide +kernel) ⟨(Nat.le_of_ble_eq_true rfl), (Nat.le_of_ble_eq_true rfl)⟩) hK hN (sb_P hP [0, 1] rfl) 0 rfl rfl rfl rfl hl.1 rfl (Nat.le_of_ble_eq_true rfl) dX3_piece_94 ⟨(Nat.le_of_ble_eq_true rfl), (Nat.le_of_ble_eq_true rfl)⟩ ?_
                  refine lv_goto (tgt := 122) hx hb dX3_piece_97 (by decide) ?_
                  exact wi_iret hx hb hr hlk () (by rw [d3]; exact (ps_in (g := fun t => t.2.2) ht (by omega)).symm) hP hD hS dX3_piece_122
              · refine lv_aload_n hx hb dX3_piece_78 rfl (lv_at hl 2 rfl) ?_
                refine va_get (D := (dC, dI)) (ci := 3) (v := .ref a3) (C := RX3) (T := TX3) (N := 10) hx hb hts (by decide +kernel) hown hK hP 0 rfl rfl 5 (by decide) (hts (.fieldLink RX3 26 "PieceWaysModel" "row" "[I") (by decide +kernel)) (fun _ h9 => h9) rfl dX3_piece_79 ?_
                refine lv_iload_n hx hb dX3_piece_82 rfl (lv_at hl 0 rfl) ?_
                refine va_iald hx hb hK hP 1 1 rfl rfl (vp_in_nI (by omega) (by omega)) dX3_piece_83 ?_
                rw [nI_clamp (by omega), ho _ _ hpa.1]
                refine lv_goto (tgt := 122) hx hb dX3_piece_84 (by decide) ?_
                exact wi_iret hx hb hr hlk () (by rw [d2]; exact (ps_in (g := fun t => t.1) ht (by omega)).symm) hP hD hS dX3_piece_122
            · exact absurd (nI_lt hlt (by omega)) d1
          · rw [Nat.min_eq_right hIP, List.take_length] at hl
            refine lv_iload_n hx hb dX3_piece_64 rfl (lv_at hl 0 rfl) ?_
            refine lv_aload_n hx hb dX3_piece_65 rfl (lv_at hl 2 rfl) ?_
            refine va_get (D := (dC, dI)) (ci := 3) (v := .int (nI (rw_R U P).length)) (C := RX3) (T := TX3) (N := 10) hx hb hts (by decide +kernel) hown hK hP 0 rfl rfl 6 (by decide) (hts (.fieldLink RX3 29 "PieceWaysModel" "size" "I") (by decide +kernel)) (fun _ h9 => h9) rfl dX3_piece_66 ?_
            refine lv_icmp_lt (tgt := 74) hx hb dX3_piece_69 (by decide) (fun d1 => ?_) (fun d1 => ?_)
            · exact absurd d1 (nI_nlt (Nat.le_refl _) (by omega))
            · refine lv_iconst (v := (-1)) hx hb dX3_piece_72 (by decide) ?_
              exact wi_iret hx hb hr hlk () ((pi_hi (by omega) c1 (nI_le hIP hI)).symm) hP hD hS dX3_piece_73
        have loop : ∀ (n k : Nat) (ls : Array Slot), n + k = min I P.length → lv_has ls 6 [(5, .int (nI k)), (3, .int (nI (rw_R U (P.take k)).length)), (4, .int (nI (sm_P (P.take k)))), (0, .ref md), (1, .int (nI I)), (2, .int x)] → W p l e ({ frames := 2, cells := 0, slots := 0, locals := 42 } : Room) s m ([.ref md, .int (nI I), .int x] : List Value).toArray below meth c H locs 0 0 (MQ below (va_Qi (fun (r : Int32) (_ : Unit) => r = pi_I P (nI I) x) (fun u t => va_P (dC, dI) vwCl ((fun _ : Unit => [(md, .inr (3, [.int 0, .ref a1, .int (nI B.length), .ref a2, .int (nI T.length), .ref a3, .int (nI (rw_R U P).length), .ref a4, .int (nI Z.length), .ref a5])), (a3, .inl (cI, 2000, .inl eo))]) u) t.heap ∧ va_D A ((fun _ : Unit => [(md, .inr (3, [.int 0, .ref a1, .int (nI B.length), .ref a2, .int (nI T.length), .ref a3, .int (nI (rw_R U P).length), .ref a4, .int (nI Z.length), .ref a5])), (a3, .inl (cI, 2000, .inl eo))]) u)) A) ([.ref md, .int (nI I), .int x] : List Value).toArray s 0 0 A) (F0 m 28 ls []) := by
          intro n
          induction n with
          | zero =>
            intro k ls hkk hl
            have hkk : k = min I P.length := by omega
            refine lv_iload hx hb dX3_piece_28 (lv_at hl 0 rfl) ?_
            refine lv_iload_n hx hb dX3_piece_30 rfl (lv_at hl 4 rfl) ?_
            refine lv_icmp_ge (tgt := 64) hx hb dX3_piece_31 (by decide) (fun d1 => ?_) (fun d1 => ?_)
            · rw [hkk] at hl
              exact fin ls (lv_sub hl [1, 2, 3, 4, 5] rfl)
            · have hk2 : k = P.length := by rcases Nat.lt_or_ge P.length I with h9 | h9; omega; exact absurd (nI_le (by omega) (by omega)) d1
              refine lv_iload_n hx hb dX3_piece_34 rfl (lv_at hl 1 rfl) ?_
              refine lv_aload_n hx hb dX3_piece_35 rfl (lv_at hl 3 rfl) ?_
              refine va_get (D := (dC, dI)) (ci := 3) (v := .int (nI (rw_R U P).length)) (C := RX3) (T := TX3) (N := 10) hx hb hts (by decide +kernel) hown hK hP 0 rfl rfl 6 (by decide) (hts (.fieldLink RX3 29 "PieceWaysModel" "size" "I") (by decide +kernel)) (fun _ h9 => h9) rfl dX3_piece_36 ?_
              refine lv_icmp_ge (tgt := 64) hx hb dX3_piece_39 (by decide) (fun d2 => ?_) (fun d2 => ?_)
              · rw [hkk] at hl
                exact fin ls (lv_sub hl [1, 2, 3, 4, 5] rfl)
              · exact absurd (by rw [hk2, List.take_length]; exact nI_le (Nat.le_refl _) (by omega)) d2
          | succ n ih =>
            intro k ls hkk hl
            obtain ⟨t, ht⟩ : ∃ t, P[k]? = some t := ⟨_, List.getElem?_eq_getElem (by omega)⟩
            have htm := List.mem_of_getElem? ht
            have h16 := pk_1 hk htm
            have hlt := rl_lt (T := U) ht h16.1 h16.2
            have hpa := pa_of (T := U) ht h16.1 h16.2
            refine lv_iload hx hb dX3_piece_28 (lv_at hl 0 rfl) ?_
            refine lv_iload_n hx hb dX3_piece_30 rfl (lv_at hl 4 rfl) ?_
            refine lv_icmp_ge (tgt := 64) hx hb dX3_piece_31 (by decide) (fun d1 => ?_) (fun d1 => ?_)
            · exact absurd d1 (nI_ge (by omega) (by omega))
            · refine lv_iload_n hx hb dX3_piece_34 rfl (lv_at hl 1 rfl) ?_
              refine lv_aload_n hx hb dX3_piece_35 rfl (lv_at hl 3 rfl) ?_
              refine va_get (D := (dC, dI)) (ci := 3) (v := .int (nI (rw_R U P).length)) (C := RX3) (T := TX3) (N := 10) hx hb hts (by decide +kernel) hown hK hP 0 rfl rfl 6 (by decide) (hts (.fieldLink RX3 29 "PieceWaysModel" "size" "I") (by decide +kernel)) (fun _ h9 => h9) rfl dX3_piece_36 ?_
              refine lv_icmp_ge (tgt := 64) hx hb dX3_piece_39 (by decide) (fun d2 => ?_) (fun d2 => ?_)
              · exact absurd d2 (nI_ge hlt (by omega))
              · refine lv_iload hx hb dX3_piece_42 (lv_at hl 2 rfl) ?_
                refine lv_aload_n hx hb dX3_piece_44 rfl (lv_at hl 3 rfl) ?_
                refine lv_iload_n hx hb dX3_piece_45 rfl (lv_at hl 1 rfl) ?_
                refine rd_V (wc := [(md, .inr (3, [.int 0, .ref a1, .int (nI B.length), .ref a2, .int (nI T.length), .ref a3, .int (nI (rw_R U P).length), .ref a4, .int (nI Z.length), .ref a5])), (a3, .inl (cI, 2000, .inl eo))]) (As := [.int (nI (rw_R U (P.take k)).length)]) (rest := [.int (nI (sm_P (P.take k)))]) ⟨hx, hb, hml, hown, hts⟩ (c_Md_many l dC dI cB cI cL md a1 a2 a3 a4 a5 B T (rw_R U P) Z 0 eo (rw_R U (P.take k)).length t hOl ho (by omega) h16.2 hpa) (cwV 1 hts gX3_piece_X3_many rfl rfl rfl (by decide +kernel) ⟨(Nat.le_of_ble_eq_true rfl), (Nat.le_of_ble_eq_true rfl)⟩) hK hN (sb_P hP [0, 1] rfl) 0 rfl rfl rfl rfl hl.1 rfl (Nat.le_of_ble_eq_true rfl) dX3_piece_46 ⟨(Nat.le_of_ble_eq_true rfl), (Nat.le_of_ble_eq_true rfl)⟩ ?_
                refine lv_iadd hx hb dX3_piece_49 ?_
                refine lv_istore (lv' := [(4, .int ((nI (sm_P (P.take k))) + (nI t.2.2))), (5, .int (nI k)), (3, .int (nI (rw_R U (P.take k)).length)), (0, .ref md), (1, .int (nI I)), (2, .int x)]) hx hb dX3_piece_50 hl (by decide) rfl (fun ls hl => ?_)
                refine lv_aload_n hx hb dX3_piece_52 rfl (lv_at hl 3 rfl) ?_
                refine lv_iload_n hx hb dX3_piece_53 rfl (lv_at hl 2 rfl) ?_
                refine rd_V (wc := [(md, .inr (3, [.int 0, .ref a1, .int (nI B.length), .ref a2, .int (nI T.length), .ref a3, .int (nI (rw_R U P).length), .ref a4, .int (nI Z.length), .ref a5])), (a3, .inl (cI, 2000, .inl eo))]) (As := [.int (nI (rw_R U (P.take k)).length)]) (rest := []) ⟨hx, hb, hml, hown, hts⟩ (c_Md_behind l dC dI cB cI cL md a1 a2 a3 a4 a5 B T (rw_R U P) Z 0 eo (rw_R U (P.take k)).length t hOl ho (by omega) h16.2 hpa) (cwV 1 hts gX3_piece_X3_behind rfl rfl rfl (by decide +kernel) ⟨(Nat.le_of_ble_eq_true rfl), (Nat.le_of_ble_eq_true rfl)⟩) hK hN (sb_P hP [0, 1] rfl) 0 rfl rfl rfl rfl hl.1 rfl (Nat.le_of_ble_eq_true rfl) dX3_piece_54 ⟨(Nat.le_of_ble_eq_true rfl), (Nat.le_of_ble_eq_true rfl)⟩ ?_
                refine lv_istore_n (lv' := [(3, .int (nI ((rw_R U (P.take k)).length + (if t.1 = 1 then 5 else 3 + t.2.2)))), (4, .int ((nI (sm_P (P.take k))) + (nI t.2.2))), (5, .int (nI k)), (0, .ref md), (1, .int (nI I)), (2, .int x)]) hx hb dX3_piece_57 rfl hl (by decide) rfl (fun ls hl => ?_)
                refine lv_iinc (v := ((nI k) + 1)) (lv' := [(5, .int ((nI k) + 1)), (3, .int (nI ((rw_R U (P.take k)).length + (if t.1 = 1 then 5 else 3 + t.2.2)))), (4, .int ((nI (sm_P (P.take k))) + (nI t.2.2))), (0, .ref md), (1, .int (nI I)), (2, .int x)]) hx hb dX3_piece_58 hl (k := 2) rfl rfl (by decide) rfl (fun ls hl => ?_)
                refine lv_goto (tgt := 28) hx hb dX3_piece_61 (by decide) ?_
                have h9 : lv_has ls 6 [(5, .int ((nI k) + 1)), (3, .int (nI ((rw_R U (P.take k)).length + (if t.1 = 1 then 5 else 3 + t.2.2)))), (4, .int ((nI (sm_P (P.take k))) + (nI t.2.2))), (0, .ref md), (1, .int (nI I)), (2, .int x)] := lv_sub hl [0, 1, 2, 3, 4, 5] rfl
                refine ih (k + 1) ls (by omega) ?_
                rw [rl_step ht (hk.2.2.1 t htm), sm_tk ht, ← nI_1 k, ← nI_add (sm_P (P.take k))]
                exact h9
        refine lv_iconst (v := 0) hx hb dX3_piece_20 (by decide) ?_
        refine lv_istore_n (lv' := [(3, .int 0), (0, .ref md), (1, .int (nI I)), (2, .int x)]) hx hb dX3_piece_21 rfl hl (by decide) rfl (fun ls hl => ?_)
        refine lv_iconst (v := 0) hx hb dX3_piece_22 (by decide) ?_
        refine lv_istore (lv' := [(4, .int 0), (3, .int 0), (0, .ref md), (1, .int (nI I)), (2, .int x)]) hx hb dX3_piece_23 hl (by decide) rfl (fun ls hl => ?_)
        refine lv_iconst (v := 0) hx hb dX3_piece_25 (by decide) ?_
        refine lv_istore (lv' := [(5, .int 0), (4, .int 0), (3, .int 0), (0, .ref md), (1, .int (nI I)), (2, .int x)]) hx hb dX3_piece_26 hl (by decide) rfl (fun ls hl => ?_)
        exact loop (min I P.length) 0 ls (by omega) (lv_sub hl [0, 2, 1, 3, 4, 5] rfl)
      · refine lv_iconst (v := (-1)) hx hb dX3_piece_18 (by decide) ?_
        exact wi_iret hx hb hr hlk () ((pi_no (fun h9 => absurd (by rw [h9]; decide) c3) (fun h9 => absurd (by rw [h9]; decide) c3) (fun h9 => absurd (by rw [h9]; decide) c3)).symm) hP hD hS dX3_piece_19
end PWMPIECE
end
section
section PWMGO
variable (l : Launch) (dC : Nat → ClassId) (dI : Nat → Nat → Nat) (cB cI cL : ClassId)

set_option maxHeartbeats 1000000 in
set_option maxRecDepth 100000 in
/-- go() -/
theorem c_Md_go (md a1 a2 a3 a4 a5 : Nat) (B T Z U : List Int32) (P : List (Nat × Nat × Nat)) (th : Int32) (eb eo er en : Nat → Int32) (nB : Nat) (hk : pk_W nB U.length P) (hB : B.length ≤ 600) (heb : im_k eb B) (ho : im_k eo (rw_R U P)) (her : im_k er Z) : wi_M l yX3_go wsX3_go ({ frames := 2, cells := 0, slots := 0, locals := 42 } : Room) (dC, dI) vwCl (tk_s cB cI cL) [.ref md] [(md, .inr (3, [.int th, .ref a1, .int (nI B.length), .ref a2, .int (nI T.length), .ref a3, .int (nI (rw_R U P).length), .ref a4, .int (nI Z.length), .ref a5])), (a1, .inl (cI, 600, .inl eb)), (a3, .inl (cI, 2000, .inl eo)), (a4, .inl (cI, 600, .inl er)), (a5, .inl (cI, 600, .inl en))] 0 0 (fun (r : Int32) (z : (Nat → Int32) × (Nat → Int32)) => r = (if ce_P P ≤ B.length then nI (go_R B U P).length else 0) ∧ im_k z.1 (if ce_P P ≤ B.length then go_R B U P else Z)) (fun z : (Nat → Int32) × (Nat → Int32) => [(md, .inr (3, [.int (if ce_P P ≤ B.length then 0 else 1), .ref a1, .int (nI B.length), .ref a2, .int (nI T.length), .ref a3, .int (nI (rw_R U P).length), .ref a4, .int (nI (if ce_P P ≤ B.length then go_R B U P else Z).length), .ref a5])), (a1, .inl (cI, 600, .inl eb)), (a3, .inl (cI, 2000, .inl eo)), (a4, .inl (cI, 600, .inl (z.1))), (a5, .inl (cI, 600, .inl (z.2)))]) := by
  refine wi_ofW (cc := cX3_go) (maxL := 5) (ret := (some .int)) (by decide) rfl (Nat.le_of_ble_eq_true rfl) ?_
  intro p e s m below meth c ls A hx hb hr hml hts hown hlk hnm hP hK hN hD hA hS hl
  have hl : lv_has ls 5 [(0, .ref md)] := hl
  have hln := pk_len hk
  have hsm := pk_sm hk
  have hOl : (rw_R U P).length ≤ 603 := by rw [rw_len (nB := nB) hk.2.2.1]; exact hln.2
  have hgl := go_len B U P
  have thr : B.length < ce_P P → ∀ (j k : Nat) (t : Nat × Nat × Nat) (f : Nat → Int32) (H : Heap) (locs : List Loc) (ls : Array Slot), P[j]? = some t → va_P (dC, dI) vwCl [(md, .inr (3, [.int 1, .ref a1, .int (nI B.length), .ref a2, .int (nI T.length), .ref a3, .int (nI (rw_R U P).length), .ref a4, .int (nI Z.length), .ref a5])), (a1, .inl (cI, 600, .inl eb)), (a3, .inl (cI, 2000, .inl eo)), (a4, .inl (cI, 600, .inl er)), (a5, .inl (cI, 600, .inl f))] H → va_D A [(md, .inr (3, [.int 1, .ref a1, .int (nI B.length), .ref a2, .int (nI T.length), .ref a3, .int (nI (rw_R U P).length), .ref a4, .int (nI Z.length), .ref a5])), (a1, .inl (cI, 600, .inl eb)), (a3, .inl (cI, 2000, .inl eo)), (a4, .inl (cI, 600, .inl er)), (a5, .inl (cI, 600, .inl f))] → va_S A s.heap H locs → lv_has ls 5 [(3, .int (nI k)), (2, .int (nI (rw_R U (P.take j)).length)), (0, .ref md)] → W p l e ({ frames := 2, cells := 0, slots := 0, locals := 42 } : Room) s m ([.ref md] : List Value).toArray below meth c H locs 0 0 (MQ below (va_Qi (fun (r : Int32) (z : (Nat → Int32) × (Nat → Int32)) => r = (if ce_P P ≤ B.length then nI (go_R B U P).length else 0) ∧ im_k z.1 (if ce_P P ≤ B.length then go_R B U P else Z)) (fun u t => va_P (dC, dI) vwCl ((fun z : (Nat → Int32) × (Nat → Int32) => [(md, .inr (3, [.int (if ce_P P ≤ B.length then 0 else 1), .ref a1, .int (nI B.length), .ref a2, .int (nI T.length), .ref a3, .int (nI (rw_R U P).length), .ref a4, .int (nI (if ce_P P ≤ B.length then go_R B U P else Z).length), .ref a5])), (a1, .inl (cI, 600, .inl eb)), (a3, .inl (cI, 2000, .inl eo)), (a4, .inl (cI, 600, .inl (z.1))), (a5, .inl (cI, 600, .inl (z.2)))]) u) t.heap ∧ va_D A ((fun z : (Nat → Int32) × (Nat → Int32) => [(md, .inr (3, [.int (if ce_P P ≤ B.length then 0 else 1), .ref a1, .int (nI B.length), .ref a2, .int (nI T.length), .ref a3, .int (nI (rw_R U P).length), .ref a4, .int (nI (if ce_P P ≤ B.length then go_R B U P else Z).length), .ref a5])), (a1, .inl (cI, 600, .inl eb)), (a3, .inl (cI, 2000, .inl eo)), (a4, .inl (cI, 600, .inl (z.1))), (a5, .inl (cI, 600, .inl (z.2)))]) u)) A) ([.ref md] : List Value).toArray s 0 0 A) (F0 m 134 ls []) := by
    intro hce j k t f H locs ls ht hP hD hS hl
    have htm := List.mem_of_getElem? ht
    have h16 := pk_1 hk htm
    have hpa := pa_of (T := U) ht h16.1 h16.2
    have n0 : ¬ ce_P P ≤ B.length := by omega
    have fin : ∀ ls : Array Slot, lv_has ls 5 [(0, .ref md)] → W p l e ({ frames := 2, cells := 0, slots := 0, locals := 42 } : Room) s m ([.ref md] : List Value).toArray below meth c H locs 0 0 (MQ below (va_Qi (fun (r : Int32) (z : (Nat → Int32) × (Nat → Int32)) => r = (if ce_P P ≤ B.length then nI (go_R B U P).length else 0) ∧ im_k z.1 (if ce_P P ≤ B.length then go_R B U P else Z)) (fun u t => va_P (dC, dI) vwCl ((fun z : (Nat → Int32) × (Nat → Int32) => [(md, .inr (3, [.int (if ce_P P ≤ B.length then 0 else 1), .ref a1, .int (nI B.length), .ref a2, .int (nI T.length), .ref a3, .int (nI (rw_R U P).length), .ref a4, .int (nI (if ce_P P ≤ B.length then go_R B U P else Z).length), .ref a5])), (a1, .inl (cI, 600, .inl eb)), (a3, .inl (cI, 2000, .inl eo)), (a4, .inl (cI, 600, .inl (z.1))), (a5, .inl (cI, 600, .inl (z.2)))]) u) t.heap ∧ va_D A ((fun z : (Nat → Int32) × (Nat → Int32) => [(md, .inr (3, [.int (if ce_P P ≤ B.length then 0 else 1), .ref a1, .int (nI B.length), .ref a2, .int (nI T.length), .ref a3, .int (nI (rw_R U P).length), .ref a4, .int (nI (if ce_P P ≤ B.length then go_R B U P else Z).length), .ref a5])), (a1, .inl (cI, 600, .inl eb)), (a3, .inl (cI, 2000, .inl eo)), (a4, .inl (cI, 600, .inl (z.1))), (a5, .inl (cI, 600, .inl (z.2)))]) u)) A) ([.ref md] : List Value).toArray s 0 0 A) (F0 m 149 ls []) := by
      intro ls hl
      refine lv_aload_n hx hb dX3_go_149 rfl (lv_at hl 0 rfl) ?_
      refine va_get (D := (dC, dI)) (ci := 3) (v := .int 1) (C := RX3) (T := TX3) (N := 10) hx hb hts (by decide +kernel) hown hK hP 0 rfl rfl 0 (by decide) (hts (.fieldLink RX3 7 "PieceWaysModel" "thrownCode" "I") (by decide +kernel)) (fun _ h9 => h9) rfl dX3_go_150 ?_
      refine lv_if_eq (tgt := 158) hx hb dX3_go_153 (by decide) (fun d9 => ?_) (fun d9 => ?_)
      · exact absurd d9 (by decide)
      · refine lv_iconst (v := 0) hx hb dX3_go_156 (by decide) ?_
        refine wi_iret hx hb hr hlk (er, f) ⟨by rw [if_neg n0], by rw [if_neg n0]; exact her⟩ ?_ ?_ hS dX3_go_157
        · show va_P (dC, dI) vwCl [(md, .inr (3, [.int (if ce_P P ≤ B.length then 0 else 1), .ref a1, .int (nI B.length), .ref a2, .int (nI T.length), .ref a3, .int (nI (rw_R U P).length), .ref a4, .int (nI (if ce_P P ≤ B.length then go_R B U P else Z).length), .ref a5])), (a1, .inl (cI, 600, .inl eb)), (a3, .inl (cI, 2000, .inl eo)), (a4, .inl (cI, 600, .inl (er))), (a5, .inl (cI, 600, .inl (f)))] _
          rw [if_neg n0, if_neg n0]; exact hP
        · show va_D A [(md, .inr (3, [.int (if ce_P P ≤ B.length then 0 else 1), .ref a1, .int (nI B.length), .ref a2, .int (nI T.length), .ref a3, .int (nI (rw_R U P).length), .ref a4, .int (nI (if ce_P P ≤ B.length then go_R B U P else Z).length), .ref a5])), (a1, .inl (cI, 600, .inl eb)), (a3, .inl (cI, 2000, .inl eo)), (a4, .inl (cI, 600, .inl (er))), (a5, .inl (cI, 600, .inl (f)))]
          rw [if_neg n0, if_neg n0]; exact hD
    have hd9 : ∀ (q9 : Int32) (ls : Array Slot), lv_has ls 5 [(2, .int q9), (0, .ref md)] → W p l e ({ frames := 2, cells := 0, slots := 0, locals := 42 } : Room) s m ([.ref md] : List Value).toArray below meth c H locs 0 0 (MQ below (va_Qi (fun (r : Int32) (z : (Nat → Int32) × (Nat → Int32)) => r = (if ce_P P ≤ B.length then nI (go_R B U P).length else 0) ∧ im_k z.1 (if ce_P P ≤ B.length then go_R B U P else Z)) (fun u t => va_P (dC, dI) vwCl ((fun z : (Nat → Int32) × (Nat → Int32) => [(md, .inr (3, [.int (if ce_P P ≤ B.length then 0 else 1), .ref a1, .int (nI B.length), .ref a2, .int (nI T.length), .ref a3, .int (nI (rw_R U P).length), .ref a4, .int (nI (if ce_P P ≤ B.length then go_R B U P else Z).length), .ref a5])), (a1, .inl (cI, 600, .inl eb)), (a3, .inl (cI, 2000, .inl eo)), (a4, .inl (cI, 600, .inl (z.1))), (a5, .inl (cI, 600, .inl (z.2)))]) u) t.heap ∧ va_D A ((fun z : (Nat → Int32) × (Nat → Int32) => [(md, .inr (3, [.int (if ce_P P ≤ B.length then 0 else 1), .ref a1, .int (nI B.length), .ref a2, .int (nI T.length), .ref a3, .int (nI (rw_R U P).length), .ref a4, .int (nI (if ce_P P ≤ B.length then go_R B U P else Z).length), .ref a5])), (a1, .inl (cI, 600, .inl eb)), (a3, .inl (cI, 2000, .inl eo)), (a4, .inl (cI, 600, .inl (z.1))), (a5, .inl (cI, 600, .inl (z.2)))]) u)) A) ([.ref md] : List Value).toArray s 0 0 A) (F0 m 9 ls []) := by
      intro q9 ls hl
      refine lv_iload_n hx hb dX3_go_9 rfl (lv_at hl 0 rfl) ?_
      refine lv_aload_n hx hb dX3_go_10 rfl (lv_at hl 1 rfl) ?_
      refine va_get (D := (dC, dI)) (ci := 3) (v := .int (nI (rw_R U P).length)) (C := RX3) (T := TX3) (N := 10) hx hb hts (by decide +kernel) hown hK hP 0 rfl rfl 6 (by decide) (hts (.fieldLink RX3 29 "PieceWaysModel" "size" "I") (by decide +kernel)) (fun _ h9 => h9) rfl dX3_go_11 ?_
      refine lv_icmp_ge (tgt := 149) hx hb dX3_go_14 (by decide) (fun d1 => ?_) (fun d1 => ?_)
      · exact fin ls (lv_sub hl [1] rfl)
      · refine lv_aload_n hx hb dX3_go_17 rfl (lv_at hl 1 rfl) ?_
        refine va_get (D := (dC, dI)) (ci := 3) (v := .int 1) (C := RX3) (T := TX3) (N := 10) hx hb hts (by decide +kernel) hown hK hP 0 rfl rfl 0 (by decide) (hts (.fieldLink RX3 7 "PieceWaysModel" "thrownCode" "I") (by decide +kernel)) (fun _ h9 => h9) rfl dX3_go_18 ?_
        refine lv_if_ne (tgt := 149) hx hb dX3_go_21 (by decide) (fun d2 => ?_) (fun d2 => ?_)
        · exact fin ls (lv_sub hl [1] rfl)
        · exact absurd d2 (by decide)
    have hd140 : ∀ ls : Array Slot, lv_has ls 5 [(2, .int (nI (rw_R U (P.take j)).length)), (0, .ref md)] → W p l e ({ frames := 2, cells := 0, slots := 0, locals := 42 } : Room) s m ([.ref md] : List Value).toArray below meth c H locs 0 0 (MQ below (va_Qi (fun (r : Int32) (z : (Nat → Int32) × (Nat → Int32)) => r = (if ce_P P ≤ B.length then nI (go_R B U P).length else 0) ∧ im_k z.1 (if ce_P P ≤ B.length then go_R B U P else Z)) (fun u t => va_P (dC, dI) vwCl ((fun z : (Nat → Int32) × (Nat → Int32) => [(md, .inr (3, [.int (if ce_P P ≤ B.length then 0 else 1), .ref a1, .int (nI B.length), .ref a2, .int (nI T.length), .ref a3, .int (nI (rw_R U P).length), .ref a4, .int (nI (if ce_P P ≤ B.length then go_R B U P else Z).length), .ref a5])), (a1, .inl (cI, 600, .inl eb)), (a3, .inl (cI, 2000, .inl eo)), (a4, .inl (cI, 600, .inl (z.1))), (a5, .inl (cI, 600, .inl (z.2)))]) u) t.heap ∧ va_D A ((fun z : (Nat → Int32) × (Nat → Int32) => [(md, .inr (3, [.int (if ce_P P ≤ B.length then 0 else 1), .ref a1, .int (nI B.length), .ref a2, .int (nI T.length), .ref a3, .int (nI (rw_R U P).length), .ref a4, .int (nI (if ce_P P ≤ B.length then go_R B U P else Z).length), .ref a5])), (a1, .inl (cI, 600, .inl eb)), (a3, .inl (cI, 2000, .inl eo)), (a4, .inl (cI, 600, .inl (z.1))), (a5, .inl (cI, 600, .inl (z.2)))]) u)) A) ([.ref md] : List Value).toArray s 0 0 A) (F0 m 140 ls []) := by
      intro ls hl
      refine lv_aload_n hx hb dX3_go_140 rfl (lv_at hl 1 rfl) ?_
      refine lv_iload_n hx hb dX3_go_141 rfl (lv_at hl 0 rfl) ?_
      refine rd_V (wc := [(md, .inr (3, [.int 1, .ref a1, .int (nI B.length), .ref a2, .int (nI T.length), .ref a3, .int (nI (rw_R U P).length), .ref a4, .int (nI Z.length), .ref a5])), (a3, .inl (cI, 2000, .inl eo))]) (As := [.int (nI (rw_R U (P.take j)).length)]) (rest := []) ⟨hx, hb, hml, hown, hts⟩ (c_Md_behind l dC dI cB cI cL md a1 a2 a3 a4 a5 B T (rw_R U P) Z 1 eo (rw_R U (P.take j)).length t hOl ho (by omega) h16.2 hpa) (cwV 1 hts gX3_go_X3_behind rfl rfl rfl (by decide +kernel) ⟨(Nat.le_of_ble_eq_true rfl), (Nat.le_of_ble_eq_true rfl)⟩) hK hN (sb_P hP [0, 2] rfl) 0 rfl rfl rfl rfl hl.1 rfl (Nat.le_of_ble_eq_true rfl) dX3_go_142 ⟨(Nat.le_of_ble_eq_true rfl), (Nat.le_of_ble_eq_true rfl)⟩ ?_
      refine lv_istore_n (lv' := [(2, .int (nI ((rw_R U (P.take j)).length + (if t.1 = 1 then 5 else 3 + t.2.2)))), (0, .ref md)]) hx hb dX3_go_145 rfl hl (by decide) rfl (fun ls hl => ?_)
      refine lv_goto (tgt := 9) hx hb dX3_go_146 (by decide) ?_
      exact hd9 _ ls (lv_sub hl [0, 1] rfl)
    refine lv_iinc (v := ((nI k) + 1)) (lv' := [(3, .int ((nI k) + 1)), (2, .int (nI (rw_R U (P.take j)).length)), (0, .ref md)]) hx hb dX3_go_134 hl (k := 0) rfl rfl (by decide) rfl (fun ls hl => ?_)
    refine lv_goto (tgt := 26) hx hb dX3_go_137 (by decide) ?_
    refine lv_iload_n hx hb dX3_go_26 rfl (lv_at hl 0 rfl) ?_
    refine lv_aload_n hx hb dX3_go_27 rfl (lv_at hl 2 rfl) ?_
    refine lv_iload_n hx hb dX3_go_28 rfl (lv_at hl 1 rfl) ?_
    refine rd_V (wc := [(md, .inr (3, [.int 1, .ref a1, .int (nI B.length), .ref a2, .int (nI T.length), .ref a3, .int (nI (rw_R U P).length), .ref a4, .int (nI Z.length), .ref a5])), (a3, .inl (cI, 2000, .inl eo))]) (As := [.int (nI (rw_R U (P.take j)).length)]) (rest := [.int ((nI k) + 1)]) ⟨hx, hb, hml, hown, hts⟩ (c_Md_many l dC dI cB cI cL md a1 a2 a3 a4 a5 B T (rw_R U P) Z 1 eo (rw_R U (P.take j)).length t hOl ho (by omega) h16.2 hpa) (cwV 1 hts gX3_go_X3_many rfl rfl rfl (by decide +kernel) ⟨(Nat.le_of_ble_eq_true rfl), (Nat.le_of_ble_eq_true rfl)⟩) hK hN (sb_P hP [0, 2] rfl) 0 rfl rfl rfl rfl hl.1 rfl (Nat.le_of_ble_eq_true rfl) dX3_go_29 ⟨(Nat.le_of_ble_eq_true rfl), (Nat.le_of_ble_eq_true rfl)⟩ ?_
    refine lv_icmp_ge (tgt := 140) hx hb dX3_go_32 (by decide) (fun d3 => ?_) (fun d3 => ?_)
    · exact hd140 ls (lv_sub hl [1, 2] rfl)
    · refine lv_aload_n hx hb dX3_go_35 rfl (lv_at hl 2 rfl) ?_
      refine va_get (D := (dC, dI)) (ci := 3) (v := .int 1) (C := RX3) (T := TX3) (N := 10) hx hb hts (by decide +kernel) hown hK hP 0 rfl rfl 0 (by decide) (hts (.fieldLink RX3 7 "PieceWaysModel" "thrownCode" "I") (by decide +kernel)) (fun _ h9 => h9) rfl dX3_go_36 ?_
      refine lv_if_ne (tgt := 140) hx hb dX3_go_39 (by decide) (fun d4 => ?_) (fun d4 => ?_)
      · exact hd140 ls (lv_sub hl [1, 2] rfl)
      · exact absurd d4 (by decide)
  have cpy : ce_P P ≤ B.length → ∀ (f : Nat → Int32), im_k f (go_R B U P) → ∀ (n k : Nat) (g : Nat → Int32) (H : Heap) (locs : List Loc) (ls : Array Slot), n + k = (go_R B U P).length → im_k g ((go_R B U P).take k) → va_P (dC, dI) vwCl [(md, .inr (3, [.int 0, .ref a1, .int (nI B.length), .ref a2, .int (nI T.length), .ref a3, .int (nI (rw_R U P).length), .ref a4, .int (nI Z.length), .ref a5])), (a1, .inl (cI, 600, .inl eb)), (a3, .inl (cI, 2000, .inl eo)), (a4, .inl (cI, 600, .inl g)), (a5, .inl (cI, 600, .inl f))] H → va_D A [(md, .inr (3, [.int 0, .ref a1, .int (nI B.length), .ref a2, .int (nI T.length), .ref a3, .int (nI (rw_R U P).length), .ref a4, .int (nI Z.length), .ref a5])), (a1, .inl (cI, 600, .inl eb)), (a3, .inl (cI, 2000, .inl eo)), (a4, .inl (cI, 600, .inl g)), (a5, .inl (cI, 600, .inl f))] → va_S A s.heap H locs → lv_has ls 5 [(2, .int (nI k)), (1, .int (nI (go_R B U P).length)), (0, .ref md)] → W p l e ({ frames := 2, cells := 0, slots := 0, locals := 42 } : Room) s m ([.ref md] : List Value).toArray below meth c H locs 0 0 (MQ below (va_Qi (fun (r : Int32) (z : (Nat → Int32) × (Nat → Int32)) => r = (if ce_P P ≤ B.length then nI (go_R B U P).length else 0) ∧ im_k z.1 (if ce_P P ≤ B.length then go_R B U P else Z)) (fun u t => va_P (dC, dI) vwCl ((fun z : (Nat → Int32) × (Nat → Int32) => [(md, .inr (3, [.int (if ce_P P ≤ B.length then 0 else 1), .ref a1, .int (nI B.length), .ref a2, .int (nI T.length), .ref a3, .int (nI (rw_R U P).length), .ref a4, .int (nI (if ce_P P ≤ B.length then go_R B U P else Z).length), .ref a5])), (a1, .inl (cI, 600, .inl eb)), (a3, .inl (cI, 2000, .inl eo)), (a4, .inl (cI, 600, .inl (z.1))), (a5, .inl (cI, 600, .inl (z.2)))]) u) t.heap ∧ va_D A ((fun z : (Nat → Int32) × (Nat → Int32) => [(md, .inr (3, [.int (if ce_P P ≤ B.length then 0 else 1), .ref a1, .int (nI B.length), .ref a2, .int (nI T.length), .ref a3, .int (nI (rw_R U P).length), .ref a4, .int (nI (if ce_P P ≤ B.length then go_R B U P else Z).length), .ref a5])), (a1, .inl (cI, 600, .inl eb)), (a3, .inl (cI, 2000, .inl eo)), (a4, .inl (cI, 600, .inl (z.1))), (a5, .inl (cI, 600, .inl (z.2)))]) u)) A) ([.ref md] : List Value).toArray s 0 0 A) (F0 m 160 ls []) := by
    intro n1 f hf n
    induction n with
    | zero =>
      intro k g H locs ls hkn hg hP hD hS hl
      have hk2 : (go_R B U P).take k = go_R B U P := List.take_of_length_le (by omega)
      rw [hk2] at hg
      refine lv_iload_n hx hb dX3_go_160 rfl (lv_at hl 0 rfl) ?_
      refine lv_iload_n hx hb dX3_go_161 rfl (lv_at hl 1 rfl) ?_
      refine lv_icmp_ge (tgt := 183) hx hb dX3_go_162 (by decide) (fun d1 => ?_) (fun d1 => ?_)
      · refine lv_aload_n hx hb dX3_go_183 rfl (lv_at hl 2 rfl) ?_
        refine lv_iload_n hx hb dX3_go_184 rfl (lv_at hl 1 rfl) ?_
        refine va_put (D := (dC, dI)) (ci := 3) (v := .int (nI (go_R B U P).length)) (ty := .int) (C := RX3) (T := TX3) (N := 10) hx hb hts (by decide +kernel) tyX3 tyX3_ok nmX3 hown hK hP hD hS 0 rfl rfl 8 (by decide) (hts (.fieldLink RX3 35 "PieceWaysModel" "results" "I") (by decide +kernel)) (fun _ h9 => h9) rfl (by decide +kernel) rfl rfl (Nat.le_of_ble_eq_true rfl) dX3_go_185 (fun H locs hP hD hS => ?_)
        have hP : va_P (dC, dI) vwCl [(md, .inr (3, [.int 0, .ref a1, .int (nI B.length), .ref a2, .int (nI T.length), .ref a3, .int (nI (rw_R U P).length), .ref a4, .int (nI (go_R B U P).length), .ref a5])), (a1, .inl (cI, 600, .inl eb)), (a3, .inl (cI, 2000, .inl eo)), (a4, .inl (cI, 600, .inl g)), (a5, .inl (cI, 600, .inl f))] H := hP
        have hD : va_D A [(md, .inr (3, [.int 0, .ref a1, .int (nI B.length), .ref a2, .int (nI T.length), .ref a3, .int (nI (rw_R U P).length), .ref a4, .int (nI (go_R B U P).length), .ref a5])), (a1, .inl (cI, 600, .inl eb)), (a3, .inl (cI, 2000, .inl eo)), (a4, .inl (cI, 600, .inl g)), (a5, .inl (cI, 600, .inl f))] := hD
        refine lv_iload_n hx hb dX3_go_188 rfl (lv_at hl 1 rfl) ?_
        refine wi_iret hx hb hr hlk (g, f) ⟨by rw [if_pos n1], by rw [if_pos n1]; exact hg⟩ ?_ ?_ hS dX3_go_189
        · show va_P (dC, dI) vwCl [(md, .inr (3, [.int (if ce_P P ≤ B.length then 0 else 1), .ref a1, .int (nI B.length), .ref a2, .int (nI T.length), .ref a3, .int (nI (rw_R U P).length), .ref a4, .int (nI (if ce_P P ≤ B.length then go_R B U P else Z).length), .ref a5])), (a1, .inl (cI, 600, .inl eb)), (a3, .inl (cI, 2000, .inl eo)), (a4, .inl (cI, 600, .inl (g))), (a5, .inl (cI, 600, .inl (f)))] _
          rw [if_pos n1, if_pos n1]; exact hP
        · show va_D A [(md, .inr (3, [.int (if ce_P P ≤ B.length then 0 else 1), .ref a1, .int (nI B.length), .ref a2, .int (nI T.length), .ref a3, .int (nI (rw_R U P).length), .ref a4, .int (nI (if ce_P P ≤ B.length then go_R B U P else Z).length), .ref a5])), (a1, .inl (cI, 600, .inl eb)), (a3, .inl (cI, 2000, .inl eo)), (a4, .inl (cI, 600, .inl (g))), (a5, .inl (cI, 600, .inl (f)))]
          rw [if_pos n1, if_pos n1]; exact hD
      · exact absurd (nI_le (by omega) (by omega)) d1
    | succ n ih =>
      intro k g H locs ls hkn hg hP hD hS hl
      obtain ⟨y, hy⟩ : ∃ y, (go_R B U P)[k]? = some y := ⟨_, List.getElem?_eq_getElem (by omega)⟩
      refine lv_iload_n hx hb dX3_go_160 rfl (lv_at hl 0 rfl) ?_
      refine lv_iload_n hx hb dX3_go_161 rfl (lv_at hl 1 rfl) ?_
      refine lv_icmp_ge (tgt := 183) hx hb dX3_go_162 (by decide) (fun d1 => ?_) (fun d1 => ?_)
      · exact absurd d1 (nI_ge (by omega) (by omega))
      · refine lv_aload_n hx hb dX3_go_165 rfl (lv_at hl 2 rfl) ?_
        refine va_get (D := (dC, dI)) (ci := 3) (v := .ref a4) (C := RX3) (T := TX3) (N := 10) hx hb hts (by decide +kernel) hown hK hP 0 rfl rfl 7 (by decide) (hts (.fieldLink RX3 32 "PieceWaysModel" "result" "[I") (by decide +kernel)) (fun _ h9 => h9) rfl dX3_go_166 ?_
        refine lv_iload_n hx hb dX3_go_169 rfl (lv_at hl 0 rfl) ?_
        refine lv_aload_n hx hb dX3_go_170 rfl (lv_at hl 2 rfl) ?_
        refine va_get (D := (dC, dI)) (ci := 3) (v := .ref a5) (C := RX3) (T := TX3) (N := 10) hx hb hts (by decide +kernel) hown hK hP 0 rfl rfl 9 (by decide) (hts (.fieldLink RX3 38 "PieceWaysModel" "next" "[I") (by decide +kernel)) (fun _ h9 => h9) rfl dX3_go_171 ?_
        refine lv_iload_n hx hb dX3_go_174 rfl (lv_at hl 0 rfl) ?_
        refine va_iald hx hb hK hP 4 1 rfl rfl (vp_in_nI (by omega) (by omega)) dX3_go_175 ?_
        rw [nI_clamp (by omega), hf k _ hy]
        refine va_iast hx hb hK hP hD hS 3 1 rfl rfl (vp_in_nI (by omega) (by omega)) dX3_go_176 (fun H locs hP hD hS => ?_)
        have hP : va_P (dC, dI) vwCl [(md, .inr (3, [.int 0, .ref a1, .int (nI B.length), .ref a2, .int (nI T.length), .ref a3, .int (nI (rw_R U P).length), .ref a4, .int (nI Z.length), .ref a5])), (a1, .inl (cI, 600, .inl eb)), (a3, .inl (cI, 2000, .inl eo)), (a4, .inl (cI, 600, .inl (upd g (nI k).toNatClampNeg y))), (a5, .inl (cI, 600, .inl f))] H := hP
        have hD : va_D A [(md, .inr (3, [.int 0, .ref a1, .int (nI B.length), .ref a2, .int (nI T.length), .ref a3, .int (nI (rw_R U P).length), .ref a4, .int (nI Z.length), .ref a5])), (a1, .inl (cI, 600, .inl eb)), (a3, .inl (cI, 2000, .inl eo)), (a4, .inl (cI, 600, .inl (upd g (nI k).toNatClampNeg y))), (a5, .inl (cI, 600, .inl f))] := hD
        rw [nI_clamp (by omega)] at hP hD
        have hlk2 : ((go_R B U P).take k).length = k := by rw [List.length_take]; omega
        have hg2 : im_k (upd g k y) ((go_R B U P).take (k + 1)) := by have h9 := im_add hg y; rw [hlk2] at h9; rw [List.take_succ, hy]; exact h9
        refine lv_iinc (v := ((nI k) + 1)) (lv' := [(2, .int ((nI k) + 1)), (1, .int (nI (go_R B U P).length)), (0, .ref md)]) hx hb dX3_go_177 hl (k := 0) rfl rfl (by decide) rfl (fun ls hl => ?_)
        refine lv_goto (tgt := 160) hx hb dX3_go_180 (by decide) ?_
        have h9 : lv_has ls 5 [(2, .int (nI k + 1)), (1, .int (nI (go_R B U P).length)), (0, .ref md)] := lv_sub hl [0, 1, 2] rfl
        rw [nI_1] at h9
        exact ih (k + 1) (upd g k y) H locs ls (by omega) hg2 hP hD hS h9
  have loop : ∀ (n j : Nat) (f : Nat → Int32) (H : Heap) (locs : List Loc) (ls : Array Slot), n + j = P.length → (∀ t ∈ P.take j, t.1 = 1 → t.2.1 + t.2.2 ≤ B.length) → im_k f (go_R B U (P.take j)) → va_P (dC, dI) vwCl [(md, .inr (3, [.int 0, .ref a1, .int (nI B.length), .ref a2, .int (nI T.length), .ref a3, .int (nI (rw_R U P).length), .ref a4, .int (nI Z.length), .ref a5])), (a1, .inl (cI, 600, .inl eb)), (a3, .inl (cI, 2000, .inl eo)), (a4, .inl (cI, 600, .inl er)), (a5, .inl (cI, 600, .inl f))] H → va_D A [(md, .inr (3, [.int 0, .ref a1, .int (nI B.length), .ref a2, .int (nI T.length), .ref a3, .int (nI (rw_R U P).length), .ref a4, .int (nI Z.length), .ref a5])), (a1, .inl (cI, 600, .inl eb)), (a3, .inl (cI, 2000, .inl eo)), (a4, .inl (cI, 600, .inl er)), (a5, .inl (cI, 600, .inl f))] → va_S A s.heap H locs → lv_has ls 5 [(2, .int (nI (rw_R U (P.take j)).length)), (1, .int (nI (go_R B U (P.take j)).length)), (0, .ref md)] → W p l e ({ frames := 2, cells := 0, slots := 0, locals := 42 } : Room) s m ([.ref md] : List Value).toArray below meth c H locs 0 0 (MQ below (va_Qi (fun (r : Int32) (z : (Nat → Int32) × (Nat → Int32)) => r = (if ce_P P ≤ B.length then nI (go_R B U P).length else 0) ∧ im_k z.1 (if ce_P P ≤ B.length then go_R B U P else Z)) (fun u t => va_P (dC, dI) vwCl ((fun z : (Nat → Int32) × (Nat → Int32) => [(md, .inr (3, [.int (if ce_P P ≤ B.length then 0 else 1), .ref a1, .int (nI B.length), .ref a2, .int (nI T.length), .ref a3, .int (nI (rw_R U P).length), .ref a4, .int (nI (if ce_P P ≤ B.length then go_R B U P else Z).length), .ref a5])), (a1, .inl (cI, 600, .inl eb)), (a3, .inl (cI, 2000, .inl eo)), (a4, .inl (cI, 600, .inl (z.1))), (a5, .inl (cI, 600, .inl (z.2)))]) u) t.heap ∧ va_D A ((fun z : (Nat → Int32) × (Nat → Int32) => [(md, .inr (3, [.int (if ce_P P ≤ B.length then 0 else 1), .ref a1, .int (nI B.length), .ref a2, .int (nI T.length), .ref a3, .int (nI (rw_R U P).length), .ref a4, .int (nI (if ce_P P ≤ B.length then go_R B U P else Z).length), .ref a5])), (a1, .inl (cI, 600, .inl eb)), (a3, .inl (cI, 2000, .inl eo)), (a4, .inl (cI, 600, .inl (z.1))), (a5, .inl (cI, 600, .inl (z.2)))]) u)) A) ([.ref md] : List Value).toArray s 0 0 A) (F0 m 9 ls []) := by
    intro n
    induction n with
    | zero =>
      intro j f H locs ls hj hce hf hP hD hS hl
      have hj2 : P.take j = P := List.take_of_length_le (by omega)
      rw [hj2] at hce hf hl
      have n1 : ce_P P ≤ B.length := ce_le P 0 _ (by omega) hce
      refine lv_iload_n hx hb dX3_go_9 rfl (lv_at hl 0 rfl) ?_
      refine lv_aload_n hx hb dX3_go_10 rfl (lv_at hl 2 rfl) ?_
      refine va_get (D := (dC, dI)) (ci := 3) (v := .int (nI (rw_R U P).length)) (C := RX3) (T := TX3) (N := 10) hx hb hts (by decide +kernel) hown hK hP 0 rfl rfl 6 (by decide) (hts (.fieldLink RX3 29 "PieceWaysModel" "size" "I") (by decide +kernel)) (fun _ h9 => h9) rfl dX3_go_11 ?_
      refine lv_icmp_ge (tgt := 149) hx hb dX3_go_14 (by decide) (fun d1 => ?_) (fun d1 => ?_)
      · refine lv_aload_n hx hb dX3_go_149 rfl (lv_at hl 2 rfl) ?_
        refine va_get (D := (dC, dI)) (ci := 3) (v := .int 0) (C := RX3) (T := TX3) (N := 10) hx hb hts (by decide +kernel) hown hK hP 0 rfl rfl 0 (by decide) (hts (.fieldLink RX3 7 "PieceWaysModel" "thrownCode" "I") (by decide +kernel)) (fun _ h9 => h9) rfl dX3_go_150 ?_
        refine lv_if_eq (tgt := 158) hx hb dX3_go_153 (by decide) (fun d2 => ?_) (fun d2 => ?_)
        · refine lv_iconst (v := 0) hx hb dX3_go_158 (by decide) ?_
          refine lv_istore_n (lv' := [(2, .int 0), (1, .int (nI (go_R B U P).length)), (0, .ref md)]) hx hb dX3_go_159 rfl hl (by decide) rfl (fun ls hl => ?_)
          exact cpy n1 f hf (go_R B U P).length 0 er H locs ls (by omega) (by rw [List.take_zero]; exact im_nil _) hP hD hS (lv_sub hl [0, 1, 2] rfl)
        · exact absurd rfl d2
      · exact absurd (nI_le (Nat.le_refl _) (by omega)) d1
    | succ n ih =>
      intro j f H locs ls hj hce hf hP hD hS hl
      obtain ⟨t, ht⟩ : ∃ t, P[j]? = some t := ⟨_, List.getElem?_eq_getElem (by omega)⟩
      have htm := List.mem_of_getElem? ht
      have h16 := pk_1 hk htm
      have hg := hk.2.2.1 t htm
      have hlt := rl_lt (T := U) ht h16.1 h16.2
      have hpa := pa_of (T := U) ht h16.1 h16.2
      have hs1 := sm_take P (j + 1)
      rw [sm_tk ht] at hs1
      have hs2 := go_len B U (P.take j)
      have hstep := rl_step (T := U) ht hg
      have inner : ∀ (i k : Nat) (g : Nat → Int32) (H : Heap) (locs : List Loc) (ls : Array Slot), i + k = t.2.2 → (t.1 = 1 → 0 < k → t.2.1 + k ≤ B.length) → im_k g (go_R B U (P.take j) ++ ((if t.1 = 1 then B else U).drop t.2.1).take k) → va_P (dC, dI) vwCl [(md, .inr (3, [.int 0, .ref a1, .int (nI B.length), .ref a2, .int (nI T.length), .ref a3, .int (nI (rw_R U P).length), .ref a4, .int (nI Z.length), .ref a5])), (a1, .inl (cI, 600, .inl eb)), (a3, .inl (cI, 2000, .inl eo)), (a4, .inl (cI, 600, .inl er)), (a5, .inl (cI, 600, .inl g))] H → va_D A [(md, .inr (3, [.int 0, .ref a1, .int (nI B.length), .ref a2, .int (nI T.length), .ref a3, .int (nI (rw_R U P).length), .ref a4, .int (nI Z.length), .ref a5])), (a1, .inl (cI, 600, .inl eb)), (a3, .inl (cI, 2000, .inl eo)), (a4, .inl (cI, 600, .inl er)), (a5, .inl (cI, 600, .inl g))] → va_S A s.heap H locs → lv_has ls 5 [(3, .int (nI k)), (2, .int (nI (rw_R U (P.take j)).length)), (1, .int (nI (go_R B U (P.take j) ++ ((if t.1 = 1 then B else U).drop t.2.1).take k).length)), (0, .ref md)] → W p l e ({ frames := 2, cells := 0, slots := 0, locals := 42 } : Room) s m ([.ref md] : List Value).toArray below meth c H locs 0 0 (MQ below (va_Qi (fun (r : Int32) (z : (Nat → Int32) × (Nat → Int32)) => r = (if ce_P P ≤ B.length then nI (go_R B U P).length else 0) ∧ im_k z.1 (if ce_P P ≤ B.length then go_R B U P else Z)) (fun u t => va_P (dC, dI) vwCl ((fun z : (Nat → Int32) × (Nat → Int32) => [(md, .inr (3, [.int (if ce_P P ≤ B.length then 0 else 1), .ref a1, .int (nI B.length), .ref a2, .int (nI T.length), .ref a3, .int (nI (rw_R U P).length), .ref a4, .int (nI (if ce_P P ≤ B.length then go_R B U P else Z).length), .ref a5])), (a1, .inl (cI, 600, .inl eb)), (a3, .inl (cI, 2000, .inl eo)), (a4, .inl (cI, 600, .inl (z.1))), (a5, .inl (cI, 600, .inl (z.2)))]) u) t.heap ∧ va_D A ((fun z : (Nat → Int32) × (Nat → Int32) => [(md, .inr (3, [.int (if ce_P P ≤ B.length then 0 else 1), .ref a1, .int (nI B.length), .ref a2, .int (nI T.length), .ref a3, .int (nI (rw_R U P).length), .ref a4, .int (nI (if ce_P P ≤ B.length then go_R B U P else Z).length), .ref a5])), (a1, .inl (cI, 600, .inl eb)), (a3, .inl (cI, 2000, .inl eo)), (a4, .inl (cI, 600, .inl (z.1))), (a5, .inl (cI, 600, .inl (z.2)))]) u)) A) ([.ref md] : List Value).toArray s 0 0 A) (F0 m 26 ls []) := by
        intro i
        induction i with
        | zero =>
          intro k g H locs ls hik hkB hgk hP hD hS hl
          have hik : k = t.2.2 := by omega
          subst hik
          have e5 : go_R B U (P.take j) ++ ((if t.1 = 1 then B else U).drop t.2.1).take t.2.2 = go_R B U (P.take (j + 1)) := by rw [go_take ht]; rfl
          rw [e5] at hgk hl
          refine lv_iload_n hx hb dX3_go_26 rfl (lv_at hl 0 rfl) ?_
          refine lv_aload_n hx hb dX3_go_27 rfl (lv_at hl 3 rfl) ?_
          refine lv_iload_n hx hb dX3_go_28 rfl (lv_at hl 1 rfl) ?_
          refine rd_V (wc := [(md, .inr (3, [.int 0, .ref a1, .int (nI B.length), .ref a2, .int (nI T.length), .ref a3, .int (nI (rw_R U P).length), .ref a4, .int (nI Z.length), .ref a5])), (a3, .inl (cI, 2000, .inl eo))]) (As := [.int (nI (rw_R U (P.take j)).length)]) (rest := [.int (nI t.2.2)]) ⟨hx, hb, hml, hown, hts⟩ (c_Md_many l dC dI cB cI cL md a1 a2 a3 a4 a5 B T (rw_R U P) Z 0 eo (rw_R U (P.take j)).length t hOl ho (by omega) h16.2 hpa) (cwV 1 hts gX3_go_X3_many rfl rfl rfl (by decide +kernel) ⟨(Nat.le_of_ble_eq_true rfl), (Nat.le_of_ble_eq_true rfl)⟩) hK hN (sb_P hP [0, 2] rfl) 0 rfl rfl rfl rfl hl.1 rfl (Nat.le_of_ble_eq_true rfl) dX3_go_29 ⟨(Nat.le_of_ble_eq_true rfl), (Nat.le_of_ble_eq_true rfl)⟩ ?_
          refine lv_icmp_ge (tgt := 140) hx hb dX3_go_32 (by decide) (fun d1 => ?_) (fun d1 => ?_)
          · refine lv_aload_n hx hb dX3_go_140 rfl (lv_at hl 3 rfl) ?_
            refine lv_iload_n hx hb dX3_go_141 rfl (lv_at hl 1 rfl) ?_
            refine rd_V (wc := [(md, .inr (3, [.int 0, .ref a1, .int (nI B.length), .ref a2, .int (nI T.length), .ref a3, .int (nI (rw_R U P).length), .ref a4, .int (nI Z.length), .ref a5])), (a3, .inl (cI, 2000, .inl eo))]) (As := [.int (nI (rw_R U (P.take j)).length)]) (rest := []) ⟨hx, hb, hml, hown, hts⟩ (c_Md_behind l dC dI cB cI cL md a1 a2 a3 a4 a5 B T (rw_R U P) Z 0 eo (rw_R U (P.take j)).length t hOl ho (by omega) h16.2 hpa) (cwV 1 hts gX3_go_X3_behind rfl rfl rfl (by decide +kernel) ⟨(Nat.le_of_ble_eq_true rfl), (Nat.le_of_ble_eq_true rfl)⟩) hK hN (sb_P hP [0, 2] rfl) 0 rfl rfl rfl rfl hl.1 rfl (Nat.le_of_ble_eq_true rfl) dX3_go_142 ⟨(Nat.le_of_ble_eq_true rfl), (Nat.le_of_ble_eq_true rfl)⟩ ?_
            rw [← hstep]
            refine lv_istore_n (lv' := [(2, .int (nI (rw_R U (P.take (j + 1))).length)), (3, .int (nI t.2.2)), (1, .int (nI (go_R B U (P.take (j + 1))).length)), (0, .ref md)]) hx hb dX3_go_145 rfl hl (by decide) rfl (fun ls hl => ?_)
            refine lv_goto (tgt := 9) hx hb dX3_go_146 (by decide) ?_
            refine ih (j + 1) g H locs ls (by omega) ?_ hgk hP hD hS (lv_sub hl [0, 2, 3] rfl)
            intro z hz h1
            rw [List.take_succ, ht] at hz
            rcases List.mem_append.mp hz with h9 | h9
            · exact hce z h9 h1
            · have h9 : z = t := by simpa using h9
              subst h9; exact hkB h1 (by rcases hg with h8 | h8 <;> omega)
          · exact absurd (nI_le (Nat.le_refl _) (by omega)) d1
        | succ i jh =>
          intro k g H locs ls hik hkB hgk hP hD hS hl
          have hlenk : (((if t.1 = 1 then B else U).drop t.2.1).take k).length ≤ k := by rw [List.length_take]; omega
          refine lv_iload_n hx hb dX3_go_26 rfl (lv_at hl 0 rfl) ?_
          refine lv_aload_n hx hb dX3_go_27 rfl (lv_at hl 3 rfl) ?_
          refine lv_iload_n hx hb dX3_go_28 rfl (lv_at hl 1 rfl) ?_
          refine rd_V (wc := [(md, .inr (3, [.int 0, .ref a1, .int (nI B.length), .ref a2, .int (nI T.length), .ref a3, .int (nI (rw_R U P).length), .ref a4, .int (nI Z.length), .ref a5])), (a3, .inl (cI, 2000, .inl eo))]) (As := [.int (nI (rw_R U (P.take j)).length)]) (rest := [.int (nI k)]) ⟨hx, hb, hml, hown, hts⟩ (c_Md_many l dC dI cB cI cL md a1 a2 a3 a4 a5 B T (rw_R U P) Z 0 eo (rw_R U (P.take j)).length t hOl ho (by omega) h16.2 hpa) (cwV 1 hts gX3_go_X3_many rfl rfl rfl (by decide +kernel) ⟨(Nat.le_of_ble_eq_true rfl), (Nat.le_of_ble_eq_true rfl)⟩) hK hN (sb_P hP [0, 2] rfl) 0 rfl rfl rfl rfl hl.1 rfl (Nat.le_of_ble_eq_true rfl) dX3_go_29 ⟨(Nat.le_of_ble_eq_true rfl), (Nat.le_of_ble_eq_true rfl)⟩ ?_
          refine lv_icmp_ge (tgt := 140) hx hb dX3_go_32 (by decide) (fun d1 => ?_) (fun d1 => ?_)
          · exact absurd d1 (nI_ge (by omega) (by omega))
          · refine lv_aload_n hx hb dX3_go_35 rfl (lv_at hl 3 rfl) ?_
            refine va_get (D := (dC, dI)) (ci := 3) (v := .int 0) (C := RX3) (T := TX3) (N := 10) hx hb hts (by decide +kernel) hown hK hP 0 rfl rfl 0 (by decide) (hts (.fieldLink RX3 7 "PieceWaysModel" "thrownCode" "I") (by decide +kernel)) (fun _ h9 => h9) rfl dX3_go_36 ?_
            refine lv_if_ne (tgt := 140) hx hb dX3_go_39 (by decide) (fun d2 => ?_) (fun d2 => ?_)
            · exact absurd rfl d2
            · refine lv_aload_n hx hb dX3_go_42 rfl (lv_at hl 3 rfl) ?_
              refine va_get (D := (dC, dI)) (ci := 3) (v := .ref a3) (C := RX3) (T := TX3) (N := 10) hx hb hts (by decide +kernel) hown hK hP 0 rfl rfl 5 (by decide) (hts (.fieldLink RX3 26 "PieceWaysModel" "row" "[I") (by decide +kernel)) (fun _ h9 => h9) rfl dX3_go_43 ?_
              refine lv_iload_n hx hb dX3_go_46 rfl (lv_at hl 1 rfl) ?_
              refine va_iald hx hb hK hP 2 1 rfl rfl (vp_in_nI (by omega) (by omega)) dX3_go_47 ?_
              rw [nI_clamp (by omega), ho _ _ hpa.1]
              refine lv_iconst (v := 1) hx hb dX3_go_48 (by decide) ?_
              refine lv_icmp_ne (tgt := 64) hx hb dX3_go_49 (by decide) (fun d3 => ?_) (fun d3 => ?_)
              · have k1 : ¬ t.1 = 1 := fun h9 => d3 (by rw [h9]; rfl)
                have k2 : t.1 = 2 := by omega
                have hg2 : t.2.1 + t.2.2 ≤ U.length := by rcases hg with h9 | h9; exact absurd h9.1 k1; exact h9.2.2
                obtain ⟨y, hy⟩ : ∃ y, U[t.2.1 + k]? = some y := ⟨_, List.getElem?_eq_getElem (by omega)⟩
                have hpb := pa_byte (T := U) (k := k) ht k2 h16.2 (by omega) hg2
                rw [hy, ← Nat.add_assoc] at hpb
                have hpbl := (List.getElem?_eq_some_iff.mp hpb).1
                have hys : (if t.1 = 1 then B else U)[t.2.1 + k]? = some y := by rw [if_neg k1]; exact hy
                refine lv_iload_n hx hb dX3_go_64 rfl (lv_at hl 1 rfl) ?_
                refine lv_iconst (v := 3) hx hb dX3_go_65 (by decide) ?_
                refine lv_iadd hx hb dX3_go_66 ?_
                refine lv_iload_n hx hb dX3_go_67 rfl (lv_at hl 0 rfl) ?_
                refine lv_iadd hx hb dX3_go_68 ?_
                rw [show (3 : Int32) = nI 3 from rfl, nI_add (rw_R U (P.take j)).length 3, nI_add ((rw_R U (P.take j)).length + 3) k]
                refine lv_istore (lv' := [(4, .int (nI ((rw_R U (P.take j)).length + 3 + k))), (3, .int (nI k)), (2, .int (nI (rw_R U (P.take j)).length)), (1, .int (nI (go_R B U (P.take j) ++ ((if t.1 = 1 then B else U).drop t.2.1).take k).length)), (0, .ref md)]) hx hb dX3_go_69 hl (by decide) rfl (fun ls hl => ?_)
                refine lv_aload_n hx hb dX3_go_71 rfl (lv_at hl 4 rfl) ?_
                refine va_get (D := (dC, dI)) (ci := 3) (v := .ref a3) (C := RX3) (T := TX3) (N := 10) hx hb hts (by decide +kernel) hown hK hP 0 rfl rfl 5 (by decide) (hts (.fieldLink RX3 26 "PieceWaysModel" "row" "[I") (by decide +kernel)) (fun _ h9 => h9) rfl dX3_go_72 ?_
                refine lv_iload_n hx hb dX3_go_75 rfl (lv_at hl 2 rfl) ?_
                refine va_iald hx hb hK hP 2 1 rfl rfl (vp_in_nI (by omega) (by omega)) dX3_go_76 ?_
                rw [nI_clamp (by omega), ho _ _ hpa.1]
                refine lv_iconst (v := 1) hx hb dX3_go_77 (by decide) ?_
                refine lv_icmp_ne (tgt := 98) hx hb dX3_go_78 (by decide) (fun d4 => ?_) (fun d4 => ?_)
                · refine lv_aload_n hx hb dX3_go_98 rfl (lv_at hl 4 rfl) ?_
                  refine va_get (D := (dC, dI)) (ci := 3) (v := .ref a5) (C := RX3) (T := TX3) (N := 10) hx hb hts (by decide +kernel) hown hK hP 0 rfl rfl 9 (by decide) (hts (.fieldLink RX3 38 "PieceWaysModel" "next" "[I") (by decide +kernel)) (fun _ h9 => h9) rfl dX3_go_99 ?_
                  refine lv_iload_n hx hb dX3_go_102 rfl (lv_at hl 3 rfl) ?_
                  refine lv_aload_n hx hb dX3_go_103 rfl (lv_at hl 4 rfl) ?_
                  refine va_get (D := (dC, dI)) (ci := 3) (v := .ref a3) (C := RX3) (T := TX3) (N := 10) hx hb hts (by decide +kernel) hown hK hP 0 rfl rfl 5 (by decide) (hts (.fieldLink RX3 26 "PieceWaysModel" "row" "[I") (by decide +kernel)) (fun _ h9 => h9) rfl dX3_go_104 ?_
                  refine lv_iload_n hx hb dX3_go_107 rfl (lv_at hl 2 rfl) ?_
                  refine va_iald hx hb hK hP 2 1 rfl rfl (vp_in_nI (by omega) (by omega)) dX3_go_108 ?_
                  rw [nI_clamp (by omega), ho _ _ hpa.1]
                  refine lv_iconst (v := 1) hx hb dX3_go_109 (by decide) ?_
                  refine lv_icmp_ne (tgt := 123) hx hb dX3_go_110 (by decide) (fun d5 => ?_) (fun d5 => ?_)
                  · refine lv_aload_n hx hb dX3_go_123 rfl (lv_at hl 4 rfl) ?_
                    refine va_get (D := (dC, dI)) (ci := 3) (v := .ref a3) (C := RX3) (T := TX3) (N := 10) hx hb hts (by decide +kernel) hown hK hP 0 rfl rfl 5 (by decide) (hts (.fieldLink RX3 26 "PieceWaysModel" "row" "[I") (by decide +kernel)) (fun _ h9 => h9) rfl dX3_go_124 ?_
                    refine lv_iload hx hb dX3_go_127 (lv_at hl 0 rfl) ?_
                    refine va_iald hx hb hK hP 2 1 rfl rfl (vp_in_nI (by omega) (by omega)) dX3_go_129 ?_
                    rw [nI_clamp (by omega), ho _ _ hpb]
                    have hgl2 : (go_R B U (P.take j) ++ ((if t.1 = 1 then B else U).drop t.2.1).take k).length < 600 := by rw [List.length_append]; omega
                    refine va_iast hx hb hK hP hD hS 4 1 rfl rfl (vp_in_nI hgl2 (by omega)) dX3_go_130 (fun H locs hP hD hS => ?_)
                    have hP : va_P (dC, dI) vwCl [(md, .inr (3, [.int 0, .ref a1, .int (nI B.length), .ref a2, .int (nI T.length), .ref a3, .int (nI (rw_R U P).length), .ref a4, .int (nI Z.length), .ref a5])), (a1, .inl (cI, 600, .inl eb)), (a3, .inl (cI, 2000, .inl eo)), (a4, .inl (cI, 600, .inl er)), (a5, .inl (cI, 600, .inl (upd g (nI (go_R B U (P.take j) ++ ((if t.1 = 1 then B else U).drop t.2.1).take k).length).toNatClampNeg y)))] H := hP
                    have hD : va_D A [(md, .inr (3, [.int 0, .ref a1, .int (nI B.length), .ref a2, .int (nI T.length), .ref a3, .int (nI (rw_R U P).length), .ref a4, .int (nI Z.length), .ref a5])), (a1, .inl (cI, 600, .inl eb)), (a3, .inl (cI, 2000, .inl eo)), (a4, .inl (cI, 600, .inl er)), (a5, .inl (cI, 600, .inl (upd g (nI (go_R B U (P.take j) ++ ((if t.1 = 1 then B else U).drop t.2.1).take k).length).toNatClampNeg y)))] := hD
                    rw [nI_clamp (by omega)] at hP hD
                    have e6 : (go_R B U (P.take j) ++ ((if t.1 = 1 then B else U).drop t.2.1).take k) ++ [y] = go_R B U (P.take j) ++ ((if t.1 = 1 then B else U).drop t.2.1).take (k + 1) := by rw [List.append_assoc, ← tk_snoc hys]
                    have hg2 := im_add hgk y
                    have e7 : nI (go_R B U (P.take j) ++ ((if t.1 = 1 then B else U).drop t.2.1).take k).length + 1 = nI (go_R B U (P.take j) ++ ((if t.1 = 1 then B else U).drop t.2.1).take (k + 1)).length := by rw [← e6, List.length_append (bs := [y])]; exact nI_1 _
                    rw [e6] at hg2
                    refine lv_iinc (v := ((nI (go_R B U (P.take j) ++ ((if t.1 = 1 then B else U).drop t.2.1).take k).length) + 1)) (lv' := [(1, .int ((nI (go_R B U (P.take j) ++ ((if t.1 = 1 then B else U).drop t.2.1).take k).length) + 1)), (4, .int (nI ((rw_R U (P.take j)).length + 3 + k))), (3, .int (nI k)), (2, .int (nI (rw_R U (P.take j)).length)), (0, .ref md)]) hx hb dX3_go_131 hl (k := 3) rfl rfl (by decide) rfl (fun ls hl => ?_)
                    refine lv_iinc (v := ((nI k) + 1)) (lv' := [(3, .int ((nI k) + 1)), (1, .int ((nI (go_R B U (P.take j) ++ ((if t.1 = 1 then B else U).drop t.2.1).take k).length) + 1)), (4, .int (nI ((rw_R U (P.take j)).length + 3 + k))), (2, .int (nI (rw_R U (P.take j)).length)), (0, .ref md)]) hx hb dX3_go_134 hl (k := 2) rfl rfl (by decide) rfl (fun ls hl => ?_)
                    refine lv_goto (tgt := 26) hx hb dX3_go_137 (by decide) ?_
                    have h9 : lv_has ls 5 [(3, .int (nI k + 1)), (2, .int (nI (rw_R U (P.take j)).length)), (1, .int (nI (go_R B U (P.take j) ++ ((if t.1 = 1 then B else U).drop t.2.1).take k).length + 1)), (0, .ref md)] := lv_sub hl [0, 3, 1, 4] rfl
                    rw [nI_1 k, e7] at h9
                    exact jh (k + 1) _ H locs ls (by omega) (fun h9 => absurd h9 k1) hg2 hP hD hS h9
                  · exact absurd d5 d3
                · exact absurd d4 d3
              · have k1 : t.1 = 1 := (nI_eq (by omega) (by omega)).mp d3
                refine lv_aload_n hx hb dX3_go_52 rfl (lv_at hl 3 rfl) ?_
                refine lv_iload_n hx hb dX3_go_53 rfl (lv_at hl 1 rfl) ?_
                refine lv_iconst (v := 1) hx hb dX3_go_54 (by decide) ?_
                refine lv_iadd hx hb dX3_go_55 ?_
                rw [nI_1 (rw_R U (P.take j)).length]
                refine rd_V (wc := [(md, .inr (3, [.int 0, .ref a1, .int (nI B.length), .ref a2, .int (nI T.length), .ref a3, .int (nI (rw_R U P).length), .ref a4, .int (nI Z.length), .ref a5])), (a3, .inl (cI, 2000, .inl eo))]) (As := [.int (nI ((rw_R U (P.take j)).length + 1))]) (rest := []) ⟨hx, hb, hml, hown, hts⟩ (c_Md_two l dC dI cB cI cL md a1 a2 a3 a4 a5 B T (rw_R U P) Z 0 eo ((rw_R U (P.take j)).length + 1) t.2.1 hOl ho (hpa.2.1 k1).1.1 (hpa.2.1 k1).1.2) (cwV 1 hts gX3_go_X3_two rfl rfl rfl (by decide +kernel) ⟨(Nat.le_of_ble_eq_true rfl), (Nat.le_of_ble_eq_true rfl)⟩) hK hN (sb_P hP [0, 2] rfl) 0 rfl rfl rfl rfl hl.1 rfl (Nat.le_of_ble_eq_true rfl) dX3_go_56 ⟨(Nat.le_of_ble_eq_true rfl), (Nat.le_of_ble_eq_true rfl)⟩ ?_
                refine lv_iload_n hx hb dX3_go_59 rfl (lv_at hl 0 rfl) ?_
                refine lv_iadd hx hb dX3_go_60 ?_
                refine lv_goto (tgt := 69) hx hb dX3_go_61 (by decide) ?_
                rw [nI_add t.2.1 k]
                refine lv_istore (lv' := [(4, .int (nI (t.2.1 + k))), (3, .int (nI k)), (2, .int (nI (rw_R U (P.take j)).length)), (1, .int (nI (go_R B U (P.take j) ++ ((if t.1 = 1 then B else U).drop t.2.1).take k).length)), (0, .ref md)]) hx hb dX3_go_69 hl (by decide) rfl (fun ls hl => ?_)
                refine lv_aload_n hx hb dX3_go_71 rfl (lv_at hl 4 rfl) ?_
                refine va_get (D := (dC, dI)) (ci := 3) (v := .ref a3) (C := RX3) (T := TX3) (N := 10) hx hb hts (by decide +kernel) hown hK hP 0 rfl rfl 5 (by decide) (hts (.fieldLink RX3 26 "PieceWaysModel" "row" "[I") (by decide +kernel)) (fun _ h9 => h9) rfl dX3_go_72 ?_
                refine lv_iload_n hx hb dX3_go_75 rfl (lv_at hl 2 rfl) ?_
                refine va_iald hx hb hK hP 2 1 rfl rfl (vp_in_nI (by omega) (by omega)) dX3_go_76 ?_
                rw [nI_clamp (by omega), ho _ _ hpa.1]
                refine lv_iconst (v := 1) hx hb dX3_go_77 (by decide) ?_
                refine lv_icmp_ne (tgt := 98) hx hb dX3_go_78 (by decide) (fun d4 => ?_) (fun d4 => ?_)
                · exact absurd d3 d4
                · refine lv_iload hx hb dX3_go_81 (lv_at hl 0 rfl) ?_
                  refine lv_aload_n hx hb dX3_go_83 rfl (lv_at hl 4 rfl) ?_
                  refine va_get (D := (dC, dI)) (ci := 3) (v := .int (nI B.length)) (C := RX3) (T := TX3) (N := 10) hx hb hts (by decide +kernel) hown hK hP 0 rfl rfl 2 (by decide) (hts (.fieldLink RX3 17 "PieceWaysModel" "bases" "I") (by decide +kernel)) (fun _ h9 => h9) rfl dX3_go_84 ?_
                  refine lv_icmp_lt (tgt := 98) hx hb dX3_go_87 (by decide) (fun d5 => ?_) (fun d5 => ?_)
                  · have hbk : t.2.1 + k < B.length := by rcases Nat.lt_or_ge (t.2.1 + k) B.length with h9 | h9; exact h9; exact absurd d5 (nI_nlt h9 (by omega))
                    obtain ⟨y, hy⟩ : ∃ y, B[t.2.1 + k]? = some y := ⟨_, List.getElem?_eq_getElem hbk⟩
                    have hys : (if t.1 = 1 then B else U)[t.2.1 + k]? = some y := by rw [if_pos k1]; exact hy
                    refine lv_aload_n hx hb dX3_go_98 rfl (lv_at hl 4 rfl) ?_
                    refine va_get (D := (dC, dI)) (ci := 3) (v := .ref a5) (C := RX3) (T := TX3) (N := 10) hx hb hts (by decide +kernel) hown hK hP 0 rfl rfl 9 (by decide) (hts (.fieldLink RX3 38 "PieceWaysModel" "next" "[I") (by decide +kernel)) (fun _ h9 => h9) rfl dX3_go_99 ?_
                    refine lv_iload_n hx hb dX3_go_102 rfl (lv_at hl 3 rfl) ?_
                    refine lv_aload_n hx hb dX3_go_103 rfl (lv_at hl 4 rfl) ?_
                    refine va_get (D := (dC, dI)) (ci := 3) (v := .ref a3) (C := RX3) (T := TX3) (N := 10) hx hb hts (by decide +kernel) hown hK hP 0 rfl rfl 5 (by decide) (hts (.fieldLink RX3 26 "PieceWaysModel" "row" "[I") (by decide +kernel)) (fun _ h9 => h9) rfl dX3_go_104 ?_
                    refine lv_iload_n hx hb dX3_go_107 rfl (lv_at hl 2 rfl) ?_
                    refine va_iald hx hb hK hP 2 1 rfl rfl (vp_in_nI (by omega) (by omega)) dX3_go_108 ?_
                    rw [nI_clamp (by omega), ho _ _ hpa.1]
                    refine lv_iconst (v := 1) hx hb dX3_go_109 (by decide) ?_
                    refine lv_icmp_ne (tgt := 123) hx hb dX3_go_110 (by decide) (fun d6 => ?_) (fun d6 => ?_)
                    · exact absurd d3 d6
                    · refine lv_aload_n hx hb dX3_go_113 rfl (lv_at hl 4 rfl) ?_
                      refine va_get (D := (dC, dI)) (ci := 3) (v := .ref a1) (C := RX3) (T := TX3) (N := 10) hx hb hts (by decide +kernel) hown hK hP 0 rfl rfl 1 (by decide) (hts (.fieldLink RX3 13 "PieceWaysModel" "base" "[I") (by decide +kernel)) (fun _ h9 => h9) rfl dX3_go_114 ?_
                      refine lv_iload hx hb dX3_go_117 (lv_at hl 0 rfl) ?_
                      refine va_iald hx hb hK hP 1 1 rfl rfl (vp_in_nI (by omega) (by omega)) dX3_go_119 ?_
                      rw [nI_clamp (by omega), heb _ _ hy]
                      refine lv_goto (tgt := 130) hx hb dX3_go_120 (by decide) ?_
                      have hgl2 : (go_R B U (P.take j) ++ ((if t.1 = 1 then B else U).drop t.2.1).take k).length < 600 := by rw [List.length_append]; omega
                      refine va_iast hx hb hK hP hD hS 4 1 rfl rfl (vp_in_nI hgl2 (by omega)) dX3_go_130 (fun H locs hP hD hS => ?_)
                      have hP : va_P (dC, dI) vwCl [(md, .inr (3, [.int 0, .ref a1, .int (nI B.length), .ref a2, .int (nI T.length), .ref a3, .int (nI (rw_R U P).length), .ref a4, .int (nI Z.length), .ref a5])), (a1, .inl (cI, 600, .inl eb)), (a3, .inl (cI, 2000, .inl eo)), (a4, .inl (cI, 600, .inl er)), (a5, .inl (cI, 600, .inl (upd g (nI (go_R B U (P.take j) ++ ((if t.1 = 1 then B else U).drop t.2.1).take k).length).toNatClampNeg y)))] H := hP
                      have hD : va_D A [(md, .inr (3, [.int 0, .ref a1, .int (nI B.length), .ref a2, .int (nI T.length), .ref a3, .int (nI (rw_R U P).length), .ref a4, .int (nI Z.length), .ref a5])), (a1, .inl (cI, 600, .inl eb)), (a3, .inl (cI, 2000, .inl eo)), (a4, .inl (cI, 600, .inl er)), (a5, .inl (cI, 600, .inl (upd g (nI (go_R B U (P.take j) ++ ((if t.1 = 1 then B else U).drop t.2.1).take k).length).toNatClampNeg y)))] := hD
                      rw [nI_clamp (by omega)] at hP hD
                      have e6 : (go_R B U (P.take j) ++ ((if t.1 = 1 then B else U).drop t.2.1).take k) ++ [y] = go_R B U (P.take j) ++ ((if t.1 = 1 then B else U).drop t.2.1).take (k + 1) := by rw [List.append_assoc, ← tk_snoc hys]
                      have hg2 := im_add hgk y
                      have e7 : nI (go_R B U (P.take j) ++ ((if t.1 = 1 then B else U).drop t.2.1).take k).length + 1 = nI (go_R B U (P.take j) ++ ((if t.1 = 1 then B else U).drop t.2.1).take (k + 1)).length := by rw [← e6, List.length_append (bs := [y])]; exact nI_1 _
                      rw [e6] at hg2
                      refine lv_iinc (v := ((nI (go_R B U (P.take j) ++ ((if t.1 = 1 then B else U).drop t.2.1).take k).length) + 1)) (lv' := [(1, .int ((nI (go_R B U (P.take j) ++ ((if t.1 = 1 then B else U).drop t.2.1).take k).length) + 1)), (4, .int (nI (t.2.1 + k))), (3, .int (nI k)), (2, .int (nI (rw_R U (P.take j)).length)), (0, .ref md)]) hx hb dX3_go_131 hl (k := 3) rfl rfl (by decide) rfl (fun ls hl => ?_)
                      refine lv_iinc (v := ((nI k) + 1)) (lv' := [(3, .int ((nI k) + 1)), (1, .int ((nI (go_R B U (P.take j) ++ ((if t.1 = 1 then B else U).drop t.2.1).take k).length) + 1)), (4, .int (nI (t.2.1 + k))), (2, .int (nI (rw_R U (P.take j)).length)), (0, .ref md)]) hx hb dX3_go_134 hl (k := 2) rfl rfl (by decide) rfl (fun ls hl => ?_)
                      refine lv_goto (tgt := 26) hx hb dX3_go_137 (by decide) ?_
                      have h9 : lv_has ls 5 [(3, .int (nI k + 1)), (2, .int (nI (rw_R U (P.take j)).length)), (1, .int (nI (go_R B U (P.take j) ++ ((if t.1 = 1 then B else U).drop t.2.1).take k).length + 1)), (0, .ref md)] := lv_sub hl [0, 3, 1, 4] rfl
                      rw [nI_1 k, e7] at h9
                      exact jh (k + 1) _ H locs ls (by omega) (fun _ _ => by omega) hg2 hP hD hS h9
                  · have hbk : B.length ≤ t.2.1 + k := by rcases Nat.lt_or_ge (t.2.1 + k) B.length with h9 | h9; exact absurd (nI_lt h9 (by omega)) d5; exact h9
                    have hcm := ce_mem htm k1
                    refine lv_aload_n hx hb dX3_go_90 rfl (lv_at hl 4 rfl) ?_
                    refine lv_iconst (v := 1) hx hb dX3_go_91 (by decide) ?_
                    refine va_put (D := (dC, dI)) (ci := 3) (v := .int 1) (ty := .int) (C := RX3) (T := TX3) (N := 10) hx hb hts (by decide +kernel) tyX3 tyX3_ok nmX3 hown hK hP hD hS 0 rfl rfl 0 (by decide) (hts (.fieldLink RX3 7 "PieceWaysModel" "thrownCode" "I") (by decide +kernel)) (fun _ h9 => h9) rfl (by decide +kernel) rfl rfl (Nat.le_of_ble_eq_true rfl) dX3_go_92 (fun H locs hP hD hS => ?_)
                    have hP : va_P (dC, dI) vwCl [(md, .inr (3, [.int 1, .ref a1, .int (nI B.length), .ref a2, .int (nI T.length), .ref a3, .int (nI (rw_R U P).length), .ref a4, .int (nI Z.length), .ref a5])), (a1, .inl (cI, 600, .inl eb)), (a3, .inl (cI, 2000, .inl eo)), (a4, .inl (cI, 600, .inl er)), (a5, .inl (cI, 600, .inl g))] H := hP
                    have hD : va_D A [(md, .inr (3, [.int 1, .ref a1, .int (nI B.length), .ref a2, .int (nI T.length), .ref a3, .int (nI (rw_R U P).length), .ref a4, .int (nI Z.length), .ref a5])), (a1, .inl (cI, 600, .inl eb)), (a3, .inl (cI, 2000, .inl eo)), (a4, .inl (cI, 600, .inl er)), (a5, .inl (cI, 600, .inl g))] := hD
                    refine lv_goto (tgt := 134) hx hb dX3_go_95 (by decide) ?_
                    exact thr (by omega) j k t g H locs ls ht hP hD hS (lv_sub hl [1, 2, 4] rfl)
      refine lv_iload_n hx hb dX3_go_9 rfl (lv_at hl 0 rfl) ?_
      refine lv_aload_n hx hb dX3_go_10 rfl (lv_at hl 2 rfl) ?_
      refine va_get (D := (dC, dI)) (ci := 3) (v := .int (nI (rw_R U P).length)) (C := RX3) (T := TX3) (N := 10) hx hb hts (by decide +kernel) hown hK hP 0 rfl rfl 6 (by decide) (hts (.fieldLink RX3 29 "PieceWaysModel" "size" "I") (by decide +kernel)) (fun _ h9 => h9) rfl dX3_go_11 ?_
      refine lv_icmp_ge (tgt := 149) hx hb dX3_go_14 (by decide) (fun d1 => ?_) (fun d1 => ?_)
      · exact absurd d1 (nI_ge hlt (by omega))
      · refine lv_aload_n hx hb dX3_go_17 rfl (lv_at hl 2 rfl) ?_
        refine va_get (D := (dC, dI)) (ci := 3) (v := .int 0) (C := RX3) (T := TX3) (N := 10) hx hb hts (by decide +kernel) hown hK hP 0 rfl rfl 0 (by decide) (hts (.fieldLink RX3 7 "PieceWaysModel" "thrownCode" "I") (by decide +kernel)) (fun _ h9 => h9) rfl dX3_go_18 ?_
        refine lv_if_ne (tgt := 149) hx hb dX3_go_21 (by decide) (fun d2 => ?_) (fun d2 => ?_)
        · exact absurd rfl d2
        · refine lv_iconst (v := 0) hx hb dX3_go_24 (by decide) ?_
          refine lv_istore_n (lv' := [(3, .int 0), (2, .int (nI (rw_R U (P.take j)).length)), (1, .int (nI (go_R B U (P.take j)).length)), (0, .ref md)]) hx hb dX3_go_25 rfl hl (by decide) rfl (fun ls hl => ?_)
          exact inner t.2.2 0 f H locs ls (by omega) (fun _ h9 => absurd h9 (by omega)) (by rw [List.take_zero, List.append_nil]; exact hf) hP hD hS (by rw [List.take_zero, List.append_nil]; exact lv_sub hl [0, 1, 2, 3] rfl)
  refine lv_iconst (v := 0) hx hb dX3_go_0 (by decide) ?_
  refine lv_istore_n (lv' := [(1, .int 0), (0, .ref md)]) hx hb dX3_go_1 rfl hl (by decide) rfl (fun ls hl => ?_)
  refine lv_aload_n hx hb dX3_go_2 rfl (lv_at hl 1 rfl) ?_
  refine lv_iconst (v := 0) hx hb dX3_go_3 (by decide) ?_
  refine va_put (D := (dC, dI)) (ci := 3) (v := .int 0) (ty := .int) (C := RX3) (T := TX3) (N := 10) hx hb hts (by decide +kernel) tyX3 tyX3_ok nmX3 hown hK hP hD hS 0 rfl rfl 0 (by decide) (hts (.fieldLink RX3 7 "PieceWaysModel" "thrownCode" "I") (by decide +kernel)) (fun _ h9 => h9) rfl (by decide +kernel) rfl rfl (Nat.le_of_ble_eq_true rfl) dX3_go_4 (fun H locs hP hD hS => ?_)
  have hP : va_P (dC, dI) vwCl [(md, .inr (3, [.int 0, .ref a1, .int (nI B.length), .ref a2, .int (nI T.length), .ref a3, .int (nI (rw_R U P).length), .ref a4, .int (nI Z.length), .ref a5])), (a1, .inl (cI, 600, .inl eb)), (a3, .inl (cI, 2000, .inl eo)), (a4, .inl (cI, 600, .inl er)), (a5, .inl (cI, 600, .inl en))] H := hP
  have hD : va_D A [(md, .inr (3, [.int 0, .ref a1, .int (nI B.length), .ref a2, .int (nI T.length), .ref a3, .int (nI (rw_R U P).length), .ref a4, .int (nI Z.length), .ref a5])), (a1, .inl (cI, 600, .inl eb)), (a3, .inl (cI, 2000, .inl eo)), (a4, .inl (cI, 600, .inl er)), (a5, .inl (cI, 600, .inl en))] := hD
  refine lv_iconst (v := 0) hx hb dX3_go_7 (by decide) ?_
  refine lv_istore_n (lv' := [(2, .int 0), (1, .int 0), (0, .ref md)]) hx hb dX3_go_8 rfl hl (by decide) rfl (fun ls hl => ?_)
  exact loop P.length 0 en H locs ls (by omega) (fun t ht => by simp at ht) (im_nil _) hP hD hS (lv_sub hl [0, 1, 2] rfl)
end PWMGO
end
section
section PWMINIT
variable (l : Launch) (dC : Nat → ClassId) (dI : Nat → Nat → Nat) (cB cI cL : ClassId)

set_option maxHeartbeats 1000000 in
set_option maxRecDepth 100000 in
/-- PieceWaysModel() -/
theorem c_Md_init (md : Nat) : wr_M l yX3_init wsX3_init ({ frames := 1, cells := 5, slots := 4400, locals := 12 } : Room) (dC, dI) vwCl (tk_s cB cI cL) [.ref md] [(md, .inr (3, [.int 0, .null, .int 0, .null, .int 0, .null, .int 0, .null, .int 0, .null]))] 5 4400 (fun _ : Nat × Nat × Nat × Nat × Nat => True) (fun z => [(md, .inr (3, [.int 0, .ref z.1, .int (nI (([] : List Int32)).length), .ref z.2.1, .int (nI (([] : List Int32)).length), .ref z.2.2.1, .int (nI (([] : List Int32)).length), .ref z.2.2.2.1, .int (nI (([] : List Int32)).length), .ref z.2.2.2.2])), (z.1, .inl (cI, 600, .inl ((fun _ => 0)))), (z.2.1, .inl (cI, 600, .inl ((fun _ => 0)))), (z.2.2.1, .inl (cI, 2000, .inl ((fun _ => 0)))), (z.2.2.2.1, .inl (cI, 600, .inl ((fun _ => 0)))), (z.2.2.2.2, .inl (cI, 600, .inl ((fun _ => 0))))]) := by
  refine wr_ofW (cc := cX3_init) (maxL := 1) (ret := none) (by decide) rfl (Nat.le_of_ble_eq_true rfl) ?_
  intro p e s m below meth c ls A hx hb hr hml hts hown hlk hnm hP hK hN hD hA hS hl
  have hl : lv_has ls 1 [(0, .ref md)] := hl
  refine lv_aload_n hx hb dX3_init_0 rfl (lv_at hl 0 rfl) ?_
  refine W.objInit hx hb hown (hts (.methodLink RX3 1 objectInit) (by decide +kernel)) (hts (.instanceMethod objectInit) (by decide +kernel)) (hts (.code objectInit ⟨#[0xb1]⟩ 1 none) (by decide +kernel)) rfl (by rw [hml]; exact hl.1) rfl dX3_init_1 (Nat.le_of_ble_eq_true rfl) (Nat.le_of_ble_eq_true rfl) ?_
  refine W.eq (g2 := F0 m 4 ls []) rfl ?_
  refine lv_aload_n hx hb dX3_init_4 rfl (lv_at hl 0 rfl) ?_
  refine lv_iconst (v := 0) hx hb dX3_init_5 (by decide) ?_
  refine va_put (D := (dC, dI)) (ci := 3) (v := .int 0) (ty := .int) (C := RX3) (T := TX3) (N := 10) hx hb hts (by decide +kernel) tyX3 tyX3_ok nmX3 hown hK hP hD hS 0 rfl rfl 0 (by decide) (hts (.fieldLink RX3 7 "PieceWaysModel" "thrownCode" "I") (by decide +kernel)) (fun _ h9 => h9) rfl (by decide +kernel) rfl rfl (Nat.le_of_ble_eq_true rfl) dX3_init_6 (fun H locs hP hD hS => ?_)
  have hP : va_P (dC, dI) vwCl [(md, .inr (3, [.int 0, .null, .int 0, .null, .int 0, .null, .int 0, .null, .int 0, .null]))] H := hP
  have hD : va_D A [(md, .inr (3, [.int 0, .null, .int 0, .null, .int 0, .null, .int 0, .null, .int 0, .null]))] := hD
  refine lv_aload_n hx hb dX3_init_9 rfl (lv_at hl 0 rfl) ?_
  refine lv_sipush (v := 600) hx hb dX3_init_10 (by decide) ?_
  rw [show (600 : Int32) = nI 600 by decide]
  refine na_new (atype := .int) (ty := .int) (a0 := (600, .inl (fun _ => 0))) (N' := 600) (nm := "[I") hx hb (hts (.arrayClass .int) (by decide +kernel)) rfl hK hP hD hS hA 1 rfl (fun _ h9 => h9) (fun cA => vp_cell_i cA 600 (fun _ => 0)) (nI_pos (n := 600) (by omega)) (nI_clamp (n := 600) (by omega)) (by decide +kernel) (by decide +kernel) (by decide +kernel) dX3_init_13 (fun a1 H hP hD hS => ?_)
  have hP : va_P (dC, dI) vwCl [(md, .inr (3, [.int 0, .null, .int 0, .null, .int 0, .null, .int 0, .null, .int 0, .null])), (a1, .inl (cI, 600, .inl ((fun _ => 0))))] H := hP
  have hD : va_D A [(md, .inr (3, [.int 0, .null, .int 0, .null, .int 0, .null, .int 0, .null, .int 0, .null])), (a1, .inl (cI, 600, .inl ((fun _ => 0))))] := hD
  refine W.widen (k := 1) (n := 600) (by omega) (by omega) ?_
  refine va_putF (D := (dC, dI)) (ci := 3) (v := .ref a1) (ty := (.array .int)) (C := RX3) (T := TX3) (N := 10) hx hb hts (by decide +kernel) tyX3 tyX3_ok nmX3 hown hK hP hD hS 0 rfl rfl 1 (by decide) (hts (.fieldLink RX3 13 "PieceWaysModel" "base" "[I") (by decide +kernel)) (fun _ h9 => h9) rfl hnm rfl (by decide +kernel) rfl rfl (Nat.le_of_ble_eq_true rfl) dX3_init_15 (fun H locs hP hD hS => ?_)
  have hP : va_P (dC, dI) vwCl [(md, .inr (3, [.int 0, .ref a1, .int 0, .null, .int 0, .null, .int 0, .null, .int 0, .null])), (a1, .inl (cI, 600, .inl ((fun _ => 0))))] H := hP
  have hD : va_D A [(md, .inr (3, [.int 0, .ref a1, .int 0, .null, .int 0, .null, .int 0, .null, .int 0, .null])), (a1, .inl (cI, 600, .inl ((fun _ => 0))))] := hD
  refine lv_aload_n hx hb dX3_init_18 rfl (lv_at hl 0 rfl) ?_
  refine lv_iconst (v := 0) hx hb dX3_init_19 (by decide) ?_
  refine va_put (D := (dC, dI)) (ci := 3) (v := .int 0) (ty := .int) (C := RX3) (T := TX3) (N := 10) hx hb hts (by decide +kernel) tyX3 tyX3_ok nmX3 hown hK hP hD hS 0 rfl rfl 2 (by decide) (hts (.fieldLink RX3 17 "PieceWaysModel" "bases" "I") (by decide +kernel)) (fun _ h9 => h9) rfl (by decide +kernel) rfl rfl (Nat.le_of_ble_eq_true rfl) dX3_init_20 (fun H locs hP hD hS => ?_)
  have hP : va_P (dC, dI) vwCl [(md, .inr (3, [.int 0, .ref a1, .int 0, .null, .int 0, .null, .int 0, .null, .int 0, .null])), (a1, .inl (cI, 600, .inl ((fun _ => 0))))] H := hP
  have hD : va_D A [(md, .inr (3, [.int 0, .ref a1, .int 0, .null, .int 0, .null, .int 0, .null, .int 0, .null])), (a1, .inl (cI, 600, .inl ((fun _ => 0))))] := hD
  refine lv_aload_n hx hb dX3_init_23 rfl (lv_at hl 0 rfl) ?_
  refine lv_sipush (v := 600) hx hb dX3_init_24 (by decide) ?_
  rw [show (600 : Int32) = nI 600 by decide]
  refine na_new (atype := .int) (ty := .int) (a0 := (600, .inl (fun _ => 0))) (N' := 600) (nm := "[I") hx hb (hts (.arrayClass .int) (by decide +kernel)) rfl hK hP hD hS hA 1 rfl (fun _ h9 => h9) (fun cA => vp_cell_i cA 600 (fun _ => 0)) (nI_pos (n := 600) (by omega)) (nI_clamp (n := 600) (by omega)) (by decide +kernel) (by decide +kernel) (by decide +kernel) dX3_init_27 (fun a2 H hP hD hS => ?_)
  have hP : va_P (dC, dI) vwCl [(md, .inr (3, [.int 0, .ref a1, .int 0, .null, .int 0, .null, .int 0, .null, .int 0, .null])), (a1, .inl (cI, 600, .inl ((fun _ => 0)))), (a2, .inl (cI, 600, .inl ((fun _ => 0))))] H := hP
  have hD : va_D A [(md, .inr (3, [.int 0, .ref a1, .int 0, .null, .int 0, .null, .int 0, .null, .int 0, .null])), (a1, .inl (cI, 600, .inl ((fun _ => 0)))), (a2, .inl (cI, 600, .inl ((fun _ => 0))))] := hD
  refine W.widen (k := 2) (n := 1200) (by omega) (by omega) ?_
  refine va_putF (D := (dC, dI)) (ci := 3) (v := .ref a2) (ty := (.array .int)) (C := RX3) (T := TX3) (N := 10) hx hb hts (by decide +kernel) tyX3 tyX3_ok nmX3 hown hK hP hD hS 0 rfl rfl 3 (by decide) (hts (.fieldLink RX3 20 "PieceWaysModel" "target" "[I") (by decide +kernel)) (fun _ h9 => h9) rfl hnm rfl (by decide +kernel) rfl rfl (Nat.le_of_ble_eq_true rfl) dX3_init_29 (fun H locs hP hD hS => ?_)
  have hP : va_P (dC, dI) vwCl [(md, .inr (3, [.int 0, .ref a1, .int 0, .ref a2, .int 0, .null, .int 0, .null, .int 0, .null])), (a1, .inl (cI, 600, .inl ((fun _ => 0)))), (a2, .inl (cI, 600, .inl ((fun _ => 0))))] H := hP
  have hD : va_D A [(md, .inr (3, [.int 0, .ref a1, .int 0, .ref a2, .int 0, .null, .int 0, .null, .int 0, .null])), (a1, .inl (cI, 600, .inl ((fun _ => 0)))), (a2, .inl (cI, 600, .inl ((fun _ => 0))))] := hD
  refine lv_aload_n hx hb dX3_init_32 rfl (lv_at hl 0 rfl) ?_
  refine lv_iconst (v := 0) hx hb dX3_init_33 (by decide) ?_
  refine va_put (D := (dC, dI)) (ci := 3) (v := .int 0) (ty := .int) (C := RX3) (T := TX3) (N := 10) hx hb hts (by decide +kernel) tyX3 tyX3_ok nmX3 hown hK hP hD hS 0 rfl rfl 4 (by decide) (hts (.fieldLink RX3 23 "PieceWaysModel" "targets" "I") (by decide +kernel)) (fun _ h9 => h9) rfl (by decide +kernel) rfl rfl (Nat.le_of_ble_eq_true rfl) dX3_init_34 (fun H locs hP hD hS => ?_)
  have hP : va_P (dC, dI) vwCl [(md, .inr (3, [.int 0, .ref a1, .int 0, .ref a2, .int 0, .null, .int 0, .null, .int 0, .null])), (a1, .inl (cI, 600, .inl ((fun _ => 0)))), (a2, .inl (cI, 600, .inl ((fun _ => 0))))] H := hP
  have hD : va_D A [(md, .inr (3, [.int 0, .ref a1, .int 0, .ref a2, .int 0, .null, .int 0, .null, .int 0, .null])), (a1, .inl (cI, 600, .inl ((fun _ => 0)))), (a2, .inl (cI, 600, .inl ((fun _ => 0))))] := hD
  refine lv_aload_n hx hb dX3_init_37 rfl (lv_at hl 0 rfl) ?_
  refine lv_sipush (v := 2000) hx hb dX3_init_38 (by decide) ?_
  rw [show (2000 : Int32) = nI 2000 by decide]
  refine na_new (atype := .int) (ty := .int) (a0 := (2000, .inl (fun _ => 0))) (N' := 2000) (nm := "[I") hx hb (hts (.arrayClass .int) (by decide +kernel)) rfl hK hP hD hS hA 1 rfl (fun _ h9 => h9) (fun cA => vp_cell_i cA 2000 (fun _ => 0)) (nI_pos (n := 2000) (by omega)) (nI_clamp (n := 2000) (by omega)) (by decide +kernel) (by decide +kernel) (by decide +kernel) dX3_init_41 (fun a3 H hP hD hS => ?_)
  have hP : va_P (dC, dI) vwCl [(md, .inr (3, [.int 0, .ref a1, .int 0, .ref a2, .int 0, .null, .int 0, .null, .int 0, .null])), (a1, .inl (cI, 600, .inl ((fun _ => 0)))), (a2, .inl (cI, 600, .inl ((fun _ => 0)))), (a3, .inl (cI, 2000, .inl ((fun _ => 0))))] H := hP
  have hD : va_D A [(md, .inr (3, [.int 0, .ref a1, .int 0, .ref a2, .int 0, .null, .int 0, .null, .int 0, .null])), (a1, .inl (cI, 600, .inl ((fun _ => 0)))), (a2, .inl (cI, 600, .inl ((fun _ => 0)))), (a3, .inl (cI, 2000, .inl ((fun _ => 0))))] := hD
  refine W.widen (k := 3) (n := 3200) (by omega) (by omega) ?_
  refine va_putF (D := (dC, dI)) (ci := 3) (v := .ref a3) (ty := (.array .int)) (C := RX3) (T := TX3) (N := 10) hx hb hts (by decide +kernel) tyX3 tyX3_ok nmX3 hown hK hP hD hS 0 rfl rfl 5 (by decide) (hts (.fieldLink RX3 26 "PieceWaysModel" "row" "[I") (by decide +kernel)) (fun _ h9 => h9) rfl hnm rfl (by decide +kernel) rfl rfl (Nat.le_of_ble_eq_true rfl) dX3_init_43 (fun H locs hP hD hS => ?_)
  have hP : va_P (dC, dI) vwCl [(md, .inr (3, [.int 0, .ref a1, .int 0, .ref a2, .int 0, .ref a3, .int 0, .null, .int 0, .null])), (a1, .inl (cI, 600, .inl ((fun _ => 0)))), (a2, .inl (cI, 600, .inl ((fun _ => 0)))), (a3, .inl (cI, 2000, .inl ((fun _ => 0))))] H := hP
  have hD : va_D A [(md, .inr (3, [.int 0, .ref a1, .int 0, .ref a2, .int 0, .ref a3, .int 0, .null, .int 0, .null])), (a1, .inl (cI, 600, .inl ((fun _ => 0)))), (a2, .inl (cI, 600, .inl ((fun _ => 0)))), (a3, .inl (cI, 2000, .inl ((fun _ => 0))))] := hD
  refine lv_aload_n hx hb dX3_init_46 rfl (lv_at hl 0 rfl) ?_
  refine lv_iconst (v := 0) hx hb dX3_init_47 (by decide) ?_
  refine va_put (D := (dC, dI)) (ci := 3) (v := .int 0) (ty := .int) (C := RX3) (T := TX3) (N := 10) hx hb hts (by decide +kernel) tyX3 tyX3_ok nmX3 hown hK hP hD hS 0 rfl rfl 6 (by decide) (hts (.fieldLink RX3 29 "PieceWaysModel" "size" "I") (by decide +kernel)) (fun _ h9 => h9) rfl (by decide +kernel) rfl rfl (Nat.le_of_ble_eq_true rfl) dX3_init_48 (fun H locs hP hD hS => ?_)
  have hP : va_P (dC, dI) vwCl [(md, .inr (3, [.int 0, .ref a1, .int 0, .ref a2, .int 0, .ref a3, .int 0, .null, .int 0, .null])), (a1, .inl (cI, 600, .inl ((fun _ => 0)))), (a2, .inl (cI, 600, .inl ((fun _ => 0)))), (a3, .inl (cI, 2000, .inl ((fun _ => 0))))] H := hP
  have hD : va_D A [(md, .inr (3, [.int 0, .ref a1, .int 0, .ref a2, .int 0, .ref a3, .int 0, .null, .int 0, .null])), (a1, .inl (cI, 600, .inl ((fun _ => 0)))), (a2, .inl (cI, 600, .inl ((fun _ => 0)))), (a3, .inl (cI, 2000, .inl ((fun _ => 0))))] := hD
  refine lv_aload_n hx hb dX3_init_51 rfl (lv_at hl 0 rfl) ?_
  refine lv_sipush (v := 600) hx hb dX3_init_52 (by decide) ?_
  rw [show (600 : Int32) = nI 600 by decide]
  refine na_new (atype := .int) (ty := .int) (a0 := (600, .inl (fun _ => 0))) (N' := 600) (nm := "[I") hx hb (hts (.arrayClass .int) (by decide +kernel)) rfl hK hP hD hS hA 1 rfl (fun _ h9 => h9) (fun cA => vp_cell_i cA 600 (fun _ => 0)) (nI_pos (n := 600) (by omega)) (nI_clamp (n := 600) (by omega)) (by decide +kernel) (by decide +kernel) (by decide +kernel) dX3_init_55 (fun a4 H hP hD hS => ?_)
  have hP : va_P (dC, dI) vwCl [(md, .inr (3, [.int 0, .ref a1, .int 0, .ref a2, .int 0, .ref a3, .int 0, .null, .int 0, .null])), (a1, .inl (cI, 600, .inl ((fun _ => 0)))), (a2, .inl (cI, 600, .inl ((fun _ => 0)))), (a3, .inl (cI, 2000, .inl ((fun _ => 0)))), (a4, .inl (cI, 600, .inl ((fun _ => 0))))] H := hP
  have hD : va_D A [(md, .inr (3, [.int 0, .ref a1, .int 0, .ref a2, .int 0, .ref a3, .int 0, .null, .int 0, .null])), (a1, .inl (cI, 600, .inl ((fun _ => 0)))), (a2, .inl (cI, 600, .inl ((fun _ => 0)))), (a3, .inl (cI, 2000, .inl ((fun _ => 0)))), (a4, .inl (cI, 600, .inl ((fun _ => 0))))] := hD
  refine W.widen (k := 4) (n := 3800) (by omega) (by omega) ?_
  refine va_putF (D := (dC, dI)) (ci := 3) (v := .ref a4) (ty := (.array .int)) (C := RX3) (T := TX3) (N := 10) hx hb hts (by decide +kernel) tyX3 tyX3_ok nmX3 hown hK hP hD hS 0 rfl rfl 7 (by decide) (hts (.fieldLink RX3 32 "PieceWaysModel" "result" "[I") (by decide +kernel)) (fun _ h9 => h9) rfl hnm rfl (by decide +kernel) rfl rfl (Nat.le_of_ble_eq_true rfl) dX3_init_57 (fun H locs hP hD hS => ?_)
  have hP : va_P (dC, dI) vwCl [(md, .inr (3, [.int 0, .ref a1, .int 0, .ref a2, .int 0, .ref a3, .int 0, .ref a4, .int 0, .null])), (a1, .inl (cI, 600, .inl ((fun _ => 0)))), (a2, .inl (cI, 600, .inl ((fun _ => 0)))), (a3, .inl (cI, 2000, .inl ((fun _ => 0)))), (a4, .inl (cI, 600, .inl ((fun _ => 0))))] H := hP
  have hD : va_D A [(md, .inr (3, [.int 0, .ref a1, .int 0, .ref a2, .int 0, .ref a3, .int 0, .ref a4, .int 0, .null])), (a1, .inl (cI, 600, .inl ((fun _ => 0)))), (a2, .inl (cI, 600, .inl ((fun _ => 0)))), (a3, .inl (cI, 2000, .inl ((fun _ => 0)))), (a4, .inl (cI, 600, .inl ((fun _ => 0))))] := hD
  refine lv_aload_n hx hb dX3_init_60 rfl (lv_at hl 0 rfl) ?_
  refine lv_iconst (v := 0) hx hb dX3_init_61 (by decide) ?_
  refine va_put (D := (dC, dI)) (ci := 3) (v := .int 0) (ty := .int) (C := RX3) (T := TX3) (N := 10) hx hb hts (by decide +kernel) tyX3 tyX3_ok nmX3 hown hK hP hD hS 0 rfl rfl 8 (by decide) (hts (.fieldLink RX3 35 "PieceWaysModel" "results" "I") (by decide +kernel)) (fun _ h9 => h9) rfl (by decide +kernel) rfl rfl (Nat.le_of_ble_eq_true rfl) dX3_init_62 (fun H locs hP hD hS => ?_)
  have hP : va_P (dC, dI) vwCl [(md, .inr (3, [.int 0, .ref a1, .int 0, .ref a2, .int 0, .ref a3, .int 0, .ref a4, .int 0, .null])), (a1, .inl (cI, 600, .inl ((fun _ => 0)))), (a2, .inl (cI, 600, .inl ((fun _ => 0)))), (a3, .inl (cI, 2000, .inl ((fun _ => 0)))), (a4, .inl (cI, 600, .inl ((fun _ => 0))))] H := hP
  have hD : va_D A [(md, .inr (3, [.int 0, .ref a1, .int 0, .ref a2, .int 0, .ref a3, .int 0, .ref a4, .int 0, .null])), (a1, .inl (cI, 600, .inl ((fun _ => 0)))), (a2, .inl (cI, 600, .inl ((fun _ => 0)))), (a3, .inl (cI, 2000, .inl ((fun _ => 0)))), (a4, .inl (cI, 600, .inl ((fun _ => 0))))] := hD
  refine lv_aload_n hx hb dX3_init_65 rfl (lv_at hl 0 rfl) ?_
  refine lv_sipush (v := 600) hx hb dX3_init_66 (by decide) ?_
  rw [show (600 : Int32) = nI 600 by decide]
  refine na_new (atype := .int) (ty := .int) (a0 := (600, .inl (fun _ => 0))) (N' := 600) (nm := "[I") hx hb (hts (.arrayClass .int) (by decide +kernel)) rfl hK hP hD hS hA 1 rfl (fun _ h9 => h9) (fun cA => vp_cell_i cA 600 (fun _ => 0)) (nI_pos (n := 600) (by omega)) (nI_clamp (n := 600) (by omega)) (by decide +kernel) (by decide +kernel) (by decide +kernel) dX3_init_69 (fun a5 H hP hD hS => ?_)
  have hP : va_P (dC, dI) vwCl [(md, .inr (3, [.int 0, .ref a1, .int 0, .ref a2, .int 0, .ref a3, .int 0, .ref a4, .int 0, .null])), (a1, .inl (cI, 600, .inl ((fun _ => 0)))), (a2, .inl (cI, 600, .inl ((fun _ => 0)))), (a3, .inl (cI, 2000, .inl ((fun _ => 0)))), (a4, .inl (cI, 600, .inl ((fun _ => 0)))), (a5, .inl (cI, 600, .inl ((fun _ => 0))))] H := hP
  have hD : va_D A [(md, .inr (3, [.int 0, .ref a1, .int 0, .ref a2, .int 0, .ref a3, .int 0, .ref a4, .int 0, .null])), (a1, .inl (cI, 600, .inl ((fun _ => 0)))), (a2, .inl (cI, 600, .inl ((fun _ => 0)))), (a3, .inl (cI, 2000, .inl ((fun _ => 0)))), (a4, .inl (cI, 600, .inl ((fun _ => 0)))), (a5, .inl (cI, 600, .inl ((fun _ => 0))))] := hD
  refine W.widen (k := 5) (n := 4400) (by omega) (by omega) ?_
  refine va_putF (D := (dC, dI)) (ci := 3) (v := .ref a5) (ty := (.array .int)) (C := RX3) (T := TX3) (N := 10) hx hb hts (by decide +kernel) tyX3 tyX3_ok nmX3 hown hK hP hD hS 0 rfl rfl 9 (by decide) (hts (.fieldLink RX3 38 "PieceWaysModel" "next" "[I") (by decide +kernel)) (fun _ h9 => h9) rfl hnm rfl (by decide +kernel) rfl rfl (Nat.le_of_ble_eq_true rfl) dX3_init_71 (fun H locs hP hD hS => ?_)
  have hP : va_P (dC, dI) vwCl [(md, .inr (3, [.int 0, .ref a1, .int 0, .ref a2, .int 0, .ref a3, .int 0, .ref a4, .int 0, .ref a5])), (a1, .inl (cI, 600, .inl ((fun _ => 0)))), (a2, .inl (cI, 600, .inl ((fun _ => 0)))), (a3, .inl (cI, 2000, .inl ((fun _ => 0)))), (a4, .inl (cI, 600, .inl ((fun _ => 0)))), (a5, .inl (cI, 600, .inl ((fun _ => 0))))] H := hP
  have hD : va_D A [(md, .inr (3, [.int 0, .ref a1, .int 0, .ref a2, .int 0, .ref a3, .int 0, .ref a4, .int 0, .ref a5])), (a1, .inl (cI, 600, .inl ((fun _ => 0)))), (a2, .inl (cI, 600, .inl ((fun _ => 0)))), (a3, .inl (cI, 2000, .inl ((fun _ => 0)))), (a4, .inl (cI, 600, .inl ((fun _ => 0)))), (a5, .inl (cI, 600, .inl ((fun _ => 0))))] := hD
  have hP9 : va_P (dC, dI) vwCl [(md, .inr (3, [.int 0, .ref a1, .int (nI (([] : List Int32)).length), .ref a2, .int (nI (([] : List Int32)).length), .ref a3, .int (nI (([] : List Int32)).length), .ref a4, .int (nI (([] : List Int32)).length), .ref a5])), (a1, .inl (cI, 600, .inl ((fun _ => 0)))), (a2, .inl (cI, 600, .inl ((fun _ => 0)))), (a3, .inl (cI, 2000, .inl ((fun _ => 0)))), (a4, .inl (cI, 600, .inl ((fun _ => 0)))), (a5, .inl (cI, 600, .inl ((fun _ => 0))))] H := hP
  have hD9 : va_D A [(md, .inr (3, [.int 0, .ref a1, .int (nI (([] : List Int32)).length), .ref a2, .int (nI (([] : List Int32)).length), .ref a3, .int (nI (([] : List Int32)).length), .ref a4, .int (nI (([] : List Int32)).length), .ref a5])), (a1, .inl (cI, 600, .inl ((fun _ => 0)))), (a2, .inl (cI, 600, .inl ((fun _ => 0)))), (a3, .inl (cI, 2000, .inl ((fun _ => 0)))), (a4, .inl (cI, 600, .inl ((fun _ => 0)))), (a5, .inl (cI, 600, .inl ((fun _ => 0))))] := hD
  exact wr_vret hx hb hr hlk (a1, a2, a3, a4, a5) trivial hP9 hD9 hS dX3_init_74
end PWMINIT
end
section
set_option maxRecDepth 20000 in
theorem gL_law_X2_init : GoodIn lw_tbl (wsX2_init) := goodIn_p _ [26, 29, 34, 48] rfl (by decide +kernel)
set_option maxRecDepth 20000 in
theorem gL_law_X3_init : GoodIn lw_tbl (wsX3_init) := goodIn_p _ [281, 29] rfl (by decide +kernel)
set_option maxRecDepth 20000 in
theorem gL_law_X2_put : GoodIn lw_tbl (wsV RL 21 RX2 yX2_put wsX2_put) := goodIn_p _ [86, 90, 94] rfl (by decide +kernel)
set_option maxRecDepth 20000 in
theorem gL_law_X3_put : GoodIn lw_tbl (wsV RL 25 RX3 yX3_put wsX3_put) := goodIn_p _ [321] rfl (by decide +kernel)
set_option maxRecDepth 20000 in
theorem gL_law_X2_clear : GoodIn lw_tbl (wsV RL 26 RX2 yX2_clear wsX2_clear) := goodIn_p _ [98, 102] rfl (by decide +kernel)
set_option maxRecDepth 20000 in
theorem gL_law_X3_clear : GoodIn lw_tbl (wsV RL 30 RX3 yX3_clear wsX3_clear) := goodIn_p _ [325] rfl (by decide +kernel)
set_option maxRecDepth 20000 in
theorem gL_law_X2_make : GoodIn lw_tbl (wsV RL 31 RX2 yX2_make wsX2_make) := goodIn_p _ [106, 102, 90, 110, 114, 94, 119, 151, 123, 127, 131, 134, 139, 143, 147, 155, 159, 163, 167, 171, 175] rfl (by decide +kernel)
set_option maxRecDepth 20000 in
theorem gL_law_X3_make : GoodIn lw_tbl (wsV RL 34 RX3 yX3_make wsX3_make) := goodIn_p _ [329, 333, 337, 341, 345] rfl (by decide +kernel)
set_option maxRecDepth 20000 in
theorem gL_law_X2_piece : GoodIn lw_tbl (wsV RL 35 RX2 yX2_piece wsX2_piece) := goodIn_p _ [179, 163, 143, 167, 175] rfl (by decide +kernel)
set_option maxRecDepth 20000 in
theorem gL_law_X3_piece : GoodIn lw_tbl (wsV RL 39 RX3 yX3_piece wsX3_piece) := goodIn_p _ [349, 353, 345, 357] rfl (by decide +kernel)
set_option maxRecDepth 20000 in
theorem gL_law_X2_size : GoodIn lw_tbl (wsV RL 40 RX2 yX2_size wsX2_size) := goodIn_p _ [183, 90] rfl (by decide +kernel)
set_option maxRecDepth 20000 in
theorem gL_law_X3_size : GoodIn lw_tbl (wsV RL 43 RX3 yX3_size wsX3_size) := goodIn_p _ [361] rfl (by decide +kernel)
set_option maxRecDepth 20000 in
theorem gL_law_X2_way : GoodIn lw_tbl (wsV RL 44 RX2 yX2_way wsX2_way) := goodIn_p _ [187, 114] rfl (by decide +kernel)
set_option maxRecDepth 20000 in
theorem gL_law_X3_way : GoodIn lw_tbl (wsV RL 48 RX3 yX3_way wsX3_way) := goodIn_p _ [365] rfl (by decide +kernel)
set_option maxRecDepth 20000 in
theorem gL_law_X3_go : GoodIn lw_tbl (wsV RL 54 RX3 yX3_go wsX3_go) := goodIn_p _ [369, 353, 345, 357] rfl (by decide +kernel)
set_option maxRecDepth 20000 in
theorem gL_law_X3_thrown : GoodIn lw_tbl (wsV RL 55 RX3 yX3_thrown wsX3_thrown) := goodIn_p _ [317] rfl (by decide +kernel)
set_option maxRecDepth 20000 in
theorem gL_law_X2_result : GoodIn lw_tbl (wsV RL 58 RX2 yX2_result wsX2_result) := goodIn_p _ [191, 114] rfl (by decide +kernel)
set_option maxRecDepth 20000 in
theorem gL_law_X3_result : GoodIn lw_tbl (wsV RL 61 RX3 yX3_result wsX3_result) := goodIn_p _ [373] rfl (by decide +kernel)
set_option maxRecDepth 20000 in
theorem gL_law_X2_count : GoodIn lw_tbl (wsV RL 62 RX2 yX2_count wsX2_count) := goodIn_p _ [195, 90] rfl (by decide +kernel)
set_option maxRecDepth 20000 in
theorem gL_law_X3_count : GoodIn lw_tbl (wsV RL 65 RX3 yX3_count wsX3_count) := goodIn_p _ [377] rfl (by decide +kernel)
end
section
set_option maxRecDepth 20000 in
theorem gL_law_L_go : GoodIn lw_tbl (va_wsS RL 49 yL_go wsL_go) := goodIn_app (goodIn_of _ (by decide +kernel)) (goodIn_ca (goodIn_p (.codeWith yL_go cL_go 3 (some .int) [(0, 8, 11, 13)] :: ((wsL_go_r1 ++ (wsL_go_r2 ++ wsL_go_r3)) ++ wsX20 ++ wsX10 ++ wsX00)) [203, 207, 151, 163, 143, 167, 175, 90, 102, 159, 110, 114, 94] rfl (by decide +kernel)) (goodIn_sub (by decide +kernel) (by decide +kernel)))
end
section
section PWLGO
variable (l : Launch) (dC : Nat → ClassId) (dI : Nat → Nat → Nat) (cB cI cL : ClassId)

/-- a contract with the premises of a throw -/
def lx_M {S : Type} (l : Launch) (y : MethodName) (wy : List Cond) (rm : Room) (D : va_G) (cl : List vw_C) (tys : List (ClassId × FieldType)) (av : List Value) (wc : va_W) (mc ms : Nat) (post : Int32 → S → Prop) (w1 : S → va_W) : Prop :=
  ∀ sz : Nat, Met l y wy rm (va_Pc av (fun U => U.heap.size = sz ∧ va_P D cl wc U.heap ∧ va_K D cl tys U ∧ nx_N U ∧ va_D (fun _ => True) wc ∧ ex_X (va_A wc sz) U)) (va_Qi post (fun u t => va_P D cl (w1 u) t.heap ∧ va_D (va_A wc sz) (w1 u)) (va_A wc sz)) mc ms (va_A wc sz)
theorem ex_pre {D : va_G} {cl : List vw_C} {tys : List (ClassId × FieldType)} {s : State} {H : Heap} {av : List Value} {wc : va_W} (hK : va_K D cl tys s) (hN : nx_N s) (hP : va_P D cl wc H) {A : Nat → Prop} (hD : va_D A wc) (hX : ∀ U : State, U.heap = H → s.WarmedH U.vm → ex_X (va_A wc H.size) U) : FrameBlind (va_Pc av (fun U => U.heap.size = H.size ∧ va_P D cl wc U.heap ∧ va_K D cl tys U ∧ nx_N U ∧ va_D (fun _ => True) wc ∧ ex_X (va_A wc H.size) U)) ∧ ∀ U : State, U.heap = H → s.WarmedH U.vm → va_Pc av (fun U => U.heap.size = H.size ∧ va_P D cl wc U.heap ∧ va_K D cl tys U ∧ nx_N U ∧ va_D (fun _ => True) wc ∧ ex_X (va_A wc H.size) U) av.toArray U := by
  refine ⟨?_, fun U hU hW9 => ⟨rfl, by rw [hU], by rw [hU]; exact hP, va_K.moved hW9.alike hK, nx_W hW9 hN, hD.weaken (fun _ _ _ _ => trivial), hX U hU hW9⟩⟩
  intro a U g mk q
  obtain ⟨q0, q1, qP, qK, qN, qD, qX⟩ := q
  exact ⟨q0, q1, qP, va_K.moved (u := U) (U := U.calling g mk a) (Vm.Alike.refl U.vm) qK, nx_S (u := U) (U := U.calling g mk a) rfl qN, qD, ex_S (u := U) (U := U.calling g mk a) rfl rfl qX⟩
set_option maxHeartbeats 1000000 in
set_option maxRecDepth 100000 in
/-- the law's go(x, out): it returns, also where go throws -/
theorem c_L_go (w qb gb qt gt qr gr qp h0 h1 h2 qu gu qo go_ : Nat) (oq : Nat) (B Z U : List Int32) (P : List (Nat × Nat × Nat)) (fb fr fu f0 f1 f2 : Nat → Int32) (fo : Nat → Int64) (hst : l.stackTraces = false) (nB : Nat) (hB : B.length ≤ 600) (hk : pk_W nB U.length P) (hfb : by_k fb B) (hfr : by_k fr Z) (hpc : pc_k f0 f1 f2 P) (hfu : by_k fu U) : lx_M l yL_go wsL_go ({ frames := 7, cells := 1, slots := 6, locals := 117 } : Room) (dC, dI) vwCl (tk_s cB cI cL) [.ref w, .ref oq] [(w, .inr (2, [.ref qb, .ref qt, .ref qr, .ref qp, .ref qu, .ref qo])), (qb, .inr (0, [.ref gb, .int (nI B.length)])), (gb, .inl (cB, 603, .inl fb)), (qr, .inr (0, [.ref gr, .int (nI Z.length)])), (gr, .inl (cB, 603, .inl fr)), (qp, .inr (1, [.ref h0, .ref h1, .ref h2, .int (nI P.length)])), (h0, .inl (cI, 133, .inl f0)), (h1, .inl (cI, 133, .inl f1)), (h2, .inl (cI, 133, .inl f2)), (qu, .inr (0, [.ref gu, .int (nI U.length)])), (gu, .inl (cB, 603, .inl fu)), (oq, .inl (cL, 1, .inr (.inl fo)))] 1 6 (fun (r : Int32) (z : (Nat → Int32) × (Nat → Int64)) => r = (if ce_P P ≤ B.length then 0 else 1) ∧ by_k z.1 (if ce_P P ≤ B.length then go_R B U P else Z) ∧ (ce_P P ≤ B.length → z.2 0 = (nI (go_R B U P).length).toInt64)) (fun z : (Nat → Int32) × (Nat → Int64) => [(w, .inr (2, [.ref qb, .ref qt, .ref qr, .ref qp, .ref qu, .ref qo])), (qb, .inr (0, [.ref gb, .int (nI B.length)])), (gb, .inl (cB, 603, .inl fb)), (qr, .inr (0, [.ref gr, .int (nI (if ce_P P ≤ B.length then go_R B U P else Z).length)])), (gr, .inl (cB, 603, .inl (z.1))), (qp, .inr (1, [.ref h0, .ref h1, .ref h2, .int (nI P.length)])), (h0, .inl (cI, 133, .inl f0)), (h1, .inl (cI, 133, .inl f1)), (h2, .inl (cI, 133, .inl f2)), (qu, .inr (0, [.ref gu, .int (nI U.length)])), (gu, .inl (cB, 603, .inl fu)), (oq, .inl (cL, 1, .inr (.inl z.2)))]) := by
  intro sz
  refine va_MetW (cc := cL_go) (maxL := 3) (ret := (some .int)) (hh := [(0, 8, 11, 13)]) (by decide) rfl ?_
  intro p e s m args below meth c s₁ B9 hml hv
  obtain ⟨rfl, hsz, hP, hK, hN, hD0, hX⟩ := hv
  have hx := B9.exec
  have hb := B9.bytes
  have hr := B9.returns
  have hts := atoms_spec (ws := wsL_go) B9.pre
  have hown : s.vm.findClass RL = some m.cls := findClass_of_methodNamed B9.named
  have hlk := B9.notSynchronized
  have htab := vx_table (x := yL_go) B9 (hts _ List.mem_cons_self)
  subst hsz
  have hD := hD0.self (sz := s.heap.size)
  generalize hAe : va_A [(w, .inr (2, [.ref qb, .ref qt, .ref qr, .ref qp, .ref qu, .ref qo])), (qb, .inr (0, [.ref gb, .int (nI B.length)])), (gb, .inl (cB, 603, .inl fb)), (qr, .inr (0, [.ref gr, .int (nI Z.length)])), (gr, .inl (cB, 603, .inl fr)), (qp, .inr (1, [.ref h0, .ref h1, .ref h2, .int (nI P.length)])), (h0, .inl (cI, 133, .inl f0)), (h1, .inl (cI, 133, .inl f1)), (h2, .inl (cI, 133, .inl f2)), (qu, .inr (0, [.ref gu, .int (nI U.length)])), (gu, .inl (cB, 603, .inl fu)), (oq, .inl (cL, 1, .inr (.inl fo)))] s.heap.size = A at hD hX ⊢
  have hA : ∀ q : Nat, s.heap.size ≤ q → A q := fun q h => by rw [← hAe]; exact Or.inr h
  have hS : va_S A s.heap s.heap [] := va_S.rf
  have hl := lv_entry ([.ref w, .ref oq]) (n := 3) (Nat.le_of_ble_eq_true rfl)
  rw [lg_entry_eq]
  generalize (lg_sl ([.ref w, .ref oq]) ++ List.replicate (3 - (lg_sl ([.ref w, .ref oq])).length) Slot.unset).toArray = ls at hl ⊢
  have hl : lv_has ls 3 [(0, .ref w), (1, .ref oq)] := hl
  refine lv_aload_n hx hb dL_go_0 rfl (lv_at hl 1 rfl) ?_
  refine lv_iconst (v := 0) hx hb dL_go_1 (by decide) ?_
  refine lv_aload_n hx hb dL_go_2 rfl (lv_at hl 0 rfl) ?_
  have hPc := hP.sub (ws' := [(w, .inr (2, [.ref qb, .ref qt, .ref qr, .ref qp, .ref qu, .ref qo])), (qb, .inr (0, [.ref gb, .int (nI B.length)])), (gb, .inl (cB, 603, .inl fb)), (qr, .inr (0, [.ref gr, .int (nI Z.length)])), (gr, .inl (cB, 603, .inl fr)), (qp, .inr (1, [.ref h0, .ref h1, .ref h2, .int (nI P.length)])), (h0, .inl (cI, 133, .inl f0)), (h1, .inl (cI, 133, .inl f1)), (h2, .inl (cI, 133, .inl f2)), (qu, .inr (0, [.ref gu, .int (nI U.length)])), (gu, .inl (cB, 603, .inl fu))]) [0, 1, 2, 3, 4, 5, 6, 7, 8, 9, 10] rfl
  have hDc := hD.sub (ws' := [(w, .inr (2, [.ref qb, .ref qt, .ref qr, .ref qp, .ref qu, .ref qo])), (qb, .inr (0, [.ref gb, .int (nI B.length)])), (gb, .inl (cB, 603, .inl fb)), (qr, .inr (0, [.ref gr, .int (nI Z.length)])), (gr, .inl (cB, 603, .inl fr)), (qp, .inr (1, [.ref h0, .ref h1, .ref h2, .int (nI P.length)])), (h0, .inl (cI, 133, .inl f0)), (h1, .inl (cI, 133, .inl f1)), (h2, .inl (cI, 133, .inl f2)), (qu, .inr (0, [.ref gu, .int (nI U.length)])), (gu, .inl (cB, 603, .inl fu))]) [0, 1, 2, 3, 4, 5, 6, 7, 8, 9, 10] (by decide) rfl
  have hFc := va_free (wc := [(w, .inr (2, [.ref qb, .ref qt, .ref qr, .ref qp, .ref qu, .ref qo])), (qb, .inr (0, [.ref gb, .int (nI B.length)])), (gb, .inl (cB, 603, .inl fb)), (qr, .inr (0, [.ref gr, .int (nI Z.length)])), (gr, .inl (cB, 603, .inl fr)), (qp, .inr (1, [.ref h0, .ref h1, .ref h2, .int (nI P.length)])), (h0, .inl (cI, 133, .inl f0)), (h1, .inl (cI, 133, .inl f1)), (h2, .inl (cI, 133, .inl f2)), (qu, .inr (0, [.ref gu, .int (nI U.length)])), (gu, .inl (cB, 603, .inl fu))]) hD hS hA [0, 1, 2, 3, 4, 5, 6, 7, 8, 9, 10] rfl
  have hpre := ex_pre (av := [.ref w]) hK hN hPc hDc (fun U hU hW9 => ex_W hW9 (fun a _ _ => by rw [hU]) (fun q h => hFc q h) hX)
  refine vx_calli (vx_runV (As := []) (rest := [.int 0, .ref oq]) ⟨hx, hb, hml, hown, hts⟩ (c_Pw_go l dC dI cB cI cL w qb gb qt gt qr gr qp h0 h1 h2 qu gu qo go_ B Z U P fb fr fu f0 f1 f2 hst nB hB hk hfb hpc hfu s.heap.size) (cwV 0 hts gL_go_X2_go rfl rfl rfl (by decide +kernel) ⟨(Nat.le_of_ble_eq_true rfl), (Nat.le_of_ble_eq_true rfl)⟩) ⟨hpre.1, va_recv hK hPc (ci := 2) (q0 := 0) rfl rfl, hpre.2⟩ rfl rfl hl.1 rfl (lv_room (Nat.le_of_ble_eq_true rfl)) dL_go_3 ⟨(Nat.le_of_ble_eq_true rfl), (Nat.le_of_ble_eq_true rfl)⟩) hS (fun q _ h => hFc q h) hFc (fun q _ h => hFc q h) (fun E ce q9 u t H1 locs ht hvm hpx hBX hz1 hk1 hS hcell hcv hcl => ?_) (fun r z t H1 locs ht hvm hpo hBo hz1 hk1 hS => ?_)
  · obtain ⟨hE, hP1⟩ := hBX
    subst hE
    rw [ht] at hP1
    obtain ⟨hP, hD⟩ := va_join (wr := [(oq, .inl (cL, 1, .inr (.inl fo)))]) (w1 := [(w, .inr (2, [.ref qb, .ref qt, .ref qr, .ref qp, .ref qu, .ref qo])), (qb, .inr (0, [.ref gb, .int (nI B.length)])), (gb, .inl (cB, 603, .inl fb)), (qr, .inr (0, [.ref gr, .int (nI Z.length)])), (gr, .inl (cB, 603, .inl fr)), (qp, .inr (1, [.ref h0, .ref h1, .ref h2, .int (nI P.length)])), (h0, .inl (cI, 133, .inl f0)), (h1, .inl (cI, 133, .inl f1)), (h2, .inl (cI, 133, .inl f2)), (qu, .inr (0, [.ref gu, .int (nI U.length)])), (gu, .inl (cB, 603, .inl fu))]) hP hD [0, 1, 2, 3, 4, 5, 6, 7, 8, 9, 10] [11] rfl rfl (by decide) (by decide) hk1 hFc hP1 hDc.self
    have hP : va_P (dC, dI) vwCl [(w, .inr (2, [.ref qb, .ref qt, .ref qr, .ref qp, .ref qu, .ref qo])), (qb, .inr (0, [.ref gb, .int (nI B.length)])), (gb, .inl (cB, 603, .inl fb)), (qr, .inr (0, [.ref gr, .int (nI Z.length)])), (gr, .inl (cB, 603, .inl fr)), (qp, .inr (1, [.ref h0, .ref h1, .ref h2, .int (nI P.length)])), (h0, .inl (cI, 133, .inl f0)), (h1, .inl (cI, 133, .inl f1)), (h2, .inl (cI, 133, .inl f2)), (qu, .inr (0, [.ref gu, .int (nI U.length)])), (gu, .inl (cB, 603, .inl fu)), (oq, .inl (cL, 1, .inr (.inl fo)))] H1 := hP.sub [1, 2, 3, 4, 5, 6, 7, 8, 9, 10, 11, 0] rfl
    have hD : va_D A [(w, .inr (2, [.ref qb, .ref qt, .ref qr, .ref qp, .ref qu, .ref qo])), (qb, .inr (0, [.ref gb, .int (nI B.length)])), (gb, .inl (cB, 603, .inl fb)), (qr, .inr (0, [.ref gr, .int (nI Z.length)])), (gr, .inl (cB, 603, .inl fr)), (qp, .inr (1, [.ref h0, .ref h1, .ref h2, .int (nI P.length)])), (h0, .inl (cI, 133, .inl f0)), (h1, .inl (cI, 133, .inl f1)), (h2, .inl (cI, 133, .inl f2)), (qu, .inr (0, [.ref gu, .int (nI U.length)])), (gu, .inl (cB, 603, .inl fu)), (oq, .inl (cL, 1, .inr (.inl fo)))] := hD.sub [1, 2, 3, 4, 5, 6, 7, 8, 9, 10, 11, 0] (by decide) rfl
    refine vx_catch (own := RL) (name := "java/lang/IllegalStateException") hown [] ⟨0, 8, 11, 13⟩ [] (by rw [htab]; rfl) (fun z h => nomatch h) (by decide) (by decide) (hts (.classLink RL 13 "java/lang/IllegalStateException") (by decide +kernel)) (va_Nw.use rfl hX.2.2.2.1) hcell hcv hcl ?_
    refine lv_astore_n (lv' := [(2, .ref q9), (0, .ref w), (1, .ref oq)]) hx hb dL_go_11 rfl hl (by decide) rfl (fun ls hl => ?_)
    refine lv_iconst (v := 1) hx hb dL_go_12 (by decide) ?_
    have n0 : ¬ ce_P P ≤ B.length := by omega
    refine wi_iret hx hb hr hlk (fr, fo) ⟨by rw [if_neg n0], by rw [if_neg n0]; exact hfr, fun h9 => absurd h9 n0⟩ ?_ ?_ hS dL_go_13
    · show va_P (dC, dI) vwCl [(w, .inr (2, [.ref qb, .ref qt, .ref qr, .ref qp, .ref qu, .ref qo])), (qb, .inr (0, [.ref gb, .int (nI B.length)])), (gb, .inl (cB, 603, .inl fb)), (qr, .inr (0, [.ref gr, .int (nI (if ce_P P ≤ B.length then go_R B U P else Z).length)])), (gr, .inl (cB, 603, .inl (fr))), (qp, .inr (1, [.ref h0, .ref h1, .ref h2, .int (nI P.length)])), (h0, .inl (cI, 133, .inl f0)), (h1, .inl (cI, 133, .inl f1)), (h2, .inl (cI, 133, .inl f2)), (qu, .inr (0, [.ref gu, .int (nI U.length)])), (gu, .inl (cB, 603, .inl fu)), (oq, .inl (cL, 1, .inr (.inl fo)))] _
      rw [if_neg n0]; exact hP
    · show va_D A [(w, .inr (2, [.ref qb, .ref qt, .ref qr, .ref qp, .ref qu, .ref qo])), (qb, .inr (0, [.ref gb, .int (nI B.length)])), (gb, .inl (cB, 603, .inl fb)), (qr, .inr (0, [.ref gr, .int (nI (if ce_P P ≤ B.length then go_R B U P else Z).length)])), (gr, .inl (cB, 603, .inl (fr))), (qp, .inr (1, [.ref h0, .ref h1, .ref h2, .int (nI P.length)])), (h0, .inl (cI, 133, .inl f0)), (h1, .inl (cI, 133, .inl f1)), (h2, .inl (cI, 133, .inl f2)), (qu, .inr (0, [.ref gu, .int (nI U.length)])), (gu, .inl (cB, 603, .inl fu)), (oq, .inl (cL, 1, .inr (.inl fo)))]
      rw [if_neg n0]; exact hD
  · obtain ⟨hP1, hD1⟩ := hBo
    obtain ⟨hr1, n1, hz⟩ := hpo
    rw [ht] at hP1
    obtain ⟨hP, hD⟩ := va_join (wr := [(oq, .inl (cL, 1, .inr (.inl fo)))]) (w1 := [(w, .inr (2, [.ref qb, .ref qt, .ref qr, .ref qp, .ref qu, .ref qo])), (qb, .inr (0, [.ref gb, .int (nI B.length)])), (gb, .inl (cB, 603, .inl fb)), (qr, .inr (0, [.ref gr, .int (nI (go_R B U P).length)])), (gr, .inl (cB, 603, .inl z)), (qp, .inr (1, [.ref h0, .ref h1, .ref h2, .int (nI P.length)])), (h0, .inl (cI, 133, .inl f0)), (h1, .inl (cI, 133, .inl f1)), (h2, .inl (cI, 133, .inl f2)), (qu, .inr (0, [.ref gu, .int (nI U.length)])), (gu, .inl (cB, 603, .inl fu))]) hP hD [0, 1, 2, 3, 4, 5, 6, 7, 8, 9, 10] [11] rfl rfl (by decide) (by decide) hk1 hFc hP1 hD1
    have hP : va_P (dC, dI) vwCl [(w, .inr (2, [.ref qb, .ref qt, .ref qr, .ref qp, .ref qu, .ref qo])), (qb, .inr (0, [.ref gb, .int (nI B.length)])), (gb, .inl (cB, 603, .inl fb)), (qr, .inr (0, [.ref gr, .int (nI (go_R B U P).length)])), (gr, .inl (cB, 603, .inl z)), (qp, .inr (1, [.ref h0, .ref h1, .ref h2, .int (nI P.length)])), (h0, .inl (cI, 133, .inl f0)), (h1, .inl (cI, 133, .inl f1)), (h2, .inl (cI, 133, .inl f2)), (qu, .inr (0, [.ref gu, .int (nI U.length)])), (gu, .inl (cB, 603, .inl fu)), (oq, .inl (cL, 1, .inr (.inl fo)))] H1 := hP.sub [1, 2, 3, 4, 5, 6, 7, 8, 9, 10, 11, 0] rfl
    have hD : va_D A [(w, .inr (2, [.ref qb, .ref qt, .ref qr, .ref qp, .ref qu, .ref qo])), (qb, .inr (0, [.ref gb, .int (nI B.length)])), (gb, .inl (cB, 603, .inl fb)), (qr, .inr (0, [.ref gr, .int (nI (go_R B U P).length)])), (gr, .inl (cB, 603, .inl z)), (qp, .inr (1, [.ref h0, .ref h1, .ref h2, .int (nI P.length)])), (h0, .inl (cI, 133, .inl f0)), (h1, .inl (cI, 133, .inl f1)), (h2, .inl (cI, 133, .inl f2)), (qu, .inr (0, [.ref gu, .int (nI U.length)])), (gu, .inl (cB, 603, .inl fu)), (oq, .inl (cL, 1, .inr (.inl fo)))] := hD.sub [1, 2, 3, 4, 5, 6, 7, 8, 9, 10, 11, 0] (by decide) rfl
    refine lv_i2l hx hb dL_go_6 rfl ?_
    refine va_last hx hb hK hP hD hS 11 2 rfl rfl (vp_in_nI (n := 0) (by omega) (by omega)) dL_go_7 (fun H locs hP hD hS => ?_)
    have hP : va_P (dC, dI) vwCl [(w, .inr (2, [.ref qb, .ref qt, .ref qr, .ref qp, .ref qu, .ref qo])), (qb, .inr (0, [.ref gb, .int (nI B.length)])), (gb, .inl (cB, 603, .inl fb)), (qr, .inr (0, [.ref gr, .int (nI (go_R B U P).length)])), (gr, .inl (cB, 603, .inl z)), (qp, .inr (1, [.ref h0, .ref h1, .ref h2, .int (nI P.length)])), (h0, .inl (cI, 133, .inl f0)), (h1, .inl (cI, 133, .inl f1)), (h2, .inl (cI, 133, .inl f2)), (qu, .inr (0, [.ref gu, .int (nI U.length)])), (gu, .inl (cB, 603, .inl fu)), (oq, .inl (cL, 1, .inr (.inl (vp_updL fo 0 r.toInt64))))] H := hP
    have hD : va_D A [(w, .inr (2, [.ref qb, .ref qt, .ref qr, .ref qp, .ref qu, .ref qo])), (qb, .inr (0, [.ref gb, .int (nI B.length)])), (gb, .inl (cB, 603, .inl fb)), (qr, .inr (0, [.ref gr, .int (nI (go_R B U P).length)])), (gr, .inl (cB, 603, .inl z)), (qp, .inr (1, [.ref h0, .ref h1, .ref h2, .int (nI P.length)])), (h0, .inl (cI, 133, .inl f0)), (h1, .inl (cI, 133, .inl f1)), (h2, .inl (cI, 133, .inl f2)), (qu, .inr (0, [.ref gu, .int (nI U.length)])), (gu, .inl (cB, 603, .inl fu)), (oq, .inl (cL, 1, .inr (.inl (vp_updL fo 0 r.toInt64))))] := hD
    refine lv_goto (tgt := 14) hx hb dL_go_8 (by decide) ?_
    refine lv_iconst (v := 0) hx hb dL_go_14 (by decide) ?_
    refine wi_iret hx hb hr hlk (z, vp_updL fo 0 r.toInt64) ⟨by rw [if_pos n1], by rw [if_pos n1]; exact hz, fun _ => by rw [← hr1]; rfl⟩ ?_ ?_ hS dL_go_15
    · show va_P (dC, dI) vwCl [(w, .inr (2, [.ref qb, .ref qt, .ref qr, .ref qp, .ref qu, .ref qo])), (qb, .inr (0, [.ref gb, .int (nI B.length)])), (gb, .inl (cB, 603, .inl fb)), (qr, .inr (0, [.ref gr, .int (nI (if ce_P P ≤ B.length then go_R B U P else Z).length)])), (gr, .inl (cB, 603, .inl (z))), (qp, .inr (1, [.ref h0, .ref h1, .ref h2, .int (nI P.length)])), (h0, .inl (cI, 133, .inl f0)), (h1, .inl (cI, 133, .inl f1)), (h2, .inl (cI, 133, .inl f2)), (qu, .inr (0, [.ref gu, .int (nI U.length)])), (gu, .inl (cB, 603, .inl fu)), (oq, .inl (cL, 1, .inr (.inl (vp_updL fo 0 r.toInt64))))] _
      rw [if_pos n1]; exact hP
    · show va_D A [(w, .inr (2, [.ref qb, .ref qt, .ref qr, .ref qp, .ref qu, .ref qo])), (qb, .inr (0, [.ref gb, .int (nI B.length)])), (gb, .inl (cB, 603, .inl fb)), (qr, .inr (0, [.ref gr, .int (nI (if ce_P P ≤ B.length then go_R B U P else Z).length)])), (gr, .inl (cB, 603, .inl (z))), (qp, .inr (1, [.ref h0, .ref h1, .ref h2, .int (nI P.length)])), (h0, .inl (cI, 133, .inl f0)), (h1, .inl (cI, 133, .inl f1)), (h2, .inl (cI, 133, .inl f2)), (qu, .inr (0, [.ref gu, .int (nI U.length)])), (gu, .inl (cB, 603, .inl fu)), (oq, .inl (cL, 1, .inr (.inl (vp_updL fo 0 r.toInt64))))]
      rw [if_pos n1]; exact hD
end PWLGO
end
