/-! A contract of a method that answers an int or throws: gx_M. Behind a throw its world is as it was. -/
section PWTHROW
variable {p : Program} {l : Launch} {e : Env} {R : Room} {s : State} {m : MethodId} {args : Array Value} {below : List Frame} {meth : Method} {c : Code} {H : Heap} {locs : List Loc} {cells slots : Nat} {Q : State → Prop}
variable {D : va_G} {cl : List vw_C} {tys : List (ClassId × FieldType)}
def gx_M {S : Type} (l : Launch) (y : MethodName) (wy : List Cond) (rm : Room) (D : va_G) (cl : List vw_C) (tys : List (ClassId × FieldType)) (av : List Value) (wc : va_W) (mc ms : Nat) (X : (Nat → Prop) → State → Prop) (post : Int32 → S → Prop) (w1 : S → va_W) (px : Prop) (E0 : String) : Prop :=
  ∀ sz : Nat, vx_Met l y wy rm (va_Pc av (fun U => U.heap.size = sz ∧ va_P D cl wc U.heap ∧ va_K D cl tys U ∧ nx_N U ∧ va_D (fun _ => True) wc ∧ X (va_A wc sz) U)) (va_Qi post (fun u t => va_P D cl (w1 u) t.heap ∧ va_D (va_A wc sz) (w1 u)) (va_A wc sz)) (vx_X (fun _ : Unit => px) (fun E _ t => E = E0 ∧ va_P D cl wc t.heap) (va_A wc sz)) mc ms (va_A wc sz)
theorem gx_ofW {S : Type} {y : MethodName} {wy wy' : List Cond} {rm : Room} {cc : ByteArray} {maxL : Nat} {ret : Option FieldType} {av : List Value} {wc : va_W} {mc ms : Nat} {X : (Nat → Prop) → State → Prop} {post : Int32 → S → Prop} {w1 : S → va_W} {px : Prop} {E0 : String}
    (hy : plainName y.cls = true) (hw : wy = Cond.code y cc maxL ret :: wy') (hlen : (lg_sl av).length ≤ maxL)
    (body : ∀ (p : Program) (e : Env) (s : State) (m : MethodId) (below : List Frame) (meth : Method) (c : Code) (ls : Array Slot) (A : Nat → Prop), p.tables.exec = Jvm.exec → c.code = cc → meth.sig.returnType = ret → c.maxLocals = maxL → (∀ w ∈ wy, w.before av.toArray s = true) → s.vm.findClass y.cls = some m.cls → meth.locks = false → (∀ x ∈ c.exceptionTable.toList, False) → va_P D cl wc s.heap → va_K D cl tys s → nx_N s → va_D A wc → X A s → (∀ q : Nat, s.heap.size ≤ q → A q) → va_S A s.heap s.heap [] → lv_has ls maxL (lv_args 0 av) →
      W p l e rm s m av.toArray below meth c s.heap [] 0 0 (vx_MQ below (va_Qi post (fun u t => va_P D cl (w1 u) t.heap ∧ va_D A (w1 u)) A) (vx_X (fun _ : Unit => px) (fun E _ t => E = E0 ∧ va_P D cl wc t.heap) A) av.toArray s mc ms A) (F0 m 0 ls [])) : gx_M l y wy rm D cl tys av wc mc ms X post w1 px E0 := by
  intro sz
  refine vx_ofW (cc := cc) (maxL := maxL) (ret := ret) hy hw ?_
  intro p e s m args below meth c s₁ B hml hout hv
  obtain ⟨rfl, hsz, hP, hK, hN, hD0, hX⟩ := hv
  have hts := atoms_spec (ws := wy) B.pre
  subst hsz
  rw [lg_entry_eq]
  exact body p e s m below meth c _ (va_A wc s.heap.size) B.exec B.bytes B.returns hml hts (findClass_of_methodNamed B.named) B.notSynchronized hout hP hK hN hD0.self hX (fun q h => Or.inr h) va_S.rf (lv_entry av hlen)
theorem gx_iret {S : Type} {cc : ByteArray} {v : Int32} {post : Int32 → S → Prop} {w1 : S → va_W} {A : Nat → Prop} {XC : String → State → State → Prop} {mc ms pc : Nat} {ls : Array Slot} (hx : p.tables.exec = Jvm.exec) (hb : c.code = cc) (hr : meth.sig.returnType = some .int) (hlk : meth.locks = false) (hmc : cells ≤ mc) (hms : slots ≤ ms) (u : S) (hu : post v u) (hP : va_P D cl (w1 u) H) (hD : va_D A (w1 u)) (hS : va_S A s.heap H locs) (hdg : decode cc pc = .ok (.ireturn, 1)) :
    W p l e R s m args below meth c H locs cells slots (vx_MQ below (va_Qi post (fun u t => va_P D cl (w1 u) t.heap ∧ va_D A (w1 u)) A) XC args s mc ms A) (F0 m pc ls [.int v]) :=
  W.widen hmc hms (vx_ret (wi_iret hx hb hr hlk u hu hP hD hS hdg))
end PWTHROW
