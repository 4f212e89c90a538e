section PWMGO
variable (l : Launch) (dC : Nat → ClassId) (dI : Nat → Nat → Nat) (cB cI cL : ClassId)

set_option maxHeartbeats 1000000 in
set_option maxRecDepth 100000 in
/-- go() -/
theorem c_Md_go (md a1 a2 a3 a4 a5 : Nat) (B T Z U : List Int32) (P : List (Nat × Nat × Nat)) (th : Int32) (eb eo er en : Nat → Int32) (nB : Nat) (hk : pk_W nB U.length P) (hB : B.length ≤ 600) (heb : im_k eb B) (ho : im_k eo (rw_R U P)) (her : im_k er Z) : wi_M l yX3_go wsX3_go ({ frames := 2, cells := 0, slots := 0, locals := 42 } : Room) (dC, dI) vwCl (tk_s cB cI cL) [.ref md] [(md, .inr (3, [.int th, .ref a1, .int (nI B.length), .ref a2, .int (nI T.length), .ref a3, .int (nI (rw_R U P).length), .ref a4, .int (nI Z.length), .ref a5])), (a1, .inl (cI, 600, .inl eb)), (a3, .inl (cI, 2000, .inl eo)), (a4, .inl (cI, 600, .inl er)), (a5, .inl (cI, 600, .inl en))] 0 0 (fun (r : Int32) (z : (Nat → Int32) × (Nat → Int32)) => r = (if ce_P P ≤ B.length then nI (go_R B U P).length else 0) ∧ im_k z.1 (if ce_P P ≤ B.length then go_R B U P else Z)) (fun z : (Nat → Int32) × (Nat → Int32) => [(md, .inr (3, [.int (if ce_P P ≤ B.length then 0 else 1), .ref a1, .int (nI B.length), .ref a2, .int (nI T.length), .ref a3, .int (nI (rw_R U P).length), .ref a4, .int (nI (if ce_P P ≤ B.length then go_R B U P else Z).length), .ref a5])), (a1, .inl (cI, 600, .inl eb)), (a3, .inl (cI, 2000, .inl eo)), (a4, .inl (cI, 600, .inl (z.1))), (a5, .inl (cI, 600, .inl (z.2)))]) := by
  refine wi_ofW (cc := cX3_go) (maxL := 5) (ret := (some .int)) (by decide) rfl (Nat.le_of_ble_eq_true rfl) ?_
  intro p e s m below meth c ls A hx hb hr hml hts hown hlk hnm hP hK hN hD hA hS hl
  have hl : lv_has ls 5 [(0, .ref md)] := hl
  have hln := pk_len hk
  have hsm := pk_sm hk
  have hOl : (rw_R U P).length ≤ 603 := by rw [rw_len (nB := nB) hk.2.2.1]; exact hln.2
  have hgl := go_len B U P
  have thr : B.length < ce_P P → ∀ (j k : Nat) (t : Nat × Nat × Nat) (f : Nat → Int32) (H : Heap) (locs : List Loc) (ls : Array Slot), P[j]? = some t → va_P (dC, dI) vwCl [(md, .inr (3, [.int 1, .ref a1, .int (nI B.length), .ref a2, .int (nI T.length), .ref a3, .int (nI (rw_R U P).length), .ref a4, .int (nI Z.length), .ref a5])), (a1, .inl (cI, 600, .inl eb)), (a3, .inl (cI, 2000, .inl eo)), (a4, .inl (cI, 600, .inl er)), (a5, .inl (cI, 600, .inl f))] H → va_D A [(md, .inr (3, [.int 1, .ref a1, .int (nI B.length), .ref a2, .int (nI T.length), .ref a3, .int (nI (rw_R U P).length), .ref a4, .int (nI Z.length), .ref a5])), (a1, .inl (cI, 600, .inl eb)), (a3, .inl (cI, 2000, .inl eo)), (a4, .inl (cI, 600, .inl er)), (a5, .inl (cI, 600, .inl f))] → va_S A s.heap H locs → lv_has ls 5 [(3, .int (nI k)), (2, .int (nI (rw_R U (P.take j)).length)), (0, .ref md)] → W p l e ({ frames := 2, cells := 0, slots := 0, locals := 42 } : Room) s m ([.ref md] : List Value).toArray below meth c H locs 0 0 (MQ below (va_Qi (fun (r : Int32) (z : (Nat → Int32) × (Nat → Int32)) => r = (if ce_P P ≤ B.length then nI (go_R B U P).length else 0) ∧ im_k z.1 (if ce_P P ≤ B.length then go_R B U P else Z)) (fun u t => va_P (dC, dI) vwCl ((fun z : (Nat → Int32) × (Nat → Int32) => [(md, .inr (3, [.int (if ce_P P ≤ B.length then 0 else 1), .ref a1, .int (nI B.length), .ref a2, .int (nI T.length), .ref a3, .int (nI (rw_R U P).length), .ref a4, .int (nI (if ce_P P ≤ B.length then go_R B U P else Z).length), .ref a5])), (a1, .inl (cI, 600, .inl eb)), (a3, .inl (cI, 2000, .inl eo)), (a4, .inl (cI, 600, .inl (z.1))), (a5, .inl (cI, 600, .inl (z.2)))]) u) t.heap ∧ va_D A ((fun z : (Nat → Int32) × (Nat → Int32) => [(md, .inr (3, [.int (if ce_P P ≤ B.length then 0 else 1), .ref a1, .int (nI B.length), .ref a2, .int (nI T.length), .ref a3, .int (nI (rw_R U P).length), .ref a4, .int (nI (if ce_P P ≤ B.length then go_R B U P else Z).length), .ref a5])), (a1, .inl (cI, 600, .inl eb)), (a3, .inl (cI, 2000, .inl eo)), (a4, .inl (cI, 600, .inl (z.1))), (a5, .inl (cI, 600, .inl (z.2)))]) u)) A) ([.ref md] : List Value).toArray s 0 0 A) (F0 m 134 ls []) := by
    intro hce j k t f H locs ls ht hP hD hS hl
    have htm := List.mem_of_getElem? ht
    have h16 := pk_1 hk htm
    have hpa := pa_of (T := U) ht h16.1 h16.2
    have n0 : ¬ ce_P P ≤ B.length := by omega
    have fin : ∀ ls : Array Slot, lv_has ls 5 [(0, .ref md)] → W p l e ({ frames := 2, cells := 0, slots := 0, locals := 42 } : Room) s m ([.ref md] : List Value).toArray below meth c H locs 0 0 (MQ below (va_Qi (fun (r : Int32) (z : (Nat → Int32) × (Nat → Int32)) => r = (if ce_P P ≤ B.length then nI (go_R B U P).length else 0) ∧ im_k z.1 (if ce_P P ≤ B.length then go_R B U P else Z)) (fun u t => va_P (dC, dI) vwCl ((fun z : (Nat → Int32) × (Nat → Int32) => [(md, .inr (3, [.int (if ce_P P ≤ B.length then 0 else 1), .ref a1, .int (nI B.length), .ref a2, .int (nI T.length), .ref a3, .int (nI (rw_R U P).length), .ref a4, .int (nI (if ce_P P ≤ B.length then go_R B U P else Z).length), .ref a5])), (a1, .inl (cI, 600, .inl eb)), (a3, .inl (cI, 2000, .inl eo)), (a4, .inl (cI, 600, .inl (z.1))), (a5, .inl (cI, 600, .inl (z.2)))]) u) t.heap ∧ va_D A ((fun z : (Nat → Int32) × (Nat → Int32) => [(md, .inr (3, [.int (if ce_P P ≤ B.length then 0 else 1), .ref a1, .int (nI B.length), .ref a2, .int (nI T.length), .ref a3, .int (nI (rw_R U P).length), .ref a4, .int (nI (if ce_P P ≤ B.length then go_R B U P else Z).length), .ref a5])), (a1, .inl (cI, 600, .inl eb)), (a3, .inl (cI, 2000, .inl eo)), (a4, .inl (cI, 600, .inl (z.1))), (a5, .inl (cI, 600, .inl (z.2)))]) u)) A) ([.ref md] : List Value).toArray s 0 0 A) (F0 m 149 ls []) := by
      intro ls hl
      refine lv_aload_n hx hb dX3_go_149 rfl (lv_at hl 0 rfl) ?_
      refine va_get (D := (dC, dI)) (ci := 3) (v := .int 1) (C := RX3) (T := TX3) (N := 10) hx hb hts (by decide +kernel) hown hK hP 0 rfl rfl 0 (by decide) (hts (.fieldLink RX3 7 "PieceWaysModel" "thrownCode" "I") (by decide +kernel)) (fun _ h9 => h9) rfl dX3_go_150 ?_
      refine lv_if_eq (tgt := 158) hx hb dX3_go_153 (by decide) (fun d9 => ?_) (fun d9 => ?_)
      · exact absurd d9 (by decide)
      · refine lv_iconst (v := 0) hx hb dX3_go_156 (by decide) ?_
        refine wi_iret hx hb hr hlk (er, f) ⟨by rw [if_neg n0], by rw [if_neg n0]; exact her⟩ ?_ ?_ hS dX3_go_157
        · show va_P (dC, dI) vwCl [(md, .inr (3, [.int (if ce_P P ≤ B.length then 0 else 1), .ref a1, .int (nI B.length), .ref a2, .int (nI T.length), .ref a3, .int (nI (rw_R U P).length), .ref a4, .int (nI (if ce_P P ≤ B.length then go_R B U P else Z).length), .ref a5])), (a1, .inl (cI, 600, .inl eb)), (a3, .inl (cI, 2000, .inl eo)), (a4, .inl (cI, 600, .inl (er))), (a5, .inl (cI, 600, .inl (f)))] _
          rw [if_neg n0, if_neg n0]; exact hP
        · show va_D A [(md, .inr (3, [.int (if ce_P P ≤ B.length then 0 else 1), .ref a1, .int (nI B.length), .ref a2, .int (nI T.length), .ref a3, .int (nI (rw_R U P).length), .ref a4, .int (nI (if ce_P P ≤ B.length then go_R B U P else Z).length), .ref a5])), (a1, .inl (cI, 600, .inl eb)), (a3, .inl (cI, 2000, .inl eo)), (a4, .inl (cI, 600, .inl (er))), (a5, .inl (cI, 600, .inl (f)))]
          rw [if_neg n0, if_neg n0]; exact hD
    have hd9 : ∀ (q9 : Int32) (ls : Array Slot), lv_has ls 5 [(2, .int q9), (0, .ref md)] → W p l e ({ frames := 2, cells := 0, slots := 0, locals := 42 } : Room) s m ([.ref md] : List Value).toArray below meth c H locs 0 0 (MQ below (va_Qi (fun (r : Int32) (z : (Nat → Int32) × (Nat → Int32)) => r = (if ce_P P ≤ B.length then nI (go_R B U P).length else 0) ∧ im_k z.1 (if ce_P P ≤ B.length then go_R B U P else Z)) (fun u t => va_P (dC, dI) vwCl ((fun z : (Nat → Int32) × (Nat → Int32) => [(md, .inr (3, [.int (if ce_P P ≤ B.length then 0 else 1), .ref a1, .int (nI B.length), .ref a2, .int (nI T.length), .ref a3, .int (nI (rw_R U P).length), .ref a4, .int (nI (if ce_P P ≤ B.length then go_R B U P else Z).length), .ref a5])), (a1, .inl (cI, 600, .inl eb)), (a3, .inl (cI, 2000, .inl eo)), (a4, .inl (cI, 600, .inl (z.1))), (a5, .inl (cI, 600, .inl (z.2)))]) u) t.heap ∧ va_D A ((fun z : (Nat → Int32) × (Nat → Int32) => [(md, .inr (3, [.int (if ce_P P ≤ B.length then 0 else 1), .ref a1, .int (nI B.length), .ref a2, .int (nI T.length), .ref a3, .int (nI (rw_R U P).length), .ref a4, .int (nI (if ce_P P ≤ B.length then go_R B U P else Z).length), .ref a5])), (a1, .inl (cI, 600, .inl eb)), (a3, .inl (cI, 2000, .inl eo)), (a4, .inl (cI, 600, .inl (z.1))), (a5, .inl (cI, 600, .inl (z.2)))]) u)) A) ([.ref md] : List Value).toArray s 0 0 A) (F0 m 9 ls []) := by
      intro q9 ls hl
      refine lv_iload_n hx hb dX3_go_9 rfl (lv_at hl 0 rfl) ?_
      refine lv_aload_n hx hb dX3_go_10 rfl (lv_at hl 1 rfl) ?_
      refine va_get (D := (dC, dI)) (ci := 3) (v := .int (nI (rw_R U P).length)) (C := RX3) (T := TX3) (N := 10) hx hb hts (by decide +kernel) hown hK hP 0 rfl rfl 6 (by decide) (hts (.fieldLink RX3 29 "PieceWaysModel" "size" "I") (by decide +kernel)) (fun _ h9 => h9) rfl dX3_go_11 ?_
      refine lv_icmp_ge (tgt := 149) hx hb dX3_go_14 (by decide) (fun d1 => ?_) (fun d1 => ?_)
      · exact fin ls (lv_sub hl [1] rfl)
      · refine lv_aload_n hx hb dX3_go_17 rfl (lv_at hl 1 rfl) ?_
        refine va_get (D := (dC, dI)) (ci := 3) (v := .int 1) (C := RX3) (T := TX3) (N := 10) hx hb hts (by decide +kernel) hown hK hP 0 rfl rfl 0 (by decide) (hts (.fieldLink RX3 7 "PieceWaysModel" "thrownCode" "I") (by decide +kernel)) (fun _ h9 => h9) rfl dX3_go_18 ?_
        refine lv_if_ne (tgt := 149) hx hb dX3_go_21 (by decide) (fun d2 => ?_) (fun d2 => ?_)
        · exact fin ls (lv_sub hl [1] rfl)
        · exact absurd d2 (by decide)
    have hd140 : ∀ ls : Array Slot, lv_has ls 5 [(2, .int (nI (rw_R U (P.take j)).length)), (0, .ref md)] → W p l e ({ frames := 2, cells := 0, slots := 0, locals := 42 } : Room) s m ([.ref md] : List Value).toArray below meth c H locs 0 0 (MQ below (va_Qi (fun (r : Int32) (z : (Nat → Int32) × (Nat → Int32)) => r = (if ce_P P ≤ B.length then nI (go_R B U P).length else 0) ∧ im_k z.1 (if ce_P P ≤ B.length then go_R B U P else Z)) (fun u t => va_P (dC, dI) vwCl ((fun z : (Nat → Int32) × (Nat → Int32) => [(md, .inr (3, [.int (if ce_P P ≤ B.length then 0 else 1), .ref a1, .int (nI B.length), .ref a2, .int (nI T.length), .ref a3, .int (nI (rw_R U P).length), .ref a4, .int (nI (if ce_P P ≤ B.length then go_R B U P else Z).length), .ref a5])), (a1, .inl (cI, 600, .inl eb)), (a3, .inl (cI, 2000, .inl eo)), (a4, .inl (cI, 600, .inl (z.1))), (a5, .inl (cI, 600, .inl (z.2)))]) u) t.heap ∧ va_D A ((fun z : (Nat → Int32) × (Nat → Int32) => [(md, .inr (3, [.int (if ce_P P ≤ B.length then 0 else 1), .ref a1, .int (nI B.length), .ref a2, .int (nI T.length), .ref a3, .int (nI (rw_R U P).length), .ref a4, .int (nI (if ce_P P ≤ B.length then go_R B U P else Z).length), .ref a5])), (a1, .inl (cI, 600, .inl eb)), (a3, .inl (cI, 2000, .inl eo)), (a4, .inl (cI, 600, .inl (z.1))), (a5, .inl (cI, 600, .inl (z.2)))]) u)) A) ([.ref md] : List Value).toArray s 0 0 A) (F0 m 140 ls []) := by
      intro ls hl
      refine lv_aload_n hx hb dX3_go_140 rfl (lv_at hl 1 rfl) ?_
      refine lv_iload_n hx hb dX3_go_141 rfl (lv_at hl 0 rfl) ?_
      refine rd_V (wc := [(md, .inr (3, [.int 1, .ref a1, .int (nI B.length), .ref a2, .int (nI T.length), .ref a3, .int (nI (rw_R U P).length), .ref a4, .int (nI Z.length), .ref a5])), (a3, .inl (cI, 2000, .inl eo))]) (As := [.int (nI (rw_R U (P.take j)).length)]) (rest := []) ⟨hx, hb, hml, hown, hts⟩ (c_Md_behind l dC dI cB cI cL md a1 a2 a3 a4 a5 B T (rw_R U P) Z 1 eo (rw_R U (P.take j)).length t hOl ho (by omega) h16.2 hpa) (cwV 1 hts gX3_go_X3_behind rfl rfl rfl (by decide +kernel) ⟨(Nat.le_of_ble_eq_true rfl), (Nat.le_of_ble_eq_true rfl)⟩) hK hN (sb_P hP [0, 2] rfl) 0 rfl rfl rfl rfl hl.1 rfl (Nat.le_of_ble_eq_true rfl) dX3_go_142 ⟨(Nat.le_of_ble_eq_true rfl), (Nat.le_of_ble_eq_true rfl)⟩ ?_
      refine lv_istore_n (lv' := [(2, .int (nI ((rw_R U (P.take j)).length + (if t.1 = 1 then 5 else 3 + t.2.2)))), (0, .ref md)]) hx hb dX3_go_145 rfl hl (by decide) rfl (fun ls hl => ?_)
      refine lv_goto (tgt := 9) hx hb dX3_go_146 (by decide) ?_
      exact hd9 _ ls (lv_sub hl [0, 1] rfl)
    refine lv_iinc (v := ((nI k) + 1)) (lv' := [(3, .int ((nI k) + 1)), (2, .int (nI (rw_R U (P.take j)).length)), (0, .ref md)]) hx hb dX3_go_134 hl (k := 0) rfl rfl (by decide) rfl (fun ls hl => ?_)
    refine lv_goto (tgt := 26) hx hb dX3_go_137 (by decide) ?_
    refine lv_iload_n hx hb dX3_go_26 rfl (lv_at hl 0 rfl) ?_
    refine lv_aload_n hx hb dX3_go_27 rfl (lv_at hl 2 rfl) ?_
    refine lv_iload_n hx hb dX3_go_28 rfl (lv_at hl 1 rfl) ?_
    refine rd_V (wc := [(md, .inr (3, [.int 1, .ref a1, .int (nI B.length), .ref a2, .int (nI T.length), .ref a3, .int (nI (rw_R U P).length), .ref a4, .int (nI Z.length), .ref a5])), (a3, .inl (cI, 2000, .inl eo))]) (As := [.int (nI (rw_R U (P.take j)).length)]) (rest := [.int ((nI k) + 1)]) ⟨hx, hb, hml, hown, hts⟩ (c_Md_many l dC dI cB cI cL md a1 a2 a3 a4 a5 B T (rw_R U P) Z 1 eo (rw_R U (P.take j)).length t hOl ho (by omega) h16.2 hpa) (cwV 1 hts gX3_go_X3_many rfl rfl rfl (by decide +kernel) ⟨(Nat.le_of_ble_eq_true rfl), (Nat.le_of_ble_eq_true rfl)⟩) hK hN (sb_P hP [0, 2] rfl) 0 rfl rfl rfl rfl hl.1 rfl (Nat.le_of_ble_eq_true rfl) dX3_go_29 ⟨(Nat.le_of_ble_eq_true rfl), (Nat.le_of_ble_eq_true rfl)⟩ ?_
    refine lv_icmp_ge (tgt := 140) hx hb dX3_go_32 (by decide) (fun d3 => ?_) (fun d3 => ?_)
    · exact hd140 ls (lv_sub hl [1, 2] rfl)
    · refine lv_aload_n hx hb dX3_go_35 rfl (lv_at hl 2 rfl) ?_
      refine va_get (D := (dC, dI)) (ci := 3) (v := .int 1) (C := RX3) (T := TX3) (N := 10) hx hb hts (by decide +kernel) hown hK hP 0 rfl rfl 0 (by decide) (hts (.fieldLink RX3 7 "PieceWaysModel" "thrownCode" "I") (by decide +kernel)) (fun _ h9 => h9) rfl dX3_go_36 ?_
      refine lv_if_ne (tgt := 140) hx hb dX3_go_39 (by decide) (fun d4 => ?_) (fun d4 => ?_)
      · exact hd140 ls (lv_sub hl [1, 2] rfl)
      · exact absurd d4 (by decide)
  have cpy : ce_P P ≤ B.length → ∀ (f : Nat → Int32), im_k f (go_R B U P) → ∀ (n k : Nat) (g : Nat → Int32) (H : Heap) (locs : List Loc) (ls : Array Slot), n + k = (go_R B U P).length → im_k g ((go_R B U P).take k) → va_P (dC, dI) vwCl [(md, .inr (3, [.int 0, .ref a1, .int (nI B.length), .ref a2, .int (nI T.length), .ref a3, .int (nI (rw_R U P).length), .ref a4, .int (nI Z.length), .ref a5])), (a1, .inl (cI, 600, .inl eb)), (a3, .inl (cI, 2000, .inl eo)), (a4, .inl (cI, 600, .inl g)), (a5, .inl (cI, 600, .inl f))] H → va_D A [(md, .inr (3, [.int 0, .ref a1, .int (nI B.length), .ref a2, .int (nI T.length), .ref a3, .int (nI (rw_R U P).length), .ref a4, .int (nI Z.length), .ref a5])), (a1, .inl (cI, 600, .inl eb)), (a3, .inl (cI, 2000, .inl eo)), (a4, .inl (cI, 600, .inl g)), (a5, .inl (cI, 600, .inl f))] → va_S A s.heap H locs → lv_has ls 5 [(2, .int (nI k)), (1, .int (nI (go_R B U P).length)), (0, .ref md)] → W p l e ({ frames := 2, cells := 0, slots := 0, locals := 42 } : Room) s m ([.ref md] : List Value).toArray below meth c H locs 0 0 (MQ below (va_Qi (fun (r : Int32) (z : (Nat → Int32) × (Nat → Int32)) => r = (if ce_P P ≤ B.length then nI (go_R B U P).length else 0) ∧ im_k z.1 (if ce_P P ≤ B.length then go_R B U P else Z)) (fun u t => va_P (dC, dI) vwCl ((fun z : (Nat → Int32) × (Nat → Int32) => [(md, .inr (3, [.int (if ce_P P ≤ B.length then 0 else 1), .ref a1, .int (nI B.length), .ref a2, .int (nI T.length), .ref a3, .int (nI (rw_R U P).length), .ref a4, .int (nI (if ce_P P ≤ B.length then go_R B U P else Z).length), .ref a5])), (a1, .inl (cI, 600, .inl eb)), (a3, .inl (cI, 2000, .inl eo)), (a4, .inl (cI, 600, .inl (z.1))), (a5, .inl (cI, 600, .inl (z.2)))]) u) t.heap ∧ va_D A ((fun z : (Nat → Int32) × (Nat → Int32) => [(md, .inr (3, [.int (if ce_P P ≤ B.length then 0 else 1), .ref a1, .int (nI B.length), .ref a2, .int (nI T.length), .ref a3, .int (nI (rw_R U P).length), .ref a4, .int (nI (if ce_P P ≤ B.length then go_R B U P else Z).length), .ref a5])), (a1, .inl (cI, 600, .inl eb)), (a3, .inl (cI, 2000, .inl eo)), (a4, .inl (cI, 600, .inl (z.1))), (a5, .inl (cI, 600, .inl (z.2)))]) u)) A) ([.ref md] : List Value).toArray s 0 0 A) (F0 m 160 ls []) := by
    intro n1 f hf n
    induction n with
    | zero =>
      intro k g H locs ls hkn hg hP hD hS hl
      have hk2 : (go_R B U P).take k = go_R B U P := List.take_of_length_le (by omega)
      rw [hk2] at hg
      refine lv_iload_n hx hb dX3_go_160 rfl (lv_at hl 0 rfl) ?_
      refine lv_iload_n hx hb dX3_go_161 rfl (lv_at hl 1 rfl) ?_
      refine lv_icmp_ge (tgt := 183) hx hb dX3_go_162 (by decide) (fun d1 => ?_) (fun d1 => ?_)
      · refine lv_aload_n hx hb dX3_go_183 rfl (lv_at hl 2 rfl) ?_
        refine lv_iload_n hx hb dX3_go_184 rfl (lv_at hl 1 rfl) ?_
        refine va_put (D := (dC, dI)) (ci := 3) (v := .int (nI (go_R B U P).length)) (ty := .int) (C := RX3) (T := TX3) (N := 10) hx hb hts (by decide +kernel) tyX3 tyX3_ok nmX3 hown hK hP hD hS 0 rfl rfl 8 (by decide) (hts (.fieldLink RX3 35 "PieceWaysModel" "results" "I") (by decide +kernel)) (fun _ h9 => h9) rfl (by decide +kernel) rfl rfl (Nat.le_of_ble_eq_true rfl) dX3_go_185 (fun H locs hP hD hS => ?_)
        have hP : va_P (dC, dI) vwCl [(md, .inr (3, [.int 0, .ref a1, .int (nI B.length), .ref a2, .int (nI T.length), .ref a3, .int (nI (rw_R U P).length), .ref a4, .int (nI (go_R B U P).length), .ref a5])), (a1, .inl (cI, 600, .inl eb)), (a3, .inl (cI, 2000, .inl eo)), (a4, .inl (cI, 600, .inl g)), (a5, .inl (cI, 600, .inl f))] H := hP
        have hD : va_D A [(md, .inr (3, [.int 0, .ref a1, .int (nI B.length), .ref a2, .int (nI T.length), .ref a3, .int (nI (rw_R U P).length), .ref a4, .int (nI (go_R B U P).length), .ref a5])), (a1, .inl (cI, 600, .inl eb)), (a3, .inl (cI, 2000, .inl eo)), (a4, .inl (cI, 600, .inl g)), (a5, .inl (cI, 600, .inl f))] := hD
        refine lv_iload_n hx hb dX3_go_188 rfl (lv_at hl 1 rfl) ?_
        refine wi_iret hx hb hr hlk (g, f) ⟨by rw [if_pos n1], by rw [if_pos n1]; exact hg⟩ ?_ ?_ hS dX3_go_189
        · show va_P (dC, dI) vwCl [(md, .inr (3, [.int (if ce_P P ≤ B.length then 0 else 1), .ref a1, .int (nI B.length), .ref a2, .int (nI T.length), .ref a3, .int (nI (rw_R U P).length), .ref a4, .int (nI (if ce_P P ≤ B.length then go_R B U P else Z).length), .ref a5])), (a1, .inl (cI, 600, .inl eb)), (a3, .inl (cI, 2000, .inl eo)), (a4, .inl (cI, 600, .inl (g))), (a5, .inl (cI, 600, .inl (f)))] _
          rw [if_pos n1, if_pos n1]; exact hP
        · show va_D A [(md, .inr (3, [.int (if ce_P P ≤ B.length then 0 else 1), .ref a1, .int (nI B.length), .ref a2, .int (nI T.length), .ref a3, .int (nI (rw_R U P).length), .ref a4, .int (nI (if ce_P P ≤ B.length then go_R B U P else Z).length), .ref a5])), (a1, .inl (cI, 600, .inl eb)), (a3, .inl (cI, 2000, .inl eo)), (a4, .inl (cI, 600, .inl (g))), (a5, .inl (cI, 600, .inl (f)))]
          rw [if_pos n1, if_pos n1]; exact hD
      · exact absurd (nI_le (by omega) (by omega)) d1
    | succ n ih =>
      intro k g H locs ls hkn hg hP hD hS hl
      obtain ⟨y, hy⟩ : ∃ y, (go_R B U P)[k]? = some y := ⟨_, List.getElem?_eq_getElem (by omega)⟩
      refine lv_iload_n hx hb dX3_go_160 rfl (lv_at hl 0 rfl) ?_
      refine lv_iload_n hx hb dX3_go_161 rfl (lv_at hl 1 rfl) ?_
      refine lv_icmp_ge (tgt := 183) hx hb dX3_go_162 (by decide) (fun d1 => ?_) (fun d1 => ?_)
      · exact absurd d1 (nI_ge (by omega) (by omega))
      · refine lv_aload_n hx hb dX3_go_165 rfl (lv_at hl 2 rfl) ?_
        refine va_get (D := (dC, dI)) (ci := 3) (v := .ref a4) (C := RX3) (T := TX3) (N := 10) hx hb hts (by decide +kernel) hown hK hP 0 rfl rfl 7 (by decide) (hts (.fieldLink RX3 32 "PieceWaysModel" "result" "[I") (by decide +kernel)) (fun _ h9 => h9) rfl dX3_go_166 ?_
        refine lv_iload_n hx hb dX3_go_169 rfl (lv_at hl 0 rfl) ?_
        refine lv_aload_n hx hb dX3_go_170 rfl (lv_at hl 2 rfl) ?_
        refine va_get (D := (dC, dI)) (ci := 3) (v := .ref a5) (C := RX3) (T := TX3) (N := 10) hx hb hts (by decide +kernel) hown hK hP 0 rfl rfl 9 (by decide) (hts (.fieldLink RX3 38 "PieceWaysModel" "next" "[I") (by decide +kernel)) (fun _ h9 => h9) rfl dX3_go_171 ?_
        refine lv_iload_n hx hb dX3_go_174 rfl (lv_at hl 0 rfl) ?_
        refine va_iald hx hb hK hP 4 1 rfl rfl (vp_in_nI (by omega) (by omega)) dX3_go_175 ?_
        rw [nI_clamp (by omega), hf k _ hy]
        refine va_iast hx hb hK hP hD hS 3 1 rfl rfl (vp_in_nI (by omega) (by omega)) dX3_go_176 (fun H locs hP hD hS => ?_)
        have hP : va_P (dC, dI) vwCl [(md, .inr (3, [.int 0, .ref a1, .int (nI B.length), .ref a2, .int (nI T.length), .ref a3, .int (nI (rw_R U P).length), .ref a4, .int (nI Z.length), .ref a5])), (a1, .inl (cI, 600, .inl eb)), (a3, .inl (cI, 2000, .inl eo)), (a4, .inl (cI, 600, .inl (upd g (nI k).toNatClampNeg y))), (a5, .inl (cI, 600, .inl f))] H := hP
        have hD : va_D A [(md, .inr (3, [.int 0, .ref a1, .int (nI B.length), .ref a2, .int (nI T.length), .ref a3, .int (nI (rw_R U P).length), .ref a4, .int (nI Z.length), .ref a5])), (a1, .inl (cI, 600, .inl eb)), (a3, .inl (cI, 2000, .inl eo)), (a4, .inl (cI, 600, .inl (upd g (nI k).toNatClampNeg y))), (a5, .inl (cI, 600, .inl f))] := hD
        rw [nI_clamp (by omega)] at hP hD
        have hlk2 : ((go_R B U P).take k).length = k := by rw [List.length_take]; omega
        have hg2 : im_k (upd g k y) ((go_R B U P).take (k + 1)) := by have h9 := im_add hg y; rw [hlk2] at h9; rw [List.take_succ, hy]; exact h9
        refine lv_iinc (v := ((nI k) + 1)) (lv' := [(2, .int ((nI k) + 1)), (1, .int (nI (go_R B U P).length)), (0, .ref md)]) hx hb dX3_go_177 hl (k := 0) rfl rfl (by decide) rfl (fun ls hl => ?_)
        refine lv_goto (tgt := 160) hx hb dX3_go_180 (by decide) ?_
        have h9 : lv_has ls 5 [(2, .int (nI k + 1)), (1, .int (nI (go_R B U P).length)), (0, .ref md)] := lv_sub hl [0, 1, 2] rfl
        rw [nI_1] at h9
        exact ih (k + 1) (upd g k y) H locs ls (by omega) hg2 hP hD hS h9
  have loop : ∀ (n j : Nat) (f : Nat → Int32) (H : Heap) (locs : List Loc) (ls : Array Slot), n + j = P.length → (∀ t ∈ P.take j, t.1 = 1 → t.2.1 + t.2.2 ≤ B.length) → im_k f (go_R B U (P.take j)) → va_P (dC, dI) vwCl [(md, .inr (3, [.int 0, .ref a1, .int (nI B.length), .ref a2, .int (nI T.length), .ref a3, .int (nI (rw_R U P).length), .ref a4, .int (nI Z.length), .ref a5])), (a1, .inl (cI, 600, .inl eb)), (a3, .inl (cI, 2000, .inl eo)), (a4, .inl (cI, 600, .inl er)), (a5, .inl (cI, 600, .inl f))] H → va_D A [(md, .inr (3, [.int 0, .ref a1, .int (nI B.length), .ref a2, .int (nI T.length), .ref a3, .int (nI (rw_R U P).length), .ref a4, .int (nI Z.length), .ref a5])), (a1, .inl (cI, 600, .inl eb)), (a3, .inl (cI, 2000, .inl eo)), (a4, .inl (cI, 600, .inl er)), (a5, .inl (cI, 600, .inl f))] → va_S A s.heap H locs → lv_has ls 5 [(2, .int (nI (rw_R U (P.take j)).length)), (1, .int (nI (go_R B U (P.take j)).length)), (0, .ref md)] → W p l e ({ frames := 2, cells := 0, slots := 0, locals := 42 } : Room) s m ([.ref md] : List Value).toArray below meth c H locs 0 0 (MQ below (va_Qi (fun (r : Int32) (z : (Nat → Int32) × (Nat → Int32)) => r = (if ce_P P ≤ B.length then nI (go_R B U P).length else 0) ∧ im_k z.1 (if ce_P P ≤ B.length then go_R B U P else Z)) (fun u t => va_P (dC, dI) vwCl ((fun z : (Nat → Int32) × (Nat → Int32) => [(md, .inr (3, [.int (if ce_P P ≤ B.length then 0 else 1), .ref a1, .int (nI B.length), .ref a2, .int (nI T.length), .ref a3, .int (nI (rw_R U P).length), .ref a4, .int (nI (if ce_P P ≤ B.length then go_R B U P else Z).length), .ref a5])), (a1, .inl (cI, 600, .inl eb)), (a3, .inl (cI, 2000, .inl eo)), (a4, .inl (cI, 600, .inl (z.1))), (a5, .inl (cI, 600, .inl (z.2)))]) u) t.heap ∧ va_D A ((fun z : (Nat → Int32) × (Nat → Int32) => [(md, .inr (3, [.int (if ce_P P ≤ B.length then 0 else 1), .ref a1, .int (nI B.length), .ref a2, .int (nI T.length), .ref a3, .int (nI (rw_R U P).length), .ref a4, .int (nI (if ce_P P ≤ B.length then go_R B U P else Z).length), .ref a5])), (a1, .inl (cI, 600, .inl eb)), (a3, .inl (cI, 2000, .inl eo)), (a4, .inl (cI, 600, .inl (z.1))), (a5, .inl (cI, 600, .inl (z.2)))]) u)) A) ([.ref md] : List Value).toArray s 0 0 A) (F0 m 9 ls []) := by
    intro n
    induction n with
    | zero =>
      intro j f H locs ls hj hce hf hP hD hS hl
      have hj2 : P.take j = P := List.take_of_length_le (by omega)
      rw [hj2] at hce hf hl
      have n1 : ce_P P ≤ B.length := ce_le P 0 _ (by omega) hce
      refine lv_iload_n hx hb dX3_go_9 rfl (lv_at hl 0 rfl) ?_
      refine lv_aload_n hx hb dX3_go_10 rfl (lv_at hl 2 rfl) ?_
      refine va_get (D := (dC, dI)) (ci := 3) (v := .int (nI (rw_R U P).length)) (C := RX3) (T := TX3) (N := 10) hx hb hts (by decide +kernel) hown hK hP 0 rfl rfl 6 (by decide) (hts (.fieldLink RX3 29 "PieceWaysModel" "size" "I") (by decide +kernel)) (fun _ h9 => h9) rfl dX3_go_11 ?_
      refine lv_icmp_ge (tgt := 149) hx hb dX3_go_14 (by decide) (fun d1 => ?_) (fun d1 => ?_)
      · refine lv_aload_n hx hb dX3_go_149 rfl (lv_at hl 2 rfl) ?_
        refine va_get (D := (dC, dI)) (ci := 3) (v := .int 0) (C := RX3) (T := TX3) (N := 10) hx hb hts (by decide +kernel) hown hK hP 0 rfl rfl 0 (by decide) (hts (.fieldLink RX3 7 "PieceWaysModel" "thrownCode" "I") (by decide +kernel)) (fun _ h9 => h9) rfl dX3_go_150 ?_
        refine lv_if_eq (tgt := 158) hx hb dX3_go_153 (by decide) (fun d2 => ?_) (fun d2 => ?_)
        · refine lv_iconst (v := 0) hx hb dX3_go_158 (by decide) ?_
          refine lv_istore_n (lv' := [(2, .int 0), (1, .int (nI (go_R B U P).length)), (0, .ref md)]) hx hb dX3_go_159 rfl hl (by decide) rfl (fun ls hl => ?_)
          exact cpy n1 f hf (go_R B U P).length 0 er H locs ls (by omega) (by rw [List.take_zero]; exact im_nil _) hP hD hS (lv_sub hl [0, 1, 2] rfl)
        · exact absurd rfl d2
      · exact absurd (nI_le (Nat.le_refl _) (by omega)) d1
    | succ n ih =>
      intro j f H locs ls hj hce hf hP hD hS hl
      obtain ⟨t, ht⟩ : ∃ t, P[j]? = some t := ⟨_, List.getElem?_eq_getElem (by omega)⟩
      have htm := List.mem_of_getElem? ht
      have h16 := pk_1 hk htm
      have hg := hk.2.2.1 t htm
      have hlt := rl_lt (T := U) ht h16.1 h16.2
      have hpa := pa_of (T := U) ht h16.1 h16.2
      have hs1 := sm_take P (j + 1)
      rw [sm_tk ht] at hs1
      have hs2 := go_len B U (P.take j)
      have hstep := rl_step (T := U) ht hg
      have inner : ∀ (i k : Nat) (g : Nat → Int32) (H : Heap) (locs : List Loc) (ls : Array Slot), i + k = t.2.2 → (t.1 = 1 → 0 < k → t.2.1 + k ≤ B.length) → im_k g (go_R B U (P.take j) ++ ((if t.1 = 1 then B else U).drop t.2.1).take k) → va_P (dC, dI) vwCl [(md, .inr (3, [.int 0, .ref a1, .int (nI B.length), .ref a2, .int (nI T.length), .ref a3, .int (nI (rw_R U P).length), .ref a4, .int (nI Z.length), .ref a5])), (a1, .inl (cI, 600, .inl eb)), (a3, .inl (cI, 2000, .inl eo)), (a4, .inl (cI, 600, .inl er)), (a5, .inl (cI, 600, .inl g))] H → va_D A [(md, .inr (3, [.int 0, .ref a1, .int (nI B.length), .ref a2, .int (nI T.length), .ref a3, .int (nI (rw_R U P).length), .ref a4, .int (nI Z.length), .ref a5])), (a1, .inl (cI, 600, .inl eb)), (a3, .inl (cI, 2000, .inl eo)), (a4, .inl (cI, 600, .inl er)), (a5, .inl (cI, 600, .inl g))] → va_S A s.heap H locs → lv_has ls 5 [(3, .int (nI k)), (2, .int (nI (rw_R U (P.take j)).length)), (1, .int (nI (go_R B U (P.take j) ++ ((if t.1 = 1 then B else U).drop t.2.1).take k).length)), (0, .ref md)] → W p l e ({ frames := 2, cells := 0, slots := 0, locals := 42 } : Room) s m ([.ref md] : List Value).toArray below meth c H locs 0 0 (MQ below (va_Qi (fun (r : Int32) (z : (Nat → Int32) × (Nat → Int32)) => r = (if ce_P P ≤ B.length then nI (go_R B U P).length else 0) ∧ im_k z.1 (if ce_P P ≤ B.length then go_R B U P else Z)) (fun u t => va_P (dC, dI) vwCl ((fun z : (Nat → Int32) × (Nat → Int32) => [(md, .inr (3, [.int (if ce_P P ≤ B.length then 0 else 1), .ref a1, .int (nI B.length), .ref a2, .int (nI T.length), .ref a3, .int (nI (rw_R U P).length), .ref a4, .int (nI (if ce_P P ≤ B.length then go_R B U P else Z).length), .ref a5])), (a1, .inl (cI, 600, .inl eb)), (a3, .inl (cI, 2000, .inl eo)), (a4, .inl (cI, 600, .inl (z.1))), (a5, .inl (cI, 600, .inl (z.2)))]) u) t.heap ∧ va_D A ((fun z : (Nat → Int32) × (Nat → Int32) => [(md, .inr (3, [.int (if ce_P P ≤ B.length then 0 else 1), .ref a1, .int (nI B.length), .ref a2, .int (nI T.length), .ref a3, .int (nI (rw_R U P).length), .ref a4, .int (nI (if ce_P P ≤ B.length then go_R B U P else Z).length), .ref a5])), (a1, .inl (cI, 600, .inl eb)), (a3, .inl (cI, 2000, .inl eo)), (a4, .inl (cI, 600, .inl (z.1))), (a5, .inl (cI, 600, .inl (z.2)))]) u)) A) ([.ref md] : List Value).toArray s 0 0 A) (F0 m 26 ls []) := by
        intro i
        induction i with
        | zero =>
          intro k g H locs ls hik hkB hgk hP hD hS hl
          have hik : k = t.2.2 := by omega
          subst hik
          have e5 : go_R B U (P.take j) ++ ((if t.1 = 1 then B else U).drop t.2.1).take t.2.2 = go_R B U (P.take (j + 1)) := by rw [go_take ht]; rfl
          rw [e5] at hgk hl
          refine lv_iload_n hx hb dX3_go_26 rfl (lv_at hl 0 rfl) ?_
          refine lv_aload_n hx hb dX3_go_27 rfl (lv_at hl 3 rfl) ?_
          refine lv_iload_n hx hb dX3_go_28 rfl (lv_at hl 1 rfl) ?_
          refine rd_V (wc := [(md, .inr (3, [.int 0, .ref a1, .int (nI B.length), .ref a2, .int (nI T.length), .ref a3, .int (nI (rw_R U P).length), .ref a4, .int (nI Z.length), .ref a5])), (a3, .inl (cI, 2000, .inl eo))]) (As := [.int (nI (rw_R U (P.take j)).length)]) (rest := [.int (nI t.2.2)]) ⟨hx, hb, hml, hown, hts⟩ (c_Md_many l dC dI cB cI cL md a1 a2 a3 a4 a5 B T (rw_R U P) Z 0 eo (rw_R U (P.take j)).length t hOl ho (by omega) h16.2 hpa) (cwV 1 hts gX3_go_X3_many rfl rfl rfl (by decide +kernel) ⟨(Nat.le_of_ble_eq_true rfl), (Nat.le_of_ble_eq_true rfl)⟩) hK hN (sb_P hP [0, 2] rfl) 0 rfl rfl rfl rfl hl.1 rfl (Nat.le_of_ble_eq_true rfl) dX3_go_29 ⟨(Nat.le_of_ble_eq_true rfl), (Nat.le_of_ble_eq_true rfl)⟩ ?_
          refine lv_icmp_ge (tgt := 140) hx hb dX3_go_32 (by decide) (fun d1 => ?_) (fun d1 => ?_)
          · refine lv_aload_n hx hb dX3_go_140 rfl (lv_at hl 3 rfl) ?_
            refine lv_iload_n hx hb dX3_go_141 rfl (lv_at hl 1 rfl) ?_
            refine rd_V (wc := [(md, .inr (3, [.int 0, .ref a1, .int (nI B.length), .ref a2, .int (nI T.length), .ref a3, .int (nI (rw_R U P).length), .ref a4, .int (nI Z.length), .ref a5])), (a3, .inl (cI, 2000, .inl eo))]) (As := [.int (nI (rw_R U (P.take j)).length)]) (rest := []) ⟨hx, hb, hml, hown, hts⟩ (c_Md_behind l dC dI cB cI cL md a1 a2 a3 a4 a5 B T (rw_R U P) Z 0 eo (rw_R U (P.take j)).length t hOl ho (by omega) h16.2 hpa) (cwV 1 hts gX3_go_X3_behind rfl rfl rfl (by decide +kernel) ⟨(Nat.le_of_ble_eq_true rfl), (Nat.le_of_ble_eq_true rfl)⟩) hK hN (sb_P hP [0, 2] rfl) 0 rfl rfl rfl rfl hl.1 rfl (Nat.le_of_ble_eq_true rfl) dX3_go_142 ⟨(Nat.le_of_ble_eq_true rfl), (Nat.le_of_ble_eq_true rfl)⟩ ?_
            rw [← hstep]
            refine lv_istore_n (lv' := [(2, .int (nI (rw_R U (P.take (j + 1))).length)), (3, .int (nI t.2.2)), (1, .int (nI (go_R B U (P.take (j + 1))).length)), (0, .ref md)]) hx hb dX3_go_145 rfl hl (by decide) rfl (fun ls hl => ?_)
            refine lv_goto (tgt := 9) hx hb dX3_go_146 (by decide) ?_
            refine ih (j + 1) g H locs ls (by omega) ?_ hgk hP hD hS (lv_sub hl [0, 2, 3] rfl)
            intro z hz h1
            rw [List.take_succ, ht] at hz
            rcases List.mem_append.mp hz with h9 | h9
            · exact hce z h9 h1
            · have h9 : z = t := by simpa using h9
              subst h9; exact hkB h1 (by rcases hg with h8 | h8 <;> omega)
          · exact absurd (nI_le (Nat.le_refl _) (by omega)) d1
        | succ i jh =>
          intro k g H locs ls hik hkB hgk hP hD hS hl
          have hlenk : (((if t.1 = 1 then B else U).drop t.2.1).take k).length ≤ k := by rw [List.length_take]; omega
          refine lv_iload_n hx hb dX3_go_26 rfl (lv_at hl 0 rfl) ?_
          refine lv_aload_n hx hb dX3_go_27 rfl (lv_at hl 3 rfl) ?_
          refine lv_iload_n hx hb dX3_go_28 rfl (lv_at hl 1 rfl) ?_
          refine rd_V (wc := [(md, .inr (3, [.int 0, .ref a1, .int (nI B.length), .ref a2, .int (nI T.length), .ref a3, .int (nI (rw_R U P).length), .ref a4, .int (nI Z.length), .ref a5])), (a3, .inl (cI, 2000, .inl eo))]) (As := [.int (nI (rw_R U (P.take j)).length)]) (rest := [.int (nI k)]) ⟨hx, hb, hml, hown, hts⟩ (c_Md_many l dC dI cB cI cL md a1 a2 a3 a4 a5 B T (rw_R U P) Z 0 eo (rw_R U (P.take j)).length t hOl ho (by omega) h16.2 hpa) (cwV 1 hts gX3_go_X3_many rfl rfl rfl (by decide +kernel) ⟨(Nat.le_of_ble_eq_true rfl), (Nat.le_of_ble_eq_true rfl)⟩) hK hN (sb_P hP [0, 2] rfl) 0 rfl rfl rfl rfl hl.1 rfl (Nat.le_of_ble_eq_true rfl) dX3_go_29 ⟨(Nat.le_of_ble_eq_true rfl), (Nat.le_of_ble_eq_true rfl)⟩ ?_
          refine lv_icmp_ge (tgt := 140) hx hb dX3_go_32 (by decide) (fun d1 => ?_) (fun d1 => ?_)
          · exact absurd d1 (nI_ge (by omega) (by omega))
          · refine lv_aload_n hx hb dX3_go_35 rfl (lv_at hl 3 rfl) ?_
            refine va_get (D := (dC, dI)) (ci := 3) (v := .int 0) (C := RX3) (T := TX3) (N := 10) hx hb hts (by decide +kernel) hown hK hP 0 rfl rfl 0 (by decide) (hts (.fieldLink RX3 7 "PieceWaysModel" "thrownCode" "I") (by decide +kernel)) (fun _ h9 => h9) rfl dX3_go_36 ?_
            refine lv_if_ne (tgt := 140) hx hb dX3_go_39 (by decide) (fun d2 => ?_) (fun d2 => ?_)
            · exact absurd rfl d2
            · refine lv_aload_n hx hb dX3_go_42 rfl (lv_at hl 3 rfl) ?_
              refine va_get (D := (dC, dI)) (ci := 3) (v := .ref a3) (C := RX3) (T := TX3) (N := 10) hx hb hts (by decide +kernel) hown hK hP 0 rfl rfl 5 (by decide) (hts (.fieldLink RX3 26 "PieceWaysModel" "row" "[I") (by decide +kernel)) (fun _ h9 => h9) rfl dX3_go_43 ?_
              refine lv_iload_n hx hb dX3_go_46 rfl (lv_at hl 1 rfl) ?_
              refine va_iald hx hb hK hP 2 1 rfl rfl (vp_in_nI (by omega) (by omega)) dX3_go_47 ?_
              rw [nI_clamp (by omega), ho _ _ hpa.1]
              refine lv_iconst (v := 1) hx hb dX3_go_48 (by decide) ?_
              refine lv_icmp_ne (tgt := 64) hx hb dX3_go_49 (by decide) (fun d3 => ?_) (fun d3 => ?_)
              · have k1 : ¬ t.1 = 1 := fun h9 => d3 (by rw [h9]; rfl)
                have k2 : t.1 = 2 := by omega
                have hg2 : t.2.1 + t.2.2 ≤ U.length := by rcases hg with h9 | h9; exact absurd h9.1 k1; exact h9.2.2
                obtain ⟨y, hy⟩ : ∃ y, U[t.2.1 + k]? = some y := ⟨_, List.getElem?_eq_getElem (by omega)⟩
                have hpb := pa_byte (T := U) (k := k) ht k2 h16.2 (by omega) hg2
                rw [hy, ← Nat.add_assoc] at hpb
                have hpbl := (List.getElem?_eq_some_iff.mp hpb).1
                have hys : (if t.1 = 1 then B else U)[t.2.1 + k]? = some y := by rw [if_neg k1]; exact hy
                refine lv_iload_n hx hb dX3_go_64 rfl (lv_at hl 1 rfl) ?_
                refine lv_iconst (v := 3) hx hb dX3_go_65 (by decide) ?_
                refine lv_iadd hx hb dX3_go_66 ?_
                refine lv_iload_n hx hb dX3_go_67 rfl (lv_at hl 0 rfl) ?_
                refine lv_iadd hx hb dX3_go_68 ?_
                rw [show (3 : Int32) = nI 3 from rfl, nI_add (rw_R U (P.take j)).length 3, nI_add ((rw_R U (P.take j)).length + 3) k]
                refine lv_istore (lv' := [(4, .int (nI ((rw_R U (P.take j)).length + 3 + k))), (3, .int (nI k)), (2, .int (nI (rw_R U (P.take j)).length)), (1, .int (nI (go_R B U (P.take j) ++ ((if t.1 = 1 then B else U).drop t.2.1).take k).length)), (0, .ref md)]) hx hb dX3_go_69 hl (by decide) rfl (fun ls hl => ?_)
                refine lv_aload_n hx hb dX3_go_71 rfl (lv_at hl 4 rfl) ?_
                refine va_get (D := (dC, dI)) (ci := 3) (v := .ref a3) (C := RX3) (T := TX3) (N := 10) hx hb hts (by decide +kernel) hown hK hP 0 rfl rfl 5 (by decide) (hts (.fieldLink RX3 26 "PieceWaysModel" "row" "[I") (by decide +kernel)) (fun _ h9 => h9) rfl dX3_go_72 ?_
                refine lv_iload_n hx hb dX3_go_75 rfl (lv_at hl 2 rfl) ?_
                refine va_iald hx hb hK hP 2 1 rfl rfl (vp_in_nI (by omega) (by omega)) dX3_go_76 ?_
                rw [nI_clamp (by omega), ho _ _ hpa.1]
                refine lv_iconst (v := 1) hx hb dX3_go_77 (by decide) ?_
                refine lv_icmp_ne (tgt := 98) hx hb dX3_go_78 (by decide) (fun d4 => ?_) (fun d4 => ?_)
                · refine lv_aload_n hx hb dX3_go_98 rfl (lv_at hl 4 rfl) ?_
                  refine va_get (D := (dC, dI)) (ci := 3) (v := .ref a5) (C := RX3) (T := TX3) (N := 10) hx hb hts (by decide +kernel) hown hK hP 0 rfl rfl 9 (by decide) (hts (.fieldLink RX3 38 "PieceWaysModel" "next" "[I") (by decide +kernel)) (fun _ h9 => h9) rfl dX3_go_99 ?_
                  refine lv_iload_n hx hb dX3_go_102 rfl (lv_at hl 3 rfl) ?_
                  refine lv_aload_n hx hb dX3_go_103 rfl (lv_at hl 4 rfl) ?_
                  refine va_get (D := (dC, dI)) (ci := 3) (v := .ref a3) (C := RX3) (T := TX3) (N := 10) hx hb hts (by decide +kernel) hown hK hP 0 rfl rfl 5 (by decide) (hts (.fieldLink RX3 26 "PieceWaysModel" "row" "[I") (by decide +kernel)) (fun _ h9 => h9) rfl dX3_go_104 ?_
                  refine lv_iload_n hx hb dX3_go_107 rfl (lv_at hl 2 rfl) ?_
                  refine va_iald hx hb hK hP 2 1 rfl rfl (vp_in_nI (by omega) (by omega)) dX3_go_108 ?_
                  rw [nI_clamp (by omega), ho _ _ hpa.1]
                  refine lv_iconst (v := 1) hx hb dX3_go_109 (by decide) ?_
                  refine lv_icmp_ne (tgt := 123) hx hb dX3_go_110 (by decide) (fun d5 => ?_) (fun d5 => ?_)
                  · refine lv_aload_n hx hb dX3_go_123 rfl (lv_at hl 4 rfl) ?_
                    refine va_get (D := (dC, dI)) (ci := 3) (v := .ref a3) (C := RX3) (T := TX3) (N := 10) hx hb hts (by decide +kernel) hown hK hP 0 rfl rfl 5 (by decide) (hts (.fieldLink RX3 26 "PieceWaysModel" "row" "[I") (by decide +kernel)) (fun _ h9 => h9) rfl dX3_go_124 ?_
                    refine lv_iload hx hb dX3_go_127 (lv_at hl 0 rfl) ?_
                    refine va_iald hx hb hK hP 2 1 rfl rfl (vp_in_nI (by omega) (by omega)) dX3_go_129 ?_
                    rw [nI_clamp (by omega), ho _ _ hpb]
                    have hgl2 : (go_R B U (P.take j) ++ ((if t.1 = 1 then B else U).drop t.2.1).take k).length < 600 := by rw [List.length_append]; omega
                    refine va_iast hx hb hK hP hD hS 4 1 rfl rfl (vp_in_nI hgl2 (by omega)) dX3_go_130 (fun H locs hP hD hS => ?_)
                    have hP : va_P (dC, dI) vwCl [(md, .inr (3, [.int 0, .ref a1, .int (nI B.length), .ref a2, .int (nI T.length), .ref a3, .int (nI (rw_R U P).length), .ref a4, .int (nI Z.length), .ref a5])), (a1, .inl (cI, 600, .inl eb)), (a3, .inl (cI, 2000, .inl eo)), (a4, .inl (cI, 600, .inl er)), (a5, .inl (cI, 600, .inl (upd g (nI (go_R B U (P.take j) ++ ((if t.1 = 1 then B else U).drop t.2.1).take k).length).toNatClampNeg y)))] H := hP
                    have hD : va_D A [(md, .inr (3, [.int 0, .ref a1, .int (nI B.length), .ref a2, .int (nI T.length), .ref a3, .int (nI (rw_R U P).length), .ref a4, .int (nI Z.length), .ref a5])), (a1, .inl (cI, 600, .inl eb)), (a3, .inl (cI, 2000, .inl eo)), (a4, .inl (cI, 600, .inl er)), (a5, .inl (cI, 600, .inl (upd g (nI (go_R B U (P.take j) ++ ((if t.1 = 1 then B else U).drop t.2.1).take k).length).toNatClampNeg y)))] := hD
                    rw [nI_clamp (by omega)] at hP hD
                    have e6 : (go_R B U (P.take j) ++ ((if t.1 = 1 then B else U).drop t.2.1).take k) ++ [y] = go_R B U (P.take j) ++ ((if t.1 = 1 then B else U).drop t.2.1).take (k + 1) := by rw [List.append_assoc, ← tk_snoc hys]
                    have hg2 := im_add hgk y
                    have e7 : nI (go_R B U (P.take j) ++ ((if t.1 = 1 then B else U).drop t.2.1).take k).length + 1 = nI (go_R B U (P.take j) ++ ((if t.1 = 1 then B else U).drop t.2.1).take (k + 1)).length := by rw [← e6, List.length_append (bs := [y])]; exact nI_1 _
                    rw [e6] at hg2
                    refine lv_iinc (v := ((nI (go_R B U (P.take j) ++ ((if t.1 = 1 then B else U).drop t.2.1).take k).length) + 1)) (lv' := [(1, .int ((nI (go_R B U (P.take j) ++ ((if t.1 = 1 then B else U).drop t.2.1).take k).length) + 1)), (4, .int (nI ((rw_R U (P.take j)).length + 3 + k))), (3, .int (nI k)), (2, .int (nI (rw_R U (P.take j)).length)), (0, .ref md)]) hx hb dX3_go_131 hl (k := 3) rfl rfl (by decide) rfl (fun ls hl => ?_)
                    refine lv_iinc (v := ((nI k) + 1)) (lv' := [(3, .int ((nI k) + 1)), (1, .int ((nI (go_R B U (P.take j) ++ ((if t.1 = 1 then B else U).drop t.2.1).take k).length) + 1)), (4, .int (nI ((rw_R U (P.take j)).length + 3 + k))), (2, .int (nI (rw_R U (P.take j)).length)), (0, .ref md)]) hx hb dX3_go_134 hl (k := 2) rfl rfl (by decide) rfl (fun ls hl => ?_)
                    refine lv_goto (tgt := 26) hx hb dX3_go_137 (by decide) ?_
                    have h9 : lv_has ls 5 [(3, .int (nI k + 1)), (2, .int (nI (rw_R U (P.take j)).length)), (1, .int (nI (go_R B U (P.take j) ++ ((if t.1 = 1 then B else U).drop t.2.1).take k).length + 1)), (0, .ref md)] := lv_sub hl [0, 3, 1, 4] rfl
                    rw [nI_1 k, e7] at h9
                    exact jh (k + 1) _ H locs ls (by omega) (fun h9 => absurd h9 k1) hg2 hP hD hS h9
                  · exact absurd d5 d3
                · exact absurd d4 d3
              · have k1 : t.1 = 1 := (nI_eq (by omega) (by omega)).mp d3
                refine lv_aload_n hx hb dX3_go_52 rfl (lv_at hl 3 rfl) ?_
                refine lv_iload_n hx hb dX3_go_53 rfl (lv_at hl 1 rfl) ?_
                refine lv_iconst (v := 1) hx hb dX3_go_54 (by decide) ?_
                refine lv_iadd hx hb dX3_go_55 ?_
                rw [nI_1 (rw_R U (P.take j)).length]
                refine rd_V (wc := [(md, .inr (3, [.int 0, .ref a1, .int (nI B.length), .ref a2, .int (nI T.length), .ref a3, .int (nI (rw_R U P).length), .ref a4, .int (nI Z.length), .ref a5])), (a3, .inl (cI, 2000, .inl eo))]) (As := [.int (nI ((rw_R U (P.take j)).length + 1))]) (rest := []) ⟨hx, hb, hml, hown, hts⟩ (c_Md_two l dC dI cB cI cL md a1 a2 a3 a4 a5 B T (rw_R U P) Z 0 eo ((rw_R U (P.take j)).length + 1) t.2.1 hOl ho (hpa.2.1 k1).1.1 (hpa.2.1 k1).1.2) (cwV 1 hts gX3_go_X3_two rfl rfl rfl (by decide +kernel) ⟨(Nat.le_of_ble_eq_true rfl), (Nat.le_of_ble_eq_true rfl)⟩) hK hN (sb_P hP [0, 2] rfl) 0 rfl rfl rfl rfl hl.1 rfl (Nat.le_of_ble_eq_true rfl) dX3_go_56 ⟨(Nat.le_of_ble_eq_true rfl), (Nat.le_of_ble_eq_true rfl)⟩ ?_
                refine lv_iload_n hx hb dX3_go_59 rfl (lv_at hl 0 rfl) ?_
                refine lv_iadd hx hb dX3_go_60 ?_
                refine lv_goto (tgt := 69) hx hb dX3_go_61 (by decide) ?_
                rw [nI_add t.2.1 k]
                refine lv_istore (lv' := [(4, .int (nI (t.2.1 + k))), (3, .int (nI k)), (2, .int (nI (rw_R U (P.take j)).length)), (1, .int (nI (go_R B U (P.take j) ++ ((if t.1 = 1 then B else U).drop t.2.1).take k).length)), (0, .ref md)]) hx hb dX3_go_69 hl (by decide) rfl (fun ls hl => ?_)
                refine lv_aload_n hx hb dX3_go_71 rfl (lv_at hl 4 rfl) ?_
                refine va_get (D := (dC, dI)) (ci := 3) (v := .ref a3) (C := RX3) (T := TX3) (N := 10) hx hb hts (by decide +kernel) hown hK hP 0 rfl rfl 5 (by decide) (hts (.fieldLink RX3 26 "PieceWaysModel" "row" "[I") (by decide +kernel)) (fun _ h9 => h9) rfl dX3_go_72 ?_
                refine lv_iload_n hx hb dX3_go_75 rfl (lv_at hl 2 rfl) ?_
                refine va_iald hx hb hK hP 2 1 rfl rfl (vp_in_nI (by omega) (by omega)) dX3_go_76 ?_
                rw [nI_clamp (by omega), ho _ _ hpa.1]
                refine lv_iconst (v := 1) hx hb dX3_go_77 (by decide) ?_
                refine lv_icmp_ne (tgt := 98) hx hb dX3_go_78 (by decide) (fun d4 => ?_) (fun d4 => ?_)
                · exact absurd d3 d4
                · refine lv_iload hx hb dX3_go_81 (lv_at hl 0 rfl) ?_
                  refine lv_aload_n hx hb dX3_go_83 rfl (lv_at hl 4 rfl) ?_
                  refine va_get (D := (dC, dI)) (ci := 3) (v := .int (nI B.length)) (C := RX3) (T := TX3) (N := 10) hx hb hts (by decide +kernel) hown hK hP 0 rfl rfl 2 (by decide) (hts (.fieldLink RX3 17 "PieceWaysModel" "bases" "I") (by decide +kernel)) (fun _ h9 => h9) rfl dX3_go_84 ?_
                  refine lv_icmp_lt (tgt := 98) hx hb dX3_go_87 (by decide) (fun d5 => ?_) (fun d5 => ?_)
                  · have hbk : t.2.1 + k < B.length := by rcases Nat.lt_or_ge (t.2.1 + k) B.length with h9 | h9; exact h9; exact absurd d5 (nI_nlt h9 (by omega))
                    obtain ⟨y, hy⟩ : ∃ y, B[t.2.1 + k]? = some y := ⟨_, List.getElem?_eq_getElem hbk⟩
                    have hys : (if t.1 = 1 then B else U)[t.2.1 + k]? = some y := by rw [if_pos k1]; exact hy
                    refine lv_aload_n hx hb dX3_go_98 rfl (lv_at hl 4 rfl) ?_
                    refine va_get (D := (dC, dI)) (ci := 3) (v := .ref a5) (C := RX3) (T := TX3) (N := 10) hx hb hts (by decide +kernel) hown hK hP 0 rfl rfl 9 (by decide) (hts (.fieldLink RX3 38 "PieceWaysModel" "next" "[I") (by decide +kernel)) (fun _ h9 => h9) rfl dX3_go_99 ?_
                    refine lv_iload_n hx hb dX3_go_102 rfl (lv_at hl 3 rfl) ?_
                    refine lv_aload_n hx hb dX3_go_103 rfl (lv_at hl 4 rfl) ?_
                    refine va_get (D := (dC, dI)) (ci := 3) (v := .ref a3) (C := RX3) (T := TX3) (N := 10) hx hb hts (by decide +kernel) hown hK hP 0 rfl rfl 5 (by decide) (hts (.fieldLink RX3 26 "PieceWaysModel" "row" "[I") (by decide +kernel)) (fun _ h9 => h9) rfl dX3_go_104 ?_
                    refine lv_iload_n hx hb dX3_go_107 rfl (lv_at hl 2 rfl) ?_
                    refine va_iald hx hb hK hP 2 1 rfl rfl (vp_in_nI (by omega) (by omega)) dX3_go_108 ?_
                    rw [nI_clamp (by omega), ho _ _ hpa.1]
                    refine lv_iconst (v := 1) hx hb dX3_go_109 (by decide) ?_
                    refine lv_icmp_ne (tgt := 123) hx hb dX3_go_110 (by decide) (fun d6 => ?_) (fun d6 => ?_)
                    · exact absurd d3 d6
                    · refine lv_aload_n hx hb dX3_go_113 rfl (lv_at hl 4 rfl) ?_
                      refine va_get (D := (dC, dI)) (ci := 3) (v := .ref a1) (C := RX3) (T := TX3) (N := 10) hx hb hts (by decide +kernel) hown hK hP 0 rfl rfl 1 (by decide) (hts (.fieldLink RX3 13 "PieceWaysModel" "base" "[I") (by decide +kernel)) (fun _ h9 => h9) rfl dX3_go_114 ?_
                      refine lv_iload hx hb dX3_go_117 (lv_at hl 0 rfl) ?_
                      refine va_iald hx hb hK hP 1 1 rfl rfl (vp_in_nI (by omega) (by omega)) dX3_go_119 ?_
                      rw [nI_clamp (by omega), heb _ _ hy]
                      refine lv_goto (tgt := 130) hx hb dX3_go_120 (by decide) ?_
                      have hgl2 : (go_R B U (P.take j) ++ ((if t.1 = 1 then B else U).drop t.2.1).take k).length < 600 := by rw [List.length_append]; omega
                      refine va_iast hx hb hK hP hD hS 4 1 rfl rfl (vp_in_nI hgl2 (by omega)) dX3_go_130 (fun H locs hP hD hS => ?_)
                      have hP : va_P (dC, dI) vwCl [(md, .inr (3, [.int 0, .ref a1, .int (nI B.length), .ref a2, .int (nI T.length), .ref a3, .int (nI (rw_R U P).length), .ref a4, .int (nI Z.length), .ref a5])), (a1, .inl (cI, 600, .inl eb)), (a3, .inl (cI, 2000, .inl eo)), (a4, .inl (cI, 600, .inl er)), (a5, .inl (cI, 600, .inl (upd g (nI (go_R B U (P.take j) ++ ((if t.1 = 1 then B else U).drop t.2.1).take k).length).toNatClampNeg y)))] H := hP
                      have hD : va_D A [(md, .inr (3, [.int 0, .ref a1, .int (nI B.length), .ref a2, .int (nI T.length), .ref a3, .int (nI (rw_R U P).length), .ref a4, .int (nI Z.length), .ref a5])), (a1, .inl (cI, 600, .inl eb)), (a3, .inl (cI, 2000, .inl eo)), (a4, .inl (cI, 600, .inl er)), (a5, .inl (cI, 600, .inl (upd g (nI (go_R B U (P.take j) ++ ((if t.1 = 1 then B else U).drop t.2.1).take k).length).toNatClampNeg y)))] := hD
                      rw [nI_clamp (by omega)] at hP hD
                      have e6 : (go_R B U (P.take j) ++ ((if t.1 = 1 then B else U).drop t.2.1).take k) ++ [y] = go_R B U (P.take j) ++ ((if t.1 = 1 then B else U).drop t.2.1).take (k + 1) := by rw [List.append_assoc, ← tk_snoc hys]
                      have hg2 := im_add hgk y
                      have e7 : nI (go_R B U (P.take j) ++ ((if t.1 = 1 then B else U).drop t.2.1).take k).length + 1 = nI (go_R B U (P.take j) ++ ((if t.1 = 1 then B else U).drop t.2.1).take (k + 1)).length := by rw [← e6, List.length_append (bs := [y])]; exact nI_1 _
                      rw [e6] at hg2
                      refine lv_iinc (v := ((nI (go_R B U (P.take j) ++ ((if t.1 = 1 then B else U).drop t.2.1).take k).length) + 1)) (lv' := [(1, .int ((nI (go_R B U (P.take j) ++ ((if t.1 = 1 then B else U).drop t.2.1).take k).length) + 1)), (4, .int (nI (t.2.1 + k))), (3, .int (nI k)), (2, .int (nI (rw_R U (P.take j)).length)), (0, .ref md)]) hx hb dX3_go_131 hl (k := 3) rfl rfl (by decide) rfl (fun ls hl => ?_)
                      refine lv_iinc (v := ((nI k) + 1)) (lv' := [(3, .int ((nI k) + 1)), (1, .int ((nI (go_R B U (P.take j) ++ ((if t.1 = 1 then B else U).drop t.2.1).take k).length) + 1)), (4, .int (nI (t.2.1 + k))), (2, .int (nI (rw_R U (P.take j)).length)), (0, .ref md)]) hx hb dX3_go_134 hl (k := 2) rfl rfl (by decide) rfl (fun ls hl => ?_)
                      refine lv_goto (tgt := 26) hx hb dX3_go_137 (by decide) ?_
                      have h9 : lv_has ls 5 [(3, .int (nI k + 1)), (2, .int (nI (rw_R U (P.take j)).length)), (1, .int (nI (go_R B U (P.take j) ++ ((if t.1 = 1 then B else U).drop t.2.1).take k).length + 1)), (0, .ref md)] := lv_sub hl [0, 3, 1, 4] rfl
                      rw [nI_1 k, e7] at h9
                      exact jh (k + 1) _ H locs ls (by omega) (fun _ _ => by omega) hg2 hP hD hS h9
                  · have hbk : B.length ≤ t.2.1 + k := by rcases Nat.lt_or_ge (t.2.1 + k) B.length with h9 | h9; exact absurd (nI_lt h9 (by omega)) d5; exact h9
                    have hcm := ce_mem htm k1
                    refine lv_aload_n hx hb dX3_go_90 rfl (lv_at hl 4 rfl) ?_
                    refine lv_iconst (v := 1) hx hb dX3_go_91 (by decide) ?_
                    refine va_put (D := (dC, dI)) (ci := 3) (v := .int 1) (ty := .int) (C := RX3) (T := TX3) (N := 10) hx hb hts (by decide +kernel) tyX3 tyX3_ok nmX3 hown hK hP hD hS 0 rfl rfl 0 (by decide) (hts (.fieldLink RX3 7 "PieceWaysModel" "thrownCode" "I") (by decide +kernel)) (fun _ h9 => h9) rfl (by decide +kernel) rfl rfl (Nat.le_of_ble_eq_true rfl) dX3_go_92 (fun H locs hP hD hS => ?_)
                    have hP : va_P (dC, dI) vwCl [(md, .inr (3, [.int 1, .ref a1, .int (nI B.length), .ref a2, .int (nI T.length), .ref a3, .int (nI (rw_R U P).length), .ref a4, .int (nI Z.length), .ref a5])), (a1, .inl (cI, 600, .inl eb)), (a3, .inl (cI, 2000, .inl eo)), (a4, .inl (cI, 600, .inl er)), (a5, .inl (cI, 600, .inl g))] H := hP
                    have hD : va_D A [(md, .inr (3, [.int 1, .ref a1, .int (nI B.length), .ref a2, .int (nI T.length), .ref a3, .int (nI (rw_R U P).length), .ref a4, .int (nI Z.length), .ref a5])), (a1, .inl (cI, 600, .inl eb)), (a3, .inl (cI, 2000, .inl eo)), (a4, .inl (cI, 600, .inl er)), (a5, .inl (cI, 600, .inl g))] := hD
                    refine lv_goto (tgt := 134) hx hb dX3_go_95 (by decide) ?_
                    exact thr (by omega) j k t g H locs ls ht hP hD hS (lv_sub hl [1, 2, 4] rfl)
      refine lv_iload_n hx hb dX3_go_9 rfl (lv_at hl 0 rfl) ?_
      refine lv_aload_n hx hb dX3_go_10 rfl (lv_at hl 2 rfl) ?_
      refine va_get (D := (dC, dI)) (ci := 3) (v := .int (nI (rw_R U P).length)) (C := RX3) (T := TX3) (N := 10) hx hb hts (by decide +kernel) hown hK hP 0 rfl rfl 6 (by decide) (hts (.fieldLink RX3 29 "PieceWaysModel" "size" "I") (by decide +kernel)) (fun _ h9 => h9) rfl dX3_go_11 ?_
      refine lv_icmp_ge (tgt := 149) hx hb dX3_go_14 (by decide) (fun d1 => ?_) (fun d1 => ?_)
      · exact absurd d1 (nI_ge hlt (by omega))
      · refine lv_aload_n hx hb dX3_go_17 rfl (lv_at hl 2 rfl) ?_
        refine va_get (D := (dC, dI)) (ci := 3) (v := .int 0) (C := RX3) (T := TX3) (N := 10) hx hb hts (by decide +kernel) hown hK hP 0 rfl rfl 0 (by decide) (hts (.fieldLink RX3 7 "PieceWaysModel" "thrownCode" "I") (by decide +kernel)) (fun _ h9 => h9) rfl dX3_go_18 ?_
        refine lv_if_ne (tgt := 149) hx hb dX3_go_21 (by decide) (fun d2 => ?_) (fun d2 => ?_)
        · exact absurd rfl d2
        · refine lv_iconst (v := 0) hx hb dX3_go_24 (by decide) ?_
          refine lv_istore_n (lv' := [(3, .int 0), (2, .int (nI (rw_R U (P.take j)).length)), (1, .int (nI (go_R B U (P.take j)).length)), (0, .ref md)]) hx hb dX3_go_25 rfl hl (by decide) rfl (fun ls hl => ?_)
          exact inner t.2.2 0 f H locs ls (by omega) (fun _ h9 => absurd h9 (by omega)) (by rw [List.take_zero, List.append_nil]; exact hf) hP hD hS (by rw [List.take_zero, List.append_nil]; exact lv_sub hl [0, 1, 2, 3] rfl)
  refine lv_iconst (v := 0) hx hb dX3_go_0 (by decide) ?_
  refine lv_istore_n (lv' := [(1, .int 0), (0, .ref md)]) hx hb dX3_go_1 rfl hl (by decide) rfl (fun ls hl => ?_)
  refine lv_aload_n hx hb dX3_go_2 rfl (lv_at hl 1 rfl) ?_
  refine lv_iconst (v := 0) hx hb dX3_go_3 (by decide) ?_
  refine va_put (D := (dC, dI)) (ci := 3) (v := .int 0) (ty := .int) (C := RX3) (T := TX3) (N := 10) hx hb hts (by decide +kernel) tyX3 tyX3_ok nmX3 hown hK hP hD hS 0 rfl rfl 0 (by decide) (hts (.fieldLink RX3 7 "PieceWaysModel" "thrownCode" "I") (by decide +kernel)) (fun _ h9 => h9) rfl (by decide +kernel) rfl rfl (Nat.le_of_ble_eq_true rfl) dX3_go_4 (fun H locs hP hD hS => ?_)
  have hP : va_P (dC, dI) vwCl [(md, .inr (3, [.int 0, .ref a1, .int (nI B.length), .ref a2, .int (nI T.length), .ref a3, .int (nI (rw_R U P).length), .ref a4, .int (nI Z.length), .ref a5])), (a1, .inl (cI, 600, .inl eb)), (a3, .inl (cI, 2000, .inl eo)), (a4, .inl (cI, 600, .inl er)), (a5, .inl (cI, 600, .inl en))] H := hP
  have hD : va_D A [(md, .inr (3, [.int 0, .ref a1, .int (nI B.length), .ref a2, .int (nI T.length), .ref a3, .int (nI (rw_R U P).length), .ref a4, .int (nI Z.length), .ref a5])), (a1, .inl (cI, 600, .inl eb)), (a3, .inl (cI, 2000, .inl eo)), (a4, .inl (cI, 600, .inl er)), (a5, .inl (cI, 600, .inl en))] := hD
  refine lv_iconst (v := 0) hx hb dX3_go_7 (by decide) ?_
  refine lv_istore_n (lv' := [(2, .int 0), (1, .int 0), (0, .ref md)]) hx hb dX3_go_8 rfl hl (by decide) rfl (fun ls hl => ?_)
  exact loop P.length 0 en H locs ls (by omega) (fun t ht => by simp at ht) (im_nil _) hP hD hS (lv_sub hl [0, 1, 2] rfl)
end PWMGO
