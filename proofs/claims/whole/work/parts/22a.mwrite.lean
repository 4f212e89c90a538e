section PWMWRITE
variable (l : Launch) (dC : Nat → ClassId) (dI : Nat → Nat → Nat) (cB cI cL : ClassId)

set_option maxHeartbeats 1000000 in
set_option maxRecDepth 100000 in
/-- write(v) -/
theorem c_Md_write (md a1 a2 a3 a4 a5 : Nat) (B T O Z : List Int32) (th : Int32) (eo : Nat → Int32) (v : Int32) (hO : O.length < 2000) (ho : im_k eo O) : wr_M l yX3_write wsX3_write ({ frames := 0, cells := 0, slots := 0, locals := 0 } : Room) (dC, dI) vwCl (tk_s cB cI cL) [.ref md, .int v] [(md, .inr (3, [.int th, .ref a1, .int (nI B.length), .ref a2, .int (nI T.length), .ref a3, .int (nI O.length), .ref a4, .int (nI Z.length), .ref a5])), (a3, .inl (cI, 2000, .inl eo))] 0 0 (fun z : Nat → Int32 => im_k z (O ++ [v])) (fun z => [(md, .inr (3, [.int th, .ref a1, .int (nI B.length), .ref a2, .int (nI T.length), .ref a3, .int (nI (O ++ [v]).length), .ref a4, .int (nI Z.length), .ref a5])), (a3, .inl (cI, 2000, .inl z))]) := by
  refine wr_ofW (cc := cX3_write) (maxL := 2) (ret := none) (by decide) rfl (Nat.le_of_ble_eq_true rfl) ?_
  intro p e s m below meth c ls A hx hb hr hml hts hown hlk hnm hP hK hN hD hA hS hl
  have hl : lv_has ls 2 [(0, .ref md), (1, .int v)] := hl
  refine lv_aload_n hx hb dX3_write_0 rfl (lv_at hl 0 rfl) ?_
  refine va_get (D := (dC, dI)) (ci := 3) (v := .ref a3) (C := RX3) (T := TX3) (N := 10) hx hb hts (by decide +kernel) hown hK hP 0 rfl rfl 5 (by decide) (hts (.fieldLink RX3 26 "PieceWaysModel" "row" "[I") (by decide +kernel)) (fun _ h9 => h9) rfl dX3_write_1 ?_
  refine lv_aload_n hx hb dX3_write_4 rfl (lv_at hl 0 rfl) ?_
  refine va_get (D := (dC, dI)) (ci := 3) (v := .int (nI O.length)) (C := RX3) (T := TX3) (N := 10) hx hb hts (by decide +kernel) hown hK hP 0 rfl rfl 6 (by decide) (hts (.fieldLink RX3 29 "PieceWaysModel" "size" "I") (by decide +kernel)) (fun _ h9 => h9) rfl dX3_write_5 ?_
  refine lv_iload_n hx hb dX3_write_8 rfl (lv_at hl 1 rfl) ?_
  refine va_iast hx hb hK hP hD hS 1 1 rfl rfl (vp_in_nI hO (by omega)) dX3_write_9 (fun H locs hP hD hS => ?_)
  have hP : va_P (dC, dI) vwCl [(md, .inr (3, [.int th, .ref a1, .int (nI B.length), .ref a2, .int (nI T.length), .ref a3, .int (nI O.length), .ref a4, .int (nI Z.length), .ref a5])), (a3, .inl (cI, 2000, .inl (upd eo (nI O.length).toNatClampNeg v)))] H := hP
  have hD : va_D A [(md, .inr (3, [.int th, .ref a1, .int (nI B.length), .ref a2, .int (nI T.length), .ref a3, .int (nI O.length), .ref a4, .int (nI Z.length), .ref a5])), (a3, .inl (cI, 2000, .inl (upd eo (nI O.length).toNatClampNeg v)))] := hD
  refine lv_aload_n hx hb dX3_write_10 rfl (lv_at hl 0 rfl) ?_
  refine lv_dup hx hb dX3_write_11 rfl ?_
  refine va_get (D := (dC, dI)) (ci := 3) (v := .int (nI O.length)) (C := RX3) (T := TX3) (N := 10) hx hb hts (by decide +kernel) hown hK hP 0 rfl rfl 6 (by decide) (hts (.fieldLink RX3 29 "PieceWaysModel" "size" "I") (by decide +kernel)) (fun _ h9 => h9) rfl dX3_write_12 ?_
  refine lv_iconst (v := 1) hx hb dX3_write_15 (by decide) ?_
  refine lv_iadd hx hb dX3_write_16 ?_
  refine va_put (D := (dC, dI)) (ci := 3) (v := .int ((nI O.length) + 1)) (ty := .int) (C := RX3) (T := TX3) (N := 10) hx hb hts (by decide +kernel) tyX3 tyX3_ok nmX3 hown hK hP hD hS 0 rfl rfl 6 (by decide) (hts (.fieldLink RX3 29 "PieceWaysModel" "size" "I") (by decide +kernel)) (fun _ h9 => h9) rfl (by decide +kernel) rfl rfl (Nat.le_of_ble_eq_true rfl) dX3_write_17 (fun H locs hP hD hS => ?_)
  have hP : va_P (dC, dI) vwCl [(md, .inr (3, [.int th, .ref a1, .int (nI B.length), .ref a2, .int (nI T.length), .ref a3, .int ((nI O.length) + 1), .ref a4, .int (nI Z.length), .ref a5])), (a3, .inl (cI, 2000, .inl (upd eo (nI O.length).toNatClampNeg v)))] H := hP
  have hD : va_D A [(md, .inr (3, [.int th, .ref a1, .int (nI B.length), .ref a2, .int (nI T.length), .ref a3, .int ((nI O.length) + 1), .ref a4, .int (nI Z.length), .ref a5])), (a3, .inl (cI, 2000, .inl (upd eo (nI O.length).toNatClampNeg v)))] := hD
  rw [nI_clamp (by omega)] at hP hD
  have e1 : nI O.length + 1 = nI (O ++ [v]).length := by rw [List.length_append]; exact nI_1 _
  rw [e1] at hP hD
  exact wr_vret hx hb hr hlk (upd eo O.length v) (im_add ho v) hP hD hS dX3_write_20
set_option maxHeartbeats 1000000 in
set_option maxRecDepth 100000 in
/-- writeTwo(n) -/
theorem c_Md_writeTwo (md a1 a2 a3 a4 a5 : Nat) (B T O Z : List Int32) (th : Int32) (eo : Nat → Int32) (n : Nat) (hn : n < 65536) (hO : O.length + 2 ≤ 2000) (ho : im_k eo O) : wr_M l yX3_writeTwo wsX3_writeTwo ({ frames := 1, cells := 0, slots := 0, locals := 21 } : Room) (dC, dI) vwCl (tk_s cB cI cL) [.ref md, .int (nI n)] [(md, .inr (3, [.int th, .ref a1, .int (nI B.length), .ref a2, .int (nI T.length), .ref a3, .int (nI O.length), .ref a4, .int (nI Z.length), .ref a5])), (a3, .inl (cI, 2000, .inl eo))] 0 0 (fun z : Nat → Int32 => im_k z (O ++ [nI (n / 256), nI (n % 256)])) (fun z => [(md, .inr (3, [.int th, .ref a1, .int (nI B.length), .ref a2, .int (nI T.length), .ref a3, .int (nI (O ++ [nI (n / 256), nI (n % 256)]).length), .ref a4, .int (nI Z.length), .ref a5])), (a3, .inl (cI, 2000, .inl z))]) := by
  refine wr_ofW (cc := cX3_writeTwo) (maxL := 2) (ret := none) (by decide) rfl (Nat.le_of_ble_eq_true rfl) ?_
  intro p e s m below meth c ls A hx hb hr hml hts hown hlk hnm hP hK hN hD hA hS hl
  have hl : lv_has ls 2 [(0, .ref md), (1, .int (nI n))] := hl
  refine lv_aload_n hx hb dX3_writeTwo_0 rfl (lv_at hl 0 rfl) ?_
  refine lv_iload_n hx hb dX3_writeTwo_1 rfl (lv_at hl 1 rfl) ?_
  refine lv_sipush (v := 256) hx hb dX3_writeTwo_2 (by decide) ?_
  refine lv_idiv hx hb dX3_writeTwo_5 (by decide) ?_
  rw [show (256 : Int32) = nI 256 from rfl, pk_div (by omega) (by omega) (by omega)]
  refine wr_V (wc := [(md, .inr (3, [.int th, .ref a1, .int (nI B.length), .ref a2, .int (nI T.length), .ref a3, .int (nI O.length), .ref a4, .int (nI Z.length), .ref a5])), (a3, .inl (cI, 2000, .inl eo))]) (wr := []) (As := [.int (nI (n / 256))]) (rest := []) ⟨hx, hb, hml, hown, hts⟩ (c_Md_write l dC dI cB cI cL md a1 a2 a3 a4 a5 B T O Z th eo (nI (n / 256)) (by omega) ho) (cwV 1 hts gX3_writeTwo_X3_write rfl rfl rfl (by decide +kernel) ⟨(Nat.le_of_ble_eq_true rfl), (Nat.le_of_ble_eq_true rfl)⟩) hK hN hP hD hS hA [0, 1] [] rfl rfl (by decide) (by decide) (by decide) 0 rfl rfl rfl rfl hl.1 rfl (Nat.le_of_ble_eq_true rfl) dX3_writeTwo_6 ⟨(Nat.le_of_ble_eq_true rfl), (Nat.le_of_ble_eq_true rfl)⟩ (fun f1 H locs hf1 hP hD hS => ?_)
  have hP : va_P (dC, dI) vwCl [(md, .inr (3, [.int th, .ref a1, .int (nI B.length), .ref a2, .int (nI T.length), .ref a3, .int (nI (O ++ [nI (n / 256)]).length), .ref a4, .int (nI Z.length), .ref a5])), (a3, .inl (cI, 2000, .inl f1))] H := hP.sub [0, 1] rfl
  have hD : va_D A [(md, .inr (3, [.int th, .ref a1, .int (nI B.length), .ref a2, .int (nI T.length), .ref a3, .int (nI (O ++ [nI (n / 256)]).length), .ref a4, .int (nI Z.length), .ref a5])), (a3, .inl (cI, 2000, .inl f1))] := hD.sub [0, 1] (by decide) rfl
  refine lv_aload_n hx hb dX3_writeTwo_9 rfl (lv_at hl 0 rfl) ?_
  refine lv_iload_n hx hb dX3_writeTwo_10 rfl (lv_at hl 1 rfl) ?_
  refine lv_sipush (v := 256) hx hb dX3_writeTwo_11 (by decide) ?_
  refine lv_irem hx hb dX3_writeTwo_14 (by decide) ?_
  rw [show (256 : Int32) = nI 256 from rfl, pk_rem (by omega) (by omega) (by omega)]
  refine wr_V (wc := [(md, .inr (3, [.int th, .ref a1, .int (nI B.length), .ref a2, .int (nI T.length), .ref a3, .int (nI (O ++ [nI (n / 256)]).length), .ref a4, .int (nI Z.length), .ref a5])), (a3, .inl (cI, 2000, .inl f1))]) (wr := []) (As := [.int (nI (n % 256))]) (rest := []) ⟨hx, hb, hml, hown, hts⟩ (c_Md_write l dC dI cB cI cL md a1 a2 a3 a4 a5 B T (O ++ [nI (n / 256)]) Z th f1 (nI (n % 256)) (by simp only [List.length_append, List.length_cons, List.length_nil]; omega) hf1) (cwV 1 hts gX3_writeTwo_X3_write rfl rfl rfl (by decide +kernel) ⟨(Nat.le_of_ble_eq_true rfl), (Nat.le_of_ble_eq_true rfl)⟩) hK hN hP hD hS hA [0, 1] [] rfl rfl (by decide) (by decide) (by decide) 0 rfl rfl rfl rfl hl.1 rfl (Nat.le_of_ble_eq_true rfl) dX3_writeTwo_15 ⟨(Nat.le_of_ble_eq_true rfl), (Nat.le_of_ble_eq_true rfl)⟩ (fun f2 H locs hf2 hP hD hS => ?_)
  have hP : va_P (dC, dI) vwCl [(md, .inr (3, [.int th, .ref a1, .int (nI B.length), .ref a2, .int (nI T.length), .ref a3, .int (nI ((O ++ [nI (n / 256)]) ++ [nI (n % 256)]).length), .ref a4, .int (nI Z.length), .ref a5])), (a3, .inl (cI, 2000, .inl f2))] H := hP.sub [0, 1] rfl
  have hD : va_D A [(md, .inr (3, [.int th, .ref a1, .int (nI B.length), .ref a2, .int (nI T.length), .ref a3, .int (nI ((O ++ [nI (n / 256)]) ++ [nI (n % 256)]).length), .ref a4, .int (nI Z.length), .ref a5])), (a3, .inl (cI, 2000, .inl f2))] := hD.sub [0, 1] (by decide) rfl
  have e2 : (O ++ [nI (n / 256)]) ++ [nI (n % 256)] = O ++ [nI (n / 256), nI (n % 256)] := by simp
  rw [e2] at hf2 hP hD
  exact wr_vret hx hb hr hlk f2 hf2 hP hD hS dX3_writeTwo_18
set_option maxHeartbeats 1000000 in
set_option maxRecDepth 100000 in
/-- size() -/
theorem c_Md_size (md a1 a2 a3 a4 a5 : Nat) (B T O Z : List Int32) (th : Int32) : wi_M l yX3_size wsX3_size ({ frames := 0, cells := 0, slots := 0, locals := 0 } : Room) (dC, dI) vwCl (tk_s cB cI cL) [.ref md] [(md, .inr (3, [.int th, .ref a1, .int (nI B.length), .ref a2, .int (nI T.length), .ref a3, .int (nI O.length), .ref a4, .int (nI Z.length), .ref a5]))] 0 0 (fun (r : Int32) (_ : Unit) => r = nI O.length) (fun _ => [(md, .inr (3, [.int 0, .ref a1, .int (nI B.length), .ref a2, .int (nI T.length), .ref a3, .int (nI O.length), .ref a4, .int (nI Z.length), .ref a5]))]) := by
  refine wi_ofW (cc := cX3_size) (maxL := 1) (ret := (some .int)) (by decide) rfl (Nat.le_of_ble_eq_true rfl) ?_
  intro p e s m below meth c ls A hx hb hr hml hts hown hlk hnm hP hK hN hD hA hS hl
  have hl : lv_has ls 1 [(0, .ref md)] := hl
  refine lv_aload_n hx hb dX3_size_0 rfl (lv_at hl 0 rfl) ?_
  refine lv_iconst (v := 0) hx hb dX3_size_1 (by decide) ?_
  refine va_put (D := (dC, dI)) (ci := 3) (v := .int 0) (ty := .int) (C := RX3) (T := TX3) (N := 10) hx hb hts (by decide +kernel) tyX3 tyX3_ok nmX3 hown hK hP hD hS 0 rfl rfl 0 (by decide) (hts (.fieldLink RX3 7 "PieceWaysModel" "thrownCode" "I") (by decide +kernel)) (fun _ h9 => h9) rfl (by decide +kernel) rfl rfl (Nat.le_of_ble_eq_true rfl) dX3_size_2 (fun H locs hP hD hS => ?_)
  have hP : va_P (dC, dI) vwCl [(md, .inr (3, [.int 0, .ref a1, .int (nI B.length), .ref a2, .int (nI T.length), .ref a3, .int (nI O.length), .ref a4, .int (nI Z.length), .ref a5]))] H := hP
  have hD : va_D A [(md, .inr (3, [.int 0, .ref a1, .int (nI B.length), .ref a2, .int (nI T.length), .ref a3, .int (nI O.length), .ref a4, .int (nI Z.length), .ref a5]))] := hD
  refine lv_aload_n hx hb dX3_size_5 rfl (lv_at hl 0 rfl) ?_
  refine va_get (D := (dC, dI)) (ci := 3) (v := .int (nI O.length)) (C := RX3) (T := TX3) (N := 10) hx hb hts (by decide +kernel) hown hK hP 0 rfl rfl 6 (by decide) (hts (.fieldLink RX3 29 "PieceWaysModel" "size" "I") (by decide +kernel)) (fun _ h9 => h9) rfl dX3_size_6 ?_
  exact wi_iret hx hb hr hlk () rfl hP hD hS dX3_size_9
set_option maxHeartbeats 1000000 in
set_option maxRecDepth 100000 in
/-- way(x) -/
theorem c_Md_way (md a1 a2 a3 a4 a5 : Nat) (B T O Z : List Int32) (th : Int32) (eo : Nat → Int32) (x : Int32) (hL : O.length ≤ 2000) (hf : im_k eo O) : wi_M l yX3_way wsX3_way ({ frames := 0, cells := 0, slots := 0, locals := 0 } : Room) (dC, dI) vwCl (tk_s cB cI cL) [.ref md, .int x] [(md, .inr (3, [.int th, .ref a1, .int (nI B.length), .ref a2, .int (nI T.length), .ref a3, .int (nI O.length), .ref a4, .int (nI Z.length), .ref a5])), (a3, .inl (cI, 2000, .inl eo))] 0 0 (fun (r : Int32) (_ : Unit) => r = at_L O x) (fun _ => [(md, .inr (3, [.int 0, .ref a1, .int (nI B.length), .ref a2, .int (nI T.length), .ref a3, .int (nI O.length), .ref a4, .int (nI Z.length), .ref a5])), (a3, .inl (cI, 2000, .inl eo))]) := by
  refine wi_ofW (cc := cX3_way) (maxL := 2) (ret := (some .int)) (by decide) rfl (Nat.le_of_ble_eq_true rfl) ?_
  intro p e s m below meth c ls A hx hb hr hml hts hown hlk hnm hP hK hN hD hA hS hl
  have hl : lv_has ls 2 [(0, .ref md), (1, .int x)] := hl
  refine lv_aload_n hx hb dX3_way_0 rfl (lv_at hl 0 rfl) ?_
  refine lv_iconst (v := 0) hx hb dX3_way_1 (by decide) ?_
  refine va_put (D := (dC, dI)) (ci := 3) (v := .int 0) (ty := .int) (C := RX3) (T := TX3) (N := 10) hx hb hts (by decide +kernel) tyX3 tyX3_ok nmX3 hown hK hP hD hS 0 rfl rfl 0 (by decide) (hts (.fieldLink RX3 7 "PieceWaysModel" "thrownCode" "I") (by decide +kernel)) (fun _ h9 => h9) rfl (by decide +kernel) rfl rfl (Nat.le_of_ble_eq_true rfl) dX3_way_2 (fun H locs hP hD hS => ?_)
  have hP : va_P (dC, dI) vwCl [(md, .inr (3, [.int 0, .ref a1, .int (nI B.length), .ref a2, .int (nI T.length), .ref a3, .int (nI O.length), .ref a4, .int (nI Z.length), .ref a5])), (a3, .inl (cI, 2000, .inl eo))] H := hP
  have hD : va_D A [(md, .inr (3, [.int 0, .ref a1, .int (nI B.length), .ref a2, .int (nI T.length), .ref a3, .int (nI O.length), .ref a4, .int (nI Z.length), .ref a5])), (a3, .inl (cI, 2000, .inl eo))] := hD
  refine lv_iload_n hx hb dX3_way_5 rfl (lv_at hl 1 rfl) ?_
  refine lv_if_lt (tgt := 17) hx hb dX3_way_6 (by decide) (fun c1 => ?_) (fun c1 => ?_)
  · refine lv_iconst (v := (-1)) hx hb dX3_way_17 (by decide) ?_
    refine lv_goto (tgt := 27) hx hb dX3_way_18 (by decide) ?_
    exact wi_iret hx hb hr hlk () ((at_neg c1).symm) hP hD hS dX3_way_27
  · refine lv_iload_n hx hb dX3_way_9 rfl (lv_at hl 1 rfl) ?_
    refine lv_aload_n hx hb dX3_way_10 rfl (lv_at hl 0 rfl) ?_
    refine va_get (D := (dC, dI)) (ci := 3) (v := .int (nI O.length)) (C := RX3) (T := TX3) (N := 10) hx hb hts (by decide +kernel) hown hK hP 0 rfl rfl 6 (by decide) (hts (.fieldLink RX3 29 "PieceWaysModel" "size" "I") (by decide +kernel)) (fun _ h9 => h9) rfl dX3_way_11 ?_
    refine lv_icmp_lt (tgt := 21) hx hb dX3_way_14 (by decide) (fun c2 => ?_) (fun c2 => ?_)
    · obtain ⟨j, hj, rfl⟩ : ∃ j : Nat, j < O.length ∧ x = nI j := by
        rcases pk_ix x (n := O.length) (by omega) with q | q | q
        · exact absurd q c1
        · exact absurd c2 (fun h9 => by have h8 := Int32.lt_iff_toInt_lt.mp h9; have h7 := Int32.le_iff_toInt_le.mp q; omega)
        · exact q
      obtain ⟨y, hy⟩ : ∃ y, O[j]? = some y := ⟨_, List.getElem?_eq_getElem hj⟩
      refine lv_aload_n hx hb dX3_way_21 rfl (lv_at hl 0 rfl) ?_
      refine va_get (D := (dC, dI)) (ci := 3) (v := .ref a3) (C := RX3) (T := TX3) (N := 10) hx hb hts (by decide +kernel) hown hK hP 0 rfl rfl 5 (by decide) (hts (.fieldLink RX3 26 "PieceWaysModel" "row" "[I") (by decide +kernel)) (fun _ h9 => h9) rfl dX3_way_22 ?_
      refine lv_iload_n hx hb dX3_way_25 rfl (lv_at hl 1 rfl) ?_
      refine va_iald hx hb hK hP 1 1 rfl rfl (vp_in_nI (by omega) (by omega)) dX3_way_26 ?_
      rw [nI_clamp (by omega), hf j _ hy]
      exact wi_iret hx hb hr hlk () ((at_in hy (by omega)).symm) hP hD hS dX3_way_27
    · have q2 : nI O.length ≤ x := by have h8 := mt Int32.lt_iff_toInt_lt.mpr c2; exact Int32.le_iff_toInt_le.mpr (by omega)
      refine lv_iconst (v := (-1)) hx hb dX3_way_17 (by decide) ?_
      refine lv_goto (tgt := 27) hx hb dX3_way_18 (by decide) ?_
      exact wi_iret hx hb hr hlk () ((at_hi (by omega) c1 q2).symm) hP hD hS dX3_way_27
set_option maxHeartbeats 1000000 in
set_option maxRecDepth 100000 in
/-- result(x) -/
theorem c_Md_result (md a1 a2 a3 a4 a5 : Nat) (B T O Z : List Int32) (th : Int32) (er : Nat → Int32) (x : Int32) (hL : Z.length ≤ 600) (hf : im_k er Z) : wi_M l yX3_result wsX3_result ({ frames := 0, cells := 0, slots := 0, locals := 0 } : Room) (dC, dI) vwCl (tk_s cB cI cL) [.ref md, .int x] [(md, .inr (3, [.int th, .ref a1, .int (nI B.length), .ref a2, .int (nI T.length), .ref a3, .int (nI O.length), .ref a4, .int (nI Z.length), .ref a5])), (a4, .inl (cI, 600, .inl er))] 0 0 (fun (r : Int32) (_ : Unit) => r = at_L Z x) (fun _ => [(md, .inr (3, [.int 0, .ref a1, .int (nI B.length), .ref a2, .int (nI T.length), .ref a3, .int (nI O.length), .ref a4, .int (nI Z.length), .ref a5])), (a4, .inl (cI, 600, .inl er))]) := by
  refine wi_ofW (cc := cX3_result) (maxL := 2) (ret := (some .int)) (by decide) rfl (Nat.le_of_ble_eq_true rfl) ?_
  intro p e s m below meth c ls A hx hb hr hml hts hown hlk hnm hP hK hN hD hA hS hl
  have hl : lv_has ls 2 [(0, .ref md), (1, .int x)] := hl
  refine lv_aload_n hx hb dX3_result_0 rfl (lv_at hl 0 rfl) ?_
  refine lv_iconst (v := 0) hx hb dX3_result_1 (by decide) ?_
  refine va_put (D := (dC, dI)) (ci := 3) (v := .int 0) (ty := .int) (C := RX3) (T := TX3) (N := 10) hx hb hts (by decide +kernel) tyX3 tyX3_ok nmX3 hown hK hP hD hS 0 rfl rfl 0 (by decide) (hts (.fieldLink RX3 7 "PieceWaysModel" "thrownCode" "I") (by decide +kernel)) (fun _ h9 => h9) rfl (by decide +kernel) rfl rfl (Nat.le_of_ble_eq_true rfl) dX3_result_2 (fun H locs hP hD hS => ?_)
  have hP : va_P (dC, dI) vwCl [(md, .inr (3, [.int 0, .ref a1, .int (nI B.length), .ref a2, .int (nI T.length), .ref a3, .int (nI O.length), .ref a4, .int (nI Z.length), .ref a5])), (a4, .inl (cI, 600, .inl er))] H := hP
  have hD : va_D A [(md, .inr (3, [.int 0, .ref a1, .int (nI B.length), .ref a2, .int (nI T.length), .ref a3, .int (nI O.length), .ref a4, .int (nI Z.length), .ref a5])), (a4, .inl (cI, 600, .inl er))] := hD
  refine lv_iload_n hx hb dX3_result_5 rfl (lv_at hl 1 rfl) ?_
  refine lv_if_lt (tgt := 17) hx hb dX3_result_6 (by decide) (fun c1 => ?_) (fun c1 => ?_)
  · refine lv_iconst (v := (-1)) hx hb dX3_result_17 (by decide) ?_
    refine lv_goto (tgt := 27) hx hb dX3_result_18 (by decide) ?_
    exact wi_iret hx hb hr hlk () ((at_neg c1).symm) hP hD hS dX3_result_27
  · refine lv_iload_n hx hb dX3_result_9 rfl (lv_at hl 1 rfl) ?_
    refine lv_aload_n hx hb dX3_result_10 rfl (lv_at hl 0 rfl) ?_
    refine va_get (D := (dC, dI)) (ci := 3) (v := .int (nI Z.length)) (C := RX3) (T := TX3) (N := 10) hx hb hts (by decide +kernel) hown hK hP 0 rfl rfl 8 (by decide) (hts (.fieldLink RX3 35 "PieceWaysModel" "results" "I") (by decide +kernel)) (fun _ h9 => h9) rfl dX3_result_11 ?_
    refine lv_icmp_lt (tgt := 21) hx hb dX3_result_14 (by decide) (fun c2 => ?_) (fun c2 => ?_)
    · obtain ⟨j, hj, rfl⟩ : ∃ j : Nat, j < Z.length ∧ x = nI j := by
        rcases pk_ix x (n := Z.length) (by omega) with q | q | q
        · exact absurd q c1
        · exact absurd c2 (fun h9 => by have h8 := Int32.lt_iff_toInt_lt.mp h9; have h7 := Int32.le_iff_toInt_le.mp q; omega)
        · exact q
      obtain ⟨y, hy⟩ : ∃ y, Z[j]? = some y := ⟨_, List.getElem?_eq_getElem hj⟩
      refine lv_aload_n hx hb dX3_result_21 rfl (lv_at hl 0 rfl) ?_
      refine va_get (D := (dC, dI)) (ci := 3) (v := .ref a4) (C := RX3) (T := TX3) (N := 10) hx hb hts (by decide +kernel) hown hK hP 0 rfl rfl 7 (by decide) (hts (.fieldLink RX3 32 "PieceWaysModel" "result" "[I") (by decide +kernel)) (fun _ h9 => h9) rfl dX3_result_22 ?_
      refine lv_iload_n hx hb dX3_result_25 rfl (lv_at hl 1 rfl) ?_
      refine va_iald hx hb hK hP 1 1 rfl rfl (vp_in_nI (by omega) (by omega)) dX3_result_26 ?_
      rw [nI_clamp (by omega), hf j _ hy]
      exact wi_iret hx hb hr hlk () ((at_in hy (by omega)).symm) hP hD hS dX3_result_27
    · have q2 : nI Z.length ≤ x := by have h8 := mt Int32.lt_iff_toInt_lt.mpr c2; exact Int32.le_iff_toInt_le.mpr (by omega)
      refine lv_iconst (v := (-1)) hx hb dX3_result_17 (by decide) ?_
      refine lv_goto (tgt := 27) hx hb dX3_result_18 (by decide) ?_
      exact wi_iret hx hb hr hlk () ((at_hi (by omega) c1 q2).symm) hP hD hS dX3_result_27
set_option maxHeartbeats 1000000 in
set_option maxRecDepth 100000 in
/-- count(x) -/
theorem c_Md_count (md a1 a2 a3 a4 a5 : Nat) (B T O Z : List Int32) (th : Int32) (x : Int32) : wi_M l yX3_count wsX3_count ({ frames := 0, cells := 0, slots := 0, locals := 0 } : Room) (dC, dI) vwCl (tk_s cB cI cL) [.ref md, .int x] [(md, .inr (3, [.int th, .ref a1, .int (nI B.length), .ref a2, .int (nI T.length), .ref a3, .int (nI O.length), .ref a4, .int (nI Z.length), .ref a5]))] 0 0 (fun (r : Int32) (_ : Unit) => r = ct_I B T Z x) (fun _ => [(md, .inr (3, [.int 0, .ref a1, .int (nI B.length), .ref a2, .int (nI T.length), .ref a3, .int (nI O.length), .ref a4, .int (nI Z.length), .ref a5]))]) := by
  refine wi_ofW (cc := cX3_count) (maxL := 2) (ret := (some .int)) (by decide) rfl (Nat.le_of_ble_eq_true rfl) ?_
  intro p e s m below meth c ls A hx hb hr hml hts hown hlk hnm hP hK hN hD hA hS hl
  have hl : lv_has ls 2 [(0, .ref md), (1, .int x)] := hl
  refine lv_aload_n hx hb dX3_count_0 rfl (lv_at hl 0 rfl) ?_
  refine lv_iconst (v := 0) hx hb dX3_count_1 (by decide) ?_
  refine va_put (D := (dC, dI)) (ci := 3) (v := .int 0) (ty := .int) (C := RX3) (T := TX3) (N := 10) hx hb hts (by decide +kernel) tyX3 tyX3_ok nmX3 hown hK hP hD hS 0 rfl rfl 0 (by decide) (hts (.fieldLink RX3 7 "PieceWaysModel" "thrownCode" "I") (by decide +kernel)) (fun _ h9 => h9) rfl (by decide +kernel) rfl rfl (Nat.le_of_ble_eq_true rfl) dX3_count_2 (fun H locs hP hD hS => ?_)
  have hP : va_P (dC, dI) vwCl [(md, .inr (3, [.int 0, .ref a1, .int (nI B.length), .ref a2, .int (nI T.length), .ref a3, .int (nI O.length), .ref a4, .int (nI Z.length), .ref a5]))] H := hP
  have hD : va_D A [(md, .inr (3, [.int 0, .ref a1, .int (nI B.length), .ref a2, .int (nI T.length), .ref a3, .int (nI O.length), .ref a4, .int (nI Z.length), .ref a5]))] := hD
  refine lv_iload_n hx hb dX3_count_5 rfl (lv_at hl 1 rfl) ?_
  refine lv_if_ne (tgt := 16) hx hb dX3_count_6 (by decide) (fun c1 => ?_) (fun c1 => ?_)
  · refine lv_iload_n hx hb dX3_count_16 rfl (lv_at hl 1 rfl) ?_
    refine lv_iconst (v := 1) hx hb dX3_count_17 (by decide) ?_
    refine lv_icmp_ne (tgt := 28) hx hb dX3_count_18 (by decide) (fun c2 => ?_) (fun c2 => ?_)
    · refine lv_iload_n hx hb dX3_count_28 rfl (lv_at hl 1 rfl) ?_
      refine lv_iconst (v := 2) hx hb dX3_count_29 (by decide) ?_
      refine lv_icmp_ne (tgt := 40) hx hb dX3_count_30 (by decide) (fun c3 => ?_) (fun c3 => ?_)
      · refine lv_iconst (v := (-1)) hx hb dX3_count_40 (by decide) ?_
        exact wi_iret hx hb hr hlk () ((ct_no c1 c2 c3).symm) hP hD hS dX3_count_41
      · refine lv_aload_n hx hb dX3_count_33 rfl (lv_at hl 0 rfl) ?_
        refine va_get (D := (dC, dI)) (ci := 3) (v := .int (nI Z.length)) (C := RX3) (T := TX3) (N := 10) hx hb hts (by decide +kernel) hown hK hP 0 rfl rfl 8 (by decide) (hts (.fieldLink RX3 35 "PieceWaysModel" "results" "I") (by decide +kernel)) (fun _ h9 => h9) rfl dX3_count_34 ?_
        refine lv_goto (tgt := 41) hx hb dX3_count_37 (by decide) ?_
        exact wi_iret hx hb hr hlk () (by rw [c3]; rfl) hP hD hS dX3_count_41
    · refine lv_aload_n hx hb dX3_count_21 rfl (lv_at hl 0 rfl) ?_
      refine va_get (D := (dC, dI)) (ci := 3) (v := .int (nI T.length)) (C := RX3) (T := TX3) (N := 10) hx hb hts (by decide +kernel) hown hK hP 0 rfl rfl 4 (by decide) (hts (.fieldLink RX3 23 "PieceWaysModel" "targets" "I") (by decide +kernel)) (fun _ h9 => h9) rfl dX3_count_22 ?_
      refine lv_goto (tgt := 41) hx hb dX3_count_25 (by decide) ?_
      exact wi_iret hx hb hr hlk () (by rw [c2]; rfl) hP hD hS dX3_count_41
  · refine lv_aload_n hx hb dX3_count_9 rfl (lv_at hl 0 rfl) ?_
    refine va_get (D := (dC, dI)) (ci := 3) (v := .int (nI B.length)) (C := RX3) (T := TX3) (N := 10) hx hb hts (by decide +kernel) hown hK hP 0 rfl rfl 2 (by decide) (hts (.fieldLink RX3 17 "PieceWaysModel" "bases" "I") (by decide +kernel)) (fun _ h9 => h9) rfl dX3_count_10 ?_
    refine lv_goto (tgt := 41) hx hb dX3_count_13 (by decide) ?_
    exact wi_iret hx hb hr hlk () (by rw [c1]; rfl) hP hD hS dX3_count_41
set_option maxHeartbeats 1000000 in
set_option maxRecDepth 100000 in
/-- clear(tg) -/
theorem c_Md_clear (md a1 a2 a3 a4 a5 : Nat) (B T O Z : List Int32) (th : Int32) (tg : Int32) : wr_M l yX3_clear wsX3_clear ({ frames := 0, cells := 0, slots := 0, locals := 0 } : Room) (dC, dI) vwCl (tk_s cB cI cL) [.ref md, .int tg] [(md, .inr (3, [.int th, .ref a1, .int (nI B.length), .ref a2, .int (nI T.length), .ref a3, .int (nI O.length), .ref a4, .int (nI Z.length), .ref a5]))] 0 0 (fun _ : Unit => True) (fun _ => [(md, .inr (3, [.int 0, .ref a1, .int (nI (if tg = 0 then ([] : List Int32) else B).length), .ref a2, .int (nI (if tg = 0 then T else ([] : List Int32)).length), .ref a3, .int (nI O.length), .ref a4, .int (nI Z.length), .ref a5]))]) := by
  refine wr_ofW (cc := cX3_clear) (maxL := 2) (ret := none) (by decide) rfl (Nat.le_of_ble_eq_true rfl) ?_
  intro p e s m below meth c ls A hx hb hr hml hts hown hlk hnm hP hK hN hD hA hS hl
  have hl : lv_has ls 2 [(0, .ref md), (1, .int tg)] := hl
  refine lv_aload_n hx hb dX3_clear_0 rfl (lv_at hl 0 rfl) ?_
  refine lv_iconst (v := 0) hx hb dX3_clear_1 (by decide) ?_
  refine va_put (D := (dC, dI)) (ci := 3) (v := .int 0) (ty := .int) (C := RX3) (T := TX3) (N := 10) hx hb hts (by decide +kernel) tyX3 tyX3_ok nmX3 hown hK hP hD hS 0 rfl rfl 0 (by decide) (hts (.fieldLink RX3 7 "PieceWaysModel" "thrownCode" "I") (by decide +kernel)) (fun _ h9 => h9) rfl (by decide +kernel) rfl rfl (Nat.le_of_ble_eq_true rfl) dX3_clear_2 (fun H locs hP hD hS => ?_)
  have hP : va_P (dC, dI) vwCl [(md, .inr (3, [.int 0, .ref a1, .int (nI B.length), .ref a2, .int (nI T.length), .ref a3, .int (nI O.length), .ref a4, .int (nI Z.length), .ref a5]))] H := hP
  have hD : va_D A [(md, .inr (3, [.int 0, .ref a1, .int (nI B.length), .ref a2, .int (nI T.length), .ref a3, .int (nI O.length), .ref a4, .int (nI Z.length), .ref a5]))] := hD
  refine lv_iload_n hx hb dX3_clear_5 rfl (lv_at hl 1 rfl) ?_
  refine lv_if_eq (tgt := 17) hx hb dX3_clear_6 (by decide) (fun c1 => ?_) (fun c1 => ?_)
  · rw [if_pos c1, if_pos c1]
    refine lv_aload_n hx hb dX3_clear_17 rfl (lv_at hl 0 rfl) ?_
    refine lv_iconst (v := 0) hx hb dX3_clear_18 (by decide) ?_
    refine va_put (D := (dC, dI)) (ci := 3) (v := .int (nI ([] : List Int32).length)) (ty := .int) (C := RX3) (T := TX3) (N := 10) hx hb hts (by decide +kernel) tyX3 tyX3_ok nmX3 hown hK hP hD hS 0 rfl rfl 2 (by decide) (hts (.fieldLink RX3 17 "PieceWaysModel" "bases" "I") (by decide +kernel)) (fun _ h9 => h9) rfl (by decide +kernel) rfl rfl (Nat.le_of_ble_eq_true rfl) dX3_clear_19 (fun H locs hP hD hS => ?_)
    have hP : va_P (dC, dI) vwCl [(md, .inr (3, [.int 0, .ref a1, .int (nI ([] : List Int32).length), .ref a2, .int (nI T.length), .ref a3, .int (nI O.length), .ref a4, .int (nI Z.length), .ref a5]))] H := hP
    have hD : va_D A [(md, .inr (3, [.int 0, .ref a1, .int (nI ([] : List Int32).length), .ref a2, .int (nI T.length), .ref a3, .int (nI O.length), .ref a4, .int (nI Z.length), .ref a5]))] := hD
    exact wr_vret hx hb hr hlk () trivial hP hD hS dX3_clear_22
  · rw [if_neg c1, if_neg c1]
    refine lv_aload_n hx hb dX3_clear_9 rfl (lv_at hl 0 rfl) ?_
    refine lv_iconst (v := 0) hx hb dX3_clear_10 (by decide) ?_
    refine va_put (D := (dC, dI)) (ci := 3) (v := .int (nI ([] : List Int32).length)) (ty := .int) (C := RX3) (T := TX3) (N := 10) hx hb hts (by decide +kernel) tyX3 tyX3_ok nmX3 hown hK hP hD hS 0 rfl rfl 4 (by decide) (hts (.fieldLink RX3 23 "PieceWaysModel" "targets" "I") (by decide +kernel)) (fun _ h9 => h9) rfl (by decide +kernel) rfl rfl (Nat.le_of_ble_eq_true rfl) dX3_clear_11 (fun H locs hP hD hS => ?_)
    have hP : va_P (dC, dI) vwCl [(md, .inr (3, [.int 0, .ref a1, .int (nI B.length), .ref a2, .int (nI ([] : List Int32).length), .ref a3, .int (nI O.length), .ref a4, .int (nI Z.length), .ref a5]))] H := hP
    have hD : va_D A [(md, .inr (3, [.int 0, .ref a1, .int (nI B.length), .ref a2, .int (nI ([] : List Int32).length), .ref a3, .int (nI O.length), .ref a4, .int (nI Z.length), .ref a5]))] := hD
    refine lv_goto (tgt := 22) hx hb dX3_clear_14 (by decide) ?_
    exact wr_vret hx hb hr hlk () trivial hP hD hS dX3_clear_22
end PWMWRITE
