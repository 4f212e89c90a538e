section PWBYTES
variable (l : Launch) (dC : Nat → ClassId) (dI : Nat → Nat → Nat) (cB cI cL : ClassId)

set_option maxHeartbeats 4000000 in
set_option maxRecDepth 100000 in
/-- length() -/
theorem c_By_length (a h : Nat) (n : Int32) : rd_M l yX0_length wsX0_length ({ frames := 0, cells := 0, slots := 0, locals := 0 } : Room) (dC, dI) vwCl (tk_s cB cI cL) [.ref a] [(a, .inr (0, [.ref h, .int n]))] n := by
  refine rd_ofW (cc := cX0_length) (maxL := 1) (ret := (some .int)) (by decide) rfl (Nat.le_of_ble_eq_true rfl) ?_
  intro p e s m below meth c ls hx hb hr hml hts hown hlk hP hK hN hl
  have hl : lv_has ls 1 [(0, .ref a)] := hl
  refine lv_aload_n hx hb dX0_length_0 rfl (lv_at hl 0 rfl) ?_
  refine va_get (D := (dC, dI)) (ci := 0) (v := .int n) (C := RX0) (T := TX0) (N := 2) hx hb hts (by decide +kernel) hown hK hP 0 rfl rfl 1 (by decide) (hts (.fieldLink RX0 15 "PieceWays$Bytes" "used" "I") (by decide +kernel)) (fun _ h9 => h9) rfl dX0_length_1 ?_
  exact rd_iret hx hb hr hlk (rfl) dX0_length_4
set_option maxHeartbeats 4000000 in
set_option maxRecDepth 100000 in
/-- at(x) -/
theorem c_By_at (a h : Nat) (L : List Int32) (f : Nat → Int32) (x : Int32) (hL : L.length ≤ 603) (hf : by_k f L) : rd_M l yX0_at wsX0_at ({ frames := 0, cells := 0, slots := 0, locals := 0 } : Room) (dC, dI) vwCl (tk_s cB cI cL) [.ref a, .int x] [(a, .inr (0, [.ref h, .int (nI L.length)])), (h, .inl (cB, 603, .inl f))] (at_L L x) := by
  refine rd_ofW (cc := cX0_at) (maxL := 2) (ret := (some .int)) (by decide) rfl (Nat.le_of_ble_eq_true rfl) ?_
  intro p e s m below meth c ls hx hb hr hml hts hown hlk hP hK hN hl
  have hl : lv_has ls 2 [(0, .ref a), (1, .int x)] := hl
  refine lv_iload_n hx hb dX0_at_0 rfl (lv_at hl 1 rfl) ?_
  refine lv_if_lt (tgt := 21) hx hb dX0_at_1 (by decide) (fun c1 => ?_) (fun c1 => ?_)
  · refine lv_iconst (v := (-1)) hx hb dX0_at_21 (by decide) ?_
    exact rd_iret hx hb hr hlk ((at_neg c1).symm) dX0_at_22
  · refine lv_iload_n hx hb dX0_at_4 rfl (lv_at hl 1 rfl) ?_
    refine lv_aload_n hx hb dX0_at_5 rfl (lv_at hl 0 rfl) ?_
    refine va_get (D := (dC, dI)) (ci := 0) (v := .int (nI L.length)) (C := RX0) (T := TX0) (N := 2) hx hb hts (by decide +kernel) hown hK hP 0 rfl rfl 1 (by decide) (hts (.fieldLink RX0 15 "PieceWays$Bytes" "used" "I") (by decide +kernel)) (fun _ h9 => h9) rfl dX0_at_6 ?_
    refine lv_icmp_ge (tgt := 21) hx hb dX0_at_9 (by decide) (fun c2 => ?_) (fun c2 => ?_)
    · refine lv_iconst (v := (-1)) hx hb dX0_at_21 (by decide) ?_
      exact rd_iret hx hb hr hlk ((at_hi (by omega) c1 c2).symm) dX0_at_22
    · obtain ⟨j, hj, rfl⟩ : ∃ j : Nat, j < L.length ∧ x = nI j := by
        rcases pk_ix x (n := L.length) (by omega) with q | q | q
        · exact absurd q c1
        · exact absurd q c2
        · exact q
      refine lv_iload_n hx hb dX0_at_12 rfl (lv_at hl 1 rfl) ?_
      refine lv_aload_n hx hb dX0_at_13 rfl (lv_at hl 0 rfl) ?_
      refine va_get (D := (dC, dI)) (ci := 0) (v := .ref h) (C := RX0) (T := TX0) (N := 2) hx hb hts (by decide +kernel) hown hK hP 0 rfl rfl 0 (by decide) (hts (.fieldLink RX0 9 "PieceWays$Bytes" "held" "[B") (by decide +kernel)) (fun _ h9 => h9) rfl dX0_at_14 ?_
      refine va_alen (v := (nI 603)) hx hb hK hP 1 0 rfl rfl rfl dX0_at_17 ?_
      refine lv_icmp_lt (tgt := 23) hx hb dX0_at_18 (by decide) (fun c3 => ?_) (fun c3 => ?_)
      · refine lv_aload_n hx hb dX0_at_23 rfl (lv_at hl 0 rfl) ?_
        refine va_get (D := (dC, dI)) (ci := 0) (v := .ref h) (C := RX0) (T := TX0) (N := 2) hx hb hts (by decide +kernel) hown hK hP 0 rfl rfl 0 (by decide) (hts (.fieldLink RX0 9 "PieceWays$Bytes" "held" "[B") (by decide +kernel)) (fun _ h9 => h9) rfl dX0_at_24 ?_
        refine lv_iload_n hx hb dX0_at_27 rfl (lv_at hl 1 rfl) ?_
        refine va_bald hx hb hK hP 1 0 rfl rfl (vp_in_nI (by omega) (by omega)) dX0_at_28 ?_
        refine lv_sipush (v := 255) hx hb dX0_at_29 (by decide) ?_
        refine lv_iand hx hb dX0_at_32 ?_
        obtain ⟨y, hy⟩ : ∃ y, L[j]? = some y := ⟨_, List.getElem?_eq_getElem hj⟩
        exact rd_iret hx hb hr hlk (by rw [nI_clamp (by omega), at_in hy (by omega)]; exact hf j y hy) dX0_at_33
      · exact absurd (nI_lt (by omega) (by omega)) c3
set_option maxHeartbeats 4000000 in
set_option maxRecDepth 100000 in
/-- empty() -/
theorem c_By_empty (a h : Nat) (n : Int32) : wr_M l yX0_empty wsX0_empty ({ frames := 0, cells := 0, slots := 0, locals := 0 } : Room) (dC, dI) vwCl (tk_s cB cI cL) [.ref a] [(a, .inr (0, [.ref h, .int n]))] 0 0 (fun _ : Unit => True) (fun _ => [(a, .inr (0, [.ref h, .int (nI 0)]))]) := by
  refine wr_ofW (cc := cX0_empty) (maxL := 1) (ret := none) (by decide) rfl (Nat.le_of_ble_eq_true rfl) ?_
  intro p e s m below meth c ls A hx hb hr hml hts hown hlk hnm hP hK hN hD hA hS hl
  have hl : lv_has ls 1 [(0, .ref a)] := hl
  refine lv_aload_n hx hb dX0_empty_0 rfl (lv_at hl 0 rfl) ?_
  refine lv_iconst (v := 0) hx hb dX0_empty_1 (by decide) ?_
  refine va_put (D := (dC, dI)) (ci := 0) (v := .int (nI 0)) (ty := .int) (C := RX0) (T := TX0) (N := 2) hx hb hts (by decide +kernel) tyX0 tyX0_ok nmX0 hown hK hP hD hS 0 rfl rfl 1 (by decide) (hts (.fieldLink RX0 15 "PieceWays$Bytes" "used" "I") (by decide +kernel)) (fun _ h9 => h9) rfl (by decide +kernel) rfl rfl (Nat.le_of_ble_eq_true rfl) dX0_empty_2 (fun H locs hP hD hS => ?_)
  have hP : va_P (dC, dI) vwCl [(a, .inr (0, [.ref h, .int (nI 0)]))] H := hP
  have hD : va_D A [(a, .inr (0, [.ref h, .int (nI 0)]))] := hD
  exact wr_vret hx hb hr hlk () trivial hP hD hS dX0_empty_5
set_option maxHeartbeats 4000000 in
set_option maxRecDepth 100000 in
/-- add(b), where there is room -/
theorem c_By_add (a h : Nat) (L : List Int32) (f : Nat → Int32) (b : Int32) (hL : L.length < 603) (hf : by_k f L) : wr_M l yX0_add wsX0_add ({ frames := 0, cells := 0, slots := 0, locals := 0 } : Room) (dC, dI) vwCl (tk_s cB cI cL) [.ref a, .int b] [(a, .inr (0, [.ref h, .int (nI L.length)])), (h, .inl (cB, 603, .inl f))] 0 0 (fun g : Nat → Int32 => by_k g (L ++ [b &&& 255])) (fun g => [(a, .inr (0, [.ref h, .int (nI (L ++ [b &&& 255]).length)])), (h, .inl (cB, 603, .inl g))]) := by
  refine wr_ofW (cc := cX0_add) (maxL := 2) (ret := none) (by decide) rfl (Nat.le_of_ble_eq_true rfl) ?_
  intro p e s m below meth c ls A hx hb hr hml hts hown hlk hnm hP hK hN hD hA hS hl
  have hl : lv_has ls 2 [(0, .ref a), (1, .int b)] := hl
  refine lv_aload_n hx hb dX0_add_0 rfl (lv_at hl 0 rfl) ?_
  refine va_get (D := (dC, dI)) (ci := 0) (v := .int (nI L.length)) (C := RX0) (T := TX0) (N := 2) hx hb hts (by decide +kernel) hown hK hP 0 rfl rfl 1 (by decide) (hts (.fieldLink RX0 15 "PieceWays$Bytes" "used" "I") (by decide +kernel)) (fun _ h9 => h9) rfl dX0_add_1 ?_
  refine lv_if_lt (tgt := 19) hx hb dX0_add_4 (by decide) (fun c1 => ?_) (fun c1 => ?_)
  · exact absurd c1 (nI_pos (by omega))
  · refine lv_aload_n hx hb dX0_add_7 rfl (lv_at hl 0 rfl) ?_
    refine va_get (D := (dC, dI)) (ci := 0) (v := .int (nI L.length)) (C := RX0) (T := TX0) (N := 2) hx hb hts (by decide +kernel) hown hK hP 0 rfl rfl 1 (by decide) (hts (.fieldLink RX0 15 "PieceWays$Bytes" "used" "I") (by decide +kernel)) (fun _ h9 => h9) rfl dX0_add_8 ?_
    refine lv_aload_n hx hb dX0_add_11 rfl (lv_at hl 0 rfl) ?_
    refine va_get (D := (dC, dI)) (ci := 0) (v := .ref h) (C := RX0) (T := TX0) (N := 2) hx hb hts (by decide +kernel) hown hK hP 0 rfl rfl 0 (by decide) (hts (.fieldLink RX0 9 "PieceWays$Bytes" "held" "[B") (by decide +kernel)) (fun _ h9 => h9) rfl dX0_add_12 ?_
    refine va_alen (v := (nI 603)) hx hb hK hP 1 0 rfl rfl rfl dX0_add_15 ?_
    refine lv_icmp_lt (tgt := 20) hx hb dX0_add_16 (by decide) (fun c2 => ?_) (fun c2 => ?_)
    · refine lv_aload_n hx hb dX0_add_20 rfl (lv_at hl 0 rfl) ?_
      refine va_get (D := (dC, dI)) (ci := 0) (v := .ref h) (C := RX0) (T := TX0) (N := 2) hx hb hts (by decide +kernel) hown hK hP 0 rfl rfl 0 (by decide) (hts (.fieldLink RX0 9 "PieceWays$Bytes" "held" "[B") (by decide +kernel)) (fun _ h9 => h9) rfl dX0_add_21 ?_
      refine lv_aload_n hx hb dX0_add_24 rfl (lv_at hl 0 rfl) ?_
      refine va_get (D := (dC, dI)) (ci := 0) (v := .int (nI L.length)) (C := RX0) (T := TX0) (N := 2) hx hb hts (by decide +kernel) hown hK hP 0 rfl rfl 1 (by decide) (hts (.fieldLink RX0 15 "PieceWays$Bytes" "used" "I") (by decide +kernel)) (fun _ h9 => h9) rfl dX0_add_25 ?_
      refine lv_iload_n hx hb dX0_add_28 rfl (lv_at hl 1 rfl) ?_
      refine lv_i2b hx hb dX0_add_29 rfl ?_
      refine va_bast hx hb hK hP hD hS 1 0 rfl rfl (vp_in_nI hL (by omega)) dX0_add_30 (fun H locs hP hD hS => ?_)
      have hP : va_P (dC, dI) vwCl [(a, .inr (0, [.ref h, .int (nI L.length)])), (h, .inl (cB, 603, .inl (upd f (nI L.length).toNatClampNeg (vp_nar .byte b.toInt8.toInt32))))] H := hP
      have hD : va_D A [(a, .inr (0, [.ref h, .int (nI L.length)])), (h, .inl (cB, 603, .inl (upd f (nI L.length).toNatClampNeg (vp_nar .byte b.toInt8.toInt32))))] := hD
      refine lv_aload_n hx hb dX0_add_31 rfl (lv_at hl 0 rfl) ?_
      refine lv_dup hx hb dX0_add_32 rfl ?_
      refine va_get (D := (dC, dI)) (ci := 0) (v := .int (nI L.length)) (C := RX0) (T := TX0) (N := 2) hx hb hts (by decide +kernel) hown hK hP 0 rfl rfl 1 (by decide) (hts (.fieldLink RX0 15 "PieceWays$Bytes" "used" "I") (by decide +kernel)) (fun _ h9 => h9) rfl dX0_add_33 ?_
      refine lv_iconst (v := 1) hx hb dX0_add_36 (by decide) ?_
      refine lv_iadd hx hb dX0_add_37 ?_
      refine va_put (D := (dC, dI)) (ci := 0) (v := .int ((nI L.length) + 1)) (ty := .int) (C := RX0) (T := TX0) (N := 2) hx hb hts (by decide +kernel) tyX0 tyX0_ok nmX0 hown hK hP hD hS 0 rfl rfl 1 (by decide) (hts (.fieldLink RX0 15 "PieceWays$Bytes" "used" "I") (by decide +kernel)) (fun _ h9 => h9) rfl (by decide +kernel) rfl rfl (Nat.le_of_ble_eq_true rfl) dX0_add_38 (fun H locs hP hD hS => ?_)
      have hP : va_P (dC, dI) vwCl [(a, .inr (0, [.ref h, .int ((nI L.length) + 1)])), (h, .inl (cB, 603, .inl (upd f (nI L.length).toNatClampNeg (vp_nar .byte b.toInt8.toInt32))))] H := hP
      have hD : va_D A [(a, .inr (0, [.ref h, .int ((nI L.length) + 1)])), (h, .inl (cB, 603, .inl (upd f (nI L.length).toNatClampNeg (vp_nar .byte b.toInt8.toInt32))))] := hD
      rw [nI_clamp (by omega)] at hP hD
      have e1 : nI L.length + 1 = nI (L ++ [b &&& 255]).length := by rw [List.length_append]; exact nI_1 _
      rw [e1] at hP hD
      exact wr_vret hx hb hr hlk (upd f L.length (vp_nar .byte b.toInt8.toInt32)) (by_add hf b) hP hD hS dX0_add_41
    · exact absurd (nI_lt hL (by omega)) c2
set_option maxHeartbeats 4000000 in
set_option maxRecDepth 100000 in
/-- addTwo(b), where there is room -/
theorem c_By_addTwo (a h : Nat) (L : List Int32) (f : Nat → Int32) (b : Int32) (hL : L.length + 2 ≤ 603) (hf : by_k f L) : wr_M l yX0_addTwo wsX0_addTwo ({ frames := 1, cells := 0, slots := 0, locals := 21 } : Room) (dC, dI) vwCl (tk_s cB cI cL) [.ref a, .int b] [(a, .inr (0, [.ref h, .int (nI L.length)])), (h, .inl (cB, 603, .inl f))] 0 0 (fun g : Nat → Int32 => by_k g (L ++ [(b >>> ((8 : Int32) &&& 31)) &&& 255, b &&& 255])) (fun g => [(a, .inr (0, [.ref h, .int (nI (L ++ [(b >>> ((8 : Int32) &&& 31)) &&& 255, b &&& 255]).length)])), (h, .inl (cB, 603, .inl g))]) := by
  refine wr_ofW (cc := cX0_addTwo) (maxL := 2) (ret := none) (by decide) rfl (Nat.le_of_ble_eq_true rfl) ?_
  intro p e s m below meth c ls A hx hb hr hml hts hown hlk hnm hP hK hN hD hA hS hl
  have hl : lv_has ls 2 [(0, .ref a), (1, .int b)] := hl
  refine lv_aload_n hx hb dX0_addTwo_0 rfl (lv_at hl 0 rfl) ?_
  refine lv_iload_n hx hb dX0_addTwo_1 rfl (lv_at hl 1 rfl) ?_
  refine lv_bipush (v := 8) hx hb dX0_addTwo_2 (by decide) ?_
  refine lv_ishr hx hb dX0_addTwo_4 ?_
  refine wr_V (wc := [(a, .inr (0, [.ref h, .int (nI L.length)])), (h, .inl (cB, 603, .inl f))]) (wr := []) (As := [.int (b >>> (8 &&& 31))]) (rest := []) ⟨hx, hb, hml, hown, hts⟩ (c_By_add l dC dI cB cI cL a h L f (b >>> ((8 : Int32) &&& 31)) (by omega) hf) (cwV 1 hts gX0_addTwo_X0_add rfl rfl rfl (by decide +kernel) ⟨(Nat.le_of_ble_eq_true rfl), (Nat.le_of_ble_eq_true rfl)⟩) hK hN hP hD hS hA [0, 1] [] rfl rfl (by decide) (by decide) (by decide) 0 rfl rfl rfl rfl hl.1 rfl (Nat.le_of_ble_eq_true rfl) dX0_addTwo_5 ⟨(Nat.le_of_ble_eq_true rfl), (Nat.le_of_ble_eq_true rfl)⟩ (fun f1 H locs hf1 hP hD hS => ?_)
  have hP : va_P (dC, dI) vwCl [(a, .inr (0, [.ref h, .int (nI (L ++ [(b >>> ((8 : Int32) &&& 31)) &&& 255]).length)])), (h, .inl (cB, 603, .inl f1))] H := hP.sub [0, 1] rfl
  have hD : va_D A [(a, .inr (0, [.ref h, .int (nI (L ++ [(b >>> ((8 : Int32) &&& 31)) &&& 255]).length)])), (h, .inl (cB, 603, .inl f1))] := hD.sub [0, 1] (by decide) rfl
  refine lv_aload_n hx hb dX0_addTwo_8 rfl (lv_at hl 0 rfl) ?_
  refine lv_iload_n hx hb dX0_addTwo_9 rfl (lv_at hl 1 rfl) ?_
  refine wr_V (wc := [(a, .inr (0, [.ref h, .int (nI (L ++ [(b >>> ((8 : Int32) &&& 31)) &&& 255]).length)])), (h, .inl (cB, 603, .inl f1))]) (wr := []) (As := [.int b]) (rest := []) ⟨hx, hb, hml, hown, hts⟩ (c_By_add l dC dI cB cI cL a h (L ++ [(b >>> ((8 : Int32) &&& 31)) &&& 255]) f1 b (by simp only [List.length_append, List.length_cons, List.length_nil]; omega) hf1) (cwV 1 hts gX0_addTwo_X0_add rfl rfl rfl (by decide +kernel) ⟨(Nat.le_of_ble_eq_true rfl), (Nat.le_of_ble_eq_true rfl)⟩) hK hN hP hD hS hA [0, 1] [] rfl rfl (by decide) (by decide) (by decide) 0 rfl rfl rfl rfl hl.1 rfl (Nat.le_of_ble_eq_true rfl) dX0_addTwo_10 ⟨(Nat.le_of_ble_eq_true rfl), (Nat.le_of_ble_eq_true rfl)⟩ (fun f2 H locs hf2 hP hD hS => ?_)
  have hP : va_P (dC, dI) vwCl [(a, .inr (0, [.ref h, .int (nI ((L ++ [(b >>> ((8 : Int32) &&& 31)) &&& 255]) ++ [b &&& 255]).length)])), (h, .inl (cB, 603, .inl f2))] H := hP.sub [0, 1] rfl
  have hD : va_D A [(a, .inr (0, [.ref h, .int (nI ((L ++ [(b >>> ((8 : Int32) &&& 31)) &&& 255]) ++ [b &&& 255]).length)])), (h, .inl (cB, 603, .inl f2))] := hD.sub [0, 1] (by decide) rfl
  have e2 : (L ++ [(b >>> ((8 : Int32) &&& 31)) &&& 255]) ++ [b &&& 255] = L ++ [(b >>> ((8 : Int32) &&& 31)) &&& 255, b &&& 255] := by simp
  rw [e2] at hf2 hP hD
  exact wr_vret hx hb hr hlk f2 hf2 hP hD hS dX0_addTwo_13
set_option maxHeartbeats 4000000 in
set_option maxRecDepth 100000 in
/-- addFrom(b, bg, k), where there is room and there are so many -/
theorem c_By_addFrom (a h b g : Nat) (L G : List Int32) (f fg : Nat → Int32) (bg k : Nat) (hL : L.length + k ≤ 603) (hG : bg + k ≤ G.length) (hG3 : G.length ≤ 603) (hf : by_k f L) (hg : by_k fg G) : wr_M l yX0_addFrom wsX0_addFrom ({ frames := 1, cells := 0, slots := 0, locals := 21 } : Room) (dC, dI) vwCl (tk_s cB cI cL) [.ref a, .ref b, .int (nI bg), .int (nI k)] [(a, .inr (0, [.ref h, .int (nI L.length)])), (h, .inl (cB, 603, .inl f)), (b, .inr (0, [.ref g, .int (nI G.length)])), (g, .inl (cB, 603, .inl fg))] 0 0 (fun z : Nat → Int32 => by_k z (L ++ (G.drop bg).take k)) (fun z => [(a, .inr (0, [.ref h, .int (nI (L ++ (G.drop bg).take k).length)])), (h, .inl (cB, 603, .inl z)), (b, .inr (0, [.ref g, .int (nI G.length)])), (g, .inl (cB, 603, .inl fg))]) := by
  refine wr_ofW (cc := cX0_addFrom) (maxL := 5) (ret := none) (by decide) rfl (Nat.le_of_ble_eq_true rfl) ?_
  intro p e s m below meth c ls A hx hb hr hml hts hown hlk hnm hP hK hN hD hA hS hl
  have hl : lv_has ls 5 [(0, .ref a), (1, .ref b), (2, .int (nI bg)), (3, .int (nI k))] := hl
  have loop : ∀ (n j : Nat) (f1 : Nat → Int32) (H : Heap) (locs : List Loc) (ls : Array Slot), n + j = k → by_k f1 (L ++ (G.drop bg).take j) → va_P (dC, dI) vwCl [(a, .inr (0, [.ref h, .int (nI (L ++ (G.drop bg).take j).length)])), (h, .inl (cB, 603, .inl f1)), (b, .inr (0, [.ref g, .int (nI G.length)])), (g, .inl (cB, 603, .inl fg))] H → va_D A [(a, .inr (0, [.ref h, .int (nI (L ++ (G.drop bg).take j).length)])), (h, .inl (cB, 603, .inl f1)), (b, .inr (0, [.ref g, .int (nI G.length)])), (g, .inl (cB, 603, .inl fg))] → va_S A s.heap H locs → lv_has ls 5 [(4, .int (nI j)), (0, .ref a), (1, .ref b), (2, .int (nI bg)), (3, .int (nI k))] → W p l e ({ frames := 1, cells := 0, slots := 0, locals := 21 } : Room) s m ([.ref a, .ref b, .int (nI bg), .int (nI k)] : List Value).toArray below meth c H locs 0 0 (MQ below (va_Qv (fun z : Nat → Int32 => by_k z (L ++ (G.drop bg).take k)) (fun u t => va_P (dC, dI) vwCl ((fun z => [(a, .inr (0, [.ref h, .int (nI (L ++ (G.drop bg).take k).length)])), (h, .inl (cB, 603, .inl z)), (b, .inr (0, [.ref g, .int (nI G.length)])), (g, .inl (cB, 603, .inl fg))]) u) t.heap ∧ va_D A ((fun z => [(a, .inr (0, [.ref h, .int (nI (L ++ (G.drop bg).take k).length)])), (h, .inl (cB, 603, .inl z)), (b, .inr (0, [.ref g, .int (nI G.length)])), (g, .inl (cB, 603, .inl fg))]) u)) A) ([.ref a, .ref b, .int (nI bg), .int (nI k)] : List Value).toArray s 0 0 A) (F0 m 3 ls []) := by
    intro n
    induction n with
    | zero =>
      intro j f1 H locs ls hj hf1 hP hD hS hl
      have hj : j = k := by omega
      subst hj
      refine lv_iload hx hb dX0_addFrom_3 (lv_at hl 0 rfl) ?_
      refine lv_iload_n hx hb dX0_addFrom_5 rfl (lv_at hl 4 rfl) ?_
      refine lv_icmp_ge (tgt := 27) hx hb dX0_addFrom_6 (by decide) (fun c1 => ?_) (fun c1 => ?_)
      · exact wr_vret hx hb hr hlk f1 hf1 hP hD hS dX0_addFrom_27
      · exact absurd (nI_le (Nat.le_refl _) (by omega)) c1
    | succ n ih =>
      intro j f1 H locs ls hj hf1 hP hD hS hl
      obtain ⟨y, hy⟩ : ∃ y, G[bg + j]? = some y := ⟨_, List.getElem?_eq_getElem (by omega)⟩
      have hlen : (L ++ (G.drop bg).take j).length = L.length + j := by simp only [List.length_append, List.length_take, List.length_drop]; omega
      refine lv_iload hx hb dX0_addFrom_3 (lv_at hl 0 rfl) ?_
      refine lv_iload_n hx hb dX0_addFrom_5 rfl (lv_at hl 4 rfl) ?_
      refine lv_icmp_ge (tgt := 27) hx hb dX0_addFrom_6 (by decide) (fun c1 => ?_) (fun c1 => ?_)
      · exact absurd c1 (nI_ge (by omega) (by omega))
      · refine lv_aload_n hx hb dX0_addFrom_9 rfl (lv_at hl 1 rfl) ?_
        refine lv_aload_n hx hb dX0_addFrom_10 rfl (lv_at hl 2 rfl) ?_
        refine lv_iload_n hx hb dX0_addFrom_11 rfl (lv_at hl 3 rfl) ?_
        refine lv_iload hx hb dX0_addFrom_12 (lv_at hl 0 rfl) ?_
        refine lv_iadd hx hb dX0_addFrom_14 ?_
        refine rd_V (wc := [(b, .inr (0, [.ref g, .int (nI G.length)])), (g, .inl (cB, 603, .inl fg))]) (As := [.int ((nI bg) + (nI j))]) (rest := [.ref a]) ⟨hx, hb, hml, hown, hts⟩ (c_By_at l dC dI cB cI cL b g G fg (nI bg + nI j) hG3 hg) (cwV 1 hts gX0_addFrom_X0_at rfl rfl rfl (by decide +kernel) ⟨(Nat.le_of_ble_eq_true rfl), (Nat.le_of_ble_eq_true rfl)⟩) hK hN (sb_P hP [2, 3] rfl) 0 rfl rfl rfl rfl hl.1 rfl (Nat.le_of_ble_eq_true rfl) dX0_addFrom_15 ⟨(Nat.le_of_ble_eq_true rfl), (Nat.le_of_ble_eq_true rfl)⟩ ?_
        have e1 : at_L G (nI bg + nI j) = y := by rw [nI_add]; exact at_in hy (by omega)
        rw [e1]
        refine wr_V (wc := [(a, .inr (0, [.ref h, .int (nI (L ++ (G.drop bg).take j).length)])), (h, .inl (cB, 603, .inl f1))]) (wr := [(b, .inr (0, [.ref g, .int (nI G.length)])), (g, .inl (cB, 603, .inl fg))]) (As := [.int y]) (rest := []) ⟨hx, hb, hml, hown, hts⟩ (c_By_add l dC dI cB cI cL a h (L ++ (G.drop bg).take j) f1 y (by omega) hf1) (cwV 1 hts gX0_addFrom_X0_add rfl rfl rfl (by decide +kernel) ⟨(Nat.le_of_ble_eq_true rfl), (Nat.le_of_ble_eq_true rfl)⟩) hK hN hP hD hS hA [0, 1] [2, 3] rfl rfl (by decide) (by decide) (by decide) 0 rfl rfl rfl rfl hl.1 rfl (Nat.le_of_ble_eq_true rfl) dX0_addFrom_18 ⟨(Nat.le_of_ble_eq_true rfl), (Nat.le_of_ble_eq_true rfl)⟩ (fun f2 H locs hf2 hP hD hS => ?_)
        have hP : va_P (dC, dI) vwCl [(a, .inr (0, [.ref h, .int (nI ((L ++ (G.drop bg).take j) ++ [y &&& 255]).length)])), (h, .inl (cB, 603, .inl f2)), (b, .inr (0, [.ref g, .int (nI G.length)])), (g, .inl (cB, 603, .inl fg))] H := hP.sub [2, 3, 0, 1] rfl
        have hD : va_D A [(a, .inr (0, [.ref h, .int (nI ((L ++ (G.drop bg).take j) ++ [y &&& 255]).length)])), (h, .inl (cB, 603, .inl f2)), (b, .inr (0, [.ref g, .int (nI G.length)])), (g, .inl (cB, 603, .inl fg))] := hD.sub [2, 3, 0, 1] (by decide) rfl
        have e2 : (L ++ (G.drop bg).take j) ++ [y &&& 255] = L ++ (G.drop bg).take (j + 1) := by rw [by_255 hg hy, tk_snoc hy, List.append_assoc]
        rw [e2] at hf2 hP hD
        refine lv_iinc (v := ((nI j) + 1)) (lv' := [(4, .int ((nI j) + 1)), (0, .ref a), (1, .ref b), (2, .int (nI bg)), (3, .int (nI k))]) hx hb dX0_addFrom_21 hl (k := 0) rfl rfl (by decide) rfl (fun ls hl => ?_)
        refine lv_goto (tgt := 3) hx hb dX0_addFrom_24 (by decide) ?_
        have hl : lv_has ls 5 [(4, .int (nI (j + 1))), (0, .ref a), (1, .ref b), (2, .int (nI bg)), (3, .int (nI k))] := by have h9 := lv_sub (l' := [(4, .int ((nI j) + 1)), (0, .ref a), (1, .ref b), (2, .int (nI bg)), (3, .int (nI k))]) hl [0, 1, 2, 3, 4] rfl; rw [nI_1] at h9; exact h9
        exact ih (j + 1) f2 H locs ls (by omega) hf2 hP hD hS hl
  refine lv_iconst (v := 0) hx hb dX0_addFrom_0 (by decide) ?_
  refine lv_istore (lv' := [(4, .int 0), (0, .ref a), (1, .ref b), (2, .int (nI bg)), (3, .int (nI k))]) hx hb dX0_addFrom_1 hl (by decide) rfl (fun ls hl => ?_)
  exact loop k 0 f s.heap [] ls (by omega) (by rw [List.take_zero, List.append_nil]; exact hf) (by rw [List.take_zero, List.append_nil]; exact hP) (by rw [List.take_zero, List.append_nil]; exact hD) hS hl
end PWBYTES
