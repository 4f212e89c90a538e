section PWPINIT
variable (l : Launch) (dC : Nat → ClassId) (dI : Nat → Nat → Nat) (cB cI cL : ClassId)

set_option maxHeartbeats 400000 in
set_option maxRecDepth 100000 in
/-- Pieces(): three arrays of 133 come -/
theorem c_Pc_init (a : Nat) : wr_M l yX1_init wsX1_init ({ frames := 1, cells := 3, slots := 399, locals := 12 } : Room) (dC, dI) vwCl (tk_s cB cI cL) [.ref a] [(a, .inr (1, [.null, .null, .null, .int 0]))] 3 399 (fun _ : Nat × Nat × Nat => True) (fun z => [(a, .inr (1, [.ref z.1, .ref z.2.1, .ref z.2.2, .int (nI 0)])), (z.1, .inl (cI, 133, .inl (fun _ => 0))), (z.2.1, .inl (cI, 133, .inl (fun _ => 0))), (z.2.2, .inl (cI, 133, .inl (fun _ => 0)))]) := by
  refine wr_ofW (cc := cX1_init) (maxL := 1) (ret := none) (by decide) rfl (Nat.le_of_ble_eq_true rfl) ?_
  intro p e s m below meth c ls A hx hb hr hml hts hown hlk hnm hP hK hN hD hA hS hl
  have hl : lv_has ls 1 [(0, .ref a)] := hl
  refine lv_aload_n hx hb dX1_init_0 rfl (lv_at hl 0 rfl) ?_
  refine W.objInit hx hb hown (hts (.methodLink RX1 3 objectInit) (by decide +kernel)) (hts (.instanceMethod objectInit) (by decide +kernel)) (hts (.code objectInit ⟨#[0xb1]⟩ 1 none) (by decide +kernel)) rfl (by rw [hml]; exact hl.1) rfl dX1_init_1 (Nat.le_of_ble_eq_true rfl) (Nat.le_of_ble_eq_true rfl) ?_
  refine W.eq (g2 := F0 m 4 ls []) rfl ?_
  refine lv_aload_n hx hb dX1_init_4 rfl (lv_at hl 0 rfl) ?_
  refine lv_sipush (v := 133) hx hb dX1_init_5 (by decide) ?_
  rw [show (133 : Int32) = nI 133 by decide]
  refine na_new (atype := .int) (ty := .int) (a0 := (133, .inl (fun _ => 0))) (N' := 133) (nm := "[I") hx hb (hts (.arrayClass .int) (by decide +kernel)) rfl hK hP hD hS hA 1 rfl (fun _ h9 => h9) (fun cA => vp_cell_i cA 133 (fun _ => 0)) (nI_pos (n := 133) (by omega)) (nI_clamp (n := 133) (by omega)) (by decide +kernel) (by decide +kernel) (by decide +kernel) dX1_init_8 (fun h0 H hP hD hS => ?_)
  have hP : va_P (dC, dI) vwCl [(a, .inr (1, [.null, .null, .null, .int 0])), (h0, .inl (cI, 133, .inl ((fun _ => 0))))] H := hP
  have hD : va_D A [(a, .inr (1, [.null, .null, .null, .int 0])), (h0, .inl (cI, 133, .inl ((fun _ => 0))))] := hD
  refine W.widen (k := 1) (n := 133) (by omega) (by omega) ?_
  refine va_putF (D := (dC, dI)) (ci := 1) (v := .ref h0) (ty := (.array .int)) (C := RX1) (T := TX1) (N := 4) hx hb hts (by decide +kernel) tyX1 tyX1_ok nmX1 hown hK hP hD hS 0 rfl rfl 0 (by decide) (hts (.fieldLink RX1 9 "PieceWays$Pieces" "kinds" "[I") (by decide +kernel)) (fun _ h9 => h9) rfl hnm rfl (by decide +kernel) rfl rfl (Nat.le_of_ble_eq_true rfl) dX1_init_10 (fun H locs hP hD hS => ?_)
  have hP : va_P (dC, dI) vwCl [(a, .inr (1, [.ref h0, .null, .null, .int 0])), (h0, .inl (cI, 133, .inl ((fun _ => 0))))] H := hP
  have hD : va_D A [(a, .inr (1, [.ref h0, .null, .null, .int 0])), (h0, .inl (cI, 133, .inl ((fun _ => 0))))] := hD
  refine lv_aload_n hx hb dX1_init_13 rfl (lv_at hl 0 rfl) ?_
  refine lv_sipush (v := 133) hx hb dX1_init_14 (by decide) ?_
  rw [show (133 : Int32) = nI 133 by decide]
  refine na_new (atype := .int) (ty := .int) (a0 := (133, .inl (fun _ => 0))) (N' := 133) (nm := "[I") hx hb (hts (.arrayClass .int) (by decide +kernel)) rfl hK hP hD hS hA 1 rfl (fun _ h9 => h9) (fun cA => vp_cell_i cA 133 (fun _ => 0)) (nI_pos (n := 133) (by omega)) (nI_clamp (n := 133) (by omega)) (by decide +kernel) (by decide +kernel) (by decide +kernel) dX1_init_17 (fun h1 H hP hD hS => ?_)
  have hP : va_P (dC, dI) vwCl [(a, .inr (1, [.ref h0, .null, .null, .int 0])), (h0, .inl (cI, 133, .inl ((fun _ => 0)))), (h1, .inl (cI, 133, .inl ((fun _ => 0))))] H := hP
  have hD : va_D A [(a, .inr (1, [.ref h0, .null, .null, .int 0])), (h0, .inl (cI, 133, .inl ((fun _ => 0)))), (h1, .inl (cI, 133, .inl ((fun _ => 0))))] := hD
  refine W.widen (k := 2) (n := 266) (by omega) (by omega) ?_
  refine va_putF (D := (dC, dI)) (ci := 1) (v := .ref h1) (ty := (.array .int)) (C := RX1) (T := TX1) (N := 4) hx hb hts (by decide +kernel) tyX1 tyX1_ok nmX1 hown hK hP hD hS 0 rfl rfl 1 (by decide) (hts (.fieldLink RX1 15 "PieceWays$Pieces" "begins" "[I") (by decide +kernel)) (fun _ h9 => h9) rfl hnm rfl (by decide +kernel) rfl rfl (Nat.le_of_ble_eq_true rfl) dX1_init_19 (fun H locs hP hD hS => ?_)
  have hP : va_P (dC, dI) vwCl [(a, .inr (1, [.ref h0, .ref h1, .null, .int 0])), (h0, .inl (cI, 133, .inl ((fun _ => 0)))), (h1, .inl (cI, 133, .inl ((fun _ => 0))))] H := hP
  have hD : va_D A [(a, .inr (1, [.ref h0, .ref h1, .null, .int 0])), (h0, .inl (cI, 133, .inl ((fun _ => 0)))), (h1, .inl (cI, 133, .inl ((fun _ => 0))))] := hD
  refine lv_aload_n hx hb dX1_init_22 rfl (lv_at hl 0 rfl) ?_
  refine lv_sipush (v := 133) hx hb dX1_init_23 (by decide) ?_
  rw [show (133 : Int32) = nI 133 by decide]
  refine na_new (atype := .int) (ty := .int) (a0 := (133, .inl (fun _ => 0))) (N' := 133) (nm := "[I") hx hb (hts (.arrayClass .int) (by decide +kernel)) rfl hK hP hD hS hA 1 rfl (fun _ h9 => h9) (fun cA => vp_cell_i cA 133 (fun _ => 0)) (nI_pos (n := 133) (by omega)) (nI_clamp (n := 133) (by omega)) (by decide +kernel) (by decide +kernel) (by decide +kernel) dX1_init_26 (fun h2 H hP hD hS => ?_)
  have hP : va_P (dC, dI) vwCl [(a, .inr (1, [.ref h0, .ref h1, .null, .int 0])), (h0, .inl (cI, 133, .inl ((fun _ => 0)))), (h1, .inl (cI, 133, .inl ((fun _ => 0)))), (h2, .inl (cI, 133, .inl ((fun _ => 0))))] H := hP
  have hD : va_D A [(a, .inr (1, [.ref h0, .ref h1, .null, .int 0])), (h0, .inl (cI, 133, .inl ((fun _ => 0)))), (h1, .inl (cI, 133, .inl ((fun _ => 0)))), (h2, .inl (cI, 133, .inl ((fun _ => 0))))] := hD
  refine W.widen (k := 3) (n := 399) (by omega) (by omega) ?_
  refine va_putF (D := (dC, dI)) (ci := 1) (v := .ref h2) (ty := (.array .int)) (C := RX1) (T := TX1) (N := 4) hx hb hts (by decide +kernel) tyX1 tyX1_ok nmX1 hown hK hP hD hS 0 rfl rfl 2 (by decide) (hts (.fieldLink RX1 18 "PieceWays$Pieces" "lengths" "[I") (by decide +kernel)) (fun _ h9 => h9) rfl hnm rfl (by decide +kernel) rfl rfl (Nat.le_of_ble_eq_true rfl) dX1_init_28 (fun H locs hP hD hS => ?_)
  have hP : va_P (dC, dI) vwCl [(a, .inr (1, [.ref h0, .ref h1, .ref h2, .int 0])), (h0, .inl (cI, 133, .inl ((fun _ => 0)))), (h1, .inl (cI, 133, .inl ((fun _ => 0)))), (h2, .inl (cI, 133, .inl ((fun _ => 0))))] H := hP
  have hD : va_D A [(a, .inr (1, [.ref h0, .ref h1, .ref h2, .int 0])), (h0, .inl (cI, 133, .inl ((fun _ => 0)))), (h1, .inl (cI, 133, .inl ((fun _ => 0)))), (h2, .inl (cI, 133, .inl ((fun _ => 0))))] := hD
  refine lv_aload_n hx hb dX1_init_31 rfl (lv_at hl 0 rfl) ?_
  refine lv_iconst (v := 0) hx hb dX1_init_32 (by decide) ?_
  refine va_put (D := (dC, dI)) (ci := 1) (v := .int (nI 0)) (ty := .int) (C := RX1) (T := TX1) (N := 4) hx hb hts (by decide +kernel) tyX1 tyX1_ok nmX1 hown hK hP hD hS 0 rfl rfl 3 (by decide) (hts (.fieldLink RX1 21 "PieceWays$Pieces" "used" "I") (by decide +kernel)) (fun _ h9 => h9) rfl (by decide +kernel) rfl rfl (Nat.le_of_ble_eq_true rfl) dX1_init_33 (fun H locs hP hD hS => ?_)
  have hP : va_P (dC, dI) vwCl [(a, .inr (1, [.ref h0, .ref h1, .ref h2, .int (nI 0)])), (h0, .inl (cI, 133, .inl ((fun _ => 0)))), (h1, .inl (cI, 133, .inl ((fun _ => 0)))), (h2, .inl (cI, 133, .inl ((fun _ => 0))))] H := hP
  have hD : va_D A [(a, .inr (1, [.ref h0, .ref h1, .ref h2, .int (nI 0)])), (h0, .inl (cI, 133, .inl ((fun _ => 0)))), (h1, .inl (cI, 133, .inl ((fun _ => 0)))), (h2, .inl (cI, 133, .inl ((fun _ => 0))))] := hD
  exact wr_vret hx hb hr hlk (h0, h1, h2) trivial hP hD hS dX1_init_36
end PWPINIT
