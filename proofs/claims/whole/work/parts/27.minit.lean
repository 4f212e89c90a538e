section PWMINIT
variable (l : Launch) (dC : Nat → ClassId) (dI : Nat → Nat → Nat) (cB cI cL : ClassId)

set_option maxHeartbeats 1000000 in
set_option maxRecDepth 100000 in
/-- PieceWaysModel() -/
theorem c_Md_init (md : Nat) : wr_M l yX3_init wsX3_init ({ frames := 1, cells := 5, slots := 4400, locals := 12 } : Room) (dC, dI) vwCl (tk_s cB cI cL) [.ref md] [(md, .inr (3, [.int 0, .null, .int 0, .null, .int 0, .null, .int 0, .null, .int 0, .null]))] 5 4400 (fun _ : Nat × Nat × Nat × Nat × Nat => True) (fun z => [(md, .inr (3, [.int 0, .ref z.1, .int (nI (([] : List Int32)).length), .ref z.2.1, .int (nI (([] : List Int32)).length), .ref z.2.2.1, .int (nI (([] : List Int32)).length), .ref z.2.2.2.1, .int (nI (([] : List Int32)).length), .ref z.2.2.2.2])), (z.1, .inl (cI, 600, .inl ((fun _ => 0)))), (z.2.1, .inl (cI, 600, .inl ((fun _ => 0)))), (z.2.2.1, .inl (cI, 2000, .inl ((fun _ => 0)))), (z.2.2.2.1, .inl (cI, 600, .inl ((fun _ => 0)))), (z.2.2.2.2, .inl (cI, 600, .inl ((fun _ => 0))))]) := by
  refine wr_ofW (cc := cX3_init) (maxL := 1) (ret := none) (by decide) rfl (Nat.le_of_ble_eq_true rfl) ?_
  intro p e s m below meth c ls A hx hb hr hml hts hown hlk hnm hP hK hN hD hA hS hl
  have hl : lv_has ls 1 [(0, .ref md)] := hl
  refine lv_aload_n hx hb dX3_init_0 rfl (lv_at hl 0 rfl) ?_
  refine W.objInit hx hb hown (hts (.methodLink RX3 1 objectInit) (by decide +kernel)) (hts (.instanceMethod objectInit) (by decide +kernel)) (hts (.code objectInit ⟨#[0xb1]⟩ 1 none) (by decide +kernel)) rfl (by rw [hml]; exact hl.1) rfl dX3_init_1 (Nat.le_of_ble_eq_true rfl) (Nat.le_of_ble_eq_true rfl) ?_
  refine W.eq (g2 := F0 m 4 ls []) rfl ?_
  refine lv_aload_n hx hb dX3_init_4 rfl (lv_at hl 0 rfl) ?_
  refine lv_iconst (v := 0) hx hb dX3_init_5 (by decide) ?_
  refine va_put (D := (dC, dI)) (ci := 3) (v := .int 0) (ty := .int) (C := RX3) (T := TX3) (N := 10) hx hb hts (by decide +kernel) tyX3 tyX3_ok nmX3 hown hK hP hD hS 0 rfl rfl 0 (by decide) (hts (.fieldLink RX3 7 "PieceWaysModel" "thrownCode" "I") (by decide +kernel)) (fun _ h9 => h9) rfl (by decide +kernel) rfl rfl (Nat.le_of_ble_eq_true rfl) dX3_init_6 (fun H locs hP hD hS => ?_)
  have hP : va_P (dC, dI) vwCl [(md, .inr (3, [.int 0, .null, .int 0, .null, .int 0, .null, .int 0, .null, .int 0, .null]))] H := hP
  have hD : va_D A [(md, .inr (3, [.int 0, .null, .int 0, .null, .int 0, .null, .int 0, .null, .int 0, .null]))] := hD
  refine lv_aload_n hx hb dX3_init_9 rfl (lv_at hl 0 rfl) ?_
  refine lv_sipush (v := 600) hx hb dX3_init_10 (by decide) ?_
  rw [show (600 : Int32) = nI 600 by decide]
  refine na_new (atype := .int) (ty := .int) (a0 := (600, .inl (fun _ => 0))) (N' := 600) (nm := "[I") hx hb (hts (.arrayClass .int) (by decide +kernel)) rfl hK hP hD hS hA 1 rfl (fun _ h9 => h9) (fun cA => vp_cell_i cA 600 (fun _ => 0)) (nI_pos (n := 600) (by omega)) (nI_clamp (n := 600) (by omega)) (by decide +kernel) (by decide +kernel) (by decide +kernel) dX3_init_13 (fun a1 H hP hD hS => ?_)
  have hP : va_P (dC, dI) vwCl [(md, .inr (3, [.int 0, .null, .int 0, .null, .int 0, .null, .int 0, .null, .int 0, .null])), (a1, .inl (cI, 600, .inl ((fun _ => 0))))] H := hP
  have hD : va_D A [(md, .inr (3, [.int 0, .null, .int 0, .null, .int 0, .null, .int 0, .null, .int 0, .null])), (a1, .inl (cI, 600, .inl ((fun _ => 0))))] := hD
  refine W.widen (k := 1) (n := 600) (by omega) (by omega) ?_
  refine va_putF (D := (dC, dI)) (ci := 3) (v := .ref a1) (ty := (.array .int)) (C := RX3) (T := TX3) (N := 10) hx hb hts (by decide +kernel) tyX3 tyX3_ok nmX3 hown hK hP hD hS 0 rfl rfl 1 (by decide) (hts (.fieldLink RX3 13 "PieceWaysModel" "base" "[I") (by decide +kernel)) (fun _ h9 => h9) rfl hnm rfl (by decide +kernel) rfl rfl (Nat.le_of_ble_eq_true rfl) dX3_init_15 (fun H locs hP hD hS => ?_)
  have hP : va_P (dC, dI) vwCl [(md, .inr (3, [.int 0, .ref a1, .int 0, .null, .int 0, .null, .int 0, .null, .int 0, .null])), (a1, .inl (cI, 600, .inl ((fun _ => 0))))] H := hP
  have hD : va_D A [(md, .inr (3, [.int 0, .ref a1, .int 0, .null, .int 0, .null, .int 0, .null, .int 0, .null])), (a1, .inl (cI, 600, .inl ((fun _ => 0))))] := hD
  refine lv_aload_n hx hb dX3_init_18 rfl (lv_at hl 0 rfl) ?_
  refine lv_iconst (v := 0) hx hb dX3_init_19 (by decide) ?_
  refine va_put (D := (dC, dI)) (ci := 3) (v := .int 0) (ty := .int) (C := RX3) (T := TX3) (N := 10) hx hb hts (by decide +kernel) tyX3 tyX3_ok nmX3 hown hK hP hD hS 0 rfl rfl 2 (by decide) (hts (.fieldLink RX3 17 "PieceWaysModel" "bases" "I") (by decide +kernel)) (fun _ h9 => h9) rfl (by decide +kernel) rfl rfl (Nat.le_of_ble_eq_true rfl) dX3_init_20 (fun H locs hP hD hS => ?_)
  have hP : va_P (dC, dI) vwCl [(md, .inr (3, [.int 0, .ref a1, .int 0, .null, .int 0, .null, .int 0, .null, .int 0, .null])), (a1, .inl (cI, 600, .inl ((fun _ => 0))))] H := hP
  have hD : va_D A [(md, .inr (3, [.int 0, .ref a1, .int 0, .null, .int 0, .null, .int 0, .null, .int 0, .null])), (a1, .inl (cI, 600, .inl ((fun _ => 0))))] := hD
  refine lv_aload_n hx hb dX3_init_23 rfl (lv_at hl 0 rfl) ?_
  refine lv_sipush (v := 600) hx hb dX3_init_24 (by decide) ?_
  rw [show (600 : Int32) = nI 600 by decide]
  refine na_new (atype := .int) (ty := .int) (a0 := (600, .inl (fun _ => 0))) (N' := 600) (nm := "[I") hx hb (hts (.arrayClass .int) (by decide +kernel)) rfl hK hP hD hS hA 1 rfl (fun _ h9 => h9) (fun cA => vp_cell_i cA 600 (fun _ => 0)) (nI_pos (n := 600) (by omega)) (nI_clamp (n := 600) (by omega)) (by decide +kernel) (by decide +kernel) (by decide +kernel) dX3_init_27 (fun a2 H hP hD hS => ?_)
  have hP : va_P (dC, dI) vwCl [(md, .inr (3, [.int 0, .ref a1, .int 0, .null, .int 0, .null, .int 0, .null, .int 0, .null])), (a1, .inl (cI, 600, .inl ((fun _ => 0)))), (a2, .inl (cI, 600, .inl ((fun _ => 0))))] H := hP
  have hD : va_D A [(md, .inr (3, [.int 0, .ref a1, .int 0, .null, .int 0, .null, .int 0, .null, .int 0, .null])), (a1, .inl (cI, 600, .inl ((fun _ => 0)))), (a2, .inl (cI, 600, .inl ((fun _ => 0))))] := hD
  refine W.widen (k := 2) (n := 1200) (by omega) (by omega) ?_
  refine va_putF (D := (dC, dI)) (ci := 3) (v := .ref a2) (ty := (.array .int)) (C := RX3) (T := TX3) (N := 10) hx hb hts (by decide +kernel) tyX3 tyX3_ok nmX3 hown hK hP hD hS 0 rfl rfl 3 (by decide) (hts (.fieldLink RX3 20 "PieceWaysModel" "target" "[I") (by decide +kernel)) (fun _ h9 => h9) rfl hnm rfl (by decide +kernel) rfl rfl (Nat.le_of_ble_eq_true rfl) dX3_init_29 (fun H locs hP hD hS => ?_)
  have hP : va_P (dC, dI) vwCl [(md, .inr (3, [.int 0, .ref a1, .int 0, .ref a2, .int 0, .null, .int 0, .null, .int 0, .null])), (a1, .inl (cI, 600, .inl ((fun _ => 0)))), (a2, .inl (cI, 600, .inl ((fun _ => 0))))] H := hP
  have hD : va_D A [(md, .inr (3, [.int 0, .ref a1, .int 0, .ref a2, .int 0, .null, .int 0, .null, .int 0, .null])), (a1, .inl (cI, 600, .inl ((fun _ => 0)))), (a2, .inl (cI, 600, .inl ((fun _ => 0))))] := hD
  refine lv_aload_n hx hb dX3_init_32 rfl (lv_at hl 0 rfl) ?_
  refine lv_iconst (v := 0) hx hb dX3_init_33 (by decide) ?_
  refine va_put (D := (dC, dI)) (ci := 3) (v := .int 0) (ty := .int) (C := RX3) (T := TX3) (N := 10) hx hb hts (by decide +kernel) tyX3 tyX3_ok nmX3 hown hK hP hD hS 0 rfl rfl 4 (by decide) (hts (.fieldLink RX3 23 "PieceWaysModel" "targets" "I") (by decide +kernel)) (fun _ h9 => h9) rfl (by decide +kernel) rfl rfl (Nat.le_of_ble_eq_true rfl) dX3_init_34 (fun H locs hP hD hS => ?_)
  have hP : va_P (dC, dI) vwCl [(md, .inr (3, [.int 0, .ref a1, .int 0, .ref a2, .int 0, .null, .int 0, .null, .int 0, .null])), (a1, .inl (cI, 600, .inl ((fun _ => 0)))), (a2, .inl (cI, 600, .inl ((fun _ => 0))))] H := hP
  have hD : va_D A [(md, .inr (3, [.int 0, .ref a1, .int 0, .ref a2, .int 0, .null, .int 0, .null, .int 0, .null])), (a1, .inl (cI, 600, .inl ((fun _ => 0)))), (a2, .inl (cI, 600, .inl ((fun _ => 0))))] := hD
  refine lv_aload_n hx hb dX3_init_37 rfl (lv_at hl 0 rfl) ?_
  refine lv_sipush (v := 2000) hx hb dX3_init_38 (by decide) ?_
  rw [show (2000 : Int32) = nI 2000 by decide]
  refine na_new (atype := .int) (ty := .int) (a0 := (2000, .inl (fun _ => 0))) (N' := 2000) (nm := "[I") hx hb (hts (.arrayClass .int) (by decide +kernel)) rfl hK hP hD hS hA 1 rfl (fun _ h9 => h9) (fun cA => vp_cell_i cA 2000 (fun _ => 0)) (nI_pos (n := 2000) (by omega)) (nI_clamp (n := 2000) (by omega)) (by decide +kernel) (by decide +kernel) (by decide +kernel) dX3_init_41 (fun a3 H hP hD hS => ?_)
  have hP : va_P (dC, dI) vwCl [(md, .inr (3, [.int 0, .ref a1, .int 0, .ref a2, .int 0, .null, .int 0, .null, .int 0, .null])), (a1, .inl (cI, 600, .inl ((fun _ => 0)))), (a2, .inl (cI, 600, .inl ((fun _ => 0)))), (a3, .inl (cI, 2000, .inl ((fun _ => 0))))] H := hP
  have hD : va_D A [(md, .inr (3, [.int 0, .ref a1, .int 0, .ref a2, .int 0, .null, .int 0, .null, .int 0, .null])), (a1, .inl (cI, 600, .inl ((fun _ => 0)))), (a2, .inl (cI, 600, .inl ((fun _ => 0)))), (a3, .inl (cI, 2000, .inl ((fun _ => 0))))] := hD
  refine W.widen (k := 3) (n := 3200) (by omega) (by omega) ?_
  refine va_putF (D := (dC, dI)) (ci := 3) (v := .ref a3) (ty := (.array .int)) (C := RX3) (T := TX3) (N := 10) hx hb hts (by decide +kernel) tyX3 tyX3_ok nmX3 hown hK hP hD hS 0 rfl rfl 5 (by decide) (hts (.fieldLink RX3 26 "PieceWaysModel" "row" "[I") (by decide +kernel)) (fun _ h9 => h9) rfl hnm rfl (by decide +kernel) rfl rfl (Nat.le_of_ble_eq_true rfl) dX3_init_43 (fun H locs hP hD hS => ?_)
  have hP : va_P (dC, dI) vwCl [(md, .inr (3, [.int 0, .ref a1, .int 0, .ref a2, .int 0, .ref a3, .int 0, .null, .int 0, .null])), (a1, .inl (cI, 600, .inl ((fun _ => 0)))), (a2, .inl (cI, 600, .inl ((fun _ => 0)))), (a3, .inl (cI, 2000, .inl ((fun _ => 0))))] H := hP
  have hD : va_D A [(md, .inr (3, [.int 0, .ref a1, .int 0, .ref a2, .int 0, .ref a3, .int 0, .null, .int 0, .null])), (a1, .inl (cI, 600, .inl ((fun _ => 0)))), (a2, .inl (cI, 600, .inl ((fun _ => 0)))), (a3, .inl (cI, 2000, .inl ((fun _ => 0))))] := hD
  refine lv_aload_n hx hb dX3_init_46 rfl (lv_at hl 0 rfl) ?_
  refine lv_iconst (v := 0) hx hb dX3_init_47 (by decide) ?_
  refine va_put (D := (dC, dI)) (ci := 3) (v := .int 0) (ty := .int) (C := RX3) (T := TX3) (N := 10) hx hb hts (by decide +kernel) tyX3 tyX3_ok nmX3 hown hK hP hD hS 0 rfl rfl 6 (by decide) (hts (.fieldLink RX3 29 "PieceWaysModel" "size" "I") (by decide +kernel)) (fun _ h9 => h9) rfl (by decide +kernel) rfl rfl (Nat.le_of_ble_eq_true rfl) dX3_init_48 (fun H locs hP hD hS => ?_)
  have hP : va_P (dC, dI) vwCl [(md, .inr (3, [.int 0, .ref a1, .int 0, .ref a2, .int 0, .ref a3, .int 0, .null, .int 0, .null])), (a1, .inl (cI, 600, .inl ((fun _ => 0)))), (a2, .inl (cI, 600, .inl ((fun _ => 0)))), (a3, .inl (cI, 2000, .inl ((fun _ => 0))))] H := hP
  have hD : va_D A [(md, .inr (3, [.int 0, .ref a1, .int 0, .ref a2, .int 0, .ref a3, .int 0, .null, .int 0, .null])), (a1, .inl (cI, 600, .inl ((fun _ => 0)))), (a2, .inl (cI, 600, .inl ((fun _ => 0)))), (a3, .inl (cI, 2000, .inl ((fun _ => 0))))] := hD
  refine lv_aload_n hx hb dX3_init_51 rfl (lv_at hl 0 rfl) ?_
  refine lv_sipush (v := 600) hx hb dX3_init_52 (by decide) ?_
  rw [show (600 : Int32) = nI 600 by decide]
  refine na_new (atype := .int) (ty := .int) (a0 := (600, .inl (fun _ => 0))) (N' := 600) (nm := "[I") hx hb (hts (.arrayClass .int) (by decide +kernel)) rfl hK hP hD hS hA 1 rfl (fun _ h9 => h9) (fun cA => vp_cell_i cA 600 (fun _ => 0)) (nI_pos (n := 600) (by omega)) (nI_clamp (n := 600) (by omega)) (by decide +kernel) (by decide +kernel) (by decide +kernel) dX3_init_55 (fun a4 H hP hD hS => ?_)
  have hP : va_P (dC, dI) vwCl [(md, .inr (3, [.int 0, .ref a1, .int 0, .ref a2, .int 0, .ref a3, .int 0, .null, .int 0, .null])), (a1, .inl (cI, 600, .inl ((fun _ => 0)))), (a2, .inl (cI, 600, .inl ((fun _ => 0)))), (a3, .inl (cI, 2000, .inl ((fun _ => 0)))), (a4, .inl (cI, 600, .inl ((fun _ => 0))))] H := hP
  have hD : va_D A [(md, .inr (3, [.int 0, .ref a1, .int 0, .ref a2, .int 0, .ref a3, .int 0, .null, .int 0, .null])), (a1, .inl (cI, 600, .inl ((fun _ => 0)))), (a2, .inl (cI, 600, .inl ((fun _ => 0)))), (a3, .inl (cI, 2000, .inl ((fun _ => 0)))), (a4, .inl (cI, 600, .inl ((fun _ => 0))))] := hD
  refine W.widen (k := 4) (n := 3800) (by omega) (by omega) ?_
  refine va_putF (D := (dC, dI)) (ci := 3) (v := .ref a4) (ty := (.array .int)) (C := RX3) (T := TX3) (N := 10) hx hb hts (by decide +kernel) tyX3 tyX3_ok nmX3 hown hK hP hD hS 0 rfl rfl 7 (by decide) (hts (.fieldLink RX3 32 "PieceWaysModel" "result" "[I") (by decide +kernel)) (fun _ h9 => h9) rfl hnm rfl (by decide +kernel) rfl rfl (Nat.le_of_ble_eq_true rfl) dX3_init_57 (fun H locs hP hD hS => ?_)
  have hP : va_P (dC, dI) vwCl [(md, .inr (3, [.int 0, .ref a1, .int 0, .ref a2, .int 0, .ref a3, .int 0, .ref a4, .int 0, .null])), (a1, .inl (cI, 600, .inl ((fun _ => 0)))), (a2, .inl (cI, 600, .inl ((fun _ => 0)))), (a3, .inl (cI, 2000, .inl ((fun _ => 0)))), (a4, .inl (cI, 600, .inl ((fun _ => 0))))] H := hP
  have hD : va_D A [(md, .inr (3, [.int 0, .ref a1, .int 0, .ref a2, .int 0, .ref a3, .int 0, .ref a4, .int 0, .null])), (a1, .inl (cI, 600, .inl ((fun _ => 0)))), (a2, .inl (cI, 600, .inl ((fun _ => 0)))), (a3, .inl (cI, 2000, .inl ((fun _ => 0)))), (a4, .inl (cI, 600, .inl ((fun _ => 0))))] := hD
  refine lv_aload_n hx hb dX3_init_60 rfl (lv_at hl 0 rfl) ?_
  refine lv_iconst (v := 0) hx hb dX3_init_61 (by decide) ?_
  refine va_put (D := (dC, dI)) (ci := 3) (v := .int 0) (ty := .int) (C := RX3) (T := TX3) (N := 10) hx hb hts (by decide +kernel) tyX3 tyX3_ok nmX3 hown hK hP hD hS 0 rfl rfl 8 (by decide) (hts (.fieldLink RX3 35 "PieceWaysModel" "results" "I") (by decide +kernel)) (fun _ h9 => h9) rfl (by decide +kernel) rfl rfl (Nat.le_of_ble_eq_true rfl) dX3_init_62 (fun H locs hP hD hS => ?_)
  have hP : va_P (dC, dI) vwCl [(md, .inr (3, [.int 0, .ref a1, .int 0, .ref a2, .int 0, .ref a3, .int 0, .ref a4, .int 0, .null])), (a1, .inl (cI, 600, .inl ((fun _ => 0)))), (a2, .inl (cI, 600, .inl ((fun _ => 0)))), (a3, .inl (cI, 2000, .inl ((fun _ => 0)))), (a4, .inl (cI, 600, .inl ((fun _ => 0))))] H := hP
  have hD : va_D A [(md, .inr (3, [.int 0, .ref a1, .int 0, .ref a2, .int 0, .ref a3, .int 0, .ref a4, .int 0, .null])), (a1, .inl (cI, 600, .inl ((fun _ => 0)))), (a2, .inl (cI, 600, .inl ((fun _ => 0)))), (a3, .inl (cI, 2000, .inl ((fun _ => 0)))), (a4, .inl (cI, 600, .inl ((fun _ => 0))))] := hD
  refine lv_aload_n hx hb dX3_init_65 rfl (lv_at hl 0 rfl) ?_
  refine lv_sipush (v := 600) hx hb dX3_init_66 (by decide) ?_
  rw [show (600 : Int32) = nI 600 by decide]
  refine na_new (atype := .int) (ty := .int) (a0 := (600, .inl (fun _ => 0))) (N' := 600) (nm := "[I") hx hb (hts (.arrayClass .int) (by decide +kernel)) rfl hK hP hD hS hA 1 rfl (fun _ h9 => h9) (fun cA => vp_cell_i cA 600 (fun _ => 0)) (nI_pos (n := 600) (by omega)) (nI_clamp (n := 600) (by omega)) (by decide +kernel) (by decide +kernel) (by decide +kernel) dX3_init_69 (fun a5 H hP hD hS => ?_)
  have hP : va_P (dC, dI) vwCl [(md, .inr (3, [.int 0, .ref a1, .int 0, .ref a2, .int 0, .ref a3, .int 0, .ref a4, .int 0, .null])), (a1, .inl (cI, 600, .inl ((fun _ => 0)))), (a2, .inl (cI, 600, .inl ((fun _ => 0)))), (a3, .inl (cI, 2000, .inl ((fun _ => 0)))), (a4, .inl (cI, 600, .inl ((fun _ => 0)))), (a5, .inl (cI, 600, .inl ((fun _ => 0))))] H := hP
  have hD : va_D A [(md, .inr (3, [.int 0, .ref a1, .int 0, .ref a2, .int 0, .ref a3, .int 0, .ref a4, .int 0, .null])), (a1, .inl (cI, 600, .inl ((fun _ => 0)))), (a2, .inl (cI, 600, .inl ((fun _ => 0)))), (a3, .inl (cI, 2000, .inl ((fun _ => 0)))), (a4, .inl (cI, 600, .inl ((fun _ => 0)))), (a5, .inl (cI, 600, .inl ((fun _ => 0))))] := hD
  refine W.widen (k := 5) (n := 4400) (by omega) (by omega) ?_
  refine va_putF (D := (dC, dI)) (ci := 3) (v := .ref a5) (ty := (.array .int)) (C := RX3) (T := TX3) (N := 10) hx hb hts (by decide +kernel) tyX3 tyX3_ok nmX3 hown hK hP hD hS 0 rfl rfl 9 (by decide) (hts (.fieldLink RX3 38 "PieceWaysModel" "next" "[I") (by decide +kernel)) (fun _ h9 => h9) rfl hnm rfl (by decide +kernel) rfl rfl (Nat.le_of_ble_eq_true rfl) dX3_init_71 (fun H locs hP hD hS => ?_)
  have hP : va_P (dC, dI) vwCl [(md, .inr (3, [.int 0, .ref a1, .int 0, .ref a2, .int 0, .ref a3, .int 0, .ref a4, .int 0, .ref a5])), (a1, .inl (cI, 600, .inl ((fun _ => 0)))), (a2, .inl (cI, 600, .inl ((fun _ => 0)))), (a3, .inl (cI, 2000, .inl ((fun _ => 0)))), (a4, .inl (cI, 600, .inl ((fun _ => 0)))), (a5, .inl (cI, 600, .inl ((fun _ => 0))))] H := hP
  have hD : va_D A [(md, .inr (3, [.int 0, .ref a1, .int 0, .ref a2, .int 0, .ref a3, .int 0, .ref a4, .int 0, .ref a5])), (a1, .inl (cI, 600, .inl ((fun _ => 0)))), (a2, .inl (cI, 600, .inl ((fun _ => 0)))), (a3, .inl (cI, 2000, .inl ((fun _ => 0)))), (a4, .inl (cI, 600, .inl ((fun _ => 0)))), (a5, .inl (cI, 600, .inl ((fun _ => 0))))] := hD
  have hP9 : va_P (dC, dI) vwCl [(md, .inr (3, [.int 0, .ref a1, .int (nI (([] : List Int32)).length), .ref a2, .int (nI (([] : List Int32)).length), .ref a3, .int (nI (([] : List Int32)).length), .ref a4, .int (nI (([] : List Int32)).length), .ref a5])), (a1, .inl (cI, 600, .inl ((fun _ => 0)))), (a2, .inl (cI, 600, .inl ((fun _ => 0)))), (a3, .inl (cI, 2000, .inl ((fun _ => 0)))), (a4, .inl (cI, 600, .inl ((fun _ => 0)))), (a5, .inl (cI, 600, .inl ((fun _ => 0))))] H := hP
  have hD9 : va_D A [(md, .inr (3, [.int 0, .ref a1, .int (nI (([] : List Int32)).length), .ref a2, .int (nI (([] : List Int32)).length), .ref a3, .int (nI (([] : List Int32)).length), .ref a4, .int (nI (([] : List Int32)).length), .ref a5])), (a1, .inl (cI, 600, .inl ((fun _ => 0)))), (a2, .inl (cI, 600, .inl ((fun _ => 0)))), (a3, .inl (cI, 2000, .inl ((fun _ => 0)))), (a4, .inl (cI, 600, .inl ((fun _ => 0)))), (a5, .inl (cI, 600, .inl ((fun _ => 0))))] := hD
  exact wr_vret hx hb hr hlk (a1, a2, a3, a4, a5) trivial hP9 hD9 hS dX3_init_74
end PWMINIT
