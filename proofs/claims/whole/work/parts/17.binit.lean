section PWBINIT
variable (l : Launch) (dC : Nat → ClassId) (dI : Nat → Nat → Nat) (cB cI cL : ClassId)

set_option maxHeartbeats 400000 in
set_option maxRecDepth 100000 in
/-- Bytes(): one array of 603 comes -/
theorem c_By_init (a : Nat) : wr_M l yX0_init wsX0_init ({ frames := 1, cells := 1, slots := 603, locals := 12 } : Room) (dC, dI) vwCl (tk_s cB cI cL) [.ref a] [(a, .inr (0, [.null, .int 0]))] 1 603 (fun _ : Nat => True) (fun h => [(a, .inr (0, [.ref h, .int (nI 0)])), (h, .inl (cB, 603, .inl (fun _ => 0)))]) := by
  refine wr_ofW (cc := cX0_init) (maxL := 1) (ret := none) (by decide) rfl (Nat.le_of_ble_eq_true rfl) ?_
  intro p e s m below meth c ls A hx hb hr hml hts hown hlk hnm hP hK hN hD hA hS hl
  have hl : lv_has ls 1 [(0, .ref a)] := hl
  refine lv_aload_n hx hb dX0_init_0 rfl (lv_at hl 0 rfl) ?_
  refine W.objInit hx hb hown (hts (.methodLink RX0 3 objectInit) (by decide +kernel)) (hts (.instanceMethod objectInit) (by decide +kernel)) (hts (.code objectInit ⟨#[0xb1]⟩ 1 none) (by decide +kernel)) rfl (by rw [hml]; exact hl.1) rfl dX0_init_1 (Nat.le_of_ble_eq_true rfl) (Nat.le_of_ble_eq_true rfl) ?_
  refine W.eq (g2 := F0 m 4 ls []) rfl ?_
  refine lv_aload_n hx hb dX0_init_4 rfl (lv_at hl 0 rfl) ?_
  refine lv_sipush (v := 603) hx hb dX0_init_5 (by decide) ?_
  rw [show (603 : Int32) = nI 603 by decide]
  refine na_new (atype := .byte) (ty := .byte) (a0 := (603, .inl (fun _ => 0))) (N' := 603) (nm := "[B") hx hb (hts (.arrayClass .byte) (by decide +kernel)) rfl hK hP hD hS hA 0 rfl (fun _ h9 => h9) (fun cA => vp_cell_i cA 603 (fun _ => 0)) (nI_pos (n := 603) (by omega)) (nI_clamp (n := 603) (by omega)) (by decide +kernel) (by decide +kernel) (by decide +kernel) dX0_init_8 (fun h H hP hD hS => ?_)
  have hP : va_P (dC, dI) vwCl [(a, .inr (0, [.null, .int 0])), (h, .inl (cB, 603, .inl ((fun _ => 0))))] H := hP
  have hD : va_D A [(a, .inr (0, [.null, .int 0])), (h, .inl (cB, 603, .inl ((fun _ => 0))))] := hD
  refine W.widen (k := 1) (n := 603) (by omega) (by omega) ?_
  refine va_putF (D := (dC, dI)) (ci := 0) (v := .ref h) (ty := (.array .byte)) (C := RX0) (T := TX0) (N := 2) hx hb hts (by decide +kernel) tyX0 tyX0_ok nmX0 hown hK hP hD hS 0 rfl rfl 0 (by decide) (hts (.fieldLink RX0 9 "PieceWays$Bytes" "held" "[B") (by decide +kernel)) (fun _ h9 => h9) rfl hnm rfl (by decide +kernel) rfl rfl (Nat.le_of_ble_eq_true rfl) dX0_init_10 (fun H locs hP hD hS => ?_)
  have hP : va_P (dC, dI) vwCl [(a, .inr (0, [.ref h, .int 0])), (h, .inl (cB, 603, .inl ((fun _ => 0))))] H := hP
  have hD : va_D A [(a, .inr (0, [.ref h, .int 0])), (h, .inl (cB, 603, .inl ((fun _ => 0))))] := hD
  refine lv_aload_n hx hb dX0_init_13 rfl (lv_at hl 0 rfl) ?_
  refine lv_iconst (v := 0) hx hb dX0_init_14 (by decide) ?_
  refine va_put (D := (dC, dI)) (ci := 0) (v := .int (nI 0)) (ty := .int) (C := RX0) (T := TX0) (N := 2) hx hb hts (by decide +kernel) tyX0 tyX0_ok nmX0 hown hK hP hD hS 0 rfl rfl 1 (by decide) (hts (.fieldLink RX0 15 "PieceWays$Bytes" "used" "I") (by decide +kernel)) (fun _ h9 => h9) rfl (by decide +kernel) rfl rfl (Nat.le_of_ble_eq_true rfl) dX0_init_15 (fun H locs hP hD hS => ?_)
  have hP : va_P (dC, dI) vwCl [(a, .inr (0, [.ref h, .int (nI 0)])), (h, .inl (cB, 603, .inl ((fun _ => 0))))] H := hP
  have hD : va_D A [(a, .inr (0, [.ref h, .int (nI 0)])), (h, .inl (cB, 603, .inl ((fun _ => 0))))] := hD
  exact wr_vret hx hb hr hlk h trivial hP hD hS dX0_init_18
end PWBINIT
