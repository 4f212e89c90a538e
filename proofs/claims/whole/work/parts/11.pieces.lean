section PWPIECES
variable (l : Launch) (dC : Nat → ClassId) (dI : Nat → Nat → Nat) (cB cI cL : ClassId)

set_option maxHeartbeats 4000000 in
set_option maxRecDepth 100000 in
/-- number() -/
theorem c_Pc_number (a h0 h1 h2 : Nat) (n : Int32) : rd_M l yX1_number wsX1_number ({ frames := 0, cells := 0, slots := 0, locals := 0 } : Room) (dC, dI) vwCl (tk_s cB cI cL) [.ref a] [(a, .inr (1, [.ref h0, .ref h1, .ref h2, .int n]))] n := by
  refine rd_ofW (cc := cX1_number) (maxL := 1) (ret := (some .int)) (by decide) rfl (Nat.le_of_ble_eq_true rfl) ?_
  intro p e s m below meth c ls hx hb hr hml hts hown hlk hP hK hN hl
  have hl : lv_has ls 1 [(0, .ref a)] := hl
  refine lv_aload_n hx hb dX1_number_0 rfl (lv_at hl 0 rfl) ?_
  refine va_get (D := (dC, dI)) (ci := 1) (v := .int n) (C := RX1) (T := TX1) (N := 4) hx hb hts (by decide +kernel) hown hK hP 0 rfl rfl 3 (by decide) (hts (.fieldLink RX1 21 "PieceWays$Pieces" "used" "I") (by decide +kernel)) (fun _ h9 => h9) rfl dX1_number_1 ?_
  exact rd_iret hx hb hr hlk (rfl) dX1_number_4
set_option maxHeartbeats 4000000 in
set_option maxRecDepth 100000 in
/-- isThere(x) -/
theorem c_Pc_isThere (a h0 h1 h2 : Nat) (P : List (Nat × Nat × Nat)) (x : Int32) (hL : P.length ≤ 133) : rd_M l yX1_isThere wsX1_isThere ({ frames := 0, cells := 0, slots := 0, locals := 0 } : Room) (dC, dI) vwCl (tk_s cB cI cL) [.ref a, .int x] [(a, .inr (1, [.ref h0, .ref h1, .ref h2, .int (nI P.length)]))] (th_P P x) := by
  refine rd_ofW (cc := cX1_isThere) (maxL := 2) (ret := (some .boolean)) (by decide) rfl (Nat.le_of_ble_eq_true rfl) ?_
  intro p e s m below meth c ls hx hb hr hml hts hown hlk hP hK hN hl
  have hl : lv_has ls 2 [(0, .ref a), (1, .int x)] := hl
  refine lv_iload_n hx hb dX1_isThere_0 rfl (lv_at hl 1 rfl) ?_
  refine lv_if_lt (tgt := 23) hx hb dX1_isThere_1 (by decide) (fun c1 => ?_) (fun c1 => ?_)
  · refine lv_iconst (v := 0) hx hb dX1_isThere_23 (by decide) ?_
    exact rd_zret hx hb hr hlk ((th_neg c1).symm) rfl dX1_isThere_24
  · refine lv_iload_n hx hb dX1_isThere_4 rfl (lv_at hl 1 rfl) ?_
    refine lv_aload_n hx hb dX1_isThere_5 rfl (lv_at hl 0 rfl) ?_
    refine va_get (D := (dC, dI)) (ci := 1) (v := .int (nI P.length)) (C := RX1) (T := TX1) (N := 4) hx hb hts (by decide +kernel) hown hK hP 0 rfl rfl 3 (by decide) (hts (.fieldLink RX1 21 "PieceWays$Pieces" "used" "I") (by decide +kernel)) (fun _ h9 => h9) rfl dX1_isThere_6 ?_
    refine lv_icmp_ge (tgt := 23) hx hb dX1_isThere_9 (by decide) (fun c2 => ?_) (fun c2 => ?_)
    · refine lv_iconst (v := 0) hx hb dX1_isThere_23 (by decide) ?_
      exact rd_zret hx hb hr hlk ((th_hi (by omega) c1 c2).symm) rfl dX1_isThere_24
    · obtain ⟨j, hj, rfl⟩ : ∃ j : Nat, j < P.length ∧ x = nI j := by
        rcases pk_ix x (n := P.length) (by omega) with q | q | q
        · exact absurd q c1
        · exact absurd q c2
        · exact q
      refine lv_iload_n hx hb dX1_isThere_12 rfl (lv_at hl 1 rfl) ?_
      refine lv_sipush (v := 133) hx hb dX1_isThere_13 (by decide) ?_
      refine lv_icmp_ge (tgt := 23) hx hb dX1_isThere_16 (by decide) (fun c3 => ?_) (fun c3 => ?_)
      · exact absurd c3 (nI_ge (a := j) (b := 133) (by omega) (by omega))
      · refine lv_iconst (v := 1) hx hb dX1_isThere_19 (by decide) ?_
        refine lv_goto (tgt := 24) hx hb dX1_isThere_20 (by decide) ?_
        exact rd_zret hx hb hr hlk ((th_in hj (by omega)).symm) rfl dX1_isThere_24
set_option maxHeartbeats 4000000 in
set_option maxRecDepth 100000 in
/-- kind(x) -/
theorem c_Pc_kind (a h0 h1 h2 : Nat) (P : List (Nat × Nat × Nat)) (f0 f1 f2 : Nat → Int32) (x : Int32) (hL : P.length ≤ 133) (hf : pc_k f0 f1 f2 P) : rd_M l yX1_kind wsX1_kind ({ frames := 1, cells := 0, slots := 0, locals := 21 } : Room) (dC, dI) vwCl (tk_s cB cI cL) [.ref a, .int x] [(a, .inr (1, [.ref h0, .ref h1, .ref h2, .int (nI P.length)])), (h0, .inl (cI, 133, .inl f0))] (ps_L (fun t => t.1) P x) := by
  refine rd_ofW (cc := cX1_kind) (maxL := 2) (ret := (some .int)) (by decide) rfl (Nat.le_of_ble_eq_true rfl) ?_
  intro p e s m below meth c ls hx hb hr hml hts hown hlk hP hK hN hl
  have hl : lv_has ls 2 [(0, .ref a), (1, .int x)] := hl
  refine lv_aload_n hx hb dX1_kind_0 rfl (lv_at hl 0 rfl) ?_
  refine lv_iload_n hx hb dX1_kind_1 rfl (lv_at hl 1 rfl) ?_
  refine rd_V (wc := [(a, .inr (1, [.ref h0, .ref h1, .ref h2, .int (nI P.length)]))]) (As := [.int x]) (rest := []) ⟨hx, hb, hml, hown, hts⟩ (c_Pc_isThere l dC dI cB cI cL a h0 h1 h2 P x hL) (cwV 1 hts gX1_kind_X1_isThere rfl rfl rfl (by decide +kernel) ⟨(Nat.le_of_ble_eq_true rfl), (Nat.le_of_ble_eq_true rfl)⟩) hK hN (sb_P hP [0] rfl) 0 rfl rfl rfl rfl hl.1 rfl (Nat.le_of_ble_eq_true rfl) dX1_kind_2 ⟨(Nat.le_of_ble_eq_true rfl), (Nat.le_of_ble_eq_true rfl)⟩ ?_
  rcases pk_ix x (n := P.length) (by omega) with q | q | ⟨j, hj, rfl⟩
  · rw [th_neg q]
    refine lv_if_eq (tgt := 17) hx hb dX1_kind_5 (by decide) (fun c1 => ?_) (fun c1 => ?_)
    · refine lv_iconst (v := (-1)) hx hb dX1_kind_17 (by decide) ?_
      exact rd_iret hx hb hr hlk ((ps_neg q).symm) dX1_kind_18
    · exact absurd rfl c1
  · have q0 : ¬ x < 0 := nn_ge (by omega) q
    rw [th_hi (by omega) q0 q]
    refine lv_if_eq (tgt := 17) hx hb dX1_kind_5 (by decide) (fun c1 => ?_) (fun c1 => ?_)
    · refine lv_iconst (v := (-1)) hx hb dX1_kind_17 (by decide) ?_
      exact rd_iret hx hb hr hlk ((ps_hi (by omega) q0 q).symm) dX1_kind_18
    · exact absurd rfl c1
  · rw [th_in hj (by omega)]
    refine lv_if_eq (tgt := 17) hx hb dX1_kind_5 (by decide) (fun c1 => ?_) (fun c1 => ?_)
    · exact absurd c1 (by decide)
    · refine lv_aload_n hx hb dX1_kind_8 rfl (lv_at hl 0 rfl) ?_
      refine va_get (D := (dC, dI)) (ci := 1) (v := .ref h0) (C := RX1) (T := TX1) (N := 4) hx hb hts (by decide +kernel) hown hK hP 0 rfl rfl 0 (by decide) (hts (.fieldLink RX1 9 "PieceWays$Pieces" "kinds" "[I") (by decide +kernel)) (fun _ h9 => h9) rfl dX1_kind_9 ?_
      refine lv_iload_n hx hb dX1_kind_12 rfl (lv_at hl 1 rfl) ?_
      refine va_iald hx hb hK hP 1 1 rfl rfl (vp_in_nI (by omega) (by omega)) dX1_kind_13 ?_
      refine lv_goto (tgt := 18) hx hb dX1_kind_14 (by decide) ?_
      obtain ⟨y, hy⟩ : ∃ y, P[j]? = some y := ⟨_, List.getElem?_eq_getElem hj⟩
      exact rd_iret hx hb hr hlk (by rw [nI_clamp (by omega), ps_in hy (by omega)]; exact (hf j y hy).1) dX1_kind_18
set_option maxHeartbeats 4000000 in
set_option maxRecDepth 100000 in
/-- begin(x) -/
theorem c_Pc_begin (a h0 h1 h2 : Nat) (P : List (Nat × Nat × Nat)) (f0 f1 f2 : Nat → Int32) (x : Int32) (hL : P.length ≤ 133) (hf : pc_k f0 f1 f2 P) : rd_M l yX1_begin wsX1_begin ({ frames := 1, cells := 0, slots := 0, locals := 21 } : Room) (dC, dI) vwCl (tk_s cB cI cL) [.ref a, .int x] [(a, .inr (1, [.ref h0, .ref h1, .ref h2, .int (nI P.length)])), (h1, .inl (cI, 133, .inl f1))] (ps_L (fun t => t.2.1) P x) := by
  refine rd_ofW (cc := cX1_begin) (maxL := 2) (ret := (some .int)) (by decide) rfl (Nat.le_of_ble_eq_true rfl) ?_
  intro p e s m below meth c ls hx hb hr hml hts hown hlk hP hK hN hl
  have hl : lv_has ls 2 [(0, .ref a), (1, .int x)] := hl
  refine lv_aload_n hx hb dX1_begin_0 rfl (lv_at hl 0 rfl) ?_
  refine lv_iload_n hx hb dX1_begin_1 rfl (lv_at hl 1 rfl) ?_
  refine rd_V (wc := [(a, .inr (1, [.ref h0, .ref h1, .ref h2, .int (nI P.length)]))]) (As := [.int x]) (rest := []) ⟨hx, hb, hml, hown, hts⟩ (c_Pc_isThere l dC dI cB cI cL a h0 h1 h2 P x hL) (cwV 1 hts gX1_begin_X1_isThere rfl rfl rfl (by decide +kernel) ⟨(Nat.le_of_ble_eq_true rfl), (Nat.le_of_ble_eq_true rfl)⟩) hK hN (sb_P hP [0] rfl) 0 rfl rfl rfl rfl hl.1 rfl (Nat.le_of_ble_eq_true rfl) dX1_begin_2 ⟨(Nat.le_of_ble_eq_true rfl), (Nat.le_of_ble_eq_true rfl)⟩ ?_
  rcases pk_ix x (n := P.length) (by omega) with q | q | ⟨j, hj, rfl⟩
  · rw [th_neg q]
    refine lv_if_eq (tgt := 17) hx hb dX1_begin_5 (by decide) (fun c1 => ?_) (fun c1 => ?_)
    · refine lv_iconst (v := (-1)) hx hb dX1_begin_17 (by decide) ?_
      exact rd_iret hx hb hr hlk ((ps_neg q).symm) dX1_begin_18
    · exact absurd rfl c1
  · have q0 : ¬ x < 0 := nn_ge (by omega) q
    rw [th_hi (by omega) q0 q]
    refine lv_if_eq (tgt := 17) hx hb dX1_begin_5 (by decide) (fun c1 => ?_) (fun c1 => ?_)
    · refine lv_iconst (v := (-1)) hx hb dX1_begin_17 (by decide) ?_
      exact rd_iret hx hb hr hlk ((ps_hi (by omega) q0 q).symm) dX1_begin_18
    · exact absurd rfl c1
  · rw [th_in hj (by omega)]
    refine lv_if_eq (tgt := 17) hx hb dX1_begin_5 (by decide) (fun c1 => ?_) (fun c1 => ?_)
    · exact absurd c1 (by decide)
    · refine lv_aload_n hx hb dX1_begin_8 rfl (lv_at hl 0 rfl) ?_
      refine va_get (D := (dC, dI)) (ci := 1) (v := .ref h1) (C := RX1) (T := TX1) (N := 4) hx hb hts (by decide +kernel) hown hK hP 0 rfl rfl 1 (by decide) (hts (.fieldLink RX1 15 "PieceWays$Pieces" "begins" "[I") (by decide +kernel)) (fun _ h9 => h9) rfl dX1_begin_9 ?_
      refine lv_iload_n hx hb dX1_begin_12 rfl (lv_at hl 1 rfl) ?_
      refine va_iald hx hb hK hP 1 1 rfl rfl (vp_in_nI (by omega) (by omega)) dX1_begin_13 ?_
      refine lv_goto (tgt := 18) hx hb dX1_begin_14 (by decide) ?_
      obtain ⟨y, hy⟩ : ∃ y, P[j]? = some y := ⟨_, List.getElem?_eq_getElem hj⟩
      exact rd_iret hx hb hr hlk (by rw [nI_clamp (by omega), ps_in hy (by omega)]; exact (hf j y hy).2.1) dX1_begin_18
set_option maxHeartbeats 4000000 in
set_option maxRecDepth 100000 in
/-- length(x) -/
theorem c_Pc_length (a h0 h1 h2 : Nat) (P : List (Nat × Nat × Nat)) (f0 f1 f2 : Nat → Int32) (x : Int32) (hL : P.length ≤ 133) (hf : pc_k f0 f1 f2 P) : rd_M l yX1_length wsX1_length ({ frames := 1, cells := 0, slots := 0, locals := 21 } : Room) (dC, dI) vwCl (tk_s cB cI cL) [.ref a, .int x] [(a, .inr (1, [.ref h0, .ref h1, .ref h2, .int (nI P.length)])), (h2, .inl (cI, 133, .inl f2))] (ps_L (fun t => t.2.2) P x) := by
  refine rd_ofW (cc := cX1_length) (maxL := 2) (ret := (some .int)) (by decide) rfl (Nat.le_of_ble_eq_true rfl) ?_
  intro p e s m below meth c ls hx hb hr hml hts hown hlk hP hK hN hl
  have hl : lv_has ls 2 [(0, .ref a), (1, .int x)] := hl
  refine lv_aload_n hx hb dX1_length_0 rfl (lv_at hl 0 rfl) ?_
  refine lv_iload_n hx hb dX1_length_1 rfl (lv_at hl 1 rfl) ?_
  refine rd_V (wc := [(a, .inr (1, [.ref h0, .ref h1, .ref h2, .int (nI P.length)]))]) (As := [.int x]) (rest := []) ⟨hx, hb, hml, hown, hts⟩ (c_Pc_isThere l dC dI cB cI cL a h0 h1 h2 P x hL) (cwV 1 hts gX1_length_X1_isThere rfl rfl rfl (by decide +kernel) ⟨(Nat.le_of_ble_eq_true rfl), (Nat.le_of_ble_eq_true rfl)⟩) hK hN (sb_P hP [0] rfl) 0 rfl rfl rfl rfl hl.1 rfl (Nat.le_of_ble_eq_true rfl) dX1_length_2 ⟨(Nat.le_of_ble_eq_true rfl), (Nat.le_of_ble_eq_true rfl)⟩ ?_
  rcases pk_ix x (n := P.length) (by omega) with q | q | ⟨j, hj, rfl⟩
  · rw [th_neg q]
    refine lv_if_eq (tgt := 17) hx hb dX1_length_5 (by decide) (fun c1 => ?_) (fun c1 => ?_)
    · refine lv_iconst (v := (-1)) hx hb dX1_length_17 (by decide) ?_
      exact rd_iret hx hb hr hlk ((ps_neg q).symm) dX1_length_18
    · exact absurd rfl c1
  · have q0 : ¬ x < 0 := nn_ge (by omega) q
    rw [th_hi (by omega) q0 q]
    refine lv_if_eq (tgt := 17) hx hb dX1_length_5 (by decide) (fun c1 => ?_) (fun c1 => ?_)
    · refine lv_iconst (v := (-1)) hx hb dX1_length_17 (by decide) ?_
      exact rd_iret hx hb hr hlk ((ps_hi (by omega) q0 q).symm) dX1_length_18
    · exact absurd rfl c1
  · rw [th_in hj (by omega)]
    refine lv_if_eq (tgt := 17) hx hb dX1_length_5 (by decide) (fun c1 => ?_) (fun c1 => ?_)
    · exact absurd c1 (by decide)
    · refine lv_aload_n hx hb dX1_length_8 rfl (lv_at hl 0 rfl) ?_
      refine va_get (D := (dC, dI)) (ci := 1) (v := .ref h2) (C := RX1) (T := TX1) (N := 4) hx hb hts (by decide +kernel) hown hK hP 0 rfl rfl 2 (by decide) (hts (.fieldLink RX1 18 "PieceWays$Pieces" "lengths" "[I") (by decide +kernel)) (fun _ h9 => h9) rfl dX1_length_9 ?_
      refine lv_iload_n hx hb dX1_length_12 rfl (lv_at hl 1 rfl) ?_
      refine va_iald hx hb hK hP 1 1 rfl rfl (vp_in_nI (by omega) (by omega)) dX1_length_13 ?_
      refine lv_goto (tgt := 18) hx hb dX1_length_14 (by decide) ?_
      obtain ⟨y, hy⟩ : ∃ y, P[j]? = some y := ⟨_, List.getElem?_eq_getElem hj⟩
      exact rd_iret hx hb hr hlk (by rw [nI_clamp (by omega), ps_in hy (by omega)]; exact (hf j y hy).2.2) dX1_length_18
set_option maxHeartbeats 4000000 in
set_option maxRecDepth 100000 in
/-- empty() -/
theorem c_Pc_empty (a h0 h1 h2 : Nat) (n : Int32) : wr_M l yX1_empty wsX1_empty ({ frames := 0, cells := 0, slots := 0, locals := 0 } : Room) (dC, dI) vwCl (tk_s cB cI cL) [.ref a] [(a, .inr (1, [.ref h0, .ref h1, .ref h2, .int n]))] 0 0 (fun _ : Unit => True) (fun _ => [(a, .inr (1, [.ref h0, .ref h1, .ref h2, .int (nI 0)]))]) := by
  refine wr_ofW (cc := cX1_empty) (maxL := 1) (ret := none) (by decide) rfl (Nat.le_of_ble_eq_true rfl) ?_
  intro p e s m below meth c ls A hx hb hr hml hts hown hlk hnm hP hK hN hD hA hS hl
  have hl : lv_has ls 1 [(0, .ref a)] := hl
  refine lv_aload_n hx hb dX1_empty_0 rfl (lv_at hl 0 rfl) ?_
  refine lv_iconst (v := 0) hx hb dX1_empty_1 (by decide) ?_
  refine va_put (D := (dC, dI)) (ci := 1) (v := .int (nI 0)) (ty := .int) (C := RX1) (T := TX1) (N := 4) hx hb hts (by decide +kernel) tyX1 tyX1_ok nmX1 hown hK hP hD hS 0 rfl rfl 3 (by decide) (hts (.fieldLink RX1 21 "PieceWays$Pieces" "used" "I") (by decide +kernel)) (fun _ h9 => h9) rfl (by decide +kernel) rfl rfl (Nat.le_of_ble_eq_true rfl) dX1_empty_2 (fun H locs hP hD hS => ?_)
  have hP : va_P (dC, dI) vwCl [(a, .inr (1, [.ref h0, .ref h1, .ref h2, .int (nI 0)]))] H := hP
  have hD : va_D A [(a, .inr (1, [.ref h0, .ref h1, .ref h2, .int (nI 0)]))] := hD
  exact wr_vret hx hb hr hlk () trivial hP hD hS dX1_empty_5
set_option maxHeartbeats 4000000 in
set_option maxRecDepth 100000 in
/-- add(k, b, n), where there is room -/
theorem c_Pc_add (a h0 h1 h2 : Nat) (P : List (Nat × Nat × Nat)) (f0 f1 f2 : Nat → Int32) (k b n : Nat) (hL : P.length < 133) (hf : pc_k f0 f1 f2 P) : wr_M l yX1_add wsX1_add ({ frames := 0, cells := 0, slots := 0, locals := 0 } : Room) (dC, dI) vwCl (tk_s cB cI cL) [.ref a, .int (nI k), .int (nI b), .int (nI n)] [(a, .inr (1, [.ref h0, .ref h1, .ref h2, .int (nI P.length)])), (h0, .inl (cI, 133, .inl f0)), (h1, .inl (cI, 133, .inl f1)), (h2, .inl (cI, 133, .inl f2))] 0 0 (fun z : (Nat → Int32) × (Nat → Int32) × (Nat → Int32) => pc_k z.1 z.2.1 z.2.2 (P ++ [(k, b, n)])) (fun z => [(a, .inr (1, [.ref h0, .ref h1, .ref h2, .int (nI (P ++ [(k, b, n)]).length)])), (h0, .inl (cI, 133, .inl z.1)), (h1, .inl (cI, 133, .inl z.2.1)), (h2, .inl (cI, 133, .inl z.2.2))]) := by
  refine wr_ofW (cc := cX1_add) (maxL := 4) (ret := none) (by decide) rfl (Nat.le_of_ble_eq_true rfl) ?_
  intro p e s m below meth c ls A hx hb hr hml hts hown hlk hnm hP hK hN hD hA hS hl
  have hl : lv_has ls 4 [(0, .ref a), (1, .int (nI k)), (2, .int (nI b)), (3, .int (nI n))] := hl
  refine lv_aload_n hx hb dX1_add_0 rfl (lv_at hl 0 rfl) ?_
  refine va_get (D := (dC, dI)) (ci := 1) (v := .int (nI P.length)) (C := RX1) (T := TX1) (N := 4) hx hb hts (by decide +kernel) hown hK hP 0 rfl rfl 3 (by decide) (hts (.fieldLink RX1 21 "PieceWays$Pieces" "used" "I") (by decide +kernel)) (fun _ h9 => h9) rfl dX1_add_1 ?_
  refine lv_if_lt (tgt := 17) hx hb dX1_add_4 (by decide) (fun c1 => ?_) (fun c1 => ?_)
  · exact absurd c1 (nI_pos (by omega))
  · refine lv_aload_n hx hb dX1_add_7 rfl (lv_at hl 0 rfl) ?_
    refine va_get (D := (dC, dI)) (ci := 1) (v := .int (nI P.length)) (C := RX1) (T := TX1) (N := 4) hx hb hts (by decide +kernel) hown hK hP 0 rfl rfl 3 (by decide) (hts (.fieldLink RX1 21 "PieceWays$Pieces" "used" "I") (by decide +kernel)) (fun _ h9 => h9) rfl dX1_add_8 ?_
    refine lv_sipush (v := 133) hx hb dX1_add_11 (by decide) ?_
    refine lv_icmp_lt (tgt := 18) hx hb dX1_add_14 (by decide) (fun c2 => ?_) (fun c2 => ?_)
    · refine lv_aload_n hx hb dX1_add_18 rfl (lv_at hl 0 rfl) ?_
      refine va_get (D := (dC, dI)) (ci := 1) (v := .ref h0) (C := RX1) (T := TX1) (N := 4) hx hb hts (by decide +kernel) hown hK hP 0 rfl rfl 0 (by decide) (hts (.fieldLink RX1 9 "PieceWays$Pieces" "kinds" "[I") (by decide +kernel)) (fun _ h9 => h9) rfl dX1_add_19 ?_
      refine lv_aload_n hx hb dX1_add_22 rfl (lv_at hl 0 rfl) ?_
      refine va_get (D := (dC, dI)) (ci := 1) (v := .int (nI P.length)) (C := RX1) (T := TX1) (N := 4) hx hb hts (by decide +kernel) hown hK hP 0 rfl rfl 3 (by decide) (hts (.fieldLink RX1 21 "PieceWays$Pieces" "used" "I") (by decide +kernel)) (fun _ h9 => h9) rfl dX1_add_23 ?_
      refine lv_iload_n hx hb dX1_add_26 rfl (lv_at hl 1 rfl) ?_
      refine va_iast hx hb hK hP hD hS 1 1 rfl rfl (vp_in_nI hL (by omega)) dX1_add_27 (fun H locs hP hD hS => ?_)
      have hP : va_P (dC, dI) vwCl [(a, .inr (1, [.ref h0, .ref h1, .ref h2, .int (nI P.length)])), (h0, .inl (cI, 133, .inl (upd f0 (nI P.length).toNatClampNeg (nI k)))), (h1, .inl (cI, 133, .inl f1)), (h2, .inl (cI, 133, .inl f2))] H := hP
      have hD : va_D A [(a, .inr (1, [.ref h0, .ref h1, .ref h2, .int (nI P.length)])), (h0, .inl (cI, 133, .inl (upd f0 (nI P.length).toNatClampNeg (nI k)))), (h1, .inl (cI, 133, .inl f1)), (h2, .inl (cI, 133, .inl f2))] := hD
      refine lv_aload_n hx hb dX1_add_28 rfl (lv_at hl 0 rfl) ?_
      refine va_get (D := (dC, dI)) (ci := 1) (v := .ref h1) (C := RX1) (T := TX1) (N := 4) hx hb hts (by decide +kernel) hown hK hP 0 rfl rfl 1 (by decide) (hts (.fieldLink RX1 15 "PieceWays$Pieces" "begins" "[I") (by decide +kernel)) (fun _ h9 => h9) rfl dX1_add_29 ?_
      refine lv_aload_n hx hb dX1_add_32 rfl (lv_at hl 0 rfl) ?_
      refine va_get (D := (dC, dI)) (ci := 1) (v := .int (nI P.length)) (C := RX1) (T := TX1) (N := 4) hx hb hts (by decide +kernel) hown hK hP 0 rfl rfl 3 (by decide) (hts (.fieldLink RX1 21 "PieceWays$Pieces" "used" "I") (by decide +kernel)) (fun _ h9 => h9) rfl dX1_add_33 ?_
      refine lv_iload_n hx hb dX1_add_36 rfl (lv_at hl 2 rfl) ?_
      refine va_iast hx hb hK hP hD hS 2 1 rfl rfl (vp_in_nI hL (by omega)) dX1_add_37 (fun H locs hP hD hS => ?_)
      have hP : va_P (dC, dI) vwCl [(a, .inr (1, [.ref h0, .ref h1, .ref h2, .int (nI P.length)])), (h0, .inl (cI, 133, .inl (upd f0 (nI P.length).toNatClampNeg (nI k)))), (h1, .inl (cI, 133, .inl (upd f1 (nI P.length).toNatClampNeg (nI b)))), (h2, .inl (cI, 133, .inl f2))] H := hP
      have hD : va_D A [(a, .inr (1, [.ref h0, .ref h1, .ref h2, .int (nI P.length)])), (h0, .inl (cI, 133, .inl (upd f0 (nI P.length).toNatClampNeg (nI k)))), (h1, .inl (cI, 133, .inl (upd f1 (nI P.length).toNatClampNeg (nI b)))), (h2, .inl (cI, 133, .inl f2))] := hD
      refine lv_aload_n hx hb dX1_add_38 rfl (lv_at hl 0 rfl) ?_
      refine va_get (D := (dC, dI)) (ci := 1) (v := .ref h2) (C := RX1) (T := TX1) (N := 4) hx hb hts (by decide +kernel) hown hK hP 0 rfl rfl 2 (by decide) (hts (.fieldLink RX1 18 "PieceWays$Pieces" "lengths" "[I") (by decide +kernel)) (fun _ h9 => h9) rfl dX1_add_39 ?_
      refine lv_aload_n hx hb dX1_add_42 rfl (lv_at hl 0 rfl) ?_
      refine va_get (D := (dC, dI)) (ci := 1) (v := .int (nI P.length)) (C := RX1) (T := TX1) (N := 4) hx hb hts (by decide +kernel) hown hK hP 0 rfl rfl 3 (by decide) (hts (.fieldLink RX1 21 "PieceWays$Pieces" "used" "I") (by decide +kernel)) (fun _ h9 => h9) rfl dX1_add_43 ?_
      refine lv_iload_n hx hb dX1_add_46 rfl (lv_at hl 3 rfl) ?_
      refine va_iast hx hb hK hP hD hS 3 1 rfl rfl (vp_in_nI hL (by omega)) dX1_add_47 (fun H locs hP hD hS => ?_)
      have hP : va_P (dC, dI) vwCl [(a, .inr (1, [.ref h0, .ref h1, .ref h2, .int (nI P.length)])), (h0, .inl (cI, 133, .inl (upd f0 (nI P.length).toNatClampNeg (nI k)))), (h1, .inl (cI, 133, .inl (upd f1 (nI P.length).toNatClampNeg (nI b)))), (h2, .inl (cI, 133, .inl (upd f2 (nI P.length).toNatClampNeg (nI n))))] H := hP
      have hD : va_D A [(a, .inr (1, [.ref h0, .ref h1, .ref h2, .int (nI P.length)])), (h0, .inl (cI, 133, .inl (upd f0 (nI P.length).toNatClampNeg (nI k)))), (h1, .inl (cI, 133, .inl (upd f1 (nI P.length).toNatClampNeg (nI b)))), (h2, .inl (cI, 133, .inl (upd f2 (nI P.length).toNatClampNeg (nI n))))] := hD
      refine lv_aload_n hx hb dX1_add_48 rfl (lv_at hl 0 rfl) ?_
      refine lv_dup hx hb dX1_add_49 rfl ?_
      refine va_get (D := (dC, dI)) (ci := 1) (v := .int (nI P.length)) (C := RX1) (T := TX1) (N := 4) hx hb hts (by decide +kernel) hown hK hP 0 rfl rfl 3 (by decide) (hts (.fieldLink RX1 21 "PieceWays$Pieces" "used" "I") (by decide +kernel)) (fun _ h9 => h9) rfl dX1_add_50 ?_
      refine lv_iconst (v := 1) hx hb dX1_add_53 (by decide) ?_
      refine lv_iadd hx hb dX1_add_54 ?_
      refine va_put (D := (dC, dI)) (ci := 1) (v := .int ((nI P.length) + 1)) (ty := .int) (C := RX1) (T := TX1) (N := 4) hx hb hts (by decide +kernel) tyX1 tyX1_ok nmX1 hown hK hP hD hS 0 rfl rfl 3 (by decide) (hts (.fieldLink RX1 21 "PieceWays$Pieces" "used" "I") (by decide +kernel)) (fun _ h9 => h9) rfl (by decide +kernel) rfl rfl (Nat.le_of_ble_eq_true rfl) dX1_add_55 (fun H locs hP hD hS => ?_)
      have hP : va_P (dC, dI) vwCl [(a, .inr (1, [.ref h0, .ref h1, .ref h2, .int ((nI P.length) + 1)])), (h0, .inl (cI, 133, .inl (upd f0 (nI P.length).toNatClampNeg (nI k)))), (h1, .inl (cI, 133, .inl (upd f1 (nI P.length).toNatClampNeg (nI b)))), (h2, .inl (cI, 133, .inl (upd f2 (nI P.length).toNatClampNeg (nI n))))] H := hP
      have hD : va_D A [(a, .inr (1, [.ref h0, .ref h1, .ref h2, .int ((nI P.length) + 1)])), (h0, .inl (cI, 133, .inl (upd f0 (nI P.length).toNatClampNeg (nI k)))), (h1, .inl (cI, 133, .inl (upd f1 (nI P.length).toNatClampNeg (nI b)))), (h2, .inl (cI, 133, .inl (upd f2 (nI P.length).toNatClampNeg (nI n))))] := hD
      rw [nI_clamp (by omega)] at hP hD
      have e1 : nI P.length + 1 = nI (P ++ [(k, b, n)]).length := by rw [List.length_append]; exact nI_1 _
      rw [e1] at hP hD
      exact wr_vret hx hb hr hlk (upd f0 P.length (nI k), upd f1 P.length (nI b), upd f2 P.length (nI n)) (pc_add hf k b n) hP hD hS dX1_add_58
    · exact absurd (nI_lt (a := P.length) (b := 133) hL (by omega)) c2
set_option maxHeartbeats 4000000 in
set_option maxRecDepth 100000 in
/-- addPlainByte(pl), where there is room -/
theorem c_Pc_addPlainByte (a h0 h1 h2 : Nat) (P : List (Nat × Nat × Nat)) (f0 f1 f2 : Nat → Int32) (pl : Nat) (hk : ∀ t ∈ P, t.1 < 3) (hL : P.length ≤ 133) (hA1 : (ap_P P pl).length ≤ 133) (hf : pc_k f0 f1 f2 P) : wr_M l yX1_addPlainByte wsX1_addPlainByte ({ frames := 1, cells := 0, slots := 0, locals := 23 } : Room) (dC, dI) vwCl (tk_s cB cI cL) [.ref a, .int (nI pl)] [(a, .inr (1, [.ref h0, .ref h1, .ref h2, .int (nI P.length)])), (h0, .inl (cI, 133, .inl f0)), (h1, .inl (cI, 133, .inl f1)), (h2, .inl (cI, 133, .inl f2))] 0 0 (fun z : (Nat → Int32) × (Nat → Int32) × (Nat → Int32) => pc_k z.1 z.2.1 z.2.2 (ap_P P pl)) (fun z => [(a, .inr (1, [.ref h0, .ref h1, .ref h2, .int (nI (ap_P P pl).length)])), (h0, .inl (cI, 133, .inl z.1)), (h1, .inl (cI, 133, .inl z.2.1)), (h2, .inl (cI, 133, .inl z.2.2))]) := by
  refine wr_ofW (cc := cX1_addPlainByte) (maxL := 3) (ret := none) (by decide) rfl (Nat.le_of_ble_eq_true rfl) ?_
  intro p e s m below meth c ls A hx hb hr hml hts hown hlk hnm hP hK hN hD hA hS hl
  have hl : lv_has ls 3 [(0, .ref a), (1, .int (nI pl))] := hl
  rcases sp_last P with rfl | ⟨Q, t, rfl⟩
  · refine lv_aload_n hx hb dX1_addPlainByte_0 rfl (lv_at hl 0 rfl) ?_
    refine va_get (D := (dC, dI)) (ci := 1) (v := .int (nI ([] : List (Nat × Nat × Nat)).length)) (C := RX1) (T := TX1) (N := 4) hx hb hts (by decide +kernel) hown hK hP 0 rfl rfl 3 (by decide) (hts (.fieldLink RX1 21 "PieceWays$Pieces" "used" "I") (by decide +kernel)) (fun _ h9 => h9) rfl dX1_addPlainByte_1 ?_
    refine lv_iconst (v := 1) hx hb dX1_addPlainByte_4 (by decide) ?_
    refine lv_isub hx hb dX1_addPlainByte_5 ?_
    refine lv_istore_n (lv' := [(2, .int ((nI ([] : List (Nat × Nat × Nat)).length) - 1)), (0, .ref a), (1, .int (nI pl))]) hx hb dX1_addPlainByte_6 rfl hl (by decide) rfl (fun ls hl => ?_)
    refine lv_aload_n hx hb dX1_addPlainByte_7 rfl (lv_at hl 1 rfl) ?_
    refine lv_iload_n hx hb dX1_addPlainByte_8 rfl (lv_at hl 0 rfl) ?_
    refine rd_V (wc := [(a, .inr (1, [.ref h0, .ref h1, .ref h2, .int (nI ([] : List (Nat × Nat × Nat)).length)]))]) (As := [.int ((nI ([] : List (Nat × Nat × Nat)).length) - 1)]) (rest := []) ⟨hx, hb, hml, hown, hts⟩ (c_Pc_isThere l dC dI cB cI cL a h0 h1 h2 [] (nI ([] : List (Nat × Nat × Nat)).length - 1) (by decide)) (cwV 1 hts gX1_addPlainByte_X1_isThere rfl rfl rfl (by decide +kernel) ⟨(Nat.le_of_ble_eq_true rfl), (Nat.le_of_ble_eq_true rfl)⟩) hK hN (sb_P hP [0] rfl) 0 rfl rfl rfl rfl hl.1 rfl (Nat.le_of_ble_eq_true rfl) dX1_addPlainByte_9 ⟨(Nat.le_of_ble_eq_true rfl), (Nat.le_of_ble_eq_true rfl)⟩ ?_
    have e1 : th_P [] (nI ([] : List (Nat × Nat × Nat)).length - 1) = 0 := th_neg (by decide)
    rw [e1]
    refine lv_if_eq (tgt := 38) hx hb dX1_addPlainByte_12 (by decide) (fun c1 => ?_) (fun c1 => ?_)
    · have e9 : ap_P [] pl = [] ++ [(2, pl, 1)] := rfl
      refine lv_aload_n hx hb dX1_addPlainByte_38 rfl (lv_at hl 1 rfl) ?_
      refine lv_iconst (v := 2) hx hb dX1_addPlainByte_39 (by decide) ?_
      refine lv_iload_n hx hb dX1_addPlainByte_40 rfl (lv_at hl 2 rfl) ?_
      refine lv_iconst (v := 1) hx hb dX1_addPlainByte_41 (by decide) ?_
      refine wr_V (wc := [(a, .inr (1, [.ref h0, .ref h1, .ref h2, .int (nI ([] : List (Nat × Nat × Nat)).length)])), (h0, .inl (cI, 133, .inl f0)), (h1, .inl (cI, 133, .inl f1)), (h2, .inl (cI, 133, .inl f2))]) (wr := []) (As := [.int 2, .int (nI pl), .int 1]) (rest := []) ⟨hx, hb, hml, hown, hts⟩ (c_Pc_add l dC dI cB cI cL a h0 h1 h2 ([]) f0 f1 f2 2 pl 1 (by rw [e9, List.length_append, List.length_singleton] at hA1; omega) hf) (cwV 3 hts gX1_addPlainByte_X1_add rfl rfl rfl (by decide +kernel) ⟨(Nat.le_of_ble_eq_true rfl), (Nat.le_of_ble_eq_true rfl)⟩) hK hN hP hD hS hA [0, 1, 2, 3] [] rfl rfl (by decide) (by decide) (by decide) 0 rfl rfl rfl rfl hl.1 rfl (Nat.le_of_ble_eq_true rfl) dX1_addPlainByte_42 ⟨(Nat.le_of_ble_eq_true rfl), (Nat.le_of_ble_eq_true rfl)⟩ (fun z H locs hz hP hD hS => ?_)
      have hP : va_P (dC, dI) vwCl [(a, .inr (1, [.ref h0, .ref h1, .ref h2, .int (nI ([] ++ [(2, pl, 1)]).length)])), (h0, .inl (cI, 133, .inl (z.1))), (h1, .inl (cI, 133, .inl (z.2.1))), (h2, .inl (cI, 133, .inl (z.2.2)))] H := hP.sub [0, 1, 2, 3] rfl
      have hD : va_D A [(a, .inr (1, [.ref h0, .ref h1, .ref h2, .int (nI ([] ++ [(2, pl, 1)]).length)])), (h0, .inl (cI, 133, .inl (z.1))), (h1, .inl (cI, 133, .inl (z.2.1))), (h2, .inl (cI, 133, .inl (z.2.2)))] := hD.sub [0, 1, 2, 3] (by decide) rfl
      rw [← e9] at hz hP hD
      exact wr_vret hx hb hr hlk z hz hP hD hS dX1_addPlainByte_45
    · exact absurd rfl c1
  · have hlen : (Q ++ [t]).length = Q.length + 1 := by simp
    have hq : (Q ++ [t])[Q.length]? = some t := by simp
    have e0 : nI (Q ++ [t]).length - 1 = nI Q.length := by rw [hlen]; exact nI_pred _
    refine lv_aload_n hx hb dX1_addPlainByte_0 rfl (lv_at hl 0 rfl) ?_
    refine va_get (D := (dC, dI)) (ci := 1) (v := .int (nI (Q ++ [t]).length)) (C := RX1) (T := TX1) (N := 4) hx hb hts (by decide +kernel) hown hK hP 0 rfl rfl 3 (by decide) (hts (.fieldLink RX1 21 "PieceWays$Pieces" "used" "I") (by decide +kernel)) (fun _ h9 => h9) rfl dX1_addPlainByte_1 ?_
    refine lv_iconst (v := 1) hx hb dX1_addPlainByte_4 (by decide) ?_
    refine lv_isub hx hb dX1_addPlainByte_5 ?_
    rw [e0]
    refine lv_istore_n (lv' := [(2, .int (nI Q.length)), (0, .ref a), (1, .int (nI pl))]) hx hb dX1_addPlainByte_6 rfl hl (by decide) rfl (fun ls hl => ?_)
    refine lv_aload_n hx hb dX1_addPlainByte_7 rfl (lv_at hl 1 rfl) ?_
    refine lv_iload_n hx hb dX1_addPlainByte_8 rfl (lv_at hl 0 rfl) ?_
    refine rd_V (wc := [(a, .inr (1, [.ref h0, .ref h1, .ref h2, .int (nI (Q ++ [t]).length)]))]) (As := [.int (nI Q.length)]) (rest := []) ⟨hx, hb, hml, hown, hts⟩ (c_Pc_isThere l dC dI cB cI cL a h0 h1 h2 (Q ++ [t]) (nI Q.length) hL) (cwV 1 hts gX1_addPlainByte_X1_isThere rfl rfl rfl (by decide +kernel) ⟨(Nat.le_of_ble_eq_true rfl), (Nat.le_of_ble_eq_true rfl)⟩) hK hN (sb_P hP [0] rfl) 0 rfl rfl rfl rfl hl.1 rfl (Nat.le_of_ble_eq_true rfl) dX1_addPlainByte_9 ⟨(Nat.le_of_ble_eq_true rfl), (Nat.le_of_ble_eq_true rfl)⟩ ?_
    rw [th_in (P := Q ++ [t]) (j := Q.length) (by omega) (by omega)]
    refine lv_if_eq (tgt := 38) hx hb dX1_addPlainByte_12 (by decide) (fun c1 => ?_) (fun c1 => ?_)
    · exact absurd c1 (by decide)
    · refine lv_aload_n hx hb dX1_addPlainByte_15 rfl (lv_at hl 1 rfl) ?_
      refine va_get (D := (dC, dI)) (ci := 1) (v := .ref h0) (C := RX1) (T := TX1) (N := 4) hx hb hts (by decide +kernel) hown hK hP 0 rfl rfl 0 (by decide) (hts (.fieldLink RX1 9 "PieceWays$Pieces" "kinds" "[I") (by decide +kernel)) (fun _ h9 => h9) rfl dX1_addPlainByte_16 ?_
      refine lv_iload_n hx hb dX1_addPlainByte_19 rfl (lv_at hl 0 rfl) ?_
      refine va_iald hx hb hK hP 1 1 rfl rfl (vp_in_nI (by omega) (by omega)) dX1_addPlainByte_20 ?_
      rw [nI_clamp (by omega), (hf Q.length t hq).1]
      refine lv_iconst (v := 2) hx hb dX1_addPlainByte_21 (by decide) ?_
      refine lv_icmp_ne (tgt := 38) hx hb dX1_addPlainByte_22 (by decide) (fun c2 => ?_) (fun c2 => ?_)
      · have e9 : ap_P (Q ++ [t]) pl = (Q ++ [t]) ++ [(2, pl, 1)] := ap_new (by intro y hy; rw [List.getLast?_concat] at hy; cases hy; intro h9; exact c2 (by rw [h9]; rfl))
        refine lv_aload_n hx hb dX1_addPlainByte_38 rfl (lv_at hl 1 rfl) ?_
        refine lv_iconst (v := 2) hx hb dX1_addPlainByte_39 (by decide) ?_
        refine lv_iload_n hx hb dX1_addPlainByte_40 rfl (lv_at hl 2 rfl) ?_
        refine lv_iconst (v := 1) hx hb dX1_addPlainByte_41 (by decide) ?_
        refine wr_V (wc := [(a, .inr (1, [.ref h0, .ref h1, .ref h2, .int (nI (Q ++ [t]).length)])), (h0, .inl (cI, 133, .inl f0)), (h1, .inl (cI, 133, .inl f1)), (h2, .inl (cI, 133, .inl f2))]) (wr := []) (As := [.int 2, .int (nI pl), .int 1]) (rest := []) ⟨hx, hb, hml, hown, hts⟩ (c_Pc_add l dC dI cB cI cL a h0 h1 h2 (Q ++ [t]) f0 f1 f2 2 pl 1 (by rw [e9, List.length_append, List.length_singleton] at hA1; omega) hf) (cwV 3 hts gX1_addPlainByte_X1_add rfl rfl rfl (by decide +kernel) ⟨(Nat.le_of_ble_eq_true rfl), (Nat.le_of_ble_eq_true rfl)⟩) hK hN hP hD hS hA [0, 1, 2, 3] [] rfl rfl (by decide) (by decide) (by decide) 0 rfl rfl rfl rfl hl.1 rfl (Nat.le_of_ble_eq_true rfl) dX1_addPlainByte_42 ⟨(Nat.le_of_ble_eq_true rfl), (Nat.le_of_ble_eq_true rfl)⟩ (fun z H locs hz hP hD hS => ?_)
        have hP : va_P (dC, dI) vwCl [(a, .inr (1, [.ref h0, .ref h1, .ref h2, .int (nI (Q ++ [t] ++ [(2, pl, 1)]).length)])), (h0, .inl (cI, 133, .inl (z.1))), (h1, .inl (cI, 133, .inl (z.2.1))), (h2, .inl (cI, 133, .inl (z.2.2)))] H := hP.sub [0, 1, 2, 3] rfl
        have hD : va_D A [(a, .inr (1, [.ref h0, .ref h1, .ref h2, .int (nI (Q ++ [t] ++ [(2, pl, 1)]).length)])), (h0, .inl (cI, 133, .inl (z.1))), (h1, .inl (cI, 133, .inl (z.2.1))), (h2, .inl (cI, 133, .inl (z.2.2)))] := hD.sub [0, 1, 2, 3] (by decide) rfl
        rw [← e9] at hz hP hD
        exact wr_vret hx hb hr hlk z hz hP hD hS dX1_addPlainByte_45
      · have k2 : t.1 = 2 := by rcases Nat.lt_or_ge t.1 (2 ^ 31) with h9 | h9; exact (nI_eq h9 (by omega)).mp c2; exact absurd h9 (by have := hk t (by simp); omega)
        refine lv_aload_n hx hb dX1_addPlainByte_25 rfl (lv_at hl 1 rfl) ?_
        refine va_get (D := (dC, dI)) (ci := 1) (v := .ref h2) (C := RX1) (T := TX1) (N := 4) hx hb hts (by decide +kernel) hown hK hP 0 rfl rfl 2 (by decide) (hts (.fieldLink RX1 18 "PieceWays$Pieces" "lengths" "[I") (by decide +kernel)) (fun _ h9 => h9) rfl dX1_addPlainByte_26 ?_
        refine lv_iload_n hx hb dX1_addPlainByte_29 rfl (lv_at hl 0 rfl) ?_
        refine lv_dup2_11 hx hb dX1_addPlainByte_30 rfl rfl ?_
        refine va_iald hx hb hK hP 3 1 rfl rfl (vp_in_nI (by omega) (by omega)) dX1_addPlainByte_31 ?_
        refine lv_iconst (v := 1) hx hb dX1_addPlainByte_32 (by decide) ?_
        refine lv_iadd hx hb dX1_addPlainByte_33 ?_
        refine va_iast hx hb hK hP hD hS 3 1 rfl rfl (vp_in_nI (by omega) (by omega)) dX1_addPlainByte_34 (fun H locs hP hD hS => ?_)
        have hP : va_P (dC, dI) vwCl [(a, .inr (1, [.ref h0, .ref h1, .ref h2, .int (nI (Q ++ [t]).length)])), (h0, .inl (cI, 133, .inl f0)), (h1, .inl (cI, 133, .inl f1)), (h2, .inl (cI, 133, .inl (upd f2 (nI Q.length).toNatClampNeg (f2 (nI Q.length).toNatClampNeg + 1))))] H := hP
        have hD : va_D A [(a, .inr (1, [.ref h0, .ref h1, .ref h2, .int (nI (Q ++ [t]).length)])), (h0, .inl (cI, 133, .inl f0)), (h1, .inl (cI, 133, .inl f1)), (h2, .inl (cI, 133, .inl (upd f2 (nI Q.length).toNatClampNeg (f2 (nI Q.length).toNatClampNeg + 1))))] := hD
        refine lv_goto (tgt := 45) hx hb dX1_addPlainByte_35 (by decide) ?_
        rw [nI_clamp (by omega)] at hP hD
        have e9 : ap_P (Q ++ [t]) pl = Q ++ [(t.1, t.2.1, t.2.2 + 1)] := ap_grow k2
        have e8 : (Q ++ [t]).length = (ap_P (Q ++ [t]) pl).length := by rw [e9]; simp
        rw [e8] at hP hD
        exact wr_vret hx hb hr hlk (f0, f1, upd f2 Q.length (f2 Q.length + 1)) (by rw [e9]; exact pc_grow hf) hP hD hS dX1_addPlainByte_45
set_option maxHeartbeats 4000000 in
set_option maxRecDepth 100000 in
/-- copiedEnd() -/
theorem c_Pc_copiedEnd (a h0 h1 h2 : Nat) (P : List (Nat × Nat × Nat)) (f0 f1 f2 : Nat → Int32) (hk : ∀ t ∈ P, t.1 < 3 ∧ t.2.1 + t.2.2 ≤ 600) (hL : P.length ≤ 133) (hf : pc_k f0 f1 f2 P) : rd_M l yX1_copiedEnd wsX1_copiedEnd ({ frames := 2, cells := 0, slots := 0, locals := 42 } : Room) (dC, dI) vwCl (tk_s cB cI cL) [.ref a] [(a, .inr (1, [.ref h0, .ref h1, .ref h2, .int (nI P.length)])), (h0, .inl (cI, 133, .inl f0)), (h1, .inl (cI, 133, .inl f1)), (h2, .inl (cI, 133, .inl f2))] (nI (ce_P P)) := by
  refine rd_ofW (cc := cX1_copiedEnd) (maxL := 3) (ret := (some .int)) (by decide) rfl (Nat.le_of_ble_eq_true rfl) ?_
  intro p e s m below meth c ls hx hb hr hml hts hown hlk hP hK hN hl
  have hl : lv_has ls 3 [(0, .ref a)] := hl
  have hce : ∀ j : Nat, ce_P (P.take j) ≤ 600 := fun j => ce_le _ 0 600 (by omega) (fun t ht _ => (hk t (List.mem_of_mem_take ht)).2)
  have loop : ∀ (n j : Nat) (ls : Array Slot), n + j = P.length → lv_has ls 3 [(2, .int (nI j)), (1, .int (nI (ce_P (P.take j)))), (0, .ref a)] → W p l e ({ frames := 2, cells := 0, slots := 0, locals := 42 } : Room) s m ([.ref a] : List Value).toArray below meth c s.heap [] 0 0 (MQ below (QcRead (nI (ce_P P))) ([.ref a] : List Value).toArray s 0 0 (fun _ => False)) (F0 m 4 ls []) := by
    intro n
    induction n with
    | zero =>
      intro j ls hj hl
      have hj : j = P.length := by omega
      subst hj
      refine lv_iload_n hx hb dX1_copiedEnd_4 rfl (lv_at hl 0 rfl) ?_
      refine lv_aload_n hx hb dX1_copiedEnd_5 rfl (lv_at hl 2 rfl) ?_
      refine va_get (D := (dC, dI)) (ci := 1) (v := .int (nI P.length)) (C := RX1) (T := TX1) (N := 4) hx hb hts (by decide +kernel) hown hK hP 0 rfl rfl 3 (by decide) (hts (.fieldLink RX1 21 "PieceWays$Pieces" "used" "I") (by decide +kernel)) (fun _ h9 => h9) rfl dX1_copiedEnd_6 ?_
      refine lv_icmp_ge (tgt := 43) hx hb dX1_copiedEnd_9 (by decide) (fun c1 => ?_) (fun c1 => ?_)
      · refine lv_iload_n hx hb dX1_copiedEnd_43 rfl (lv_at hl 1 rfl) ?_
        exact rd_iret hx hb hr hlk (by rw [List.take_length]) dX1_copiedEnd_44
      · exact absurd (nI_le (Nat.le_refl _) (by omega)) c1
    | succ n ih =>
      intro j ls hj hl
      obtain ⟨t, ht⟩ : ∃ t, P[j]? = some t := ⟨_, List.getElem?_eq_getElem (by omega)⟩
      have hkt := hk t (List.mem_of_getElem? ht)
      have hcj := hce j
      have hct := ce_take ht
      refine lv_iload_n hx hb dX1_copiedEnd_4 rfl (lv_at hl 0 rfl) ?_
      refine lv_aload_n hx hb dX1_copiedEnd_5 rfl (lv_at hl 2 rfl) ?_
      refine va_get (D := (dC, dI)) (ci := 1) (v := .int (nI P.length)) (C := RX1) (T := TX1) (N := 4) hx hb hts (by decide +kernel) hown hK hP 0 rfl rfl 3 (by decide) (hts (.fieldLink RX1 21 "PieceWays$Pieces" "used" "I") (by decide +kernel)) (fun _ h9 => h9) rfl dX1_copiedEnd_6 ?_
      refine lv_icmp_ge (tgt := 43) hx hb dX1_copiedEnd_9 (by decide) (fun c1 => ?_) (fun c1 => ?_)
      · exact absurd c1 (nI_ge (by omega) (by omega))
      · refine lv_aload_n hx hb dX1_copiedEnd_12 rfl (lv_at hl 2 rfl) ?_
        refine lv_iload_n hx hb dX1_copiedEnd_13 rfl (lv_at hl 0 rfl) ?_
        refine rd_V (wc := [(a, .inr (1, [.ref h0, .ref h1, .ref h2, .int (nI P.length)])), (h0, .inl (cI, 133, .inl f0))]) (As := [.int (nI j)]) (rest := []) ⟨hx, hb, hml, hown, hts⟩ (c_Pc_kind l dC dI cB cI cL a h0 h1 h2 P f0 f1 f2 (nI j) hL hf) (cwV 1 hts gX1_copiedEnd_X1_kind rfl rfl rfl (by decide +kernel) ⟨(Nat.le_of_ble_eq_true rfl), (Nat.le_of_ble_eq_true rfl)⟩) hK hN (sb_P hP [0, 1] rfl) 0 rfl rfl rfl rfl hl.1 rfl (Nat.le_of_ble_eq_true rfl) dX1_copiedEnd_14 ⟨(Nat.le_of_ble_eq_true rfl), (Nat.le_of_ble_eq_true rfl)⟩ ?_
        rw [ps_in (g := fun t => t.1) ht (by omega)]
        refine lv_iconst (v := 1) hx hb dX1_copiedEnd_17 (by decide) ?_
        refine lv_icmp_ne (tgt := 37) hx hb dX1_copiedEnd_18 (by decide) (fun c2 => ?_) (fun c2 => ?_)
        · have k1 : ¬ t.1 = 1 := fun h9 => c2 (by rw [h9]; rfl)
          refine lv_iinc (v := ((nI j) + 1)) (lv' := [(2, .int ((nI j) + 1)), (1, .int (nI (ce_P (P.take j)))), (0, .ref a)]) hx hb dX1_copiedEnd_37 hl (k := 0) rfl rfl (by decide) rfl (fun ls hl => ?_)
          refine lv_goto (tgt := 4) hx hb dX1_copiedEnd_40 (by decide) ?_
          have hl : lv_has ls 3 [(2, .int (nI (j + 1))), (1, .int (nI (ce_P (P.take (j + 1))))), (0, .ref a)] := by have h9 := lv_sub (l' := [(2, .int ((nI j) + 1)), (1, .int (nI (ce_P (P.take j)))), (0, .ref a)]) hl [0, 1, 2] rfl; rw [nI_1] at h9; rw [hct, if_neg k1]; exact h9
          exact ih (j + 1) ls (by omega) hl
        · have k1 : t.1 = 1 := (nI_eq (by omega) (by omega)).mp c2
          refine lv_iload_n hx hb dX1_copiedEnd_21 rfl (lv_at hl 1 rfl) ?_
          refine lv_aload_n hx hb dX1_copiedEnd_22 rfl (lv_at hl 2 rfl) ?_
          refine lv_iload_n hx hb dX1_copiedEnd_23 rfl (lv_at hl 0 rfl) ?_
          refine rd_V (wc := [(a, .inr (1, [.ref h0, .ref h1, .ref h2, .int (nI P.length)])), (h1, .inl (cI, 133, .inl f1))]) (As := [.int (nI j)]) (rest := [.int (nI (ce_P (P.take j)))]) ⟨hx, hb, hml, hown, hts⟩ (c_Pc_begin l dC dI cB cI cL a h0 h1 h2 P f0 f1 f2 (nI j) hL hf) (cwV 1 hts gX1_copiedEnd_X1_begin rfl rfl rfl (by decide +kernel) ⟨(Nat.le_of_ble_eq_true rfl), (Nat.le_of_ble_eq_true rfl)⟩) hK hN (sb_P hP [0, 2] rfl) 0 rfl rfl rfl rfl hl.1 rfl (Nat.le_of_ble_eq_true rfl) dX1_copiedEnd_24 ⟨(Nat.le_of_ble_eq_true rfl), (Nat.le_of_ble_eq_true rfl)⟩ ?_
          rw [ps_in (g := fun t => t.2.1) ht (by omega)]
          refine lv_aload_n hx hb dX1_copiedEnd_27 rfl (lv_at hl 2 rfl) ?_
          refine lv_iload_n hx hb dX1_copiedEnd_28 rfl (lv_at hl 0 rfl) ?_
          refine rd_V (wc := [(a, .inr (1, [.ref h0, .ref h1, .ref h2, .int (nI P.length)])), (h2, .inl (cI, 133, .inl f2))]) (As := [.int (nI j)]) (rest := [.int (nI t.2.1), .int (nI (ce_P (P.take j)))]) ⟨hx, hb, hml, hown, hts⟩ (c_Pc_length l dC dI cB cI cL a h0 h1 h2 P f0 f1 f2 (nI j) hL hf) (cwV 1 hts gX1_copiedEnd_X1_length rfl rfl rfl (by decide +kernel) ⟨(Nat.le_of_ble_eq_true rfl), (Nat.le_of_ble_eq_true rfl)⟩) hK hN (sb_P hP [0, 3] rfl) 0 rfl rfl rfl rfl hl.1 rfl (Nat.le_of_ble_eq_true rfl) dX1_copiedEnd_29 ⟨(Nat.le_of_ble_eq_true rfl), (Nat.le_of_ble_eq_true rfl)⟩ ?_
          rw [ps_in (g := fun t => t.2.2) ht (by omega)]
          refine lv_iadd hx hb dX1_copiedEnd_32 ?_
          refine va_mmax hx hb (by rw [hml]; exact hl.1.symm) hown (hts (.methodLink RX1 43 Lib.Math.max.name) (by decide +kernel)) (hts (.static Lib.Math.max.name) (by decide +kernel)) (hts (.initialized "java/lang/Math") (by decide +kernel)) (hts (.code Lib.Math.max.name Lib.Math.max.code 2 (some .int)) (by decide +kernel)) (Nat.le_of_ble_eq_true rfl) (Nat.le_of_ble_eq_true rfl) (Nat.le_of_ble_eq_true rfl) (Nat.le_of_ble_eq_true rfl) dX1_copiedEnd_33 ?_
          have emx : (if nI (ce_P (P.take j)) < nI t.2.1 + nI t.2.2 then nI t.2.1 + nI t.2.2 else nI (ce_P (P.take j))) = nI (max (ce_P (P.take j)) (t.2.1 + t.2.2)) := by rw [nI_add, mx_I (by omega) (by omega)]
          rw [emx]
          refine lv_istore_n (lv' := [(1, .int (nI (max (ce_P (P.take j)) (t.2.1 + t.2.2)))), (2, .int (nI j)), (0, .ref a)]) hx hb dX1_copiedEnd_36 rfl hl (by decide) rfl (fun ls hl => ?_)
          refine lv_iinc (v := ((nI j) + 1)) (lv' := [(2, .int ((nI j) + 1)), (1, .int (nI (max (ce_P (P.take j)) (t.2.1 + t.2.2)))), (0, .ref a)]) hx hb dX1_copiedEnd_37 hl (k := 1) rfl rfl (by decide) rfl (fun ls hl => ?_)
          refine lv_goto (tgt := 4) hx hb dX1_copiedEnd_40 (by decide) ?_
          have hl : lv_has ls 3 [(2, .int (nI (j + 1))), (1, .int (nI (ce_P (P.take (j + 1))))), (0, .ref a)] := by have h9 := lv_sub (l' := [(2, .int ((nI j) + 1)), (1, .int (nI (max (ce_P (P.take j)) (t.2.1 + t.2.2)))), (0, .ref a)]) hl [0, 1, 2] rfl; rw [nI_1] at h9; rw [hct, if_pos k1]; exact h9
          exact ih (j + 1) ls (by omega) hl
  refine lv_iconst (v := 0) hx hb dX1_copiedEnd_0 (by decide) ?_
  refine lv_istore_n (lv' := [(1, .int 0), (0, .ref a)]) hx hb dX1_copiedEnd_1 rfl hl (by decide) rfl (fun ls hl => ?_)
  refine lv_iconst (v := 0) hx hb dX1_copiedEnd_2 (by decide) ?_
  refine lv_istore_n (lv' := [(2, .int 0), (1, .int 0), (0, .ref a)]) hx hb dX1_copiedEnd_3 rfl hl (by decide) rfl (fun ls hl => ?_)
  exact loop P.length 0 ls (by omega) hl
end PWPIECES
