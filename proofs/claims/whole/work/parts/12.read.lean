section PWREAD
variable (l : Launch) (dC : Nat → ClassId) (dI : Nat → Nat → Nat) (cB cI cL : ClassId)

set_option maxHeartbeats 4000000 in
set_option maxRecDepth 100000 in
/-- alike(bp, tp) -/
theorem c_Pw_alike (w qb gb qt gt qr gr qp h0 h1 h2 qu gu qo go_ : Nat) (B T : List Int32) (fb ft : Nat → Int32) (bp tp : Nat) (hbp : bp ≤ B.length) (htp : tp ≤ T.length) (hB : B.length ≤ 600) (hT : T.length ≤ 600) (hfb : by_k fb B) (hft : by_k ft T) : rd_M l yX2_alike wsX2_alike ({ frames := 1, cells := 0, slots := 0, locals := 21 } : Room) (dC, dI) vwCl (tk_s cB cI cL) [.ref w, .int (nI bp), .int (nI tp)] [(w, .inr (2, [.ref qb, .ref qt, .ref qr, .ref qp, .ref qu, .ref qo])), (qb, .inr (0, [.ref gb, .int (nI B.length)])), (gb, .inl (cB, 603, .inl fb)), (qt, .inr (0, [.ref gt, .int (nI T.length)])), (gt, .inl (cB, 603, .inl ft))] (nI (lc_p (B.drop bp) (T.drop tp))) := by
  refine rd_ofW (cc := cX2_alike) (maxL := 5) (ret := (some .int)) (by decide) rfl (Nat.le_of_ble_eq_true rfl) ?_
  intro p e s m below meth c ls hx hb hr hml hts hown hlk hP hK hN hl
  have hl : lv_has ls 5 [(0, .ref w), (1, .int (nI bp)), (2, .int (nI tp))] := hl
  have loop : ∀ (mx : Nat), mx = min (B.length - bp) (T.length - tp) → ∀ (k n : Nat) (ls : Array Slot), k + n = mx → lc_p (B.drop bp) (T.drop tp) = n + lc_p (B.drop (bp + n)) (T.drop (tp + n)) → lv_has ls 5 [(4, .int (nI n)), (3, .int (nI mx)), (0, .ref w), (1, .int (nI bp)), (2, .int (nI tp))] → W p l e ({ frames := 1, cells := 0, slots := 0, locals := 21 } : Room) s m ([.ref w, .int (nI bp), .int (nI tp)] : List Value).toArray below meth c s.heap [] 0 0 (MQ below (QcRead (nI (lc_p (B.drop bp) (T.drop tp)))) ([.ref w, .int (nI bp), .int (nI tp)] : List Value).toArray s 0 0 (fun _ => False)) (F0 m 25 ls []) := by
    intro mx hmx k
    induction k with
    | zero =>
      intro n ls hk he hl
      have hk : n = mx := by omega
      subst hk
      refine lv_iload hx hb dX2_alike_25 (lv_at hl 0 rfl) ?_
      refine lv_iload_n hx hb dX2_alike_27 rfl (lv_at hl 1 rfl) ?_
      refine lv_icmp_ge (tgt := 62) hx hb dX2_alike_28 (by decide) (fun c1 => ?_) (fun c1 => ?_)
      · refine lv_iload hx hb dX2_alike_62 (lv_at hl 0 rfl) ?_
        have e0 : lc_p (B.drop (bp + n)) (T.drop (tp + n)) = 0 := by
          rcases Nat.le_total (B.length - bp) (T.length - tp) with h9 | h9
          · exact lc_end1 (by omega)
          · exact lc_end2 (by omega)
        exact rd_iret hx hb hr hlk (by rw [he, e0, Nat.add_zero]) dX2_alike_64
      · exact absurd (nI_le (Nat.le_refl _) (by omega)) c1
    | succ k ih =>
      intro n ls hk he hl
      obtain ⟨y1, hy1⟩ : ∃ y, B[bp + n]? = some y := ⟨_, List.getElem?_eq_getElem (by omega)⟩
      obtain ⟨y2, hy2⟩ : ∃ y, T[tp + n]? = some y := ⟨_, List.getElem?_eq_getElem (by omega)⟩
      refine lv_iload hx hb dX2_alike_25 (lv_at hl 0 rfl) ?_
      refine lv_iload_n hx hb dX2_alike_27 rfl (lv_at hl 1 rfl) ?_
      refine lv_icmp_ge (tgt := 62) hx hb dX2_alike_28 (by decide) (fun c1 => ?_) (fun c1 => ?_)
      · exact absurd c1 (nI_ge (by omega) (by omega))
      · refine lv_aload_n hx hb dX2_alike_31 rfl (lv_at hl 2 rfl) ?_
        refine va_get (D := (dC, dI)) (ci := 2) (v := .ref qb) (C := RX2) (T := TX2) (N := 6) hx hb hts (by decide +kernel) hown hK hP 0 rfl rfl 0 (by decide) (hts (.fieldLink RX2 10 "PieceWays" "base" "LPieceWays$Bytes;") (by decide +kernel)) (fun _ h9 => h9) rfl dX2_alike_32 ?_
        refine lv_iload_n hx hb dX2_alike_35 rfl (lv_at hl 3 rfl) ?_
        refine lv_iload hx hb dX2_alike_36 (lv_at hl 0 rfl) ?_
        refine lv_iadd hx hb dX2_alike_38 ?_
        refine rd_V (wc := [(qb, .inr (0, [.ref gb, .int (nI B.length)])), (gb, .inl (cB, 603, .inl fb))]) (As := [.int ((nI bp) + (nI n))]) (rest := []) ⟨hx, hb, hml, hown, hts⟩ (c_By_at l dC dI cB cI cL qb gb B fb (nI bp + nI n) (by omega) hfb) (cwV 1 hts gX2_alike_X0_at rfl rfl rfl (by decide +kernel) ⟨(Nat.le_of_ble_eq_true rfl), (Nat.le_of_ble_eq_true rfl)⟩) hK hN (sb_P hP [1, 2] rfl) 0 rfl rfl rfl rfl hl.1 rfl (Nat.le_of_ble_eq_true rfl) dX2_alike_39 ⟨(Nat.le_of_ble_eq_true rfl), (Nat.le_of_ble_eq_true rfl)⟩ ?_
        have e_y1 : at_L B (nI bp + nI n) = y1 := by rw [nI_add]; exact at_in hy1 (by omega)
        rw [e_y1]
        refine lv_aload_n hx hb dX2_alike_42 rfl (lv_at hl 2 rfl) ?_
        refine va_get (D := (dC, dI)) (ci := 2) (v := .ref qt) (C := RX2) (T := TX2) (N := 6) hx hb hts (by decide +kernel) hown hK hP 0 rfl rfl 1 (by decide) (hts (.fieldLink RX2 16 "PieceWays" "target" "LPieceWays$Bytes;") (by decide +kernel)) (fun _ h9 => h9) rfl dX2_alike_43 ?_
        refine lv_iload_n hx hb dX2_alike_46 rfl (lv_at hl 4 rfl) ?_
        refine lv_iload hx hb dX2_alike_47 (lv_at hl 0 rfl) ?_
        refine lv_iadd hx hb dX2_alike_49 ?_
        refine rd_V (wc := [(qt, .inr (0, [.ref gt, .int (nI T.length)])), (gt, .inl (cB, 603, .inl ft))]) (As := [.int ((nI tp) + (nI n))]) (rest := [.int y1]) ⟨hx, hb, hml, hown, hts⟩ (c_By_at l dC dI cB cI cL qt gt T ft (nI tp + nI n) (by omega) hft) (cwV 1 hts gX2_alike_X0_at rfl rfl rfl (by decide +kernel) ⟨(Nat.le_of_ble_eq_true rfl), (Nat.le_of_ble_eq_true rfl)⟩) hK hN (sb_P hP [3, 4] rfl) 0 rfl rfl rfl rfl hl.1 rfl (Nat.le_of_ble_eq_true rfl) dX2_alike_50 ⟨(Nat.le_of_ble_eq_true rfl), (Nat.le_of_ble_eq_true rfl)⟩ ?_
        have e_y2 : at_L T (nI tp + nI n) = y2 := by rw [nI_add]; exact at_in hy2 (by omega)
        rw [e_y2]
        refine lv_icmp_ne (tgt := 62) hx hb dX2_alike_53 (by decide) (fun c2 => ?_) (fun c2 => ?_)
        · refine lv_iload hx hb dX2_alike_62 (lv_at hl 0 rfl) ?_
          exact rd_iret hx hb hr hlk (by rw [he, lc_stop hy1 hy2 c2, Nat.add_zero]) dX2_alike_64
        · have e3 := lc_step hy1 (c2 ▸ hy2)
          refine lv_iinc (v := ((nI n) + 1)) (lv' := [(4, .int ((nI n) + 1)), (3, .int (nI mx)), (0, .ref w), (1, .int (nI bp)), (2, .int (nI tp))]) hx hb dX2_alike_56 hl (k := 0) rfl rfl (by decide) rfl (fun ls hl => ?_)
          refine lv_goto (tgt := 25) hx hb dX2_alike_59 (by decide) ?_
          have hl : lv_has ls 5 [(4, .int (nI (n + 1))), (3, .int (nI mx)), (0, .ref w), (1, .int (nI bp)), (2, .int (nI tp))] := by have h9 := lv_sub (l' := [(4, .int ((nI n) + 1)), (3, .int (nI mx)), (0, .ref w), (1, .int (nI bp)), (2, .int (nI tp))]) hl [0, 1, 2, 3, 4] rfl; rw [nI_1] at h9; exact h9
          exact ih (n + 1) ls (by omega) (by rw [he, e3]; show n + (lc_p (B.drop (bp + n + 1)) (T.drop (tp + n + 1)) + 1) = n + 1 + lc_p (B.drop (bp + n + 1)) (T.drop (tp + n + 1)); omega) hl
  refine lv_aload_n hx hb dX2_alike_0 rfl (lv_at hl 0 rfl) ?_
  refine va_get (D := (dC, dI)) (ci := 2) (v := .ref qb) (C := RX2) (T := TX2) (N := 6) hx hb hts (by decide +kernel) hown hK hP 0 rfl rfl 0 (by decide) (hts (.fieldLink RX2 10 "PieceWays" "base" "LPieceWays$Bytes;") (by decide +kernel)) (fun _ h9 => h9) rfl dX2_alike_1 ?_
  refine rd_V (wc := [(qb, .inr (0, [.ref gb, .int (nI B.length)]))]) (As := []) (rest := []) ⟨hx, hb, hml, hown, hts⟩ (c_By_length l dC dI cB cI cL qb gb (nI B.length)) (cwV 0 hts gX2_alike_X0_length rfl rfl rfl (by decide +kernel) ⟨(Nat.le_of_ble_eq_true rfl), (Nat.le_of_ble_eq_true rfl)⟩) hK hN (sb_P hP [1] rfl) 0 rfl rfl rfl rfl hl.1 rfl (Nat.le_of_ble_eq_true rfl) dX2_alike_4 ⟨(Nat.le_of_ble_eq_true rfl), (Nat.le_of_ble_eq_true rfl)⟩ ?_
  refine lv_iload_n hx hb dX2_alike_7 rfl (lv_at hl 1 rfl) ?_
  refine lv_isub hx hb dX2_alike_8 ?_
  refine lv_aload_n hx hb dX2_alike_9 rfl (lv_at hl 0 rfl) ?_
  refine va_get (D := (dC, dI)) (ci := 2) (v := .ref qt) (C := RX2) (T := TX2) (N := 6) hx hb hts (by decide +kernel) hown hK hP 0 rfl rfl 1 (by decide) (hts (.fieldLink RX2 16 "PieceWays" "target" "LPieceWays$Bytes;") (by decide +kernel)) (fun _ h9 => h9) rfl dX2_alike_10 ?_
  refine rd_V (wc := [(qt, .inr (0, [.ref gt, .int (nI T.length)]))]) (As := []) (rest := [.int ((nI B.length) - (nI bp))]) ⟨hx, hb, hml, hown, hts⟩ (c_By_length l dC dI cB cI cL qt gt (nI T.length)) (cwV 0 hts gX2_alike_X0_length rfl rfl rfl (by decide +kernel) ⟨(Nat.le_of_ble_eq_true rfl), (Nat.le_of_ble_eq_true rfl)⟩) hK hN (sb_P hP [3] rfl) 0 rfl rfl rfl rfl hl.1 rfl (Nat.le_of_ble_eq_true rfl) dX2_alike_13 ⟨(Nat.le_of_ble_eq_true rfl), (Nat.le_of_ble_eq_true rfl)⟩ ?_
  refine lv_iload_n hx hb dX2_alike_16 rfl (lv_at hl 2 rfl) ?_
  refine lv_isub hx hb dX2_alike_17 ?_
  refine va_mmin hx hb (by rw [hml]; exact hl.1.symm) hown (hts (.methodLink RX2 100 Lib.Math.min.name) (by decide +kernel)) (hts (.static Lib.Math.min.name) (by decide +kernel)) (hts (.initialized "java/lang/Math") (by decide +kernel)) (hts (.code Lib.Math.min.name Lib.Math.min.code 2 (some .int)) (by decide +kernel)) (Nat.le_of_ble_eq_true rfl) (Nat.le_of_ble_eq_true rfl) (Nat.le_of_ble_eq_true rfl) (Nat.le_of_ble_eq_true rfl) dX2_alike_18 ?_
  have emn : (if nI T.length - nI tp < nI B.length - nI bp then nI T.length - nI tp else nI B.length - nI bp) = nI (min (B.length - bp) (T.length - tp)) := by rw [pk_sub htp, pk_sub hbp, mn_I (by omega) (by omega)]
  rw [emn]
  refine lv_istore_n (lv' := [(3, .int (nI (min (B.length - bp) (T.length - tp)))), (0, .ref w), (1, .int (nI bp)), (2, .int (nI tp))]) hx hb dX2_alike_21 rfl hl (by decide) rfl (fun ls hl => ?_)
  refine lv_iconst (v := 0) hx hb dX2_alike_22 (by decide) ?_
  refine lv_istore (lv' := [(4, .int 0), (3, .int (nI (min (B.length - bp) (T.length - tp)))), (0, .ref w), (1, .int (nI bp)), (2, .int (nI tp))]) hx hb dX2_alike_23 hl (by decide) rfl (fun ls hl => ?_)
  exact loop _ rfl (min (B.length - bp) (T.length - tp)) 0 ls (by omega) (by rw [Nat.add_zero, Nat.add_zero, Nat.zero_add]) (lv_sub hl [0, 1, 2, 3, 4] rfl)
set_option maxHeartbeats 4000000 in
set_option maxRecDepth 100000 in
/-- longestBlock(pl) -/
theorem c_Pw_longestBlock (w qb gb qt gt qr gr qp h0 h1 h2 qu gu qo go_ : Nat) (B T : List Int32) (fb ft : Nat → Int32) (pl : Nat) (hpl : pl ≤ T.length) (hB : B.length ≤ 600) (hT : T.length ≤ 600) (hfb : by_k fb B) (hft : by_k ft T) : rd_M l yX2_longestBlock wsX2_longestBlock ({ frames := 2, cells := 0, slots := 0, locals := 45 } : Room) (dC, dI) vwCl (tk_s cB cI cL) [.ref w, .int (nI pl)] [(w, .inr (2, [.ref qb, .ref qt, .ref qr, .ref qp, .ref qu, .ref qo])), (qb, .inr (0, [.ref gb, .int (nI B.length)])), (gb, .inl (cB, 603, .inl fb)), (qt, .inr (0, [.ref gt, .int (nI T.length)])), (gt, .inl (cB, 603, .inl ft))] (ob_I (lg_S B T pl (B.length / 8)).1) := by
  refine rd_ofW (cc := cX2_longestBlock) (maxL := 6) (ret := (some .int)) (by decide) rfl (Nat.le_of_ble_eq_true rfl) ?_
  intro p e s m below meth c ls hx hb hr hml hts hown hlk hP hK hN hl
  have hl : lv_has ls 6 [(0, .ref w), (1, .int (nI pl))] := hl
  have loop : ∀ (n k : Nat) (ls : Array Slot), n + k = B.length / 8 → lv_has ls 6 [(4, .int (nI (8 * k))), (3, .int (nI (lg_S B T pl k).2)), (2, .int (ob_I (lg_S B T pl k).1)), (0, .ref w), (1, .int (nI pl))] → W p l e ({ frames := 2, cells := 0, slots := 0, locals := 45 } : Room) s m ([.ref w, .int (nI pl)] : List Value).toArray below meth c s.heap [] 0 0 (MQ below (QcRead (ob_I (lg_S B T pl (B.length / 8)).1)) ([.ref w, .int (nI pl)] : List Value).toArray s 0 0 (fun _ => False)) (F0 m 8 ls []) := by
    intro n
    induction n with
    | zero =>
      intro k ls hk hl
      have hk : k = B.length / 8 := by omega
      refine lv_iload hx hb dX2_longestBlock_8 (lv_at hl 0 rfl) ?_
      refine lv_bipush (v := 8) hx hb dX2_longestBlock_10 (by decide) ?_
      refine lv_iadd hx hb dX2_longestBlock_12 ?_
      refine lv_aload_n hx hb dX2_longestBlock_13 rfl (lv_at hl 3 rfl) ?_
      refine va_get (D := (dC, dI)) (ci := 2) (v := .ref qb) (C := RX2) (T := TX2) (N := 6) hx hb hts (by decide +kernel) hown hK hP 0 rfl rfl 0 (by decide) (hts (.fieldLink RX2 10 "PieceWays" "base" "LPieceWays$Bytes;") (by decide +kernel)) (fun _ h9 => h9) rfl dX2_longestBlock_14 ?_
      refine rd_V (wc := [(qb, .inr (0, [.ref gb, .int (nI B.length)]))]) (As := []) (rest := [.int ((nI (8 * k)) + 8)]) ⟨hx, hb, hml, hown, hts⟩ (c_By_length l dC dI cB cI cL qb gb (nI B.length)) (cwV 0 hts gX2_longestBlock_X0_length rfl rfl rfl (by decide +kernel) ⟨(Nat.le_of_ble_eq_true rfl), (Nat.le_of_ble_eq_true rfl)⟩) hK hN (sb_P hP [1] rfl) 0 rfl rfl rfl rfl hl.1 rfl (Nat.le_of_ble_eq_true rfl) dX2_longestBlock_17 ⟨(Nat.le_of_ble_eq_true rfl), (Nat.le_of_ble_eq_true rfl)⟩ ?_
      refine lv_icmp_gt (tgt := 50) hx hb dX2_longestBlock_20 (by decide) (fun c1 => ?_) (fun c1 => ?_)
      · refine lv_iload_n hx hb dX2_longestBlock_50 rfl (lv_at hl 2 rfl) ?_
        exact rd_iret hx hb hr hlk (by rw [hk]) dX2_longestBlock_51
      · exact absurd (by rw [show (8 : Int32) = nI 8 from rfl, nI_add]; exact nI_lt (by omega) (by omega)) c1
    | succ n ih =>
      intro k ls hk hl
      have h8 : 8 * k + 8 ≤ B.length := by omega
      have hlm := lg_most B T pl k
      have hlc := lc_le (B.drop (8 * k)) (T.drop pl)
      rw [List.length_drop, List.length_drop] at hlc
      have hm6 : (lg_S B T pl k).2 ≤ 600 := by
        rcases lg_ok B T pl k with ⟨-, h9⟩ | ⟨b, -, h9, -, -⟩
        · omega
        · rw [h9]; have h7 := lc_le (B.drop b) (T.drop pl); rw [List.length_drop, List.length_drop] at h7; omega
      refine lv_iload hx hb dX2_longestBlock_8 (lv_at hl 0 rfl) ?_
      refine lv_bipush (v := 8) hx hb dX2_longestBlock_10 (by decide) ?_
      refine lv_iadd hx hb dX2_longestBlock_12 ?_
      refine lv_aload_n hx hb dX2_longestBlock_13 rfl (lv_at hl 3 rfl) ?_
      refine va_get (D := (dC, dI)) (ci := 2) (v := .ref qb) (C := RX2) (T := TX2) (N := 6) hx hb hts (by decide +kernel) hown hK hP 0 rfl rfl 0 (by decide) (hts (.fieldLink RX2 10 "PieceWays" "base" "LPieceWays$Bytes;") (by decide +kernel)) (fun _ h9 => h9) rfl dX2_longestBlock_14 ?_
      refine rd_V (wc := [(qb, .inr (0, [.ref gb, .int (nI B.length)]))]) (As := []) (rest := [.int ((nI (8 * k)) + 8)]) ⟨hx, hb, hml, hown, hts⟩ (c_By_length l dC dI cB cI cL qb gb (nI B.length)) (cwV 0 hts gX2_longestBlock_X0_length rfl rfl rfl (by decide +kernel) ⟨(Nat.le_of_ble_eq_true rfl), (Nat.le_of_ble_eq_true rfl)⟩) hK hN (sb_P hP [1] rfl) 0 rfl rfl rfl rfl hl.1 rfl (Nat.le_of_ble_eq_true rfl) dX2_longestBlock_17 ⟨(Nat.le_of_ble_eq_true rfl), (Nat.le_of_ble_eq_true rfl)⟩ ?_
      refine lv_icmp_gt (tgt := 50) hx hb dX2_longestBlock_20 (by decide) (fun c1 => ?_) (fun c1 => ?_)
      · exact absurd c1 (by rw [show (8 : Int32) = nI 8 from rfl, nI_add]; exact nI_nlt (by omega) (by omega))
      · refine lv_aload_n hx hb dX2_longestBlock_23 rfl (lv_at hl 3 rfl) ?_
        refine lv_iload hx hb dX2_longestBlock_24 (lv_at hl 0 rfl) ?_
        refine lv_iload_n hx hb dX2_longestBlock_26 rfl (lv_at hl 4 rfl) ?_
        refine rd_V (wc := [(w, .inr (2, [.ref qb, .ref qt, .ref qr, .ref qp, .ref qu, .ref qo])), (qb, .inr (0, [.ref gb, .int (nI B.length)])), (gb, .inl (cB, 603, .inl fb)), (qt, .inr (0, [.ref gt, .int (nI T.length)])), (gt, .inl (cB, 603, .inl ft))]) (As := [.int (nI (8 * k)), .int (nI pl)]) (rest := []) ⟨hx, hb, hml, hown, hts⟩ (c_Pw_alike l dC dI cB cI cL w qb gb qt gt qr gr qp h0 h1 h2 qu gu qo go_ B T fb ft (8 * k) pl (by omega) hpl hB hT hfb hft) (cwV 2 hts gX2_longestBlock_X2_alike rfl rfl rfl (by decide +kernel) ⟨(Nat.le_of_ble_eq_true rfl), (Nat.le_of_ble_eq_true rfl)⟩) hK hN (sb_P hP [0, 1, 2, 3, 4] rfl) 0 rfl rfl rfl rfl hl.1 rfl (Nat.le_of_ble_eq_true rfl) dX2_longestBlock_27 ⟨(Nat.le_of_ble_eq_true rfl), (Nat.le_of_ble_eq_true rfl)⟩ ?_
        refine lv_istore (lv' := [(5, .int (nI (lc_p (B.drop (8 * k)) (T.drop pl)))), (4, .int (nI (8 * k))), (3, .int (nI (lg_S B T pl k).2)), (2, .int (ob_I (lg_S B T pl k).1)), (0, .ref w), (1, .int (nI pl))]) hx hb dX2_longestBlock_30 hl (by decide) rfl (fun ls hl => ?_)
        refine lv_iload hx hb dX2_longestBlock_32 (lv_at hl 0 rfl) ?_
        refine lv_iload_n hx hb dX2_longestBlock_34 rfl (lv_at hl 2 rfl) ?_
        refine lv_icmp_le (tgt := 44) hx hb dX2_longestBlock_35 (by decide) (fun c2 => ?_) (fun c2 => ?_)
        · have e4 : lg_S B T pl (k + 1) = lg_S B T pl k := lg_keep (by have := (nI_leI (by omega) (by omega)).mp c2; omega)
          refine lv_iinc (v := ((nI (8 * k)) + 8)) (lv' := [(4, .int ((nI (8 * k)) + 8)), (5, .int (nI (lc_p (B.drop (8 * k)) (T.drop pl)))), (3, .int (nI (lg_S B T pl k).2)), (2, .int (ob_I (lg_S B T pl k).1)), (0, .ref w), (1, .int (nI pl))]) hx hb dX2_longestBlock_44 hl (k := 1) rfl rfl (by decide) rfl (fun ls hl => ?_)
          refine lv_goto (tgt := 8) hx hb dX2_longestBlock_47 (by decide) ?_
          have h9 : lv_has ls 6 [(4, .int ((nI (8 * k)) + 8)), (3, .int (nI (lg_S B T pl k).2)), (2, .int (ob_I (lg_S B T pl k).1)), (0, .ref w), (1, .int (nI pl))] := lv_sub hl [0, 2, 3, 4, 5] rfl
          refine ih (k + 1) ls (by omega) ?_
          rw [e4, show 8 * (k + 1) = 8 * k + 8 from rfl, ← nI_add]
          exact h9
        · have e4 : lg_S B T pl (k + 1) = (some (8 * k), lc_p (B.drop (8 * k)) (T.drop pl)) := lg_take (by rcases Nat.lt_or_ge (lg_S B T pl k).2 (lc_p (B.drop (8 * k)) (T.drop pl)) with h9 | h9; exact h9; exact absurd (nI_le h9 (by omega)) c2)
          refine lv_iload hx hb dX2_longestBlock_38 (lv_at hl 0 rfl) ?_
          refine lv_istore_n (lv' := [(3, .int (nI (lc_p (B.drop (8 * k)) (T.drop pl)))), (5, .int (nI (lc_p (B.drop (8 * k)) (T.drop pl)))), (4, .int (nI (8 * k))), (2, .int (ob_I (lg_S B T pl k).1)), (0, .ref w), (1, .int (nI pl))]) hx hb dX2_longestBlock_40 rfl hl (by decide) rfl (fun ls hl => ?_)
          refine lv_iload hx hb dX2_longestBlock_41 (lv_at hl 2 rfl) ?_
          refine lv_istore_n (lv' := [(2, .int (nI (8 * k))), (3, .int (nI (lc_p (B.drop (8 * k)) (T.drop pl)))), (5, .int (nI (lc_p (B.drop (8 * k)) (T.drop pl)))), (4, .int (nI (8 * k))), (0, .ref w), (1, .int (nI pl))]) hx hb dX2_longestBlock_43 rfl hl (by decide) rfl (fun ls hl => ?_)
          refine lv_iinc (v := ((nI (8 * k)) + 8)) (lv' := [(4, .int ((nI (8 * k)) + 8)), (2, .int (nI (8 * k))), (3, .int (nI (lc_p (B.drop (8 * k)) (T.drop pl)))), (5, .int (nI (lc_p (B.drop (8 * k)) (T.drop pl)))), (0, .ref w), (1, .int (nI pl))]) hx hb dX2_longestBlock_44 hl (k := 3) rfl rfl (by decide) rfl (fun ls hl => ?_)
          refine lv_goto (tgt := 8) hx hb dX2_longestBlock_47 (by decide) ?_
          have h9 : lv_has ls 6 [(4, .int ((nI (8 * k)) + 8)), (3, .int (nI (lc_p (B.drop (8 * k)) (T.drop pl)))), (2, .int (nI (8 * k))), (0, .ref w), (1, .int (nI pl))] := lv_sub hl [0, 2, 1, 4, 5] rfl
          refine ih (k + 1) ls (by omega) ?_
          rw [e4, show 8 * (k + 1) = 8 * k + 8 from rfl, ← nI_add]
          exact h9
  refine lv_iconst (v := (-1)) hx hb dX2_longestBlock_0 (by decide) ?_
  refine lv_istore_n (lv' := [(2, .int (-1)), (0, .ref w), (1, .int (nI pl))]) hx hb dX2_longestBlock_1 rfl hl (by decide) rfl (fun ls hl => ?_)
  refine lv_bipush (v := 7) hx hb dX2_longestBlock_2 (by decide) ?_
  refine lv_istore_n (lv' := [(3, .int 7), (2, .int (-1)), (0, .ref w), (1, .int (nI pl))]) hx hb dX2_longestBlock_4 rfl hl (by decide) rfl (fun ls hl => ?_)
  refine lv_iconst (v := 0) hx hb dX2_longestBlock_5 (by decide) ?_
  refine lv_istore (lv' := [(4, .int 0), (3, .int 7), (2, .int (-1)), (0, .ref w), (1, .int (nI pl))]) hx hb dX2_longestBlock_6 hl (by decide) rfl (fun ls hl => ?_)
  exact loop (B.length / 8) 0 ls (by omega) (lv_sub hl [0, 1, 2, 3, 4] rfl)
set_option maxHeartbeats 4000000 in
set_option maxRecDepth 100000 in
/-- size() -/
theorem c_Pw_size (w qb gb qt gt qr gr qp h0 h1 h2 qu gu qo go_ : Nat) (O : List Int32) : rd_M l yX2_size wsX2_size ({ frames := 1, cells := 0, slots := 0, locals := 20 } : Room) (dC, dI) vwCl (tk_s cB cI cL) [.ref w] [(w, .inr (2, [.ref qb, .ref qt, .ref qr, .ref qp, .ref qu, .ref qo])), (qo, .inr (0, [.ref go_, .int (nI O.length)]))] (nI O.length) := by
  refine rd_ofW (cc := cX2_size) (maxL := 1) (ret := (some .int)) (by decide) rfl (Nat.le_of_ble_eq_true rfl) ?_
  intro p e s m below meth c ls hx hb hr hml hts hown hlk hP hK hN hl
  have hl : lv_has ls 1 [(0, .ref w)] := hl
  refine lv_aload_n hx hb dX2_size_0 rfl (lv_at hl 0 rfl) ?_
  refine va_get (D := (dC, dI)) (ci := 2) (v := .ref qo) (C := RX2) (T := TX2) (N := 6) hx hb hts (by decide +kernel) hown hK hP 0 rfl rfl 5 (by decide) (hts (.fieldLink RX2 32 "PieceWays" "row" "LPieceWays$Bytes;") (by decide +kernel)) (fun _ h9 => h9) rfl dX2_size_1 ?_
  refine rd_V (wc := [(qo, .inr (0, [.ref go_, .int (nI O.length)]))]) (As := []) (rest := []) ⟨hx, hb, hml, hown, hts⟩ (c_By_length l dC dI cB cI cL qo go_ (nI O.length)) (cwV 0 hts gX2_size_X0_length rfl rfl rfl (by decide +kernel) ⟨(Nat.le_of_ble_eq_true rfl), (Nat.le_of_ble_eq_true rfl)⟩) hK hN (sb_P hP [1] rfl) 0 rfl rfl rfl rfl hl.1 rfl (Nat.le_of_ble_eq_true rfl) dX2_size_4 ⟨(Nat.le_of_ble_eq_true rfl), (Nat.le_of_ble_eq_true rfl)⟩ ?_
  exact rd_iret hx hb hr hlk (rfl) dX2_size_7
set_option maxHeartbeats 4000000 in
set_option maxRecDepth 100000 in
/-- way(x) -/
theorem c_Pw_way (w qb gb qt gt qr gr qp h0 h1 h2 qu gu qo go_ : Nat) (O : List Int32) (fo : Nat → Int32) (x : Int32) (hL : O.length ≤ 603) (hf : by_k fo O) : rd_M l yX2_way wsX2_way ({ frames := 1, cells := 0, slots := 0, locals := 21 } : Room) (dC, dI) vwCl (tk_s cB cI cL) [.ref w, .int x] [(w, .inr (2, [.ref qb, .ref qt, .ref qr, .ref qp, .ref qu, .ref qo])), (qo, .inr (0, [.ref go_, .int (nI O.length)])), (go_, .inl (cB, 603, .inl fo))] (at_L O x) := by
  refine rd_ofW (cc := cX2_way) (maxL := 2) (ret := (some .int)) (by decide) rfl (Nat.le_of_ble_eq_true rfl) ?_
  intro p e s m below meth c ls hx hb hr hml hts hown hlk hP hK hN hl
  have hl : lv_has ls 2 [(0, .ref w), (1, .int x)] := hl
  refine lv_aload_n hx hb dX2_way_0 rfl (lv_at hl 0 rfl) ?_
  refine va_get (D := (dC, dI)) (ci := 2) (v := .ref qo) (C := RX2) (T := TX2) (N := 6) hx hb hts (by decide +kernel) hown hK hP 0 rfl rfl 5 (by decide) (hts (.fieldLink RX2 32 "PieceWays" "row" "LPieceWays$Bytes;") (by decide +kernel)) (fun _ h9 => h9) rfl dX2_way_1 ?_
  refine lv_iload_n hx hb dX2_way_4 rfl (lv_at hl 1 rfl) ?_
  refine rd_V (wc := [(qo, .inr (0, [.ref go_, .int (nI O.length)])), (go_, .inl (cB, 603, .inl fo))]) (As := [.int x]) (rest := []) ⟨hx, hb, hml, hown, hts⟩ (c_By_at l dC dI cB cI cL qo go_ O fo x hL hf) (cwV 1 hts gX2_way_X0_at rfl rfl rfl (by decide +kernel) ⟨(Nat.le_of_ble_eq_true rfl), (Nat.le_of_ble_eq_true rfl)⟩) hK hN (sb_P hP [1, 2] rfl) 0 rfl rfl rfl rfl hl.1 rfl (Nat.le_of_ble_eq_true rfl) dX2_way_5 ⟨(Nat.le_of_ble_eq_true rfl), (Nat.le_of_ble_eq_true rfl)⟩ ?_
  exact rd_iret hx hb hr hlk (rfl) dX2_way_8
set_option maxHeartbeats 4000000 in
set_option maxRecDepth 100000 in
/-- result(x) -/
theorem c_Pw_result (w qb gb qt gt qr gr qp h0 h1 h2 qu gu qo go_ : Nat) (Z : List Int32) (fr : Nat → Int32) (x : Int32) (hL : Z.length ≤ 603) (hf : by_k fr Z) : rd_M l yX2_result wsX2_result ({ frames := 1, cells := 0, slots := 0, locals := 21 } : Room) (dC, dI) vwCl (tk_s cB cI cL) [.ref w, .int x] [(w, .inr (2, [.ref qb, .ref qt, .ref qr, .ref qp, .ref qu, .ref qo])), (qr, .inr (0, [.ref gr, .int (nI Z.length)])), (gr, .inl (cB, 603, .inl fr))] (at_L Z x) := by
  refine rd_ofW (cc := cX2_result) (maxL := 2) (ret := (some .int)) (by decide) rfl (Nat.le_of_ble_eq_true rfl) ?_
  intro p e s m below meth c ls hx hb hr hml hts hown hlk hP hK hN hl
  have hl : lv_has ls 2 [(0, .ref w), (1, .int x)] := hl
  refine lv_aload_n hx hb dX2_result_0 rfl (lv_at hl 0 rfl) ?_
  refine va_get (D := (dC, dI)) (ci := 2) (v := .ref qr) (C := RX2) (T := TX2) (N := 6) hx hb hts (by decide +kernel) hown hK hP 0 rfl rfl 2 (by decide) (hts (.fieldLink RX2 19 "PieceWays" "result" "LPieceWays$Bytes;") (by decide +kernel)) (fun _ h9 => h9) rfl dX2_result_1 ?_
  refine lv_iload_n hx hb dX2_result_4 rfl (lv_at hl 1 rfl) ?_
  refine rd_V (wc := [(qr, .inr (0, [.ref gr, .int (nI Z.length)])), (gr, .inl (cB, 603, .inl fr))]) (As := [.int x]) (rest := []) ⟨hx, hb, hml, hown, hts⟩ (c_By_at l dC dI cB cI cL qr gr Z fr x hL hf) (cwV 1 hts gX2_result_X0_at rfl rfl rfl (by decide +kernel) ⟨(Nat.le_of_ble_eq_true rfl), (Nat.le_of_ble_eq_true rfl)⟩) hK hN (sb_P hP [1, 2] rfl) 0 rfl rfl rfl rfl hl.1 rfl (Nat.le_of_ble_eq_true rfl) dX2_result_5 ⟨(Nat.le_of_ble_eq_true rfl), (Nat.le_of_ble_eq_true rfl)⟩ ?_
  exact rd_iret hx hb hr hlk (rfl) dX2_result_8
set_option maxHeartbeats 4000000 in
set_option maxRecDepth 100000 in
/-- count(x) -/
theorem c_Pw_count (w qb gb qt gt qr gr qp h0 h1 h2 qu gu qo go_ : Nat) (B T Z : List Int32) (x : Int32) : rd_M l yX2_count wsX2_count ({ frames := 1, cells := 0, slots := 0, locals := 20 } : Room) (dC, dI) vwCl (tk_s cB cI cL) [.ref w, .int x] [(w, .inr (2, [.ref qb, .ref qt, .ref qr, .ref qp, .ref qu, .ref qo])), (qb, .inr (0, [.ref gb, .int (nI B.length)])), (qt, .inr (0, [.ref gt, .int (nI T.length)])), (qr, .inr (0, [.ref gr, .int (nI Z.length)]))] (ct_I B T Z x) := by
  refine rd_ofW (cc := cX2_count) (maxL := 2) (ret := (some .int)) (by decide) rfl (Nat.le_of_ble_eq_true rfl) ?_
  intro p e s m below meth c ls hx hb hr hml hts hown hlk hP hK hN hl
  have hl : lv_has ls 2 [(0, .ref w), (1, .int x)] := hl
  refine lv_iload_n hx hb dX2_count_0 rfl (lv_at hl 1 rfl) ?_
  rcases sw_3 x with rfl | rfl | rfl | ⟨q0, q1, q2, hq⟩
  · refine lv_tableIn (tgt := 28) hx hb dX2_count_1 (by decide) (by decide) rfl (by decide) ?_
    refine lv_aload_n hx hb dX2_count_28 rfl (lv_at hl 0 rfl) ?_
    refine va_get (D := (dC, dI)) (ci := 2) (v := .ref qb) (C := RX2) (T := TX2) (N := 6) hx hb hts (by decide +kernel) hown hK hP 0 rfl rfl 0 (by decide) (hts (.fieldLink RX2 10 "PieceWays" "base" "LPieceWays$Bytes;") (by decide +kernel)) (fun _ h9 => h9) rfl dX2_count_29 ?_
    refine rd_V (wc := [(qb, .inr (0, [.ref gb, .int (nI B.length)]))]) (As := []) (rest := []) ⟨hx, hb, hml, hown, hts⟩ (c_By_length l dC dI cB cI cL qb gb (nI B.length)) (cwV 0 hts gX2_count_X0_length rfl rfl rfl (by decide +kernel) ⟨(Nat.le_of_ble_eq_true rfl), (Nat.le_of_ble_eq_true rfl)⟩) hK hN (sb_P hP [1] rfl) 0 rfl rfl rfl rfl hl.1 rfl (Nat.le_of_ble_eq_true rfl) dX2_count_32 ⟨(Nat.le_of_ble_eq_true rfl), (Nat.le_of_ble_eq_true rfl)⟩ ?_
    exact rd_iret hx hb hr hlk (rfl) dX2_count_35
  · refine lv_tableIn (tgt := 36) hx hb dX2_count_1 (by decide) (by decide) rfl (by decide) ?_
    refine lv_aload_n hx hb dX2_count_36 rfl (lv_at hl 0 rfl) ?_
    refine va_get (D := (dC, dI)) (ci := 2) (v := .ref qt) (C := RX2) (T := TX2) (N := 6) hx hb hts (by decide +kernel) hown hK hP 0 rfl rfl 1 (by decide) (hts (.fieldLink RX2 16 "PieceWays" "target" "LPieceWays$Bytes;") (by decide +kernel)) (fun _ h9 => h9) rfl dX2_count_37 ?_
    refine rd_V (wc := [(qt, .inr (0, [.ref gt, .int (nI T.length)]))]) (As := []) (rest := []) ⟨hx, hb, hml, hown, hts⟩ (c_By_length l dC dI cB cI cL qt gt (nI T.length)) (cwV 0 hts gX2_count_X0_length rfl rfl rfl (by decide +kernel) ⟨(Nat.le_of_ble_eq_true rfl), (Nat.le_of_ble_eq_true rfl)⟩) hK hN (sb_P hP [2] rfl) 0 rfl rfl rfl rfl hl.1 rfl (Nat.le_of_ble_eq_true rfl) dX2_count_40 ⟨(Nat.le_of_ble_eq_true rfl), (Nat.le_of_ble_eq_true rfl)⟩ ?_
    exact rd_iret hx hb hr hlk (rfl) dX2_count_43
  · refine lv_tableIn (tgt := 44) hx hb dX2_count_1 (by decide) (by decide) rfl (by decide) ?_
    refine lv_aload_n hx hb dX2_count_44 rfl (lv_at hl 0 rfl) ?_
    refine va_get (D := (dC, dI)) (ci := 2) (v := .ref qr) (C := RX2) (T := TX2) (N := 6) hx hb hts (by decide +kernel) hown hK hP 0 rfl rfl 2 (by decide) (hts (.fieldLink RX2 19 "PieceWays" "result" "LPieceWays$Bytes;") (by decide +kernel)) (fun _ h9 => h9) rfl dX2_count_45 ?_
    refine rd_V (wc := [(qr, .inr (0, [.ref gr, .int (nI Z.length)]))]) (As := []) (rest := []) ⟨hx, hb, hml, hown, hts⟩ (c_By_length l dC dI cB cI cL qr gr (nI Z.length)) (cwV 0 hts gX2_count_X0_length rfl rfl rfl (by decide +kernel) ⟨(Nat.le_of_ble_eq_true rfl), (Nat.le_of_ble_eq_true rfl)⟩) hK hN (sb_P hP [3] rfl) 0 rfl rfl rfl rfl hl.1 rfl (Nat.le_of_ble_eq_true rfl) dX2_count_48 ⟨(Nat.le_of_ble_eq_true rfl), (Nat.le_of_ble_eq_true rfl)⟩ ?_
    exact rd_iret hx hb hr hlk (rfl) dX2_count_51
  · refine lv_tableOut (tgt := 52) hx hb dX2_count_1 hq (by decide) ?_
    refine lv_iconst (v := (-1)) hx hb dX2_count_52 (by decide) ?_
    exact rd_iret hx hb hr hlk ((ct_no q0 q1 q2).symm) dX2_count_53
set_option maxHeartbeats 4000000 in
set_option maxRecDepth 100000 in
/-- piece(y, x) -/
theorem c_Pw_piece (w qb gb qt gt qr gr qp h0 h1 h2 qu gu qo go_ : Nat) (P : List (Nat × Nat × Nat)) (f0 f1 f2 : Nat → Int32) (y x : Int32) (hL : P.length ≤ 133) (hf : pc_k f0 f1 f2 P) : rd_M l yX2_piece wsX2_piece ({ frames := 2, cells := 0, slots := 0, locals := 42 } : Room) (dC, dI) vwCl (tk_s cB cI cL) [.ref w, .int y, .int x] [(w, .inr (2, [.ref qb, .ref qt, .ref qr, .ref qp, .ref qu, .ref qo])), (qp, .inr (1, [.ref h0, .ref h1, .ref h2, .int (nI P.length)])), (h0, .inl (cI, 133, .inl f0)), (h1, .inl (cI, 133, .inl f1)), (h2, .inl (cI, 133, .inl f2))] (pi_I P y x) := by
  refine rd_ofW (cc := cX2_piece) (maxL := 3) (ret := (some .int)) (by decide) rfl (Nat.le_of_ble_eq_true rfl) ?_
  intro p e s m below meth c ls hx hb hr hml hts hown hlk hP hK hN hl
  have hl : lv_has ls 3 [(0, .ref w), (1, .int y), (2, .int x)] := hl
  refine lv_iload_n hx hb dX2_piece_0 rfl (lv_at hl 2 rfl) ?_
  rcases sw_3 x with rfl | rfl | rfl | ⟨q0, q1, q2, hq⟩
  · refine lv_tableIn (tgt := 28) hx hb dX2_piece_1 (by decide) (by decide) rfl (by decide) ?_
    refine lv_aload_n hx hb dX2_piece_28 rfl (lv_at hl 0 rfl) ?_
    refine va_get (D := (dC, dI)) (ci := 2) (v := .ref qp) (C := RX2) (T := TX2) (N := 6) hx hb hts (by decide +kernel) hown hK hP 0 rfl rfl 3 (by decide) (hts (.fieldLink RX2 25 "PieceWays" "pieces" "LPieceWays$Pieces;") (by decide +kernel)) (fun _ h9 => h9) rfl dX2_piece_29 ?_
    refine lv_iload_n hx hb dX2_piece_32 rfl (lv_at hl 1 rfl) ?_
    refine rd_V (wc := [(qp, .inr (1, [.ref h0, .ref h1, .ref h2, .int (nI P.length)])), (h0, .inl (cI, 133, .inl f0))]) (As := [.int y]) (rest := []) ⟨hx, hb, hml, hown, hts⟩ (c_Pc_kind l dC dI cB cI cL qp h0 h1 h2 P f0 f1 f2 y hL hf) (cwV 1 hts gX2_piece_X1_kind rfl rfl rfl (by decide +kernel) ⟨(Nat.le_of_ble_eq_true rfl), (Nat.le_of_ble_eq_true rfl)⟩) hK hN (sb_P hP [1, 2] rfl) 0 rfl rfl rfl rfl hl.1 rfl (Nat.le_of_ble_eq_true rfl) dX2_piece_33 ⟨(Nat.le_of_ble_eq_true rfl), (Nat.le_of_ble_eq_true rfl)⟩ ?_
    exact rd_iret hx hb hr hlk (rfl) dX2_piece_36
  · refine lv_tableIn (tgt := 37) hx hb dX2_piece_1 (by decide) (by decide) rfl (by decide) ?_
    refine lv_aload_n hx hb dX2_piece_37 rfl (lv_at hl 0 rfl) ?_
    refine va_get (D := (dC, dI)) (ci := 2) (v := .ref qp) (C := RX2) (T := TX2) (N := 6) hx hb hts (by decide +kernel) hown hK hP 0 rfl rfl 3 (by decide) (hts (.fieldLink RX2 25 "PieceWays" "pieces" "LPieceWays$Pieces;") (by decide +kernel)) (fun _ h9 => h9) rfl dX2_piece_38 ?_
    refine lv_iload_n hx hb dX2_piece_41 rfl (lv_at hl 1 rfl) ?_
    refine rd_V (wc := [(qp, .inr (1, [.ref h0, .ref h1, .ref h2, .int (nI P.length)])), (h1, .inl (cI, 133, .inl f1))]) (As := [.int y]) (rest := []) ⟨hx, hb, hml, hown, hts⟩ (c_Pc_begin l dC dI cB cI cL qp h0 h1 h2 P f0 f1 f2 y hL hf) (cwV 1 hts gX2_piece_X1_begin rfl rfl rfl (by decide +kernel) ⟨(Nat.le_of_ble_eq_true rfl), (Nat.le_of_ble_eq_true rfl)⟩) hK hN (sb_P hP [1, 3] rfl) 0 rfl rfl rfl rfl hl.1 rfl (Nat.le_of_ble_eq_true rfl) dX2_piece_42 ⟨(Nat.le_of_ble_eq_true rfl), (Nat.le_of_ble_eq_true rfl)⟩ ?_
    exact rd_iret hx hb hr hlk (rfl) dX2_piece_45
  · refine lv_tableIn (tgt := 46) hx hb dX2_piece_1 (by decide) (by decide) rfl (by decide) ?_
    refine lv_aload_n hx hb dX2_piece_46 rfl (lv_at hl 0 rfl) ?_
    refine va_get (D := (dC, dI)) (ci := 2) (v := .ref qp) (C := RX2) (T := TX2) (N := 6) hx hb hts (by decide +kernel) hown hK hP 0 rfl rfl 3 (by decide) (hts (.fieldLink RX2 25 "PieceWays" "pieces" "LPieceWays$Pieces;") (by decide +kernel)) (fun _ h9 => h9) rfl dX2_piece_47 ?_
    refine lv_iload_n hx hb dX2_piece_50 rfl (lv_at hl 1 rfl) ?_
    refine rd_V (wc := [(qp, .inr (1, [.ref h0, .ref h1, .ref h2, .int (nI P.length)])), (h2, .inl (cI, 133, .inl f2))]) (As := [.int y]) (rest := []) ⟨hx, hb, hml, hown, hts⟩ (c_Pc_length l dC dI cB cI cL qp h0 h1 h2 P f0 f1 f2 y hL hf) (cwV 1 hts gX2_piece_X1_length rfl rfl rfl (by decide +kernel) ⟨(Nat.le_of_ble_eq_true rfl), (Nat.le_of_ble_eq_true rfl)⟩) hK hN (sb_P hP [1, 4] rfl) 0 rfl rfl rfl rfl hl.1 rfl (Nat.le_of_ble_eq_true rfl) dX2_piece_51 ⟨(Nat.le_of_ble_eq_true rfl), (Nat.le_of_ble_eq_true rfl)⟩ ?_
    exact rd_iret hx hb hr hlk (rfl) dX2_piece_54
  · refine lv_tableOut (tgt := 55) hx hb dX2_piece_1 hq (by decide) ?_
    refine lv_iconst (v := (-1)) hx hb dX2_piece_55 (by decide) ?_
    exact rd_iret hx hb hr hlk ((pi_no q0 q1 q2).symm) dX2_piece_56
end PWREAD
