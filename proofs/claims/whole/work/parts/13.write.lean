section PWWRITE
variable (l : Launch) (dC : Nat → ClassId) (dI : Nat → Nat → Nat) (cB cI cL : ClassId)

set_option maxHeartbeats 4000000 in
set_option maxRecDepth 100000 in
/-- clear(tg) -/
theorem c_Pw_clear (w qb gb qt gt qr gr qp h0 h1 h2 qu gu qo go_ : Nat) (B T : List Int32) (tg : Int32) : wr_M l yX2_clear wsX2_clear ({ frames := 1, cells := 0, slots := 0, locals := 20 } : Room) (dC, dI) vwCl (tk_s cB cI cL) [.ref w, .int tg] [(w, .inr (2, [.ref qb, .ref qt, .ref qr, .ref qp, .ref qu, .ref qo])), (qb, .inr (0, [.ref gb, .int (nI B.length)])), (qt, .inr (0, [.ref gt, .int (nI T.length)]))] 0 0 (fun _ : Unit => True) (fun _ => [(w, .inr (2, [.ref qb, .ref qt, .ref qr, .ref qp, .ref qu, .ref qo])), (qb, .inr (0, [.ref gb, .int (nI (if tg = 0 then ([] : List Int32) else B).length)])), (qt, .inr (0, [.ref gt, .int (nI (if tg = 0 then T else ([] : List Int32)).length)]))]) := by
  refine wr_ofW (cc := cX2_clear) (maxL := 3) (ret := none) (by decide) rfl (Nat.le_of_ble_eq_true rfl) ?_
  intro p e s m below meth c ls A hx hb hr hml hts hown hlk hnm hP hK hN hD hA hS hl
  have hl : lv_has ls 3 [(0, .ref w), (1, .int tg)] := hl
  refine lv_iload_n hx hb dX2_clear_0 rfl (lv_at hl 1 rfl) ?_
  refine lv_if_eq (tgt := 11) hx hb dX2_clear_1 (by decide) (fun c1 => ?_) (fun c1 => ?_)
  · rw [if_pos c1, if_pos c1]
    refine lv_aload_n hx hb dX2_clear_11 rfl (lv_at hl 0 rfl) ?_
    refine va_get (D := (dC, dI)) (ci := 2) (v := .ref qb) (C := RX2) (T := TX2) (N := 6) hx hb hts (by decide +kernel) hown hK hP 0 rfl rfl 0 (by decide) (hts (.fieldLink RX2 10 "PieceWays" "base" "LPieceWays$Bytes;") (by decide +kernel)) (fun _ h9 => h9) rfl dX2_clear_12 ?_
    refine lv_astore_n (lv' := [(2, .ref qb), (0, .ref w), (1, .int tg)]) hx hb dX2_clear_15 rfl hl (by decide) rfl (fun ls hl => ?_)
    refine lv_aload_n hx hb dX2_clear_16 rfl (lv_at hl 0 rfl) ?_
    refine wr_V (wc := [(qb, .inr (0, [.ref gb, .int (nI B.length)]))]) (wr := [(w, .inr (2, [.ref qb, .ref qt, .ref qr, .ref qp, .ref qu, .ref qo])), (qt, .inr (0, [.ref gt, .int (nI T.length)]))]) (As := []) (rest := []) ⟨hx, hb, hml, hown, hts⟩ (c_By_empty l dC dI cB cI cL qb gb (nI B.length)) (cwV 0 hts gX2_clear_X0_empty rfl rfl rfl (by decide +kernel) ⟨(Nat.le_of_ble_eq_true rfl), (Nat.le_of_ble_eq_true rfl)⟩) hK hN hP hD hS hA [1] [0, 2] rfl rfl (by decide) (by decide) (by decide) 0 rfl rfl rfl rfl hl.1 rfl (Nat.le_of_ble_eq_true rfl) dX2_clear_17 ⟨(Nat.le_of_ble_eq_true rfl), (Nat.le_of_ble_eq_true rfl)⟩ (fun _u H locs _hu hP hD hS => ?_)
    have hP : va_P (dC, dI) vwCl [(w, .inr (2, [.ref qb, .ref qt, .ref qr, .ref qp, .ref qu, .ref qo])), (qb, .inr (0, [.ref gb, .int (nI 0)])), (qt, .inr (0, [.ref gt, .int (nI T.length)]))] H := hP.sub [0, 2, 1] rfl
    have hD : va_D A [(w, .inr (2, [.ref qb, .ref qt, .ref qr, .ref qp, .ref qu, .ref qo])), (qb, .inr (0, [.ref gb, .int (nI 0)])), (qt, .inr (0, [.ref gt, .int (nI T.length)]))] := hD.sub [0, 2, 1] (by decide) rfl
    exact wr_vret hx hb hr hlk () trivial hP hD hS dX2_clear_20
  · rw [if_neg c1, if_neg c1]
    refine lv_aload_n hx hb dX2_clear_4 rfl (lv_at hl 0 rfl) ?_
    refine va_get (D := (dC, dI)) (ci := 2) (v := .ref qt) (C := RX2) (T := TX2) (N := 6) hx hb hts (by decide +kernel) hown hK hP 0 rfl rfl 1 (by decide) (hts (.fieldLink RX2 16 "PieceWays" "target" "LPieceWays$Bytes;") (by decide +kernel)) (fun _ h9 => h9) rfl dX2_clear_5 ?_
    refine lv_goto (tgt := 15) hx hb dX2_clear_8 (by decide) ?_
    refine lv_astore_n (lv' := [(2, .ref qt), (0, .ref w), (1, .int tg)]) hx hb dX2_clear_15 rfl hl (by decide) rfl (fun ls hl => ?_)
    refine lv_aload_n hx hb dX2_clear_16 rfl (lv_at hl 0 rfl) ?_
    refine wr_V (wc := [(qt, .inr (0, [.ref gt, .int (nI T.length)]))]) (wr := [(w, .inr (2, [.ref qb, .ref qt, .ref qr, .ref qp, .ref qu, .ref qo])), (qb, .inr (0, [.ref gb, .int (nI B.length)]))]) (As := []) (rest := []) ⟨hx, hb, hml, hown, hts⟩ (c_By_empty l dC dI cB cI cL qt gt (nI T.length)) (cwV 0 hts gX2_clear_X0_empty rfl rfl rfl (by decide +kernel) ⟨(Nat.le_of_ble_eq_true rfl), (Nat.le_of_ble_eq_true rfl)⟩) hK hN hP hD hS hA [2] [0, 1] rfl rfl (by decide) (by decide) (by decide) 0 rfl rfl rfl rfl hl.1 rfl (Nat.le_of_ble_eq_true rfl) dX2_clear_17 ⟨(Nat.le_of_ble_eq_true rfl), (Nat.le_of_ble_eq_true rfl)⟩ (fun _u H locs _hu hP hD hS => ?_)
    have hP : va_P (dC, dI) vwCl [(w, .inr (2, [.ref qb, .ref qt, .ref qr, .ref qp, .ref qu, .ref qo])), (qb, .inr (0, [.ref gb, .int (nI B.length)])), (qt, .inr (0, [.ref gt, .int (nI 0)]))] H := hP.sub [0, 1, 2] rfl
    have hD : va_D A [(w, .inr (2, [.ref qb, .ref qt, .ref qr, .ref qp, .ref qu, .ref qo])), (qb, .inr (0, [.ref gb, .int (nI B.length)])), (qt, .inr (0, [.ref gt, .int (nI 0)]))] := hD.sub [0, 1, 2] (by decide) rfl
    exact wr_vret hx hb hr hlk () trivial hP hD hS dX2_clear_20
set_option maxHeartbeats 4000000 in
set_option maxRecDepth 100000 in
/-- findPieces() -/
theorem c_Pw_findPieces (w qb gb qt gt qr gr qp h0 h1 h2 qu gu qo go_ : Nat) (B T : List Int32) (fb ft : Nat → Int32) (P : List (Nat × Nat × Nat)) (f0 f1 f2 : Nat → Int32) (hB : B.length ≤ 600) (hT : T.length ≤ 600) (hfb : by_k fb B) (hft : by_k ft T) : wr_M l yX2_findPieces wsX2_findPieces ({ frames := 3, cells := 0, slots := 0, locals := 70 } : Room) (dC, dI) vwCl (tk_s cB cI cL) [.ref w] [(w, .inr (2, [.ref qb, .ref qt, .ref qr, .ref qp, .ref qu, .ref qo])), (qb, .inr (0, [.ref gb, .int (nI B.length)])), (gb, .inl (cB, 603, .inl fb)), (qt, .inr (0, [.ref gt, .int (nI T.length)])), (gt, .inl (cB, 603, .inl ft)), (qp, .inr (1, [.ref h0, .ref h1, .ref h2, .int (nI P.length)])), (h0, .inl (cI, 133, .inl f0)), (h1, .inl (cI, 133, .inl f1)), (h2, .inl (cI, 133, .inl f2))] 0 0 (fun z : (Nat → Int32) × (Nat → Int32) × (Nat → Int32) => pc_k z.1 z.2.1 z.2.2 (wy_P B T)) (fun z : (Nat → Int32) × (Nat → Int32) × (Nat → Int32) => [(w, .inr (2, [.ref qb, .ref qt, .ref qr, .ref qp, .ref qu, .ref qo])), (qb, .inr (0, [.ref gb, .int (nI B.length)])), (gb, .inl (cB, 603, .inl fb)), (qt, .inr (0, [.ref gt, .int (nI T.length)])), (gt, .inl (cB, 603, .inl ft)), (qp, .inr (1, [.ref h0, .ref h1, .ref h2, .int (nI (wy_P B T).length)])), (h0, .inl (cI, 133, .inl (z.1))), (h1, .inl (cI, 133, .inl (z.2.1))), (h2, .inl (cI, 133, .inl (z.2.2)))]) := by
  refine wr_ofW (cc := cX2_findPieces) (maxL := 4) (ret := none) (by decide) rfl (Nat.le_of_ble_eq_true rfl) ?_
  intro p e s m below meth c ls A hx hb hr hml hts hown hlk hnm hP hK hN hD hA hS hl
  have hl : lv_has ls 4 [(0, .ref w)] := hl
  have loop : ∀ (n pl : Nat) (Q : List (Nat × Nat × Nat)) (f3 f4 f5 : Nat → Int32) (H : Heap) (locs : List Loc) (ls : Array Slot), T.length ≤ pl + n → pw_I B.length T.length Q pl → fp_P B T n pl Q = wy_P B T → pc_k f3 f4 f5 Q → va_P (dC, dI) vwCl [(w, .inr (2, [.ref qb, .ref qt, .ref qr, .ref qp, .ref qu, .ref qo])), (qb, .inr (0, [.ref gb, .int (nI B.length)])), (gb, .inl (cB, 603, .inl fb)), (qt, .inr (0, [.ref gt, .int (nI T.length)])), (gt, .inl (cB, 603, .inl ft)), (qp, .inr (1, [.ref h0, .ref h1, .ref h2, .int (nI Q.length)])), (h0, .inl (cI, 133, .inl f3)), (h1, .inl (cI, 133, .inl f4)), (h2, .inl (cI, 133, .inl f5))] H → va_D A [(w, .inr (2, [.ref qb, .ref qt, .ref qr, .ref qp, .ref qu, .ref qo])), (qb, .inr (0, [.ref gb, .int (nI B.length)])), (gb, .inl (cB, 603, .inl fb)), (qt, .inr (0, [.ref gt, .int (nI T.length)])), (gt, .inl (cB, 603, .inl ft)), (qp, .inr (1, [.ref h0, .ref h1, .ref h2, .int (nI Q.length)])), (h0, .inl (cI, 133, .inl f3)), (h1, .inl (cI, 133, .inl f4)), (h2, .inl (cI, 133, .inl f5))] → va_S A s.heap H locs → lv_has ls 4 [(1, .int (nI pl)), (0, .ref w)] → W p l e ({ frames := 3, cells := 0, slots := 0, locals := 70 } : Room) s m ([.ref w] : List Value).toArray below meth c H locs 0 0 (MQ below (va_Qv (fun z : (Nat → Int32) × (Nat → Int32) × (Nat → Int32) => pc_k z.1 z.2.1 z.2.2 (wy_P B T)) (fun u t => va_P (dC, dI) vwCl ((fun z : (Nat → Int32) × (Nat → Int32) × (Nat → Int32) => [(w, .inr (2, [.ref qb, .ref qt, .ref qr, .ref qp, .ref qu, .ref qo])), (qb, .inr (0, [.ref gb, .int (nI B.length)])), (gb, .inl (cB, 603, .inl fb)), (qt, .inr (0, [.ref gt, .int (nI T.length)])), (gt, .inl (cB, 603, .inl ft)), (qp, .inr (1, [.ref h0, .ref h1, .ref h2, .int (nI (wy_P B T).length)])), (h0, .inl (cI, 133, .inl (z.1))), (h1, .inl (cI, 133, .inl (z.2.1))), (h2, .inl (cI, 133, .inl (z.2.2)))]) u) t.heap ∧ va_D A ((fun z : (Nat → Int32) × (Nat → Int32) × (Nat → Int32) => [(w, .inr (2, [.ref qb, .ref qt, .ref qr, .ref qp, .ref qu, .ref qo])), (qb, .inr (0, [.ref gb, .int (nI B.length)])), (gb, .inl (cB, 603, .inl fb)), (qt, .inr (0, [.ref gt, .int (nI T.length)])), (gt, .inl (cB, 603, .inl ft)), (qp, .inr (1, [.ref h0, .ref h1, .ref h2, .int (nI (wy_P B T).length)])), (h0, .inl (cI, 133, .inl (z.1))), (h1, .inl (cI, 133, .inl (z.2.1))), (h2, .inl (cI, 133, .inl (z.2.2)))]) u)) A) ([.ref w] : List Value).toArray s 0 0 A) (F0 m 9 ls []) := by
    intro n
    induction n with
    | zero =>
      intro pl Q f3 f4 f5 H locs ls hn hI hfp hpc hP hD hS hl
      have hpl : pl = T.length := by have := hI.2.2.2.2.1; omega
      have hQ : Q = wy_P B T := hfp
      subst hQ
      refine lv_iload_n hx hb dX2_findPieces_9 rfl (lv_at hl 0 rfl) ?_
      refine lv_aload_n hx hb dX2_findPieces_10 rfl (lv_at hl 1 rfl) ?_
      refine va_get (D := (dC, dI)) (ci := 2) (v := .ref qt) (C := RX2) (T := TX2) (N := 6) hx hb hts (by decide +kernel) hown hK hP 0 rfl rfl 1 (by decide) (hts (.fieldLink RX2 16 "PieceWays" "target" "LPieceWays$Bytes;") (by decide +kernel)) (fun _ h9 => h9) rfl dX2_findPieces_11 ?_
      refine rd_V (wc := [(qt, .inr (0, [.ref gt, .int (nI T.length)]))]) (As := []) (rest := [.int (nI pl)]) ⟨hx, hb, hml, hown, hts⟩ (c_By_length l dC dI cB cI cL qt gt (nI T.length)) (cwV 0 hts gX2_findPieces_X0_length rfl rfl rfl (by decide +kernel) ⟨(Nat.le_of_ble_eq_true rfl), (Nat.le_of_ble_eq_true rfl)⟩) hK hN (sb_P hP [3] rfl) 0 rfl rfl rfl rfl hl.1 rfl (Nat.le_of_ble_eq_true rfl) dX2_findPieces_14 ⟨(Nat.le_of_ble_eq_true rfl), (Nat.le_of_ble_eq_true rfl)⟩ ?_
      refine lv_icmp_ge (tgt := 74) hx hb dX2_findPieces_17 (by decide) (fun c1 => ?_) (fun c1 => ?_)
      · exact wr_vret hx hb hr hlk (f3, f4, f5) hpc hP hD hS dX2_findPieces_74
      · exact absurd (nI_le (by omega) (by omega)) c1
    | succ n ih =>
      intro pl Q f3 f4 f5 H locs ls hn hI hfp hpc hP hD hS hl
      have hpT := hI.2.2.2.2.1
      have hQn := pw_num hI hT
      have hQk : ∀ t ∈ Q, t.1 < 3 := fun t ht => by rcases hI.1 t ht with h9 | h9 <;> omega
      refine lv_iload_n hx hb dX2_findPieces_9 rfl (lv_at hl 0 rfl) ?_
      refine lv_aload_n hx hb dX2_findPieces_10 rfl (lv_at hl 1 rfl) ?_
      refine va_get (D := (dC, dI)) (ci := 2) (v := .ref qt) (C := RX2) (T := TX2) (N := 6) hx hb hts (by decide +kernel) hown hK hP 0 rfl rfl 1 (by decide) (hts (.fieldLink RX2 16 "PieceWays" "target" "LPieceWays$Bytes;") (by decide +kernel)) (fun _ h9 => h9) rfl dX2_findPieces_11 ?_
      refine rd_V (wc := [(qt, .inr (0, [.ref gt, .int (nI T.length)]))]) (As := []) (rest := [.int (nI pl)]) ⟨hx, hb, hml, hown, hts⟩ (c_By_length l dC dI cB cI cL qt gt (nI T.length)) (cwV 0 hts gX2_findPieces_X0_length rfl rfl rfl (by decide +kernel) ⟨(Nat.le_of_ble_eq_true rfl), (Nat.le_of_ble_eq_true rfl)⟩) hK hN (sb_P hP [3] rfl) 0 rfl rfl rfl rfl hl.1 rfl (Nat.le_of_ble_eq_true rfl) dX2_findPieces_14 ⟨(Nat.le_of_ble_eq_true rfl), (Nat.le_of_ble_eq_true rfl)⟩ ?_
      refine lv_icmp_ge (tgt := 74) hx hb dX2_findPieces_17 (by decide) (fun c1 => ?_) (fun c1 => ?_)
      · have hpl : ¬ pl < T.length := fun h9 => absurd c1 (nI_ge h9 (by omega))
        have hQ : Q = wy_P B T := by unfold fp_P at hfp; rw [if_neg hpl] at hfp; exact hfp
        subst hQ
        exact wr_vret hx hb hr hlk (f3, f4, f5) hpc hP hD hS dX2_findPieces_74
      · have hpl : pl < T.length := by rcases Nat.lt_or_ge pl T.length with h9 | h9; exact h9; exact absurd (nI_le h9 (by omega)) c1
        refine lv_aload_n hx hb dX2_findPieces_20 rfl (lv_at hl 1 rfl) ?_
        refine lv_iload_n hx hb dX2_findPieces_21 rfl (lv_at hl 0 rfl) ?_
        refine rd_V (wc := [(w, .inr (2, [.ref qb, .ref qt, .ref qr, .ref qp, .ref qu, .ref qo])), (qb, .inr (0, [.ref gb, .int (nI B.length)])), (gb, .inl (cB, 603, .inl fb)), (qt, .inr (0, [.ref gt, .int (nI T.length)])), (gt, .inl (cB, 603, .inl ft))]) (As := [.int (nI pl)]) (rest := []) ⟨hx, hb, hml, hown, hts⟩ (c_Pw_longestBlock l dC dI cB cI cL w qb gb qt gt qr gr qp h0 h1 h2 qu gu qo go_ B T fb ft pl (by omega) hB hT hfb hft) (cwV 1 hts gX2_findPieces_X2_longestBlock rfl rfl rfl (by decide +kernel) ⟨(Nat.le_of_ble_eq_true rfl), (Nat.le_of_ble_eq_true rfl)⟩) hK hN (sb_P hP [0, 1, 2, 3, 4] rfl) 0 rfl rfl rfl rfl hl.1 rfl (Nat.le_of_ble_eq_true rfl) dX2_findPieces_22 ⟨(Nat.le_of_ble_eq_true rfl), (Nat.le_of_ble_eq_true rfl)⟩ ?_
        unfold fp_P at hfp
        rw [if_pos hpl] at hfp
        rcases lg_ok B T pl (B.length / 8) with ⟨k1, -⟩ | ⟨b, k1, -, k3, k4⟩
        · rw [k1] at hfp
          rw [k1]
          have hI2 := pw_plain hI hpl
          have hQ2 := pw_num hI2 hT
          show W _ _ _ _ _ _ _ _ _ _ _ _ _ _ _ (F0 m 25 ls [.int (-1)])
          refine lv_istore_n (lv' := [(2, .int (-1)), (1, .int (nI pl)), (0, .ref w)]) hx hb dX2_findPieces_25 rfl hl (by decide) rfl (fun ls hl => ?_)
          refine lv_iload_n hx hb dX2_findPieces_26 rfl (lv_at hl 0 rfl) ?_
          refine lv_iconst (v := (-1)) hx hb dX2_findPieces_27 (by decide) ?_
          refine lv_icmp_ne (tgt := 45) hx hb dX2_findPieces_28 (by decide) (fun c2 => ?_) (fun c2 => ?_)
          · exact absurd rfl c2
          · refine lv_aload_n hx hb dX2_findPieces_31 rfl (lv_at hl 2 rfl) ?_
            refine va_get (D := (dC, dI)) (ci := 2) (v := .ref qp) (C := RX2) (T := TX2) (N := 6) hx hb hts (by decide +kernel) hown hK hP 0 rfl rfl 3 (by decide) (hts (.fieldLink RX2 25 "PieceWays" "pieces" "LPieceWays$Pieces;") (by decide +kernel)) (fun _ h9 => h9) rfl dX2_findPieces_32 ?_
            refine lv_iload_n hx hb dX2_findPieces_35 rfl (lv_at hl 1 rfl) ?_
            refine wr_V (wc := [(qp, .inr (1, [.ref h0, .ref h1, .ref h2, .int (nI Q.length)])), (h0, .inl (cI, 133, .inl f3)), (h1, .inl (cI, 133, .inl f4)), (h2, .inl (cI, 133, .inl f5))]) (wr := [(w, .inr (2, [.ref qb, .ref qt, .ref qr, .ref qp, .ref qu, .ref qo])), (qb, .inr (0, [.ref gb, .int (nI B.length)])), (gb, .inl (cB, 603, .inl fb)), (qt, .inr (0, [.ref gt, .int (nI T.length)])), (gt, .inl (cB, 603, .inl ft))]) (As := [.int (nI pl)]) (rest := []) ⟨hx, hb, hml, hown, hts⟩ (c_Pc_addPlainByte l dC dI cB cI cL qp h0 h1 h2 Q f3 f4 f5 pl hQk hQn.1 hQ2.1 hpc) (cwV 1 hts gX2_findPieces_X1_addPlainByte rfl rfl rfl (by decide +kernel) ⟨(Nat.le_of_ble_eq_true rfl), (Nat.le_of_ble_eq_true rfl)⟩) hK hN hP hD hS hA [5, 6, 7, 8] [0, 1, 2, 3, 4] rfl rfl (by decide) (by decide) (by decide) 0 rfl rfl rfl rfl hl.1 rfl (Nat.le_of_ble_eq_true rfl) dX2_findPieces_36 ⟨(Nat.le_of_ble_eq_true rfl), (Nat.le_of_ble_eq_true rfl)⟩ (fun z H locs hz hP hD hS => ?_)
            have hP : va_P (dC, dI) vwCl [(w, .inr (2, [.ref qb, .ref qt, .ref qr, .ref qp, .ref qu, .ref qo])), (qb, .inr (0, [.ref gb, .int (nI B.length)])), (gb, .inl (cB, 603, .inl fb)), (qt, .inr (0, [.ref gt, .int (nI T.length)])), (gt, .inl (cB, 603, .inl ft)), (qp, .inr (1, [.ref h0, .ref h1, .ref h2, .int (nI (ap_P Q pl).length)])), (h0, .inl (cI, 133, .inl (z.1))), (h1, .inl (cI, 133, .inl (z.2.1))), (h2, .inl (cI, 133, .inl (z.2.2)))] H := hP.sub [0, 1, 2, 3, 4, 5, 6, 7, 8] rfl
            have hD : va_D A [(w, .inr (2, [.ref qb, .ref qt, .ref qr, .ref qp, .ref qu, .ref qo])), (qb, .inr (0, [.ref gb, .int (nI B.length)])), (gb, .inl (cB, 603, .inl fb)), (qt, .inr (0, [.ref gt, .int (nI T.length)])), (gt, .inl (cB, 603, .inl ft)), (qp, .inr (1, [.ref h0, .ref h1, .ref h2, .int (nI (ap_P Q pl).length)])), (h0, .inl (cI, 133, .inl (z.1))), (h1, .inl (cI, 133, .inl (z.2.1))), (h2, .inl (cI, 133, .inl (z.2.2)))] := hD.sub [0, 1, 2, 3, 4, 5, 6, 7, 8] (by decide) rfl
            refine lv_iinc (v := ((nI pl) + 1)) (lv' := [(1, .int ((nI pl) + 1)), (2, .int (-1)), (0, .ref w)]) hx hb dX2_findPieces_39 hl (k := 1) rfl rfl (by decide) rfl (fun ls hl => ?_)
            refine lv_goto (tgt := 71) hx hb dX2_findPieces_42 (by decide) ?_
            refine lv_goto (tgt := 9) hx hb dX2_findPieces_71 (by decide) ?_
            have h9 : lv_has ls 4 [(1, .int (nI pl + 1)), (0, .ref w)] := lv_sub hl [0, 2] rfl
            rw [nI_1] at h9
            exact ih (pl + 1) (ap_P Q pl) z.1 z.2.1 z.2.2 H locs ls (by omega) hI2 hfp hz hP hD hS h9
        · rw [k1] at hfp
          rw [k1]
          have hlc := lc_le (B.drop b) (T.drop pl)
          rw [List.length_drop, List.length_drop] at hlc
          have hI2 := pw_copy (b := b) hI k3 (by omega) (by omega)
          have hQ2 := pw_num hI2 hT
          rw [List.length_append, List.length_singleton] at hQ2
          show W _ _ _ _ _ _ _ _ _ _ _ _ _ _ _ (F0 m 25 ls [.int (nI b)])
          refine lv_istore_n (lv' := [(2, .int (nI b)), (1, .int (nI pl)), (0, .ref w)]) hx hb dX2_findPieces_25 rfl hl (by decide) rfl (fun ls hl => ?_)
          refine lv_iload_n hx hb dX2_findPieces_26 rfl (lv_at hl 0 rfl) ?_
          refine lv_iconst (v := (-1)) hx hb dX2_findPieces_27 (by decide) ?_
          refine lv_icmp_ne (tgt := 45) hx hb dX2_findPieces_28 (by decide) (fun c2 => ?_) (fun c2 => ?_)
          · refine lv_aload_n hx hb dX2_findPieces_45 rfl (lv_at hl 2 rfl) ?_
            refine lv_iload_n hx hb dX2_findPieces_46 rfl (lv_at hl 0 rfl) ?_
            refine lv_iload_n hx hb dX2_findPieces_47 rfl (lv_at hl 1 rfl) ?_
            refine rd_V (wc := [(w, .inr (2, [.ref qb, .ref qt, .ref qr, .ref qp, .ref qu, .ref qo])), (qb, .inr (0, [.ref gb, .int (nI B.length)])), (gb, .inl (cB, 603, .inl fb)), (qt, .inr (0, [.ref gt, .int (nI T.length)])), (gt, .inl (cB, 603, .inl ft))]) (As := [.int (nI b), .int (nI pl)]) (rest := []) ⟨hx, hb, hml, hown, hts⟩ (c_Pw_alike l dC dI cB cI cL w qb gb qt gt qr gr qp h0 h1 h2 qu gu qo go_ B T fb ft b pl (by omega) (by omega) hB hT hfb hft) (cwV 2 hts gX2_findPieces_X2_alike rfl rfl rfl (by decide +kernel) ⟨(Nat.le_of_ble_eq_true rfl), (Nat.le_of_ble_eq_true rfl)⟩) hK hN (sb_P hP [0, 1, 2, 3, 4] rfl) 0 rfl rfl rfl rfl hl.1 rfl (Nat.le_of_ble_eq_true rfl) dX2_findPieces_48 ⟨(Nat.le_of_ble_eq_true rfl), (Nat.le_of_ble_eq_true rfl)⟩ ?_
            refine lv_istore_n (lv' := [(3, .int (nI (lc_p (B.drop b) (T.drop pl)))), (2, .int (nI b)), (1, .int (nI pl)), (0, .ref w)]) hx hb dX2_findPieces_51 rfl hl (by decide) rfl (fun ls hl => ?_)
            refine lv_aload_n hx hb dX2_findPieces_52 rfl (lv_at hl 3 rfl) ?_
            refine va_get (D := (dC, dI)) (ci := 2) (v := .ref qp) (C := RX2) (T := TX2) (N := 6) hx hb hts (by decide +kernel) hown hK hP 0 rfl rfl 3 (by decide) (hts (.fieldLink RX2 25 "PieceWays" "pieces" "LPieceWays$Pieces;") (by decide +kernel)) (fun _ h9 => h9) rfl dX2_findPieces_53 ?_
            refine lv_iconst (v := 1) hx hb dX2_findPieces_56 (by decide) ?_
            refine lv_iload_n hx hb dX2_findPieces_57 rfl (lv_at hl 1 rfl) ?_
            refine lv_iload_n hx hb dX2_findPieces_58 rfl (lv_at hl 0 rfl) ?_
            refine wr_V (wc := [(qp, .inr (1, [.ref h0, .ref h1, .ref h2, .int (nI Q.length)])), (h0, .inl (cI, 133, .inl f3)), (h1, .inl (cI, 133, .inl f4)), (h2, .inl (cI, 133, .inl f5))]) (wr := [(w, .inr (2, [.ref qb, .ref qt, .ref qr, .ref qp, .ref qu, .ref qo])), (qb, .inr (0, [.ref gb, .int (nI B.length)])), (gb, .inl (cB, 603, .inl fb)), (qt, .inr (0, [.ref gt, .int (nI T.length)])), (gt, .inl (cB, 603, .inl ft))]) (As := [.int (nI 1), .int (nI b), .int (nI (lc_p (B.drop b) (T.drop pl)))]) (rest := []) ⟨hx, hb, hml, hown, hts⟩ (c_Pc_add l dC dI cB cI cL qp h0 h1 h2 Q f3 f4 f5 1 b (lc_p (B.drop b) (T.drop pl)) (by omega) hpc) (cwV 3 hts gX2_findPieces_X1_add rfl rfl rfl (by decide +kernel) ⟨(Nat.le_of_ble_eq_true rfl), (Nat.le_of_ble_eq_true rfl)⟩) hK hN hP hD hS hA [5, 6, 7, 8] [0, 1, 2, 3, 4] rfl rfl (by decide) (by decide) (by decide) 0 rfl rfl rfl rfl hl.1 rfl (Nat.le_of_ble_eq_true rfl) dX2_findPieces_59 ⟨(Nat.le_of_ble_eq_true rfl), (Nat.le_of_ble_eq_true rfl)⟩ (fun z H locs hz hP hD hS => ?_)
            have hP : va_P (dC, dI) vwCl [(w, .inr (2, [.ref qb, .ref qt, .ref qr, .ref qp, .ref qu, .ref qo])), (qb, .inr (0, [.ref gb, .int (nI B.length)])), (gb, .inl (cB, 603, .inl fb)), (qt, .inr (0, [.ref gt, .int (nI T.length)])), (gt, .inl (cB, 603, .inl ft)), (qp, .inr (1, [.ref h0, .ref h1, .ref h2, .int (nI (Q ++ [(1, b, (lc_p (B.drop b) (T.drop pl)))]).length)])), (h0, .inl (cI, 133, .inl (z.1))), (h1, .inl (cI, 133, .inl (z.2.1))), (h2, .inl (cI, 133, .inl (z.2.2)))] H := hP.sub [0, 1, 2, 3, 4, 5, 6, 7, 8] rfl
            have hD : va_D A [(w, .inr (2, [.ref qb, .ref qt, .ref qr, .ref qp, .ref qu, .ref qo])), (qb, .inr (0, [.ref gb, .int (nI B.length)])), (gb, .inl (cB, 603, .inl fb)), (qt, .inr (0, [.ref gt, .int (nI T.length)])), (gt, .inl (cB, 603, .inl ft)), (qp, .inr (1, [.ref h0, .ref h1, .ref h2, .int (nI (Q ++ [(1, b, (lc_p (B.drop b) (T.drop pl)))]).length)])), (h0, .inl (cI, 133, .inl (z.1))), (h1, .inl (cI, 133, .inl (z.2.1))), (h2, .inl (cI, 133, .inl (z.2.2)))] := hD.sub [0, 1, 2, 3, 4, 5, 6, 7, 8] (by decide) rfl
            refine lv_iload_n hx hb dX2_findPieces_62 rfl (lv_at hl 2 rfl) ?_
            refine lv_iload_n hx hb dX2_findPieces_63 rfl (lv_at hl 0 rfl) ?_
            refine lv_bipush (v := 8) hx hb dX2_findPieces_64 (by decide) ?_
            refine va_mmax hx hb (by rw [hml]; exact hl.1.symm) hown (hts (.methodLink RX2 95 Lib.Math.max.name) (by decide +kernel)) (hts (.static Lib.Math.max.name) (by decide +kernel)) (hts (.initialized "java/lang/Math") (by decide +kernel)) (hts (.code Lib.Math.max.name Lib.Math.max.code 2 (some .int)) (by decide +kernel)) (Nat.le_of_ble_eq_true rfl) (Nat.le_of_ble_eq_true rfl) (Nat.le_of_ble_eq_true rfl) (Nat.le_of_ble_eq_true rfl) dX2_findPieces_66 ?_
            have emx : (if nI (lc_p (B.drop b) (T.drop pl)) < 8 then 8 else nI (lc_p (B.drop b) (T.drop pl))) = nI (lc_p (B.drop b) (T.drop pl)) := if_neg (nI_nlt (a := (lc_p (B.drop b) (T.drop pl))) (b := 8) k3 (by omega))
            rw [emx]
            refine lv_iadd hx hb dX2_findPieces_69 ?_
            refine lv_istore_n (lv' := [(1, .int ((nI pl) + (nI (lc_p (B.drop b) (T.drop pl))))), (3, .int (nI (lc_p (B.drop b) (T.drop pl)))), (2, .int (nI b)), (0, .ref w)]) hx hb dX2_findPieces_70 rfl hl (by decide) rfl (fun ls hl => ?_)
            refine lv_goto (tgt := 9) hx hb dX2_findPieces_71 (by decide) ?_
            have h9 : lv_has ls 4 [(1, .int (nI pl + nI (lc_p (B.drop b) (T.drop pl)))), (0, .ref w)] := lv_sub hl [0, 3] rfl
            rw [nI_add] at h9
            exact ih (pl + (lc_p (B.drop b) (T.drop pl))) (Q ++ [(1, b, (lc_p (B.drop b) (T.drop pl)))]) z.1 z.2.1 z.2.2 H locs ls (by omega) hI2 hfp hz hP hD hS h9
          · exact absurd (show nI b < 0 by rw [c2]; decide) (nI_pos (by omega))
  refine lv_aload_n hx hb dX2_findPieces_0 rfl (lv_at hl 0 rfl) ?_
  refine va_get (D := (dC, dI)) (ci := 2) (v := .ref qp) (C := RX2) (T := TX2) (N := 6) hx hb hts (by decide +kernel) hown hK hP 0 rfl rfl 3 (by decide) (hts (.fieldLink RX2 25 "PieceWays" "pieces" "LPieceWays$Pieces;") (by decide +kernel)) (fun _ h9 => h9) rfl dX2_findPieces_1 ?_
  refine wr_V (wc := [(qp, .inr (1, [.ref h0, .ref h1, .ref h2, .int (nI P.length)]))]) (wr := [(w, .inr (2, [.ref qb, .ref qt, .ref qr, .ref qp, .ref qu, .ref qo])), (qb, .inr (0, [.ref gb, .int (nI B.length)])), (gb, .inl (cB, 603, .inl fb)), (qt, .inr (0, [.ref gt, .int (nI T.length)])), (gt, .inl (cB, 603, .inl ft)), (h0, .inl (cI, 133, .inl f0)), (h1, .inl (cI, 133, .inl f1)), (h2, .inl (cI, 133, .inl f2))]) (As := []) (rest := []) ⟨hx, hb, hml, hown, hts⟩ (c_Pc_empty l dC dI cB cI cL qp h0 h1 h2 (nI P.length)) (cwV 0 hts gX2_findPieces_X1_empty rfl rfl rfl (by decide +kernel) ⟨(Nat.le_of_ble_eq_true rfl), (Nat.le_of_ble_eq_true rfl)⟩) hK hN hP hD hS hA [5] [0, 1, 2, 3, 4, 6, 7, 8] rfl rfl (by decide) (by decide) (by decide) 0 rfl rfl rfl rfl hl.1 rfl (Nat.le_of_ble_eq_true rfl) dX2_findPieces_4 ⟨(Nat.le_of_ble_eq_true rfl), (Nat.le_of_ble_eq_true rfl)⟩ (fun _u H locs _hu hP hD hS => ?_)
  have hP : va_P (dC, dI) vwCl [(w, .inr (2, [.ref qb, .ref qt, .ref qr, .ref qp, .ref qu, .ref qo])), (qb, .inr (0, [.ref gb, .int (nI B.length)])), (gb, .inl (cB, 603, .inl fb)), (qt, .inr (0, [.ref gt, .int (nI T.length)])), (gt, .inl (cB, 603, .inl ft)), (qp, .inr (1, [.ref h0, .ref h1, .ref h2, .int (nI ([] : List (Nat × Nat × Nat)).length)])), (h0, .inl (cI, 133, .inl f0)), (h1, .inl (cI, 133, .inl f1)), (h2, .inl (cI, 133, .inl f2))] H := hP.sub [0, 1, 2, 3, 4, 8, 5, 6, 7] rfl
  have hD : va_D A [(w, .inr (2, [.ref qb, .ref qt, .ref qr, .ref qp, .ref qu, .ref qo])), (qb, .inr (0, [.ref gb, .int (nI B.length)])), (gb, .inl (cB, 603, .inl fb)), (qt, .inr (0, [.ref gt, .int (nI T.length)])), (gt, .inl (cB, 603, .inl ft)), (qp, .inr (1, [.ref h0, .ref h1, .ref h2, .int (nI ([] : List (Nat × Nat × Nat)).length)])), (h0, .inl (cI, 133, .inl f0)), (h1, .inl (cI, 133, .inl f1)), (h2, .inl (cI, 133, .inl f2))] := hD.sub [0, 1, 2, 3, 4, 8, 5, 6, 7] (by decide) rfl
  refine lv_iconst (v := 0) hx hb dX2_findPieces_7 (by decide) ?_
  refine lv_istore_n (lv' := [(1, .int 0), (0, .ref w)]) hx hb dX2_findPieces_8 rfl hl (by decide) rfl (fun ls hl => ?_)
  exact loop T.length 0 [] f0 f1 f2 H locs ls (by omega) (pw_0 _ _) rfl (pc_nil _ _ _) hP hD hS hl
end PWWRITE
