section PWPUT
variable (l : Launch) (dC : Nat → ClassId) (dI : Nat → Nat → Nat) (cB cI cL : ClassId)

set_option maxHeartbeats 4000000 in
set_option maxRecDepth 100000 in
/-- put(tg, v, n) -/
theorem c_Pw_put (w qb gb qt gt qr gr qp h0 h1 h2 qu gu qo go_ : Nat) (B T : List Int32) (fb ft : Nat → Int32) (tg : Int32) (v : Int64) (n : Int32) (hB : B.length ≤ 600) (hT : T.length ≤ 600) (hfb : by_k fb B) (hft : by_k ft T) : wi_M l yX2_put wsX2_put ({ frames := 1, cells := 0, slots := 0, locals := 21 } : Room) (dC, dI) vwCl (tk_s cB cI cL) [.ref w, .int tg, .long v, .int n] [(w, .inr (2, [.ref qb, .ref qt, .ref qr, .ref qp, .ref qu, .ref qo])), (qb, .inr (0, [.ref gb, .int (nI B.length)])), (gb, .inl (cB, 603, .inl fb)), (qt, .inr (0, [.ref gt, .int (nI T.length)])), (gt, .inl (cB, 603, .inl ft))] 0 0 (fun (r : Int32) (z : (Nat → Int32) × (Nat → Int32)) => r = pu_r (if tg = 0 then B else T) n ∧ by_k z.1 (if tg = 0 then pu_L B v n (pu_r B n) else B) ∧ by_k z.2 (if tg = 0 then T else pu_L T v n (pu_r T n))) (fun z : (Nat → Int32) × (Nat → Int32) => [(w, .inr (2, [.ref qb, .ref qt, .ref qr, .ref qp, .ref qu, .ref qo])), (qb, .inr (0, [.ref gb, .int (nI (if tg = 0 then pu_L B v n (pu_r B n) else B).length)])), (gb, .inl (cB, 603, .inl (z.1))), (qt, .inr (0, [.ref gt, .int (nI (if tg = 0 then T else pu_L T v n (pu_r T n)).length)])), (gt, .inl (cB, 603, .inl (z.2)))]) := by
  refine wi_ofW (cc := cX2_put) (maxL := 7) (ret := (some .boolean)) (by decide) rfl (Nat.le_of_ble_eq_true rfl) ?_
  intro p e s m below meth c ls A hx hb hr hml hts hown hlk hnm hP hK hN hD hA hS hl
  have hl : lv_has ls 7 [(0, .ref w), (1, .int tg), (2, .long v), (4, .int n)] := hl
  refine lv_iload_n hx hb dX2_put_0 rfl (lv_at hl 1 rfl) ?_
  refine lv_if_eq (tgt := 11) hx hb dX2_put_1 (by decide) (fun c0 => ?_) (fun c0 => ?_)
  · have eL : (if tg = 0 then B else T) = B := if_pos c0
    have eB : (if tg = 0 then pu_L B v n (pu_r B n) else B) = pu_L B v n (pu_r B n) := if_pos c0
    have eT : (if tg = 0 then T else pu_L T v n (pu_r T n)) = T := if_pos c0
    refine lv_aload_n hx hb dX2_put_11 rfl (lv_at hl 0 rfl) ?_
    refine va_get (D := (dC, dI)) (ci := 2) (v := .ref qb) (C := RX2) (T := TX2) (N := 6) hx hb hts (by decide +kernel) hown hK hP 0 rfl rfl 0 (by decide) (hts (.fieldLink RX2 10 "PieceWays" "base" "LPieceWays$Bytes;") (by decide +kernel)) (fun _ h9 => h9) rfl dX2_put_12 ?_
    refine lv_astore (lv' := [(5, .ref qb), (0, .ref w), (1, .int tg), (2, .long v), (4, .int n)]) hx hb dX2_put_15 hl (by decide) rfl (fun ls hl => ?_)
    refine lv_iload hx hb dX2_put_17 (lv_at hl 4 rfl) ?_
    refine lv_if_lt (tgt := 43) hx hb dX2_put_19 (by decide) (fun c1 => ?_) (fun c1 => ?_)
    · refine lv_iconst (v := 0) hx hb dX2_put_43 (by decide) ?_
      have e0 : pu_r B n = 0 := pu_01 c1
      have e1 : pu_L B v n (pu_r B n) = B := pu_L0 e0
      replace eB := eB.trans e1
      refine wi_zret hx hb hr hlk rfl (fb, ft) ⟨by rw [eL, e0], by rw [eB]; exact hfb, by rw [eT]; exact hft⟩ ?_ ?_ hS dX2_put_44
      · show va_P (dC, dI) vwCl [(w, .inr (2, [.ref qb, .ref qt, .ref qr, .ref qp, .ref qu, .ref qo])), (qb, .inr (0, [.ref gb, .int (nI (if tg = 0 then pu_L B v n (pu_r B n) else B).length)])), (gb, .inl (cB, 603, .inl (fb))), (qt, .inr (0, [.ref gt, .int (nI (if tg = 0 then T else pu_L T v n (pu_r T n)).length)])), (gt, .inl (cB, 603, .inl (ft)))] _
        rw [eB, eT]; exact hP
      · show va_D A [(w, .inr (2, [.ref qb, .ref qt, .ref qr, .ref qp, .ref qu, .ref qo])), (qb, .inr (0, [.ref gb, .int (nI (if tg = 0 then pu_L B v n (pu_r B n) else B).length)])), (gb, .inl (cB, 603, .inl (fb))), (qt, .inr (0, [.ref gt, .int (nI (if tg = 0 then T else pu_L T v n (pu_r T n)).length)])), (gt, .inl (cB, 603, .inl (ft)))]
        rw [eB, eT]; exact hD
    · refine lv_iload hx hb dX2_put_22 (lv_at hl 4 rfl) ?_
      refine lv_bipush (v := 8) hx hb dX2_put_24 (by decide) ?_
      refine lv_icmp_gt (tgt := 43) hx hb dX2_put_26 (by decide) (fun c2 => ?_) (fun c2 => ?_)
      · refine lv_iconst (v := 0) hx hb dX2_put_43 (by decide) ?_
        have e0 : pu_r B n = 0 := pu_02 c1 c2
        have e1 : pu_L B v n (pu_r B n) = B := pu_L0 e0
        replace eB := eB.trans e1
        refine wi_zret hx hb hr hlk rfl (fb, ft) ⟨by rw [eL, e0], by rw [eB]; exact hfb, by rw [eT]; exact hft⟩ ?_ ?_ hS dX2_put_44
        · show va_P (dC, dI) vwCl [(w, .inr (2, [.ref qb, .ref qt, .ref qr, .ref qp, .ref qu, .ref qo])), (qb, .inr (0, [.ref gb, .int (nI (if tg = 0 then pu_L B v n (pu_r B n) else B).length)])), (gb, .inl (cB, 603, .inl (fb))), (qt, .inr (0, [.ref gt, .int (nI (if tg = 0 then T else pu_L T v n (pu_r T n)).length)])), (gt, .inl (cB, 603, .inl (ft)))] _
          rw [eB, eT]; exact hP
        · show va_D A [(w, .inr (2, [.ref qb, .ref qt, .ref qr, .ref qp, .ref qu, .ref qo])), (qb, .inr (0, [.ref gb, .int (nI (if tg = 0 then pu_L B v n (pu_r B n) else B).length)])), (gb, .inl (cB, 603, .inl (fb))), (qt, .inr (0, [.ref gt, .int (nI (if tg = 0 then T else pu_L T v n (pu_r T n)).length)])), (gt, .inl (cB, 603, .inl (ft)))]
          rw [eB, eT]; exact hD
      · refine lv_iload hx hb dX2_put_29 (lv_at hl 4 rfl) ?_
        refine lv_sipush (v := 600) hx hb dX2_put_31 (by decide) ?_
        refine lv_aload hx hb dX2_put_34 (lv_at hl 0 rfl) ?_
        refine rd_V (wc := [(qb, .inr (0, [.ref gb, .int (nI B.length)]))]) (As := []) (rest := [.int 600, .int n]) ⟨hx, hb, hml, hown, hts⟩ (c_By_length l dC dI cB cI cL qb gb (nI B.length)) (cwV 0 hts gX2_put_X0_length rfl rfl rfl (by decide +kernel) ⟨(Nat.le_of_ble_eq_true rfl), (Nat.le_of_ble_eq_true rfl)⟩) hK hN (sb_P hP [1] rfl) 0 rfl rfl rfl rfl hl.1 rfl (Nat.le_of_ble_eq_true rfl) dX2_put_36 ⟨(Nat.le_of_ble_eq_true rfl), (Nat.le_of_ble_eq_true rfl)⟩ ?_
        refine lv_isub hx hb dX2_put_39 ?_
        refine lv_icmp_le (tgt := 45) hx hb dX2_put_40 (by decide) (fun c3 => ?_) (fun c3 => ?_)
        · obtain ⟨N, rfl, hN8, hN6⟩ := pu_in hB c1 c2 c3
          have e1 : pu_r B (nI N) = 1 := pu_1 c1 c2 c3
          have e2 : pu_L B v (nI N) (pu_r B (nI N)) = B ++ pb_L v N := by rw [e1]; unfold pu_L; rw [if_neg (by decide), nI_clamp (by omega)]
          replace eB := eB.trans e2
          have loop : ∀ (k : Nat) (i : Int32) (L1 : List Int32) (f1 : Nat → Int32) (H : Heap) (locs : List Loc) (ls : Array Slot), k ≤ N → i = nI k - 1 → L1 ++ pb_L v k = B ++ pb_L v N → by_k f1 L1 → va_P (dC, dI) vwCl [(w, .inr (2, [.ref qb, .ref qt, .ref qr, .ref qp, .ref qu, .ref qo])), (qb, .inr (0, [.ref gb, .int (nI L1.length)])), (gb, .inl (cB, 603, .inl f1)), (qt, .inr (0, [.ref gt, .int (nI T.length)])), (gt, .inl (cB, 603, .inl ft))] H → va_D A [(w, .inr (2, [.ref qb, .ref qt, .ref qr, .ref qp, .ref qu, .ref qo])), (qb, .inr (0, [.ref gb, .int (nI L1.length)])), (gb, .inl (cB, 603, .inl f1)), (qt, .inr (0, [.ref gt, .int (nI T.length)])), (gt, .inl (cB, 603, .inl ft))] → va_S A s.heap H locs → lv_has ls 7 [(6, .int i), (5, .ref qb), (0, .ref w), (2, .long v)] → W p l e ({ frames := 1, cells := 0, slots := 0, locals := 21 } : Room) s m ([.ref w, .int tg, .long v, .int (nI N)] : List Value).toArray below meth c H locs 0 0 (MQ below (va_Qi (fun (r : Int32) (z : (Nat → Int32) × (Nat → Int32)) => r = pu_r (if tg = 0 then B else T) (nI N) ∧ by_k z.1 (if tg = 0 then pu_L B v (nI N) (pu_r B (nI N)) else B) ∧ by_k z.2 (if tg = 0 then T else pu_L T v (nI N) (pu_r T (nI N)))) (fun u t => va_P (dC, dI) vwCl ((fun z : (Nat → Int32) × (Nat → Int32) => [(w, .inr (2, [.ref qb, .ref qt, .ref qr, .ref qp, .ref qu, .ref qo])), (qb, .inr (0, [.ref gb, .int (nI (if tg = 0 then pu_L B v (nI N) (pu_r B (nI N)) else B).length)])), (gb, .inl (cB, 603, .inl (z.1))), (qt, .inr (0, [.ref gt, .int (nI (if tg = 0 then T else pu_L T v (nI N) (pu_r T (nI N))).length)])), (gt, .inl (cB, 603, .inl (z.2)))]) u) t.heap ∧ va_D A ((fun z : (Nat → Int32) × (Nat → Int32) => [(w, .inr (2, [.ref qb, .ref qt, .ref qr, .ref qp, .ref qu, .ref qo])), (qb, .inr (0, [.ref gb, .int (nI (if tg = 0 then pu_L B v (nI N) (pu_r B (nI N)) else B).length)])), (gb, .inl (cB, 603, .inl (z.1))), (qt, .inr (0, [.ref gt, .int (nI (if tg = 0 then T else pu_L T v (nI N) (pu_r T (nI N))).length)])), (gt, .inl (cB, 603, .inl (z.2)))]) u)) A) ([.ref w, .int tg, .long v, .int (nI N)] : List Value).toArray s 0 0 A) (F0 m 51 ls []) := by
            intro k
            induction k with
            | zero =>
              intro i L1 f1 H locs ls hkN hi hL1 hf1 hP hD hS hl
              have hL1 : L1 = B ++ pb_L v N := by rw [← hL1]; exact (List.append_nil L1).symm
              subst hL1
              refine lv_iload hx hb dX2_put_51 (lv_at hl 0 rfl) ?_
              refine lv_if_lt (tgt := 75) hx hb dX2_put_53 (by decide) (fun c4 => ?_) (fun c4 => ?_)
              · refine lv_iconst (v := 1) hx hb dX2_put_75 (by decide) ?_
                refine wi_zret hx hb hr hlk rfl (f1, ft) ⟨by rw [eL, e1], by rw [eB]; exact hf1, by rw [eT]; exact hft⟩ ?_ ?_ hS dX2_put_76
                · show va_P (dC, dI) vwCl [(w, .inr (2, [.ref qb, .ref qt, .ref qr, .ref qp, .ref qu, .ref qo])), (qb, .inr (0, [.ref gb, .int (nI (if tg = 0 then pu_L B v (nI N) (pu_r B (nI N)) else B).length)])), (gb, .inl (cB, 603, .inl (f1))), (qt, .inr (0, [.ref gt, .int (nI (if tg = 0 then T else pu_L T v (nI N) (pu_r T (nI N))).length)])), (gt, .inl (cB, 603, .inl (ft)))] _
                  rw [eB, eT]; exact hP
                · show va_D A [(w, .inr (2, [.ref qb, .ref qt, .ref qr, .ref qp, .ref qu, .ref qo])), (qb, .inr (0, [.ref gb, .int (nI (if tg = 0 then pu_L B v (nI N) (pu_r B (nI N)) else B).length)])), (gb, .inl (cB, 603, .inl (f1))), (qt, .inr (0, [.ref gt, .int (nI (if tg = 0 then T else pu_L T v (nI N) (pu_r T (nI N))).length)])), (gt, .inl (cB, 603, .inl (ft)))]
                  rw [eB, eT]; exact hD
              · exact absurd (by rw [hi]; decide) c4
            | succ k ih =>
              intro i L1 f1 H locs ls hkN hi hL1 hf1 hP hD hS hl
              rw [nI_pred] at hi
              subst hi
              have hlen : L1.length + (k + 1) = B.length + N := by have h9 := congrArg List.length hL1; rw [List.length_append, List.length_append, pb_len, pb_len] at h9; exact h9
              refine lv_iload hx hb dX2_put_51 (lv_at hl 0 rfl) ?_
              refine lv_if_lt (tgt := 75) hx hb dX2_put_53 (by decide) (fun c4 => ?_) (fun c4 => ?_)
              · exact absurd c4 (nI_pos (by omega))
              · refine lv_aload hx hb dX2_put_56 (lv_at hl 1 rfl) ?_
                refine lv_lload_n hx hb dX2_put_58 rfl (lv_at hl 3 rfl) ?_
                refine lv_bipush (v := 8) hx hb dX2_put_59 (by decide) ?_
                refine lv_iload hx hb dX2_put_61 (lv_at hl 0 rfl) ?_
                refine lv_imul hx hb dX2_put_63 ?_
                refine lv_lushr hx hb dX2_put_64 rfl ?_
                refine lv_l2i hx hb dX2_put_65 rfl ?_
                refine wr_V (wc := [(qb, .inr (0, [.ref gb, .int (nI L1.length)])), (gb, .inl (cB, 603, .inl f1))]) (wr := [(w, .inr (2, [.ref qb, .ref qt, .ref qr, .ref qp, .ref qu, .ref qo])), (qt, .inr (0, [.ref gt, .int (nI T.length)])), (gt, .inl (cB, 603, .inl ft))]) (As := [.int (pb_b v k)]) (rest := []) ⟨hx, hb, hml, hown, hts⟩ (c_By_add l dC dI cB cI cL qb gb L1 f1 (pb_b v k) (by omega) hf1) (cwV 1 hts gX2_put_X0_add rfl rfl rfl (by decide +kernel) ⟨(Nat.le_of_ble_eq_true rfl), (Nat.le_of_ble_eq_true rfl)⟩) hK hN hP hD hS hA [1, 2] [0, 3, 4] rfl rfl (by decide) (by decide) (by decide) 0 rfl rfl rfl rfl hl.1 rfl (Nat.le_of_ble_eq_true rfl) dX2_put_66 ⟨(Nat.le_of_ble_eq_true rfl), (Nat.le_of_ble_eq_true rfl)⟩ (fun f2 H locs hf2 hP hD hS => ?_)
                have hP : va_P (dC, dI) vwCl [(w, .inr (2, [.ref qb, .ref qt, .ref qr, .ref qp, .ref qu, .ref qo])), (qb, .inr (0, [.ref gb, .int (nI (L1 ++ [pb_b v k &&& 255]).length)])), (gb, .inl (cB, 603, .inl f2)), (qt, .inr (0, [.ref gt, .int (nI T.length)])), (gt, .inl (cB, 603, .inl ft))] H := hP.sub [0, 3, 4, 1, 2] rfl
                have hD : va_D A [(w, .inr (2, [.ref qb, .ref qt, .ref qr, .ref qp, .ref qu, .ref qo])), (qb, .inr (0, [.ref gb, .int (nI (L1 ++ [pb_b v k &&& 255]).length)])), (gb, .inl (cB, 603, .inl f2)), (qt, .inr (0, [.ref gt, .int (nI T.length)])), (gt, .inl (cB, 603, .inl ft))] := hD.sub [0, 3, 4, 1, 2] (by decide) rfl
                refine lv_iinc (v := ((nI k) + (-1))) (lv' := [(6, .int ((nI k) + (-1))), (5, .ref qb), (0, .ref w), (2, .long v)]) hx hb dX2_put_69 hl (k := 0) rfl rfl (by decide) rfl (fun ls hl => ?_)
                refine lv_goto (tgt := 51) hx hb dX2_put_72 (by decide) ?_
                exact ih _ (L1 ++ [pb_b v k &&& 255]) f2 H locs ls (by omega) (m1_I k) (by rw [List.append_assoc]; exact hL1) hf2 hP hD hS (lv_sub hl [0, 1, 2, 3] rfl)
          refine lv_iload hx hb dX2_put_45 (lv_at hl 4 rfl) ?_
          refine lv_iconst (v := 1) hx hb dX2_put_47 (by decide) ?_
          refine lv_isub hx hb dX2_put_48 ?_
          refine lv_istore (lv' := [(6, .int ((nI N) - 1)), (5, .ref qb), (0, .ref w), (1, .int tg), (2, .long v), (4, .int (nI N))]) hx hb dX2_put_49 hl (by decide) rfl (fun ls hl => ?_)
          exact loop N _ B fb s.heap [] ls (Nat.le_refl _) rfl rfl hfb hP hD hS (lv_sub hl [0, 1, 2, 4] rfl)
        · refine lv_iconst (v := 0) hx hb dX2_put_43 (by decide) ?_
          have e0 : pu_r B n = 0 := pu_03 c1 c2 c3
          have e1 : pu_L B v n (pu_r B n) = B := pu_L0 e0
          replace eB := eB.trans e1
          refine wi_zret hx hb hr hlk rfl (fb, ft) ⟨by rw [eL, e0], by rw [eB]; exact hfb, by rw [eT]; exact hft⟩ ?_ ?_ hS dX2_put_44
          · show va_P (dC, dI) vwCl [(w, .inr (2, [.ref qb, .ref qt, .ref qr, .ref qp, .ref qu, .ref qo])), (qb, .inr (0, [.ref gb, .int (nI (if tg = 0 then pu_L B v n (pu_r B n) else B).length)])), (gb, .inl (cB, 603, .inl (fb))), (qt, .inr (0, [.ref gt, .int (nI (if tg = 0 then T else pu_L T v n (pu_r T n)).length)])), (gt, .inl (cB, 603, .inl (ft)))] _
            rw [eB, eT]; exact hP
          · show va_D A [(w, .inr (2, [.ref qb, .ref qt, .ref qr, .ref qp, .ref qu, .ref qo])), (qb, .inr (0, [.ref gb, .int (nI (if tg = 0 then pu_L B v n (pu_r B n) else B).length)])), (gb, .inl (cB, 603, .inl (fb))), (qt, .inr (0, [.ref gt, .int (nI (if tg = 0 then T else pu_L T v n (pu_r T n)).length)])), (gt, .inl (cB, 603, .inl (ft)))]
            rw [eB, eT]; exact hD
  · have eL : (if tg = 0 then B else T) = T := if_neg c0
    have eB : (if tg = 0 then pu_L B v n (pu_r B n) else B) = B := if_neg c0
    have eT : (if tg = 0 then T else pu_L T v n (pu_r T n)) = pu_L T v n (pu_r T n) := if_neg c0
    refine lv_aload_n hx hb dX2_put_4 rfl (lv_at hl 0 rfl) ?_
    refine va_get (D := (dC, dI)) (ci := 2) (v := .ref qt) (C := RX2) (T := TX2) (N := 6) hx hb hts (by decide +kernel) hown hK hP 0 rfl rfl 1 (by decide) (hts (.fieldLink RX2 16 "PieceWays" "target" "LPieceWays$Bytes;") (by decide +kernel)) (fun _ h9 => h9) rfl dX2_put_5 ?_
    refine lv_goto (tgt := 15) hx hb dX2_put_8 (by decide) ?_
    refine lv_astore (lv' := [(5, .ref qt), (0, .ref w), (1, .int tg), (2, .long v), (4, .int n)]) hx hb dX2_put_15 hl (by decide) rfl (fun ls hl => ?_)
    refine lv_iload hx hb dX2_put_17 (lv_at hl 4 rfl) ?_
    refine lv_if_lt (tgt := 43) hx hb dX2_put_19 (by decide) (fun c1 => ?_) (fun c1 => ?_)
    · refine lv_iconst (v := 0) hx hb dX2_put_43 (by decide) ?_
      have e0 : pu_r T n = 0 := pu_01 c1
      have e1 : pu_L T v n (pu_r T n) = T := pu_L0 e0
      replace eT := eT.trans e1
      refine wi_zret hx hb hr hlk rfl (fb, ft) ⟨by rw [eL, e0], by rw [eB]; exact hfb, by rw [eT]; exact hft⟩ ?_ ?_ hS dX2_put_44
      · show va_P (dC, dI) vwCl [(w, .inr (2, [.ref qb, .ref qt, .ref qr, .ref qp, .ref qu, .ref qo])), (qb, .inr (0, [.ref gb, .int (nI (if tg = 0 then pu_L B v n (pu_r B n) else B).length)])), (gb, .inl (cB, 603, .inl (fb))), (qt, .inr (0, [.ref gt, .int (nI (if tg = 0 then T else pu_L T v n (pu_r T n)).length)])), (gt, .inl (cB, 603, .inl (ft)))] _
        rw [eB, eT]; exact hP
      · show va_D A [(w, .inr (2, [.ref qb, .ref qt, .ref qr, .ref qp, .ref qu, .ref qo])), (qb, .inr (0, [.ref gb, .int (nI (if tg = 0 then pu_L B v n (pu_r B n) else B).length)])), (gb, .inl (cB, 603, .inl (fb))), (qt, .inr (0, [.ref gt, .int (nI (if tg = 0 then T else pu_L T v n (pu_r T n)).length)])), (gt, .inl (cB, 603, .inl (ft)))]
        rw [eB, eT]; exact hD
    · refine lv_iload hx hb dX2_put_22 (lv_at hl 4 rfl) ?_
      refine lv_bipush (v := 8) hx hb dX2_put_24 (by decide) ?_
      refine lv_icmp_gt (tgt := 43) hx hb dX2_put_26 (by decide) (fun c2 => ?_) (fun c2 => ?_)
      · refine lv_iconst (v := 0) hx hb dX2_put_43 (by decide) ?_
        have e0 : pu_r T n = 0 := pu_02 c1 c2
        have e1 : pu_L T v n (pu_r T n) = T := pu_L0 e0
        replace eT := eT.trans e1
        refine wi_zret hx hb hr hlk rfl (fb, ft) ⟨by rw [eL, e0], by rw [eB]; exact hfb, by rw [eT]; exact hft⟩ ?_ ?_ hS dX2_put_44
        · show va_P (dC, dI) vwCl [(w, .inr (2, [.ref qb, .ref qt, .ref qr, .ref qp, .ref qu, .ref qo])), (qb, .inr (0, [.ref gb, .int (nI (if tg = 0 then pu_L B v n (pu_r B n) else B).length)])), (gb, .inl (cB, 603, .inl (fb))), (qt, .inr (0, [.ref gt, .int (nI (if tg = 0 then T else pu_L T v n (pu_r T n)).length)])), (gt, .inl (cB, 603, .inl (ft)))] _
          rw [eB, eT]; exact hP
        · show va_D A [(w, .inr (2, [.ref qb, .ref qt, .ref qr, .ref qp, .ref qu, .ref qo])), (qb, .inr (0, [.ref gb, .int (nI (if tg = 0 then pu_L B v n (pu_r B n) else B).length)])), (gb, .inl (cB, 603, .inl (fb))), (qt, .inr (0, [.ref gt, .int (nI (if tg = 0 then T else pu_L T v n (pu_r T n)).length)])), (gt, .inl (cB, 603, .inl (ft)))]
          rw [eB, eT]; exact hD
      · refine lv_iload hx hb dX2_put_29 (lv_at hl 4 rfl) ?_
        refine lv_sipush (v := 600) hx hb dX2_put_31 (by decide) ?_
        refine lv_aload hx hb dX2_put_34 (lv_at hl 0 rfl) ?_
        refine rd_V (wc := [(qt, .inr (0, [.ref gt, .int (nI T.length)]))]) (As := []) (rest := [.int 600, .int n]) ⟨hx, hb, hml, hown, hts⟩ (c_By_length l dC dI cB cI cL qt gt (nI T.length)) (cwV 0 hts gX2_put_X0_length rfl rfl rfl (by decide +kernel) ⟨(Nat.le_of_ble_eq_true rfl), (Nat.le_of_ble_eq_true rfl)⟩) hK hN (sb_P hP [3] rfl) 0 rfl rfl rfl rfl hl.1 rfl (Nat.le_of_ble_eq_true rfl) dX2_put_36 ⟨(Nat.le_of_ble_eq_true rfl), (Nat.le_of_ble_eq_true rfl)⟩ ?_
        refine lv_isub hx hb dX2_put_39 ?_
        refine lv_icmp_le (tgt := 45) hx hb dX2_put_40 (by decide) (fun c3 => ?_) (fun c3 => ?_)
        · obtain ⟨N, rfl, hN8, hN6⟩ := pu_in hT c1 c2 c3
          have e1 : pu_r T (nI N) = 1 := pu_1 c1 c2 c3
          have e2 : pu_L T v (nI N) (pu_r T (nI N)) = T ++ pb_L v N := by rw [e1]; unfold pu_L; rw [if_neg (by decide), nI_clamp (by omega)]
          replace eT := eT.trans e2
          have loop : ∀ (k : Nat) (i : Int32) (L1 : List Int32) (f1 : Nat → Int32) (H : Heap) (locs : List Loc) (ls : Array Slot), k ≤ N → i = nI k - 1 → L1 ++ pb_L v k = T ++ pb_L v N → by_k f1 L1 → va_P (dC, dI) vwCl [(w, .inr (2, [.ref qb, .ref qt, .ref qr, .ref qp, .ref qu, .ref qo])), (qb, .inr (0, [.ref gb, .int (nI B.length)])), (gb, .inl (cB, 603, .inl fb)), (qt, .inr (0, [.ref gt, .int (nI L1.length)])), (gt, .inl (cB, 603, .inl f1))] H → va_D A [(w, .inr (2, [.ref qb, .ref qt, .ref qr, .ref qp, .ref qu, .ref qo])), (qb, .inr (0, [.ref gb, .int (nI B.length)])), (gb, .inl (cB, 603, .inl fb)), (qt, .inr (0, [.ref gt, .int (nI L1.length)])), (gt, .inl (cB, 603, .inl f1))] → va_S A s.heap H locs → lv_has ls 7 [(6, .int i), (5, .ref qt), (0, .ref w), (2, .long v)] → W p l e ({ frames := 1, cells := 0, slots := 0, locals := 21 } : Room) s m ([.ref w, .int tg, .long v, .int (nI N)] : List Value).toArray below meth c H locs 0 0 (MQ below (va_Qi (fun (r : Int32) (z : (Nat → Int32) × (Nat → Int32)) => r = pu_r (if tg = 0 then B else T) (nI N) ∧ by_k z.1 (if tg = 0 then pu_L B v (nI N) (pu_r B (nI N)) else B) ∧ by_k z.2 (if tg = 0 then T else pu_L T v (nI N) (pu_r T (nI N)))) (fun u t => va_P (dC, dI) vwCl ((fun z : (Nat → Int32) × (Nat → Int32) => [(w, .inr (2, [.ref qb, .ref qt, .ref qr, .ref qp, .ref qu, .ref qo])), (qb, .inr (0, [.ref gb, .int (nI (if tg = 0 then pu_L B v (nI N) (pu_r B (nI N)) else B).length)])), (gb, .inl (cB, 603, .inl (z.1))), (qt, .inr (0, [.ref gt, .int (nI (if tg = 0 then T else pu_L T v (nI N) (pu_r T (nI N))).length)])), (gt, .inl (cB, 603, .inl (z.2)))]) u) t.heap ∧ va_D A ((fun z : (Nat → Int32) × (Nat → Int32) => [(w, .inr (2, [.ref qb, .ref qt, .ref qr, .ref qp, .ref qu, .ref qo])), (qb, .inr (0, [.ref gb, .int (nI (if tg = 0 then pu_L B v (nI N) (pu_r B (nI N)) else B).length)])), (gb, .inl (cB, 603, .inl (z.1))), (qt, .inr (0, [.ref gt, .int (nI (if tg = 0 then T else pu_L T v (nI N) (pu_r T (nI N))).length)])), (gt, .inl (cB, 603, .inl (z.2)))]) u)) A) ([.ref w, .int tg, .long v, .int (nI N)] : List Value).toArray s 0 0 A) (F0 m 51 ls []) := by
            intro k
            induction k with
            | zero =>
              intro i L1 f1 H locs ls hkN hi hL1 hf1 hP hD hS hl
              have hL1 : L1 = T ++ pb_L v N := by rw [← hL1]; exact (List.append_nil L1).symm
              subst hL1
              refine lv_iload hx hb dX2_put_51 (lv_at hl 0 rfl) ?_
              refine lv_if_lt (tgt := 75) hx hb dX2_put_53 (by decide) (fun c4 => ?_) (fun c4 => ?_)
              · refine lv_iconst (v := 1) hx hb dX2_put_75 (by decide) ?_
                refine wi_zret hx hb hr hlk rfl (fb, f1) ⟨by rw [eL, e1], by rw [eB]; exact hfb, by rw [eT]; exact hf1⟩ ?_ ?_ hS dX2_put_76
                · show va_P (dC, dI) vwCl [(w, .inr (2, [.ref qb, .ref qt, .ref qr, .ref qp, .ref qu, .ref qo])), (qb, .inr (0, [.ref gb, .int (nI (if tg = 0 then pu_L B v (nI N) (pu_r B (nI N)) else B).length)])), (gb, .inl (cB, 603, .inl (fb))), (qt, .inr (0, [.ref gt, .int (nI (if tg = 0 then T else pu_L T v (nI N) (pu_r T (nI N))).length)])), (gt, .inl (cB, 603, .inl (f1)))] _
                  rw [eB, eT]; exact hP
                · show va_D A [(w, .inr (2, [.ref qb, .ref qt, .ref qr, .ref qp, .ref qu, .ref qo])), (qb, .inr (0, [.ref gb, .int (nI (if tg = 0 then pu_L B v (nI N) (pu_r B (nI N)) else B).length)])), (gb, .inl (cB, 603, .inl (fb))), (qt, .inr (0, [.ref gt, .int (nI (if tg = 0 then T else pu_L T v (nI N) (pu_r T (nI N))).length)])), (gt, .inl (cB, 603, .inl (f1)))]
                  rw [eB, eT]; exact hD
              · exact absurd (by rw [hi]; decide) c4
            | succ k ih =>
              intro i L1 f1 H locs ls hkN hi hL1 hf1 hP hD hS hl
              rw [nI_pred] at hi
              subst hi
              have hlen : L1.length + (k + 1) = T.length + N := by have h9 := congrArg List.length hL1; rw [List.length_append, List.length_append, pb_len, pb_len] at h9; exact h9
              refine lv_iload hx hb dX2_put_51 (lv_at hl 0 rfl) ?_
              refine lv_if_lt (tgt := 75) hx hb dX2_put_53 (by decide) (fun c4 => ?_) (fun c4 => ?_)
              · exact absurd c4 (nI_pos (by omega))
              · refine lv_aload hx hb dX2_put_56 (lv_at hl 1 rfl) ?_
                refine lv_lload_n hx hb dX2_put_58 rfl (lv_at hl 3 rfl) ?_
                refine lv_bipush (v := 8) hx hb dX2_put_59 (by decide) ?_
                refine lv_iload hx hb dX2_put_61 (lv_at hl 0 rfl) ?_
                refine lv_imul hx hb dX2_put_63 ?_
                refine lv_lushr hx hb dX2_put_64 rfl ?_
                refine lv_l2i hx hb dX2_put_65 rfl ?_
                refine wr_V (wc := [(qt, .inr (0, [.ref gt, .int (nI L1.length)])), (gt, .inl (cB, 603, .inl f1))]) (wr := [(w, .inr (2, [.ref qb, .ref qt, .ref qr, .ref qp, .ref qu, .ref qo])), (qb, .inr (0, [.ref gb, .int (nI B.length)])), (gb, .inl (cB, 603, .inl fb))]) (As := [.int (pb_b v k)]) (rest := []) ⟨hx, hb, hml, hown, hts⟩ (c_By_add l dC dI cB cI cL qt gt L1 f1 (pb_b v k) (by omega) hf1) (cwV 1 hts gX2_put_X0_add rfl rfl rfl (by decide +kernel) ⟨(Nat.le_of_ble_eq_true rfl), (Nat.le_of_ble_eq_true rfl)⟩) hK hN hP hD hS hA [3, 4] [0, 1, 2] rfl rfl (by decide) (by decide) (by decide) 0 rfl rfl rfl rfl hl.1 rfl (Nat.le_of_ble_eq_true rfl) dX2_put_66 ⟨(Nat.le_of_ble_eq_true rfl), (Nat.le_of_ble_eq_true rfl)⟩ (fun f2 H locs hf2 hP hD hS => ?_)
                have hP : va_P (dC, dI) vwCl [(w, .inr (2, [.ref qb, .ref qt, .ref qr, .ref qp, .ref qu, .ref qo])), (qb, .inr (0, [.ref gb, .int (nI B.length)])), (gb, .inl (cB, 603, .inl fb)), (qt, .inr (0, [.ref gt, .int (nI (L1 ++ [pb_b v k &&& 255]).length)])), (gt, .inl (cB, 603, .inl f2))] H := hP.sub [0, 1, 2, 3, 4] rfl
                have hD : va_D A [(w, .inr (2, [.ref qb, .ref qt, .ref qr, .ref qp, .ref qu, .ref qo])), (qb, .inr (0, [.ref gb, .int (nI B.length)])), (gb, .inl (cB, 603, .inl fb)), (qt, .inr (0, [.ref gt, .int (nI (L1 ++ [pb_b v k &&& 255]).length)])), (gt, .inl (cB, 603, .inl f2))] := hD.sub [0, 1, 2, 3, 4] (by decide) rfl
                refine lv_iinc (v := ((nI k) + (-1))) (lv' := [(6, .int ((nI k) + (-1))), (5, .ref qt), (0, .ref w), (2, .long v)]) hx hb dX2_put_69 hl (k := 0) rfl rfl (by decide) rfl (fun ls hl => ?_)
                refine lv_goto (tgt := 51) hx hb dX2_put_72 (by decide) ?_
                exact ih _ (L1 ++ [pb_b v k &&& 255]) f2 H locs ls (by omega) (m1_I k) (by rw [List.append_assoc]; exact hL1) hf2 hP hD hS (lv_sub hl [0, 1, 2, 3] rfl)
          refine lv_iload hx hb dX2_put_45 (lv_at hl 4 rfl) ?_
          refine lv_iconst (v := 1) hx hb dX2_put_47 (by decide) ?_
          refine lv_isub hx hb dX2_put_48 ?_
          refine lv_istore (lv' := [(6, .int ((nI N) - 1)), (5, .ref qt), (0, .ref w), (1, .int tg), (2, .long v), (4, .int (nI N))]) hx hb dX2_put_49 hl (by decide) rfl (fun ls hl => ?_)
          exact loop N _ T ft s.heap [] ls (Nat.le_refl _) rfl rfl hft hP hD hS (lv_sub hl [0, 1, 2, 4] rfl)
        · refine lv_iconst (v := 0) hx hb dX2_put_43 (by decide) ?_
          have e0 : pu_r T n = 0 := pu_03 c1 c2 c3
          have e1 : pu_L T v n (pu_r T n) = T := pu_L0 e0
          replace eT := eT.trans e1
          refine wi_zret hx hb hr hlk rfl (fb, ft) ⟨by rw [eL, e0], by rw [eB]; exact hfb, by rw [eT]; exact hft⟩ ?_ ?_ hS dX2_put_44
          · show va_P (dC, dI) vwCl [(w, .inr (2, [.ref qb, .ref qt, .ref qr, .ref qp, .ref qu, .ref qo])), (qb, .inr (0, [.ref gb, .int (nI (if tg = 0 then pu_L B v n (pu_r B n) else B).length)])), (gb, .inl (cB, 603, .inl (fb))), (qt, .inr (0, [.ref gt, .int (nI (if tg = 0 then T else pu_L T v n (pu_r T n)).length)])), (gt, .inl (cB, 603, .inl (ft)))] _
            rw [eB, eT]; exact hP
          · show va_D A [(w, .inr (2, [.ref qb, .ref qt, .ref qr, .ref qp, .ref qu, .ref qo])), (qb, .inr (0, [.ref gb, .int (nI (if tg = 0 then pu_L B v n (pu_r B n) else B).length)])), (gb, .inl (cB, 603, .inl (fb))), (qt, .inr (0, [.ref gt, .int (nI (if tg = 0 then T else pu_L T v n (pu_r T n)).length)])), (gt, .inl (cB, 603, .inl (ft)))]
            rw [eB, eT]; exact hD
end PWPUT
