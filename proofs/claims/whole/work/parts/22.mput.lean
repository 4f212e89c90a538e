section PWMPUT
variable (l : Launch) (dC : Nat → ClassId) (dI : Nat → Nat → Nat) (cB cI cL : ClassId)

set_option maxHeartbeats 1000000 in
set_option maxRecDepth 100000 in
/-- put(tg, v, n) -/
theorem c_Md_put (md a1 a2 a3 a4 a5 : Nat) (B T O Z : List Int32) (th : Int32) (eb et : Nat → Int32) (tg : Int32) (v : Int64) (n : Int32) (hB : B.length ≤ 600) (hT : T.length ≤ 600) (heb : im_k eb B) (het : im_k et T) : wi_M l yX3_put wsX3_put ({ frames := 0, cells := 0, slots := 0, locals := 0 } : Room) (dC, dI) vwCl (tk_s cB cI cL) [.ref md, .int tg, .long v, .int n] [(md, .inr (3, [.int th, .ref a1, .int (nI B.length), .ref a2, .int (nI T.length), .ref a3, .int (nI O.length), .ref a4, .int (nI Z.length), .ref a5])), (a1, .inl (cI, 600, .inl eb)), (a2, .inl (cI, 600, .inl et))] 0 0 (fun (r : Int32) (z : (Nat → Int32) × (Nat → Int32)) => r = pu_r (if tg = 0 then B else T) n ∧ im_k z.1 (if tg = 0 then pu_L B v n (pu_r B n) else B) ∧ im_k z.2 (if tg = 0 then T else pu_L T v n (pu_r T n))) (fun z : (Nat → Int32) × (Nat → Int32) => [(md, .inr (3, [.int 0, .ref a1, .int (nI (if tg = 0 then pu_L B v n (pu_r B n) else B).length), .ref a2, .int (nI (if tg = 0 then T else pu_L T v n (pu_r T n)).length), .ref a3, .int (nI O.length), .ref a4, .int (nI Z.length), .ref a5])), (a1, .inl (cI, 600, .inl (z.1))), (a2, .inl (cI, 600, .inl (z.2)))]) := by
  refine wi_ofW (cc := cX3_put) (maxL := 8) (ret := (some .boolean)) (by decide) rfl (Nat.le_of_ble_eq_true rfl) ?_
  intro p e s m below meth c ls A hx hb hr hml hts hown hlk hnm hP hK hN hD hA hS hl
  have hl : lv_has ls 8 [(0, .ref md), (1, .int tg), (2, .long v), (4, .int n)] := hl
  refine lv_aload_n hx hb dX3_put_0 rfl (lv_at hl 0 rfl) ?_
  refine lv_iconst (v := 0) hx hb dX3_put_1 (by decide) ?_
  refine va_put (D := (dC, dI)) (ci := 3) (v := .int 0) (ty := .int) (C := RX3) (T := TX3) (N := 10) hx hb hts (by decide +kernel) tyX3 tyX3_ok nmX3 hown hK hP hD hS 0 rfl rfl 0 (by decide) (hts (.fieldLink RX3 7 "PieceWaysModel" "thrownCode" "I") (by decide +kernel)) (fun _ h9 => h9) rfl (by decide +kernel) rfl rfl (Nat.le_of_ble_eq_true rfl) dX3_put_2 (fun H locs hP hD hS => ?_)
  have hP : va_P (dC, dI) vwCl [(md, .inr (3, [.int 0, .ref a1, .int (nI B.length), .ref a2, .int (nI T.length), .ref a3, .int (nI O.length), .ref a4, .int (nI Z.length), .ref a5])), (a1, .inl (cI, 600, .inl eb)), (a2, .inl (cI, 600, .inl et))] H := hP
  have hD : va_D A [(md, .inr (3, [.int 0, .ref a1, .int (nI B.length), .ref a2, .int (nI T.length), .ref a3, .int (nI O.length), .ref a4, .int (nI Z.length), .ref a5])), (a1, .inl (cI, 600, .inl eb)), (a2, .inl (cI, 600, .inl et))] := hD
  refine lv_iload_n hx hb dX3_put_5 rfl (lv_at hl 1 rfl) ?_
  refine lv_if_eq (tgt := 16) hx hb dX3_put_6 (by decide) (fun c0 => ?_) (fun c0 => ?_)
  · have eL : (if tg = 0 then B else T) = B := if_pos c0
    have eB : (if tg = 0 then pu_L B v n (pu_r B n) else B) = pu_L B v n (pu_r B n) := if_pos c0
    have eT : (if tg = 0 then T else pu_L T v n (pu_r T n)) = T := if_pos c0
    refine lv_aload_n hx hb dX3_put_16 rfl (lv_at hl 0 rfl) ?_
    refine va_get (D := (dC, dI)) (ci := 3) (v := .int (nI B.length)) (C := RX3) (T := TX3) (N := 10) hx hb hts (by decide +kernel) hown hK hP 0 rfl rfl 2 (by decide) (hts (.fieldLink RX3 17 "PieceWaysModel" "bases" "I") (by decide +kernel)) (fun _ h9 => h9) rfl dX3_put_17 ?_
    refine lv_istore (lv' := [(5, .int (nI B.length)), (0, .ref md), (1, .int tg), (2, .long v), (4, .int n)]) hx hb dX3_put_20 hl (by decide) rfl (fun ls hl => ?_)
    refine lv_iload hx hb dX3_put_22 (lv_at hl 4 rfl) ?_
    refine lv_if_lt (tgt := 45) hx hb dX3_put_24 (by decide) (fun c1 => ?_) (fun c1 => ?_)
    · refine lv_iconst (v := 0) hx hb dX3_put_45 (by decide) ?_
      have e0 : pu_r B n = 0 := pu_01 c1
      have e1 : pu_L B v n (pu_r B n) = B := pu_L0 e0
      replace eB := eB.trans e1
      refine wi_zret hx hb hr hlk rfl (eb, et) ⟨by rw [eL, e0], by rw [eB]; exact heb, by rw [eT]; exact het⟩ ?_ ?_ hS dX3_put_46
      · show va_P (dC, dI) vwCl [(md, .inr (3, [.int 0, .ref a1, .int (nI (if tg = 0 then pu_L B v n (pu_r B n) else B).length), .ref a2, .int (nI (if tg = 0 then T else pu_L T v n (pu_r T n)).length), .ref a3, .int (nI O.length), .ref a4, .int (nI Z.length), .ref a5])), (a1, .inl (cI, 600, .inl (eb))), (a2, .inl (cI, 600, .inl (et)))] _
        rw [eB, eT]; exact hP
      · show va_D A [(md, .inr (3, [.int 0, .ref a1, .int (nI (if tg = 0 then pu_L B v n (pu_r B n) else B).length), .ref a2, .int (nI (if tg = 0 then T else pu_L T v n (pu_r T n)).length), .ref a3, .int (nI O.length), .ref a4, .int (nI Z.length), .ref a5])), (a1, .inl (cI, 600, .inl (eb))), (a2, .inl (cI, 600, .inl (et)))]
        rw [eB, eT]; exact hD
    · refine lv_iload hx hb dX3_put_27 (lv_at hl 4 rfl) ?_
      refine lv_bipush (v := 8) hx hb dX3_put_29 (by decide) ?_
      refine lv_icmp_gt (tgt := 45) hx hb dX3_put_31 (by decide) (fun c2 => ?_) (fun c2 => ?_)
      · refine lv_iconst (v := 0) hx hb dX3_put_45 (by decide) ?_
        have e0 : pu_r B n = 0 := pu_02 c1 c2
        have e1 : pu_L B v n (pu_r B n) = B := pu_L0 e0
        replace eB := eB.trans e1
        refine wi_zret hx hb hr hlk rfl (eb, et) ⟨by rw [eL, e0], by rw [eB]; exact heb, by rw [eT]; exact het⟩ ?_ ?_ hS dX3_put_46
        · show va_P (dC, dI) vwCl [(md, .inr (3, [.int 0, .ref a1, .int (nI (if tg = 0 then pu_L B v n (pu_r B n) else B).length), .ref a2, .int (nI (if tg = 0 then T else pu_L T v n (pu_r T n)).length), .ref a3, .int (nI O.length), .ref a4, .int (nI Z.length), .ref a5])), (a1, .inl (cI, 600, .inl (eb))), (a2, .inl (cI, 600, .inl (et)))] _
          rw [eB, eT]; exact hP
        · show va_D A [(md, .inr (3, [.int 0, .ref a1, .int (nI (if tg = 0 then pu_L B v n (pu_r B n) else B).length), .ref a2, .int (nI (if tg = 0 then T else pu_L T v n (pu_r T n)).length), .ref a3, .int (nI O.length), .ref a4, .int (nI Z.length), .ref a5])), (a1, .inl (cI, 600, .inl (eb))), (a2, .inl (cI, 600, .inl (et)))]
          rw [eB, eT]; exact hD
      · refine lv_iload hx hb dX3_put_34 (lv_at hl 0 rfl) ?_
        refine lv_iload hx hb dX3_put_36 (lv_at hl 4 rfl) ?_
        refine lv_iadd hx hb dX3_put_38 ?_
        refine lv_sipush (v := 600) hx hb dX3_put_39 (by decide) ?_
        refine lv_icmp_le (tgt := 47) hx hb dX3_put_42 (by decide) (fun c3 => ?_) (fun c3 => ?_)
        · have c3 := (pu_m hB c1 c2).mp c3
          obtain ⟨N, rfl, hN8, hN6⟩ := pu_in hB c1 c2 c3
          have e1 : pu_r B (nI N) = 1 := pu_1 c1 c2 c3
          have e2 : pu_L B v (nI N) (pu_r B (nI N)) = B ++ pb_L v N := by rw [e1]; unfold pu_L; rw [if_neg (by decide), nI_clamp (by omega)]
          replace eB := eB.trans e2
          have loop : ∀ (k : Nat) (i : Int32) (L1 : List Int32) (f1 : Nat → Int32) (H : Heap) (locs : List Loc) (ls : Array Slot), k ≤ N → i = nI k - 1 → L1 ++ pb_L v k = B ++ pb_L v N → im_k f1 L1 → va_P (dC, dI) vwCl [(md, .inr (3, [.int 0, .ref a1, .int (nI L1.length), .ref a2, .int (nI T.length), .ref a3, .int (nI O.length), .ref a4, .int (nI Z.length), .ref a5])), (a1, .inl (cI, 600, .inl f1)), (a2, .inl (cI, 600, .inl et))] H → va_D A [(md, .inr (3, [.int 0, .ref a1, .int (nI L1.length), .ref a2, .int (nI T.length), .ref a3, .int (nI O.length), .ref a4, .int (nI Z.length), .ref a5])), (a1, .inl (cI, 600, .inl f1)), (a2, .inl (cI, 600, .inl et))] → va_S A s.heap H locs → lv_has ls 8 [(6, .int i), (1, .int tg), (0, .ref md), (2, .long v)] → W p l e ({ frames := 0, cells := 0, slots := 0, locals := 0 } : Room) s m ([.ref md, .int tg, .long v, .int (nI N)] : List Value).toArray below meth c H locs 0 0 (MQ below (va_Qi (fun (r : Int32) (z : (Nat → Int32) × (Nat → Int32)) => r = pu_r (if tg = 0 then B else T) (nI N) ∧ im_k z.1 (if tg = 0 then pu_L B v (nI N) (pu_r B (nI N)) else B) ∧ im_k z.2 (if tg = 0 then T else pu_L T v (nI N) (pu_r T (nI N)))) (fun u t => va_P (dC, dI) vwCl ((fun z : (Nat → Int32) × (Nat → Int32) => [(md, .inr (3, [.int 0, .ref a1, .int (nI (if tg = 0 then pu_L B v (nI N) (pu_r B (nI N)) else B).length), .ref a2, .int (nI (if tg = 0 then T else pu_L T v (nI N) (pu_r T (nI N))).length), .ref a3, .int (nI O.length), .ref a4, .int (nI Z.length), .ref a5])), (a1, .inl (cI, 600, .inl (z.1))), (a2, .inl (cI, 600, .inl (z.2)))]) u) t.heap ∧ va_D A ((fun z : (Nat → Int32) × (Nat → Int32) => [(md, .inr (3, [.int 0, .ref a1, .int (nI (if tg = 0 then pu_L B v (nI N) (pu_r B (nI N)) else B).length), .ref a2, .int (nI (if tg = 0 then T else pu_L T v (nI N) (pu_r T (nI N))).length), .ref a3, .int (nI O.length), .ref a4, .int (nI Z.length), .ref a5])), (a1, .inl (cI, 600, .inl (z.1))), (a2, .inl (cI, 600, .inl (z.2)))]) u)) A) ([.ref md, .int tg, .long v, .int (nI N)] : List Value).toArray s 0 0 A) (F0 m 53 ls []) := by
            intro k
            induction k with
            | zero =>
              intro i L1 f1 H locs ls hkN hi hL1 hf1 hP hD hS hl
              have hL1 : L1 = B ++ pb_L v N := by rw [← hL1]; exact (List.append_nil L1).symm
              subst hL1
              refine lv_iload hx hb dX3_put_53 (lv_at hl 0 rfl) ?_
              refine lv_if_lt (tgt := 127) hx hb dX3_put_55 (by decide) (fun c4 => ?_) (fun c4 => ?_)
              · refine lv_iconst (v := 1) hx hb dX3_put_127 (by decide) ?_
                refine wi_zret hx hb hr hlk rfl (f1, et) ⟨by rw [eL, e1], by rw [eB]; exact hf1, by rw [eT]; exact het⟩ ?_ ?_ hS dX3_put_128
                · show va_P (dC, dI) vwCl [(md, .inr (3, [.int 0, .ref a1, .int (nI (if tg = 0 then pu_L B v (nI N) (pu_r B (nI N)) else B).length), .ref a2, .int (nI (if tg = 0 then T else pu_L T v (nI N) (pu_r T (nI N))).length), .ref a3, .int (nI O.length), .ref a4, .int (nI Z.length), .ref a5])), (a1, .inl (cI, 600, .inl (f1))), (a2, .inl (cI, 600, .inl (et)))] _
                  rw [eB, eT]; exact hP
                · show va_D A [(md, .inr (3, [.int 0, .ref a1, .int (nI (if tg = 0 then pu_L B v (nI N) (pu_r B (nI N)) else B).length), .ref a2, .int (nI (if tg = 0 then T else pu_L T v (nI N) (pu_r T (nI N))).length), .ref a3, .int (nI O.length), .ref a4, .int (nI Z.length), .ref a5])), (a1, .inl (cI, 600, .inl (f1))), (a2, .inl (cI, 600, .inl (et)))]
                  rw [eB, eT]; exact hD
              · exact absurd (by rw [hi]; decide) c4
            | succ k ih =>
              intro i L1 f1 H locs ls hkN hi hL1 hf1 hP hD hS hl
              rw [nI_pred] at hi
              subst hi
              have hlen : L1.length + (k + 1) = B.length + N := by have h9 := congrArg List.length hL1; rw [List.length_append, List.length_append, pb_len, pb_len] at h9; exact h9
              have hbt := bt_I v k (by omega)
              refine lv_iload hx hb dX3_put_53 (lv_at hl 0 rfl) ?_
              refine lv_if_lt (tgt := 127) hx hb dX3_put_55 (by decide) (fun c4 => ?_) (fun c4 => ?_)
              · exact absurd c4 (nI_pos (by omega))
              · refine lv_lload_n hx hb dX3_put_58 rfl (lv_at hl 3 rfl) ?_
                refine lv_bipush (v := 8) hx hb dX3_put_59 (by decide) ?_
                refine lv_iload hx hb dX3_put_61 (lv_at hl 0 rfl) ?_
                refine lv_imul hx hb dX3_put_63 ?_
                refine lv_lshr hx hb dX3_put_64 rfl ?_
                refine lv_l2i hx hb dX3_put_65 rfl ?_
                refine lv_sipush (v := 255) hx hb dX3_put_66 (by decide) ?_
                refine lv_iand hx hb dX3_put_69 ?_
                rw [hbt]
                refine lv_istore (lv' := [(7, .int (pb_b v k &&& 255)), (6, .int (nI k)), (1, .int tg), (0, .ref md), (2, .long v)]) hx hb dX3_put_70 hl (by decide) rfl (fun ls hl => ?_)
                refine lv_iload_n hx hb dX3_put_72 rfl (lv_at hl 2 rfl) ?_
                refine lv_if_eq (tgt := 100) hx hb dX3_put_73 (by decide) (fun c5 => ?_) (fun c5 => ?_)
                · refine lv_aload_n hx hb dX3_put_100 rfl (lv_at hl 3 rfl) ?_
                  refine va_get (D := (dC, dI)) (ci := 3) (v := .ref a1) (C := RX3) (T := TX3) (N := 10) hx hb hts (by decide +kernel) hown hK hP 0 rfl rfl 1 (by decide) (hts (.fieldLink RX3 13 "PieceWaysModel" "base" "[I") (by decide +kernel)) (fun _ h9 => h9) rfl dX3_put_101 ?_
                  refine lv_aload_n hx hb dX3_put_104 rfl (lv_at hl 3 rfl) ?_
                  refine va_get (D := (dC, dI)) (ci := 3) (v := .int (nI L1.length)) (C := RX3) (T := TX3) (N := 10) hx hb hts (by decide +kernel) hown hK hP 0 rfl rfl 2 (by decide) (hts (.fieldLink RX3 17 "PieceWaysModel" "bases" "I") (by decide +kernel)) (fun _ h9 => h9) rfl dX3_put_105 ?_
                  refine lv_iload hx hb dX3_put_108 (lv_at hl 0 rfl) ?_
                  refine va_iast hx hb hK hP hD hS 1 1 rfl rfl (vp_in_nI (by omega) (by omega)) dX3_put_110 (fun H locs hP hD hS => ?_)
                  have hP : va_P (dC, dI) vwCl [(md, .inr (3, [.int 0, .ref a1, .int (nI L1.length), .ref a2, .int (nI T.length), .ref a3, .int (nI O.length), .ref a4, .int (nI Z.length), .ref a5])), (a1, .inl (cI, 600, .inl (upd f1 (nI L1.length).toNatClampNeg (pb_b v k &&& 255)))), (a2, .inl (cI, 600, .inl et))] H := hP
                  have hD : va_D A [(md, .inr (3, [.int 0, .ref a1, .int (nI L1.length), .ref a2, .int (nI T.length), .ref a3, .int (nI O.length), .ref a4, .int (nI Z.length), .ref a5])), (a1, .inl (cI, 600, .inl (upd f1 (nI L1.length).toNatClampNeg (pb_b v k &&& 255)))), (a2, .inl (cI, 600, .inl et))] := hD
                  refine lv_aload_n hx hb dX3_put_111 rfl (lv_at hl 3 rfl) ?_
                  refine lv_dup hx hb dX3_put_112 rfl ?_
                  refine va_get (D := (dC, dI)) (ci := 3) (v := .int (nI L1.length)) (C := RX3) (T := TX3) (N := 10) hx hb hts (by decide +kernel) hown hK hP 0 rfl rfl 2 (by decide) (hts (.fieldLink RX3 17 "PieceWaysModel" "bases" "I") (by decide +kernel)) (fun _ h9 => h9) rfl dX3_put_113 ?_
                  refine lv_iconst (v := 1) hx hb dX3_put_116 (by decide) ?_
                  refine lv_iadd hx hb dX3_put_117 ?_
                  refine va_put (D := (dC, dI)) (ci := 3) (v := .int ((nI L1.length) + 1)) (ty := .int) (C := RX3) (T := TX3) (N := 10) hx hb hts (by decide +kernel) tyX3 tyX3_ok nmX3 hown hK hP hD hS 0 rfl rfl 2 (by decide) (hts (.fieldLink RX3 17 "PieceWaysModel" "bases" "I") (by decide +kernel)) (fun _ h9 => h9) rfl (by decide +kernel) rfl rfl (Nat.le_of_ble_eq_true rfl) dX3_put_118 (fun H locs hP hD hS => ?_)
                  have hP : va_P (dC, dI) vwCl [(md, .inr (3, [.int 0, .ref a1, .int ((nI L1.length) + 1), .ref a2, .int (nI T.length), .ref a3, .int (nI O.length), .ref a4, .int (nI Z.length), .ref a5])), (a1, .inl (cI, 600, .inl (upd f1 (nI L1.length).toNatClampNeg (pb_b v k &&& 255)))), (a2, .inl (cI, 600, .inl et))] H := hP
                  have hD : va_D A [(md, .inr (3, [.int 0, .ref a1, .int ((nI L1.length) + 1), .ref a2, .int (nI T.length), .ref a3, .int (nI O.length), .ref a4, .int (nI Z.length), .ref a5])), (a1, .inl (cI, 600, .inl (upd f1 (nI L1.length).toNatClampNeg (pb_b v k &&& 255)))), (a2, .inl (cI, 600, .inl et))] := hD
                  rw [nI_clamp (by omega)] at hP hD
                  have e7 : nI L1.length + 1 = nI (L1 ++ [pb_b v k &&& 255]).length := by rw [List.length_append]; exact nI_1 _
                  rw [e7] at hP hD
                  refine lv_iinc (v := ((nI k) + (-1))) (lv' := [(6, .int ((nI k) + (-1))), (7, .int (pb_b v k &&& 255)), (1, .int tg), (0, .ref md), (2, .long v)]) hx hb dX3_put_121 hl (k := 1) rfl rfl (by decide) rfl (fun ls hl => ?_)
                  refine lv_goto (tgt := 53) hx hb dX3_put_124 (by decide) ?_
                  exact ih _ (L1 ++ [pb_b v k &&& 255]) (upd f1 L1.length (pb_b v k &&& 255)) H locs ls (by omega) (m1_I k) (by rw [List.append_assoc]; exact hL1) (im_add hf1 _) hP hD hS (lv_sub hl [0, 2, 3, 4] rfl)
                · exact absurd c0 c5
          refine lv_iload hx hb dX3_put_47 (lv_at hl 4 rfl) ?_
          refine lv_iconst (v := 1) hx hb dX3_put_49 (by decide) ?_
          refine lv_isub hx hb dX3_put_50 ?_
          refine lv_istore (lv' := [(6, .int ((nI N) - 1)), (5, .int (nI B.length)), (0, .ref md), (1, .int tg), (2, .long v), (4, .int (nI N))]) hx hb dX3_put_51 hl (by decide) rfl (fun ls hl => ?_)
          exact loop N _ B eb H locs ls (Nat.le_refl _) rfl rfl heb hP hD hS (lv_sub hl [0, 3, 2, 4] rfl)
        · refine lv_iconst (v := 0) hx hb dX3_put_45 (by decide) ?_
          have e0 : pu_r B n = 0 := pu_03 c1 c2 (fun h9 => c3 ((pu_m hB c1 c2).mpr h9))
          have e1 : pu_L B v n (pu_r B n) = B := pu_L0 e0
          replace eB := eB.trans e1
          refine wi_zret hx hb hr hlk rfl (eb, et) ⟨by rw [eL, e0], by rw [eB]; exact heb, by rw [eT]; exact het⟩ ?_ ?_ hS dX3_put_46
          · show va_P (dC, dI) vwCl [(md, .inr (3, [.int 0, .ref a1, .int (nI (if tg = 0 then pu_L B v n (pu_r B n) else B).length), .ref a2, .int (nI (if tg = 0 then T else pu_L T v n (pu_r T n)).length), .ref a3, .int (nI O.length), .ref a4, .int (nI Z.length), .ref a5])), (a1, .inl (cI, 600, .inl (eb))), (a2, .inl (cI, 600, .inl (et)))] _
            rw [eB, eT]; exact hP
          · show va_D A [(md, .inr (3, [.int 0, .ref a1, .int (nI (if tg = 0 then pu_L B v n (pu_r B n) else B).length), .ref a2, .int (nI (if tg = 0 then T else pu_L T v n (pu_r T n)).length), .ref a3, .int (nI O.length), .ref a4, .int (nI Z.length), .ref a5])), (a1, .inl (cI, 600, .inl (eb))), (a2, .inl (cI, 600, .inl (et)))]
            rw [eB, eT]; exact hD
  · have eL : (if tg = 0 then B else T) = T := if_neg c0
    have eB : (if tg = 0 then pu_L B v n (pu_r B n) else B) = B := if_neg c0
    have eT : (if tg = 0 then T else pu_L T v n (pu_r T n)) = pu_L T v n (pu_r T n) := if_neg c0
    refine lv_aload_n hx hb dX3_put_9 rfl (lv_at hl 0 rfl) ?_
    refine va_get (D := (dC, dI)) (ci := 3) (v := .int (nI T.length)) (C := RX3) (T := TX3) (N := 10) hx hb hts (by decide +kernel) hown hK hP 0 rfl rfl 4 (by decide) (hts (.fieldLink RX3 23 "PieceWaysModel" "targets" "I") (by decide +kernel)) (fun _ h9 => h9) rfl dX3_put_10 ?_
    refine lv_goto (tgt := 20) hx hb dX3_put_13 (by decide) ?_
    refine lv_istore (lv' := [(5, .int (nI T.length)), (0, .ref md), (1, .int tg), (2, .long v), (4, .int n)]) hx hb dX3_put_20 hl (by decide) rfl (fun ls hl => ?_)
    refine lv_iload hx hb dX3_put_22 (lv_at hl 4 rfl) ?_
    refine lv_if_lt (tgt := 45) hx hb dX3_put_24 (by decide) (fun c1 => ?_) (fun c1 => ?_)
    · refine lv_iconst (v := 0) hx hb dX3_put_45 (by decide) ?_
      have e0 : pu_r T n = 0 := pu_01 c1
      have e1 : pu_L T v n (pu_r T n) = T := pu_L0 e0
      replace eT := eT.trans e1
      refine wi_zret hx hb hr hlk rfl (eb, et) ⟨by rw [eL, e0], by rw [eB]; exact heb, by rw [eT]; exact het⟩ ?_ ?_ hS dX3_put_46
      · show va_P (dC, dI) vwCl [(md, .inr (3, [.int 0, .ref a1, .int (nI (if tg = 0 then pu_L B v n (pu_r B n) else B).length), .ref a2, .int (nI (if tg = 0 then T else pu_L T v n (pu_r T n)).length), .ref a3, .int (nI O.length), .ref a4, .int (nI Z.length), .ref a5])), (a1, .inl (cI, 600, .inl (eb))), (a2, .inl (cI, 600, .inl (et)))] _
        rw [eB, eT]; exact hP
      · show va_D A [(md, .inr (3, [.int 0, .ref a1, .int (nI (if tg = 0 then pu_L B v n (pu_r B n) else B).length), .ref a2, .int (nI (if tg = 0 then T else pu_L T v n (pu_r T n)).length), .ref a3, .int (nI O.length), .ref a4, .int (nI Z.length), .ref a5])), (a1, .inl (cI, 600, .inl (eb))), (a2, .inl (cI, 600, .inl (et)))]
        rw [eB, eT]; exact hD
    · refine lv_iload hx hb dX3_put_27 (lv_at hl 4 rfl) ?_
      refine lv_bipush (v := 8) hx hb dX3_put_29 (by decide) ?_
      refine lv_icmp_gt (tgt := 45) hx hb dX3_put_31 (by decide) (fun c2 => ?_) (fun c2 => ?_)
      · refine lv_iconst (v := 0) hx hb dX3_put_45 (by decide) ?_
        have e0 : pu_r T n = 0 := pu_02 c1 c2
        have e1 : pu_L T v n (pu_r T n) = T := pu_L0 e0
        replace eT := eT.trans e1
        refine wi_zret hx hb hr hlk rfl (eb, et) ⟨by rw [eL, e0], by rw [eB]; exact heb, by rw [eT]; exact het⟩ ?_ ?_ hS dX3_put_46
        · show va_P (dC, dI) vwCl [(md, .inr (3, [.int 0, .ref a1, .int (nI (if tg = 0 then pu_L B v n (pu_r B n) else B).length), .ref a2, .int (nI (if tg = 0 then T else pu_L T v n (pu_r T n)).length), .ref a3, .int (nI O.length), .ref a4, .int (nI Z.length), .ref a5])), (a1, .inl (cI, 600, .inl (eb))), (a2, .inl (cI, 600, .inl (et)))] _
          rw [eB, eT]; exact hP
        · show va_D A [(md, .inr (3, [.int 0, .ref a1, .int (nI (if tg = 0 then pu_L B v n (pu_r B n) else B).length), .ref a2, .int (nI (if tg = 0 then T else pu_L T v n (pu_r T n)).length), .ref a3, .int (nI O.length), .ref a4, .int (nI Z.length), .ref a5])), (a1, .inl (cI, 600, .inl (eb))), (a2, .inl (cI, 600, .inl (et)))]
          rw [eB, eT]; exact hD
      · refine lv_iload hx hb dX3_put_34 (lv_at hl 0 rfl) ?_
        refine lv_iload hx hb dX3_put_36 (lv_at hl 4 rfl) ?_
        refine lv_iadd hx hb dX3_put_38 ?_
        refine lv_sipush (v := 600) hx hb dX3_put_39 (by decide) ?_
        refine lv_icmp_le (tgt := 47) hx hb dX3_put_42 (by decide) (fun c3 => ?_) (fun c3 => ?_)
        · have c3 := (pu_m hT c1 c2).mp c3
          obtain ⟨N, rfl, hN8, hN6⟩ := pu_in hT c1 c2 c3
          have e1 : pu_r T (nI N) = 1 := pu_1 c1 c2 c3
          have e2 : pu_L T v (nI N) (pu_r T (nI N)) = T ++ pb_L v N := by rw [e1]; unfold pu_L; rw [if_neg (by decide), nI_clamp (by omega)]
          replace eT := eT.trans e2
          have loop : ∀ (k : Nat) (i : Int32) (L1 : List Int32) (f1 : Nat → Int32) (H : Heap) (locs : List Loc) (ls : Array Slot), k ≤ N → i = nI k - 1 → L1 ++ pb_L v k = T ++ pb_L v N → im_k f1 L1 → va_P (dC, dI) vwCl [(md, .inr (3, [.int 0, .ref a1, .int (nI B.length), .ref a2, .int (nI L1.length), .ref a3, .int (nI O.length), .ref a4, .int (nI Z.length), .ref a5])), (a1, .inl (cI, 600, .inl eb)), (a2, .inl (cI, 600, .inl f1))] H → va_D A [(md, .inr (3, [.int 0, .ref a1, .int (nI B.length), .ref a2, .int (nI L1.length), .ref a3, .int (nI O.length), .ref a4, .int (nI Z.length), .ref a5])), (a1, .inl (cI, 600, .inl eb)), (a2, .inl (cI, 600, .inl f1))] → va_S A s.heap H locs → lv_has ls 8 [(6, .int i), (1, .int tg), (0, .ref md), (2, .long v)] → W p l e ({ frames := 0, cells := 0, slots := 0, locals := 0 } : Room) s m ([.ref md, .int tg, .long v, .int (nI N)] : List Value).toArray below meth c H locs 0 0 (MQ below (va_Qi (fun (r : Int32) (z : (Nat → Int32) × (Nat → Int32)) => r = pu_r (if tg = 0 then B else T) (nI N) ∧ im_k z.1 (if tg = 0 then pu_L B v (nI N) (pu_r B (nI N)) else B) ∧ im_k z.2 (if tg = 0 then T else pu_L T v (nI N) (pu_r T (nI N)))) (fun u t => va_P (dC, dI) vwCl ((fun z : (Nat → Int32) × (Nat → Int32) => [(md, .inr (3, [.int 0, .ref a1, .int (nI (if tg = 0 then pu_L B v (nI N) (pu_r B (nI N)) else B).length), .ref a2, .int (nI (if tg = 0 then T else pu_L T v (nI N) (pu_r T (nI N))).length), .ref a3, .int (nI O.length), .ref a4, .int (nI Z.length), .ref a5])), (a1, .inl (cI, 600, .inl (z.1))), (a2, .inl (cI, 600, .inl (z.2)))]) u) t.heap ∧ va_D A ((fun z : (Nat → Int32) × (Nat → Int32) => [(md, .inr (3, [.int 0, .ref a1, .int (nI (if tg = 0 then pu_L B v (nI N) (pu_r B (nI N)) else B).length), .ref a2, .int (nI (if tg = 0 then T else pu_L T v (nI N) (pu_r T (nI N))).length), .ref a3, .int (nI O.length), .ref a4, .int (nI Z.length), .ref a5])), (a1, .inl (cI, 600, .inl (z.1))), (a2, .inl (cI, 600, .inl (z.2)))]) u)) A) ([.ref md, .int tg, .long v, .int (nI N)] : List Value).toArray s 0 0 A) (F0 m 53 ls []) := by
            intro k
            induction k with
            | zero =>
              intro i L1 f1 H locs ls hkN hi hL1 hf1 hP hD hS hl
              have hL1 : L1 = T ++ pb_L v N := by rw [← hL1]; exact (List.append_nil L1).symm
              subst hL1
              refine lv_iload hx hb dX3_put_53 (lv_at hl 0 rfl) ?_
              refine lv_if_lt (tgt := 127) hx hb dX3_put_55 (by decide) (fun c4 => ?_) (fun c4 => ?_)
              · refine lv_iconst (v := 1) hx hb dX3_put_127 (by decide) ?_
                refine wi_zret hx hb hr hlk rfl (eb, f1) ⟨by rw [eL, e1], by rw [eB]; exact heb, by rw [eT]; exact hf1⟩ ?_ ?_ hS dX3_put_128
                · show va_P (dC, dI) vwCl [(md, .inr (3, [.int 0, .ref a1, .int (nI (if tg = 0 then pu_L B v (nI N) (pu_r B (nI N)) else B).length), .ref a2, .int (nI (if tg = 0 then T else pu_L T v (nI N) (pu_r T (nI N))).length), .ref a3, .int (nI O.length), .ref a4, .int (nI Z.length), .ref a5])), (a1, .inl (cI, 600, .inl (eb))), (a2, .inl (cI, 600, .inl (f1)))] _
                  rw [eB, eT]; exact hP
                · show va_D A [(md, .inr (3, [.int 0, .ref a1, .int (nI (if tg = 0 then pu_L B v (nI N) (pu_r B (nI N)) else B).length), .ref a2, .int (nI (if tg = 0 then T else pu_L T v (nI N) (pu_r T (nI N))).length), .ref a3, .int (nI O.length), .ref a4, .int (nI Z.length), .ref a5])), (a1, .inl (cI, 600, .inl (eb))), (a2, .inl (cI, 600, .inl (f1)))]
                  rw [eB, eT]; exact hD
              · exact absurd (by rw [hi]; decide) c4
            | succ k ih =>
              intro i L1 f1 H locs ls hkN hi hL1 hf1 hP hD hS hl
              rw [nI_pred] at hi
              subst hi
              have hlen : L1.length + (k + 1) = T.length + N := by have h9 := congrArg List.length hL1; rw [List.length_append, List.length_append, pb_len, pb_len] at h9; exact h9
              have hbt := bt_I v k (by omega)
              refine lv_iload hx hb dX3_put_53 (lv_at hl 0 rfl) ?_
              refine lv_if_lt (tgt := 127) hx hb dX3_put_55 (by decide) (fun c4 => ?_) (fun c4 => ?_)
              · exact absurd c4 (nI_pos (by omega))
              · refine lv_lload_n hx hb dX3_put_58 rfl (lv_at hl 3 rfl) ?_
                refine lv_bipush (v := 8) hx hb dX3_put_59 (by decide) ?_
                refine lv_iload hx hb dX3_put_61 (lv_at hl 0 rfl) ?_
                refine lv_imul hx hb dX3_put_63 ?_
                refine lv_lshr hx hb dX3_put_64 rfl ?_
                refine lv_l2i hx hb dX3_put_65 rfl ?_
                refine lv_sipush (v := 255) hx hb dX3_put_66 (by decide) ?_
                refine lv_iand hx hb dX3_put_69 ?_
                rw [hbt]
                refine lv_istore (lv' := [(7, .int (pb_b v k &&& 255)), (6, .int (nI k)), (1, .int tg), (0, .ref md), (2, .long v)]) hx hb dX3_put_70 hl (by decide) rfl (fun ls hl => ?_)
                refine lv_iload_n hx hb dX3_put_72 rfl (lv_at hl 2 rfl) ?_
                refine lv_if_eq (tgt := 100) hx hb dX3_put_73 (by decide) (fun c5 => ?_) (fun c5 => ?_)
                · exact absurd c5 c0
                · refine lv_aload_n hx hb dX3_put_76 rfl (lv_at hl 3 rfl) ?_
                  refine va_get (D := (dC, dI)) (ci := 3) (v := .ref a2) (C := RX3) (T := TX3) (N := 10) hx hb hts (by decide +kernel) hown hK hP 0 rfl rfl 3 (by decide) (hts (.fieldLink RX3 20 "PieceWaysModel" "target" "[I") (by decide +kernel)) (fun _ h9 => h9) rfl dX3_put_77 ?_
                  refine lv_aload_n hx hb dX3_put_80 rfl (lv_at hl 3 rfl) ?_
                  refine va_get (D := (dC, dI)) (ci := 3) (v := .int (nI L1.length)) (C := RX3) (T := TX3) (N := 10) hx hb hts (by decide +kernel) hown hK hP 0 rfl rfl 4 (by decide) (hts (.fieldLink RX3 23 "PieceWaysModel" "targets" "I") (by decide +kernel)) (fun _ h9 => h9) rfl dX3_put_81 ?_
                  refine lv_iload hx hb dX3_put_84 (lv_at hl 0 rfl) ?_
                  refine va_iast hx hb hK hP hD hS 2 1 rfl rfl (vp_in_nI (by omega) (by omega)) dX3_put_86 (fun H locs hP hD hS => ?_)
                  have hP : va_P (dC, dI) vwCl [(md, .inr (3, [.int 0, .ref a1, .int (nI B.length), .ref a2, .int (nI L1.length), .ref a3, .int (nI O.length), .ref a4, .int (nI Z.length), .ref a5])), (a1, .inl (cI, 600, .inl eb)), (a2, .inl (cI, 600, .inl (upd f1 (nI L1.length).toNatClampNeg (pb_b v k &&& 255))))] H := hP
                  have hD : va_D A [(md, .inr (3, [.int 0, .ref a1, .int (nI B.length), .ref a2, .int (nI L1.length), .ref a3, .int (nI O.length), .ref a4, .int (nI Z.length), .ref a5])), (a1, .inl (cI, 600, .inl eb)), (a2, .inl (cI, 600, .inl (upd f1 (nI L1.length).toNatClampNeg (pb_b v k &&& 255))))] := hD
                  refine lv_aload_n hx hb dX3_put_87 rfl (lv_at hl 3 rfl) ?_
                  refine lv_dup hx hb dX3_put_88 rfl ?_
                  refine va_get (D := (dC, dI)) (ci := 3) (v := .int (nI L1.length)) (C := RX3) (T := TX3) (N := 10) hx hb hts (by decide +kernel) hown hK hP 0 rfl rfl 4 (by decide) (hts (.fieldLink RX3 23 "PieceWaysModel" "targets" "I") (by decide +kernel)) (fun _ h9 => h9) rfl dX3_put_89 ?_
                  refine lv_iconst (v := 1) hx hb dX3_put_92 (by decide) ?_
                  refine lv_iadd hx hb dX3_put_93 ?_
                  refine va_put (D := (dC, dI)) (ci := 3) (v := .int ((nI L1.length) + 1)) (ty := .int) (C := RX3) (T := TX3) (N := 10) hx hb hts (by decide +kernel) tyX3 tyX3_ok nmX3 hown hK hP hD hS 0 rfl rfl 4 (by decide) (hts (.fieldLink RX3 23 "PieceWaysModel" "targets" "I") (by decide +kernel)) (fun _ h9 => h9) rfl (by decide +kernel) rfl rfl (Nat.le_of_ble_eq_true rfl) dX3_put_94 (fun H locs hP hD hS => ?_)
                  have hP : va_P (dC, dI) vwCl [(md, .inr (3, [.int 0, .ref a1, .int (nI B.length), .ref a2, .int ((nI L1.length) + 1), .ref a3, .int (nI O.length), .ref a4, .int (nI Z.length), .ref a5])), (a1, .inl (cI, 600, .inl eb)), (a2, .inl (cI, 600, .inl (upd f1 (nI L1.length).toNatClampNeg (pb_b v k &&& 255))))] H := hP
                  have hD : va_D A [(md, .inr (3, [.int 0, .ref a1, .int (nI B.length), .ref a2, .int ((nI L1.length) + 1), .ref a3, .int (nI O.length), .ref a4, .int (nI Z.length), .ref a5])), (a1, .inl (cI, 600, .inl eb)), (a2, .inl (cI, 600, .inl (upd f1 (nI L1.length).toNatClampNeg (pb_b v k &&& 255))))] := hD
                  rw [nI_clamp (by omega)] at hP hD
                  have e7 : nI L1.length + 1 = nI (L1 ++ [pb_b v k &&& 255]).length := by rw [List.length_append]; exact nI_1 _
                  rw [e7] at hP hD
                  refine lv_goto (tgt := 121) hx hb dX3_put_97 (by decide) ?_
                  refine lv_iinc (v := ((nI k) + (-1))) (lv' := [(6, .int ((nI k) + (-1))), (7, .int (pb_b v k &&& 255)), (1, .int tg), (0, .ref md), (2, .long v)]) hx hb dX3_put_121 hl (k := 1) rfl rfl (by decide) rfl (fun ls hl => ?_)
                  refine lv_goto (tgt := 53) hx hb dX3_put_124 (by decide) ?_
                  exact ih _ (L1 ++ [pb_b v k &&& 255]) (upd f1 L1.length (pb_b v k &&& 255)) H locs ls (by omega) (m1_I k) (by rw [List.append_assoc]; exact hL1) (im_add hf1 _) hP hD hS (lv_sub hl [0, 2, 3, 4] rfl)
          refine lv_iload hx hb dX3_put_47 (lv_at hl 4 rfl) ?_
          refine lv_iconst (v := 1) hx hb dX3_put_49 (by decide) ?_
          refine lv_isub hx hb dX3_put_50 ?_
          refine lv_istore (lv' := [(6, .int ((nI N) - 1)), (5, .int (nI T.length)), (0, .ref md), (1, .int tg), (2, .long v), (4, .int (nI N))]) hx hb dX3_put_51 hl (by decide) rfl (fun ls hl => ?_)
          exact loop N _ T et H locs ls (Nat.le_refl _) rfl rfl het hP hD hS (lv_sub hl [0, 3, 2, 4] rfl)
        · refine lv_iconst (v := 0) hx hb dX3_put_45 (by decide) ?_
          have e0 : pu_r T n = 0 := pu_03 c1 c2 (fun h9 => c3 ((pu_m hT c1 c2).mpr h9))
          have e1 : pu_L T v n (pu_r T n) = T := pu_L0 e0
          replace eT := eT.trans e1
          refine wi_zret hx hb hr hlk rfl (eb, et) ⟨by rw [eL, e0], by rw [eB]; exact heb, by rw [eT]; exact het⟩ ?_ ?_ hS dX3_put_46
          · show va_P (dC, dI) vwCl [(md, .inr (3, [.int 0, .ref a1, .int (nI (if tg = 0 then pu_L B v n (pu_r B n) else B).length), .ref a2, .int (nI (if tg = 0 then T else pu_L T v n (pu_r T n)).length), .ref a3, .int (nI O.length), .ref a4, .int (nI Z.length), .ref a5])), (a1, .inl (cI, 600, .inl (eb))), (a2, .inl (cI, 600, .inl (et)))] _
            rw [eB, eT]; exact hP
          · show va_D A [(md, .inr (3, [.int 0, .ref a1, .int (nI (if tg = 0 then pu_L B v n (pu_r B n) else B).length), .ref a2, .int (nI (if tg = 0 then T else pu_L T v n (pu_r T n)).length), .ref a3, .int (nI O.length), .ref a4, .int (nI Z.length), .ref a5])), (a1, .inl (cI, 600, .inl (eb))), (a2, .inl (cI, 600, .inl (et)))]
            rw [eB, eT]; exact hD
end PWMPUT
