section PWMPIECE
variable (l : Launch) (dC : Nat → ClassId) (dI : Nat → Nat → Nat) (cB cI cL : ClassId)

set_option maxHeartbeats 1000000 in
set_option maxRecDepth 100000 in
/-- piece(y, x) -/
theorem c_Md_piece (md a1 a2 a3 a4 a5 : Nat) (B T Z U : List Int32) (P : List (Nat × Nat × Nat)) (th : Int32) (eo : Nat → Int32) (y x : Int32) (nB : Nat) (hk : pk_W nB U.length P) (hbg : bg_P P) (ho : im_k eo (rw_R U P)) : wi_M l yX3_piece wsX3_piece ({ frames := 2, cells := 0, slots := 0, locals := 42 } : Room) (dC, dI) vwCl (tk_s cB cI cL) [.ref md, .int y, .int x] [(md, .inr (3, [.int th, .ref a1, .int (nI B.length), .ref a2, .int (nI T.length), .ref a3, .int (nI (rw_R U P).length), .ref a4, .int (nI Z.length), .ref a5])), (a3, .inl (cI, 2000, .inl eo))] 0 0 (fun (r : Int32) (_ : Unit) => r = pi_I P y x) (fun _ : Unit => [(md, .inr (3, [.int 0, .ref a1, .int (nI B.length), .ref a2, .int (nI T.length), .ref a3, .int (nI (rw_R U P).length), .ref a4, .int (nI Z.length), .ref a5])), (a3, .inl (cI, 2000, .inl eo))]) := by
  refine wi_ofW (cc := cX3_piece) (maxL := 6) (ret := (some .int)) (by decide) rfl (Nat.le_of_ble_eq_true rfl) ?_
  intro p e s m below meth c ls A hx hb hr hml hts hown hlk hnm hP hK hN hD hA hS hl
  have hl : lv_has ls 6 [(0, .ref md), (1, .int y), (2, .int x)] := hl
  have hln := pk_len hk
  have hOl : (rw_R U P).length ≤ 603 := by rw [rw_len (nB := nB) hk.2.2.1]; exact hln.2
  refine lv_aload_n hx hb dX3_piece_0 rfl (lv_at hl 0 rfl) ?_
  refine lv_iconst (v := 0) hx hb dX3_piece_1 (by decide) ?_
  refine va_put (D := (dC, dI)) (ci := 3) (v := .int 0) (ty := .int) (C := RX3) (T := TX3) (N := 10) hx hb hts (by decide +kernel) tyX3 tyX3_ok nmX3 hown hK hP hD hS 0 rfl rfl 0 (by decide) (hts (.fieldLink RX3 7 "PieceWaysModel" "thrownCode" "I") (by decide +kernel)) (fun _ h9 => h9) rfl (by decide +kernel) rfl rfl (Nat.le_of_ble_eq_true rfl) dX3_piece_2 (fun H locs hP hD hS => ?_)
  have hP : va_P (dC, dI) vwCl [(md, .inr (3, [.int 0, .ref a1, .int (nI B.length), .ref a2, .int (nI T.length), .ref a3, .int (nI (rw_R U P).length), .ref a4, .int (nI Z.length), .ref a5])), (a3, .inl (cI, 2000, .inl eo))] H := hP
  have hD : va_D A [(md, .inr (3, [.int 0, .ref a1, .int (nI B.length), .ref a2, .int (nI T.length), .ref a3, .int (nI (rw_R U P).length), .ref a4, .int (nI Z.length), .ref a5])), (a3, .inl (cI, 2000, .inl eo))] := hD
  refine lv_iload_n hx hb dX3_piece_5 rfl (lv_at hl 1 rfl) ?_
  refine lv_if_lt (tgt := 18) hx hb dX3_piece_6 (by decide) (fun c1 => ?_) (fun c1 => ?_)
  · refine lv_iconst (v := (-1)) hx hb dX3_piece_18 (by decide) ?_
    exact wi_iret hx hb hr hlk () ((pi_neg c1).symm) hP hD hS dX3_piece_19
  · refine lv_iload_n hx hb dX3_piece_9 rfl (lv_at hl 2 rfl) ?_
    refine lv_if_lt (tgt := 18) hx hb dX3_piece_10 (by decide) (fun c2 => ?_) (fun c2 => ?_)
    · refine lv_iconst (v := (-1)) hx hb dX3_piece_18 (by decide) ?_
      exact wi_iret hx hb hr hlk () ((pi_no (fun h9 => absurd c2 (by rw [h9]; decide)) (fun h9 => absurd c2 (by rw [h9]; decide)) (fun h9 => absurd c2 (by rw [h9]; decide))).symm) hP hD hS dX3_piece_19
    · refine lv_iload_n hx hb dX3_piece_13 rfl (lv_at hl 2 rfl) ?_
      refine lv_iconst (v := 2) hx hb dX3_piece_14 (by decide) ?_
      refine lv_icmp_le (tgt := 20) hx hb dX3_piece_15 (by decide) (fun c3 => ?_) (fun c3 => ?_)
      · obtain ⟨I, hI, rfl⟩ := nI_of c1
        have fin : ∀ ls : Array Slot, lv_has ls 6 [(3, .int (nI (rw_R U (P.take (min I P.length))).length)), (4, .int (nI (sm_P (P.take (min I P.length))))), (0, .ref md), (1, .int (nI I)), (2, .int x)] → W p l e ({ frames := 2, cells := 0, slots := 0, locals := 42 } : Room) s m ([.ref md, .int (nI I), .int x] : List Value).toArray below meth c H locs 0 0 (MQ below (va_Qi (fun (r : Int32) (_ : Unit) => r = pi_I P (nI I) x) (fun u t => va_P (dC, dI) vwCl ((fun _ : Unit => [(md, .inr (3, [.int 0, .ref a1, .int (nI B.length), .ref a2, .int (nI T.length), .ref a3, .int (nI (rw_R U P).length), .ref a4, .int (nI Z.length), .ref a5])), (a3, .inl (cI, 2000, .inl eo))]) u) t.heap ∧ va_D A ((fun _ : Unit => [(md, .inr (3, [.int 0, .ref a1, .int (nI B.length), .ref a2, .int (nI T.length), .ref a3, .int (nI (rw_R U P).length), .ref a4, .int (nI Z.length), .ref a5])), (a3, .inl (cI, 2000, .inl eo))]) u)) A) ([.ref md, .int (nI I), .int x] : List Value).toArray s 0 0 A) (F0 m 64 ls []) := by
          intro ls hl
          rcases Nat.lt_or_ge I P.length with hIP | hIP
          · rw [Nat.min_eq_left (by omega)] at hl
            obtain ⟨t, ht⟩ : ∃ t, P[I]? = some t := ⟨_, List.getElem?_eq_getElem hIP⟩
            have h16 := pk_1 hk (List.mem_of_getElem? ht)
            have hlt := rl_lt (T := U) ht h16.1 h16.2
            have hpa := pa_of (T := U) ht h16.1 h16.2
            have hb2 := hbg I t ht
            refine lv_iload_n hx hb dX3_piece_64 rfl (lv_at hl 0 rfl) ?_
            refine lv_aload_n hx hb dX3_piece_65 rfl (lv_at hl 2 rfl) ?_
            refine va_get (D := (dC, dI)) (ci := 3) (v := .int (nI (rw_R U P).length)) (C := RX3) (T := TX3) (N := 10) hx hb hts (by decide +kernel) hown hK hP 0 rfl rfl 6 (by decide) (hts (.fieldLink RX3 29 "PieceWaysModel" "size" "I") (by decide +kernel)) (fun _ h9 => h9) rfl dX3_piece_66 ?_
            refine lv_icmp_lt (tgt := 74) hx hb dX3_piece_69 (by decide) (fun d1 => ?_) (fun d1 => ?_)
            · refine lv_iload_n hx hb dX3_piece_74 rfl (lv_at hl 4 rfl) ?_
              refine lv_if_ne (tgt := 87) hx hb dX3_piece_75 (by decide) (fun d2 => ?_) (fun d2 => ?_)
              · refine lv_iload_n hx hb dX3_piece_87 rfl (lv_at hl 4 rfl) ?_
                refine lv_iconst (v := 2) hx hb dX3_piece_88 (by decide) ?_
                refine lv_icmp_ne (tgt := 100) hx hb dX3_piece_89 (by decide) (fun d3 => ?_) (fun d3 => ?_)
                · have hx1 : x = 1 := by rcases sw_3 x with q | q | q | ⟨-, -, -, q⟩; exact absurd q d2; exact q; exact absurd q d3; exact absurd c3 (fun h9 => by have h8 := Int32.le_iff_toInt_le.mp h9; have h7 := mt Int32.lt_iff_toInt_lt.mpr c2; have e2 : (2 : Int32).toInt = 2 := (by decide); have e0 : (0 : Int32).toInt = 0 := (by decide); omega)
                  have er : pi_I P (nI I) x = nI t.2.1 := by rw [hx1]; exact ps_in (g := fun t => t.2.1) ht (by omega)
                  refine lv_aload_n hx hb dX3_piece_100 rfl (lv_at hl 2 rfl) ?_
                  refine va_get (D := (dC, dI)) (ci := 3) (v := .ref a3) (C := RX3) (T := TX3) (N := 10) hx hb hts (by decide +kernel) hown hK hP 0 rfl rfl 5 (by decide) (hts (.fieldLink RX3 26 "PieceWaysModel" "row" "[I") (by decide +kernel)) (fun _ h9 => h9) rfl dX3_piece_101 ?_
                  refine lv_iload_n hx hb dX3_piece_104 rfl (lv_at hl 0 rfl) ?_
                  refine va_iald hx hb hK hP 1 1 rfl rfl (vp_in_nI (by omega) (by omega)) dX3_piece_105 ?_
                  rw [nI_clamp (by omega), ho _ _ hpa.1]
                  refine lv_iconst (v := 1) hx hb dX3_piece_106 (by decide) ?_
                  refine lv_icmp_ne (tgt := 120) hx hb dX3_piece_107 (by decide) (fun d4 => ?_) (fun d4 => ?_)
                  · have k1 : ¬ t.1 = 1 := fun h9 => d4 (by rw [h9]; rfl)
                    refine lv_iload hx hb dX3_piece_120 (lv_at hl 1 rfl) ?_
                    exact wi_iret hx hb hr hlk () (by rw [er, hb2 k1]) hP hD hS dX3_piece_122
                  · have k1 : t.1 = 1 := (nI_eq (by omega) (by omega)).mp d4
                    refine lv_aload_n hx hb dX3_piece_110 rfl (lv_at hl 2 rfl) ?_
                    refine lv_iload_n hx hb dX3_piece_111 rfl (lv_at hl 0 rfl) ?_
                    refine lv_iconst (v := 1) hx hb dX3_piece_112 (by decide) ?_
                    refine lv_iadd hx hb dX3_piece_113 ?_
                    rw [nI_1 (rw_R U (P.take I)).length]
                    refine rd_V (wc := [(md, .inr (3, [.int 0, .ref a1, .int (nI B.length), .ref a2, .int (nI T.length), .ref a3, .int (nI (rw_R U P).length), .ref a4, .int (nI Z.length), .ref a5])), (a3, .inl (cI, 2000, .inl eo))]) (As := [.int (nI ((rw_R U (P.take I)).length + 1))]) (rest := []) ⟨hx, hb, hml, hown, hts⟩ (c_Md_two l dC dI cB cI cL md a1 a2 a3 a4 a5 B T (rw_R U P) Z 0 eo ((rw_R U (P.take I)).length + 1) t.2.1 hOl ho (hpa.2.1 k1).1.1 (hpa.2.1 k1).1.2) (cwV 1 hts gX3_piece_X3_two rfl rfl rfl (by decide +kernel) ⟨(Nat.le_of_ble_eq_true rfl), (Nat.le_of_ble_eq_true rfl)⟩) hK hN (sb_P hP [0, 1] rfl) 0 rfl rfl rfl rfl hl.1 rfl (Nat.le_of_ble_eq_true rfl) dX3_piece_114 ⟨(Nat.le_of_ble_eq_true rfl), (Nat.le_of_ble_eq_true rfl)⟩ ?_
                    refine lv_goto (tgt := 122) hx hb dX3_piece_117 (by decide) ?_
                    exact wi_iret hx hb hr hlk () (er.symm) hP hD hS dX3_piece_122
                · refine lv_aload_n hx hb dX3_piece_92 rfl (lv_at hl 2 rfl) ?_
                  refine lv_iload_n hx hb dX3_piece_93 rfl (lv_at hl 0 rfl) ?_
                  refine rd_V (wc := [(md, .inr (3, [.int 0, .ref a1, .int (nI B.length), .ref a2, .int (nI T.length), .ref a3, .int (nI (rw_R U P).length), .ref a4, .int (nI Z.length), .ref a5])), (a3, .inl (cI, 2000, .inl eo))]) (As := [.int (nI (rw_R U (P.take I)).length)]) (rest := []) ⟨hx, hb, hml, hown, hts⟩ (c_Md_many l dC dI cB cI cL md a1 a2 a3 a4 a5 B T (rw_R U P) Z 0 eo (rw_R U (P.take I)).length t hOl ho (by omega) h16.2 hpa) (cwV 1 hts gX3_piece_X3_many rfl rfl rfl (by decide +kernel) ⟨(Nat.le_of_ble_eq_true rfl), (Nat.le_of_ble_eq_true rfl)⟩) hK hN (sb_P hP [0, 1] rfl) 0 rfl rfl rfl rfl hl.1 rfl (Nat.le_of_ble_eq_true rfl) dX3_piece_94 ⟨(Nat.le_of_ble_eq_true rfl), (Nat.le_of_ble_eq_true rfl)⟩ ?_
                  refine lv_goto (tgt := 122) hx hb dX3_piece_97 (by decide) ?_
                  exact wi_iret hx hb hr hlk () (by rw [d3]; exact (ps_in (g := fun t => t.2.2) ht (by omega)).symm) hP hD hS dX3_piece_122
              · refine lv_aload_n hx hb dX3_piece_78 rfl (lv_at hl 2 rfl) ?_
                refine va_get (D := (dC, dI)) (ci := 3) (v := .ref a3) (C := RX3) (T := TX3) (N := 10) hx hb hts (by decide +kernel) hown hK hP 0 rfl rfl 5 (by decide) (hts (.fieldLink RX3 26 "PieceWaysModel" "row" "[I") (by decide +kernel)) (fun _ h9 => h9) rfl dX3_piece_79 ?_
                refine lv_iload_n hx hb dX3_piece_82 rfl (lv_at hl 0 rfl) ?_
                refine va_iald hx hb hK hP 1 1 rfl rfl (vp_in_nI (by omega) (by omega)) dX3_piece_83 ?_
                rw [nI_clamp (by omega), ho _ _ hpa.1]
                refine lv_goto (tgt := 122) hx hb dX3_piece_84 (by decide) ?_
                exact wi_iret hx hb hr hlk () (by rw [d2]; exact (ps_in (g := fun t => t.1) ht (by omega)).symm) hP hD hS dX3_piece_122
            · exact absurd (nI_lt hlt (by omega)) d1
          · rw [Nat.min_eq_right hIP, List.take_length] at hl
            refine lv_iload_n hx hb dX3_piece_64 rfl (lv_at hl 0 rfl) ?_
            refine lv_aload_n hx hb dX3_piece_65 rfl (lv_at hl 2 rfl) ?_
            refine va_get (D := (dC, dI)) (ci := 3) (v := .int (nI (rw_R U P).length)) (C := RX3) (T := TX3) (N := 10) hx hb hts (by decide +kernel) hown hK hP 0 rfl rfl 6 (by decide) (hts (.fieldLink RX3 29 "PieceWaysModel" "size" "I") (by decide +kernel)) (fun _ h9 => h9) rfl dX3_piece_66 ?_
            refine lv_icmp_lt (tgt := 74) hx hb dX3_piece_69 (by decide) (fun d1 => ?_) (fun d1 => ?_)
            · exact absurd d1 (nI_nlt (Nat.le_refl _) (by omega))
            · refine lv_iconst (v := (-1)) hx hb dX3_piece_72 (by decide) ?_
              exact wi_iret hx hb hr hlk () ((pi_hi (by omega) c1 (nI_le hIP hI)).symm) hP hD hS dX3_piece_73
        have loop : ∀ (n k : Nat) (ls : Array Slot), n + k = min I P.length → lv_has ls 6 [(5, .int (nI k)), (3, .int (nI (rw_R U (P.take k)).length)), (4, .int (nI (sm_P (P.take k)))), (0, .ref md), (1, .int (nI I)), (2, .int x)] → W p l e ({ frames := 2, cells := 0, slots := 0, locals := 42 } : Room) s m ([.ref md, .int (nI I), .int x] : List Value).toArray below meth c H locs 0 0 (MQ below (va_Qi (fun (r : Int32) (_ : Unit) => r = pi_I P (nI I) x) (fun u t => va_P (dC, dI) vwCl ((fun _ : Unit => [(md, .inr (3, [.int 0, .ref a1, .int (nI B.length), .ref a2, .int (nI T.length), .ref a3, .int (nI (rw_R U P).length), .ref a4, .int (nI Z.length), .ref a5])), (a3, .inl (cI, 2000, .inl eo))]) u) t.heap ∧ va_D A ((fun _ : Unit => [(md, .inr (3, [.int 0, .ref a1, .int (nI B.length), .ref a2, .int (nI T.length), .ref a3, .int (nI (rw_R U P).length), .ref a4, .int (nI Z.length), .ref a5])), (a3, .inl (cI, 2000, .inl eo))]) u)) A) ([.ref md, .int (nI I), .int x] : List Value).toArray s 0 0 A) (F0 m 28 ls []) := by
          intro n
          induction n with
          | zero =>
            intro k ls hkk hl
            have hkk : k = min I P.length := by omega
            refine lv_iload hx hb dX3_piece_28 (lv_at hl 0 rfl) ?_
            refine lv_iload_n hx hb dX3_piece_30 rfl (lv_at hl 4 rfl) ?_
            refine lv_icmp_ge (tgt := 64) hx hb dX3_piece_31 (by decide) (fun d1 => ?_) (fun d1 => ?_)
            · rw [hkk] at hl
              exact fin ls (lv_sub hl [1, 2, 3, 4, 5] rfl)
            · have hk2 : k = P.length := by rcases Nat.lt_or_ge P.length I with h9 | h9; omega; exact absurd (nI_le (by omega) (by omega)) d1
              refine lv_iload_n hx hb dX3_piece_34 rfl (lv_at hl 1 rfl) ?_
              refine lv_aload_n hx hb dX3_piece_35 rfl (lv_at hl 3 rfl) ?_
              refine va_get (D := (dC, dI)) (ci := 3) (v := .int (nI (rw_R U P).length)) (C := RX3) (T := TX3) (N := 10) hx hb hts (by decide +kernel) hown hK hP 0 rfl rfl 6 (by decide) (hts (.fieldLink RX3 29 "PieceWaysModel" "size" "I") (by decide +kernel)) (fun _ h9 => h9) rfl dX3_piece_36 ?_
              refine lv_icmp_ge (tgt := 64) hx hb dX3_piece_39 (by decide) (fun d2 => ?_) (fun d2 => ?_)
              · rw [hkk] at hl
                exact fin ls (lv_sub hl [1, 2, 3, 4, 5] rfl)
              · exact absurd (by rw [hk2, List.take_length]; exact nI_le (Nat.le_refl _) (by omega)) d2
          | succ n ih =>
            intro k ls hkk hl
            obtain ⟨t, ht⟩ : ∃ t, P[k]? = some t := ⟨_, List.getElem?_eq_getElem (by omega)⟩
            have htm := List.mem_of_getElem? ht
            have h16 := pk_1 hk htm
            have hlt := rl_lt (T := U) ht h16.1 h16.2
            have hpa := pa_of (T := U) ht h16.1 h16.2
            refine lv_iload hx hb dX3_piece_28 (lv_at hl 0 rfl) ?_
            refine lv_iload_n hx hb dX3_piece_30 rfl (lv_at hl 4 rfl) ?_
            refine lv_icmp_ge (tgt := 64) hx hb dX3_piece_31 (by decide) (fun d1 => ?_) (fun d1 => ?_)
            · exact absurd d1 (nI_ge (by omega) (by omega))
            · refine lv_iload_n hx hb dX3_piece_34 rfl (lv_at hl 1 rfl) ?_
              refine lv_aload_n hx hb dX3_piece_35 rfl (lv_at hl 3 rfl) ?_
              refine va_get (D := (dC, dI)) (ci := 3) (v := .int (nI (rw_R U P).length)) (C := RX3) (T := TX3) (N := 10) hx hb hts (by decide +kernel) hown hK hP 0 rfl rfl 6 (by decide) (hts (.fieldLink RX3 29 "PieceWaysModel" "size" "I") (by decide +kernel)) (fun _ h9 => h9) rfl dX3_piece_36 ?_
              refine lv_icmp_ge (tgt := 64) hx hb dX3_piece_39 (by decide) (fun d2 => ?_) (fun d2 => ?_)
              · exact absurd d2 (nI_ge hlt (by omega))
              · refine lv_iload hx hb dX3_piece_42 (lv_at hl 2 rfl) ?_
                refine lv_aload_n hx hb dX3_piece_44 rfl (lv_at hl 3 rfl) ?_
                refine lv_iload_n hx hb dX3_piece_45 rfl (lv_at hl 1 rfl) ?_
                refine rd_V (wc := [(md, .inr (3, [.int 0, .ref a1, .int (nI B.length), .ref a2, .int (nI T.length), .ref a3, .int (nI (rw_R U P).length), .ref a4, .int (nI Z.length), .ref a5])), (a3, .inl (cI, 2000, .inl eo))]) (As := [.int (nI (rw_R U (P.take k)).length)]) (rest := [.int (nI (sm_P (P.take k)))]) ⟨hx, hb, hml, hown, hts⟩ (c_Md_many l dC dI cB cI cL md a1 a2 a3 a4 a5 B T (rw_R U P) Z 0 eo (rw_R U (P.take k)).length t hOl ho (by omega) h16.2 hpa) (cwV 1 hts gX3_piece_X3_many rfl rfl rfl (by decide +kernel) ⟨(Nat.le_of_ble_eq_true rfl), (Nat.le_of_ble_eq_true rfl)⟩) hK hN (sb_P hP [0, 1] rfl) 0 rfl rfl rfl rfl hl.1 rfl (Nat.le_of_ble_eq_true rfl) dX3_piece_46 ⟨(Nat.le_of_ble_eq_true rfl), (Nat.le_of_ble_eq_true rfl)⟩ ?_
                refine lv_iadd hx hb dX3_piece_49 ?_
                refine lv_istore (lv' := [(4, .int ((nI (sm_P (P.take k))) + (nI t.2.2))), (5, .int (nI k)), (3, .int (nI (rw_R U (P.take k)).length)), (0, .ref md), (1, .int (nI I)), (2, .int x)]) hx hb dX3_piece_50 hl (by decide) rfl (fun ls hl => ?_)
                refine lv_aload_n hx hb dX3_piece_52 rfl (lv_at hl 3 rfl) ?_
                refine lv_iload_n hx hb dX3_piece_53 rfl (lv_at hl 2 rfl) ?_
                refine rd_V (wc := [(md, .inr (3, [.int 0, .ref a1, .int (nI B.length), .ref a2, .int (nI T.length), .ref a3, .int (nI (rw_R U P).length), .ref a4, .int (nI Z.length), .ref a5])), (a3, .inl (cI, 2000, .inl eo))]) (As := [.int (nI (rw_R U (P.take k)).length)]) (rest := []) ⟨hx, hb, hml, hown, hts⟩ (c_Md_behind l dC dI cB cI cL md a1 a2 a3 a4 a5 B T (rw_R U P) Z 0 eo (rw_R U (P.take k)).length t hOl ho (by omega) h16.2 hpa) (cwV 1 hts gX3_piece_X3_behind rfl rfl rfl (by decide +kernel) ⟨(Nat.le_of_ble_eq_true rfl), (Nat.le_of_ble_eq_true rfl)⟩) hK hN (sb_P hP [0, 1] rfl) 0 rfl rfl rfl rfl hl.1 rfl (Nat.le_of_ble_eq_true rfl) dX3_piece_54 ⟨(Nat.le_of_ble_eq_true rfl), (Nat.le_of_ble_eq_true rfl)⟩ ?_
                refine lv_istore_n (lv' := [(3, .int (nI ((rw_R U (P.take k)).length + (if t.1 = 1 then 5 else 3 + t.2.2)))), (4, .int ((nI (sm_P (P.take k))) + (nI t.2.2))), (5, .int (nI k)), (0, .ref md), (1, .int (nI I)), (2, .int x)]) hx hb dX3_piece_57 rfl hl (by decide) rfl (fun ls hl => ?_)
                refine lv_iinc (v := ((nI k) + 1)) (lv' := [(5, .int ((nI k) + 1)), (3, .int (nI ((rw_R U (P.take k)).length + (if t.1 = 1 then 5 else 3 + t.2.2)))), (4, .int ((nI (sm_P (P.take k))) + (nI t.2.2))), (0, .ref md), (1, .int (nI I)), (2, .int x)]) hx hb dX3_piece_58 hl (k := 2) rfl rfl (by decide) rfl (fun ls hl => ?_)
                refine lv_goto (tgt := 28) hx hb dX3_piece_61 (by decide) ?_
                have h9 : lv_has ls 6 [(5, .int ((nI k) + 1)), (3, .int (nI ((rw_R U (P.take k)).length + (if t.1 = 1 then 5 else 3 + t.2.2)))), (4, .int ((nI (sm_P (P.take k))) + (nI t.2.2))), (0, .ref md), (1, .int (nI I)), (2, .int x)] := lv_sub hl [0, 1, 2, 3, 4, 5] rfl
                refine ih (k + 1) ls (by omega) ?_
                rw [rl_step ht (hk.2.2.1 t htm), sm_tk ht, ← nI_1 k, ← nI_add (sm_P (P.take k))]
                exact h9
        refine lv_iconst (v := 0) hx hb dX3_piece_20 (by decide) ?_
        refine lv_istore_n (lv' := [(3, .int 0), (0, .ref md), (1, .int (nI I)), (2, .int x)]) hx hb dX3_piece_21 rfl hl (by decide) rfl (fun ls hl => ?_)
        refine lv_iconst (v := 0) hx hb dX3_piece_22 (by decide) ?_
        refine lv_istore (lv' := [(4, .int 0), (3, .int 0), (0, .ref md), (1, .int (nI I)), (2, .int x)]) hx hb dX3_piece_23 hl (by decide) rfl (fun ls hl => ?_)
        refine lv_iconst (v := 0) hx hb dX3_piece_25 (by decide) ?_
        refine lv_istore (lv' := [(5, .int 0), (4, .int 0), (3, .int 0), (0, .ref md), (1, .int (nI I)), (2, .int x)]) hx hb dX3_piece_26 hl (by decide) rfl (fun ls hl => ?_)
        exact loop (min I P.length) 0 ls (by omega) (lv_sub hl [0, 2, 1, 3, 4, 5] rfl)
      · refine lv_iconst (v := (-1)) hx hb dX3_piece_18 (by decide) ?_
        exact wi_iret hx hb hr hlk () ((pi_no (fun h9 => absurd (by rw [h9]; decide) c3) (fun h9 => absurd (by rw [h9]; decide) c3) (fun h9 => absurd (by rw [h9]; decide) c3)).symm) hP hD hS dX3_piece_19
end PWMPIECE
