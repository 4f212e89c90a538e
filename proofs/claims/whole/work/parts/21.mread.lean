section PWMREAD
variable (l : Launch) (dC : Nat → ClassId) (dI : Nat → Nat → Nat) (cB cI cL : ClassId)

set_option maxHeartbeats 4000000 in
set_option maxRecDepth 100000 in
/-- thrown() -/
theorem c_Md_thrown (md a1 a2 a3 a4 a5 : Nat) (B T O Z : List Int32) (th : Int32) : rd_M l yX3_thrown wsX3_thrown ({ frames := 0, cells := 0, slots := 0, locals := 0 } : Room) (dC, dI) vwCl (tk_s cB cI cL) [.ref md] [(md, .inr (3, [.int th, .ref a1, .int (nI B.length), .ref a2, .int (nI T.length), .ref a3, .int (nI O.length), .ref a4, .int (nI Z.length), .ref a5]))] th := by
  refine rd_ofW (cc := cX3_thrown) (maxL := 1) (ret := (some .int)) (by decide) rfl (Nat.le_of_ble_eq_true rfl) ?_
  intro p e s m below meth c ls hx hb hr hml hts hown hlk hP hK hN hl
  have hl : lv_has ls 1 [(0, .ref md)] := hl
  refine lv_aload_n hx hb dX3_thrown_0 rfl (lv_at hl 0 rfl) ?_
  refine va_get (D := (dC, dI)) (ci := 3) (v := .int th) (C := RX3) (T := TX3) (N := 10) hx hb hts (by decide +kernel) hown hK hP 0 rfl rfl 0 (by decide) (hts (.fieldLink RX3 7 "PieceWaysModel" "thrownCode" "I") (by decide +kernel)) (fun _ h9 => h9) rfl dX3_thrown_1 ?_
  exact rd_iret hx hb hr hlk (rfl) dX3_thrown_4
set_option maxHeartbeats 4000000 in
set_option maxRecDepth 100000 in
/-- two(a) -/
theorem c_Md_two (md a1 a2 a3 a4 a5 : Nat) (B T O Z : List Int32) (th : Int32) (eo : Nat → Int32) (a n : Nat) (hO : O.length ≤ 603) (ho : im_k eo O) (h1 : O[a]? = some (nI (n / 256))) (h2 : O[a + 1]? = some (nI (n % 256))) : rd_M l yX3_two wsX3_two ({ frames := 0, cells := 0, slots := 0, locals := 0 } : Room) (dC, dI) vwCl (tk_s cB cI cL) [.ref md, .int (nI a)] [(md, .inr (3, [.int th, .ref a1, .int (nI B.length), .ref a2, .int (nI T.length), .ref a3, .int (nI O.length), .ref a4, .int (nI Z.length), .ref a5])), (a3, .inl (cI, 2000, .inl eo))] (nI n) := by
  refine rd_ofW (cc := cX3_two) (maxL := 2) (ret := (some .int)) (by decide) rfl (Nat.le_of_ble_eq_true rfl) ?_
  intro p e s m below meth c ls hx hb hr hml hts hown hlk hP hK hN hl
  have hl : lv_has ls 2 [(0, .ref md), (1, .int (nI a))] := hl
  have g1 := (List.getElem?_eq_some_iff.mp h1).1
  have g2 := (List.getElem?_eq_some_iff.mp h2).1
  refine lv_sipush (v := 256) hx hb dX3_two_0 (by decide) ?_
  refine lv_aload_n hx hb dX3_two_3 rfl (lv_at hl 0 rfl) ?_
  refine va_get (D := (dC, dI)) (ci := 3) (v := .ref a3) (C := RX3) (T := TX3) (N := 10) hx hb hts (by decide +kernel) hown hK hP 0 rfl rfl 5 (by decide) (hts (.fieldLink RX3 26 "PieceWaysModel" "row" "[I") (by decide +kernel)) (fun _ h9 => h9) rfl dX3_two_4 ?_
  refine lv_iload_n hx hb dX3_two_7 rfl (lv_at hl 1 rfl) ?_
  refine va_iald hx hb hK hP 1 1 rfl rfl (vp_in_nI (by omega) (by omega)) dX3_two_8 ?_
  rw [nI_clamp (by omega), ho a _ h1]
  refine lv_imul hx hb dX3_two_9 ?_
  refine lv_aload_n hx hb dX3_two_10 rfl (lv_at hl 0 rfl) ?_
  refine va_get (D := (dC, dI)) (ci := 3) (v := .ref a3) (C := RX3) (T := TX3) (N := 10) hx hb hts (by decide +kernel) hown hK hP 0 rfl rfl 5 (by decide) (hts (.fieldLink RX3 26 "PieceWaysModel" "row" "[I") (by decide +kernel)) (fun _ h9 => h9) rfl dX3_two_11 ?_
  refine lv_iload_n hx hb dX3_two_14 rfl (lv_at hl 1 rfl) ?_
  refine lv_iconst (v := 1) hx hb dX3_two_15 (by decide) ?_
  refine lv_iadd hx hb dX3_two_16 ?_
  refine va_iald hx hb hK hP 1 1 rfl rfl (by rw [nI_1 a]; exact vp_in_nI (by omega) (by omega)) dX3_two_17 ?_
  rw [nI_1 a, nI_clamp (by omega), ho _ _ h2]
  refine lv_iadd hx hb dX3_two_18 ?_
  exact rd_iret hx hb hr hlk (by rw [show (256 : Int32) = nI 256 from rfl, pk_mul, nI_add, Nat.div_add_mod]) dX3_two_19
set_option maxHeartbeats 4000000 in
set_option maxRecDepth 100000 in
/-- many(a) -/
theorem c_Md_many (md a1 a2 a3 a4 a5 : Nat) (B T O Z : List Int32) (th : Int32) (eo : Nat → Int32) (a : Nat) (t : Nat × Nat × Nat) (hO : O.length ≤ 603) (ho : im_k eo O) (ht : t.1 < 3) (ht6 : t.2.1 + t.2.2 ≤ 600) (hp : pa_O O a t) : rd_M l yX3_many wsX3_many ({ frames := 1, cells := 0, slots := 0, locals := 21 } : Room) (dC, dI) vwCl (tk_s cB cI cL) [.ref md, .int (nI a)] [(md, .inr (3, [.int th, .ref a1, .int (nI B.length), .ref a2, .int (nI T.length), .ref a3, .int (nI O.length), .ref a4, .int (nI Z.length), .ref a5])), (a3, .inl (cI, 2000, .inl eo))] (nI t.2.2) := by
  refine rd_ofW (cc := cX3_many) (maxL := 2) (ret := (some .int)) (by decide) rfl (Nat.le_of_ble_eq_true rfl) ?_
  intro p e s m below meth c ls hx hb hr hml hts hown hlk hP hK hN hl
  have hl : lv_has ls 2 [(0, .ref md), (1, .int (nI a))] := hl
  obtain ⟨p0, p1, p2⟩ := hp
  have g1 := (List.getElem?_eq_some_iff.mp p0).1
  refine lv_aload_n hx hb dX3_many_0 rfl (lv_at hl 0 rfl) ?_
  refine lv_aload_n hx hb dX3_many_1 rfl (lv_at hl 0 rfl) ?_
  refine va_get (D := (dC, dI)) (ci := 3) (v := .ref a3) (C := RX3) (T := TX3) (N := 10) hx hb hts (by decide +kernel) hown hK hP 0 rfl rfl 5 (by decide) (hts (.fieldLink RX3 26 "PieceWaysModel" "row" "[I") (by decide +kernel)) (fun _ h9 => h9) rfl dX3_many_2 ?_
  refine lv_iload_n hx hb dX3_many_5 rfl (lv_at hl 1 rfl) ?_
  refine va_iald hx hb hK hP 1 1 rfl rfl (vp_in_nI (by omega) (by omega)) dX3_many_6 ?_
  rw [nI_clamp (by omega), ho a _ p0]
  refine lv_iconst (v := 1) hx hb dX3_many_7 (by decide) ?_
  refine lv_icmp_ne (tgt := 17) hx hb dX3_many_8 (by decide) (fun c1 => ?_) (fun c1 => ?_)
  · have k1 : ¬ t.1 = 1 := fun h9 => c1 (by rw [h9]; rfl)
    refine lv_iload_n hx hb dX3_many_17 rfl (lv_at hl 1 rfl) ?_
    refine lv_iconst (v := 1) hx hb dX3_many_18 (by decide) ?_
    refine lv_iadd hx hb dX3_many_19 ?_
    rw [nI_1 a]
    refine rd_V (wc := [(md, .inr (3, [.int th, .ref a1, .int (nI B.length), .ref a2, .int (nI T.length), .ref a3, .int (nI O.length), .ref a4, .int (nI Z.length), .ref a5])), (a3, .inl (cI, 2000, .inl eo))]) (As := [.int (nI (a + 1))]) (rest := []) ⟨hx, hb, hml, hown, hts⟩ (c_Md_two l dC dI cB cI cL md a1 a2 a3 a4 a5 B T O Z th eo (a + 1) t.2.2 hO ho (p2 k1).1 (p2 k1).2) (cwV 1 hts gX3_many_X3_two rfl rfl rfl (by decide +kernel) ⟨(Nat.le_of_ble_eq_true rfl), (Nat.le_of_ble_eq_true rfl)⟩) hK hN (sb_P hP [0, 1] rfl) 0 rfl rfl rfl rfl hl.1 rfl (Nat.le_of_ble_eq_true rfl) dX3_many_20 ⟨(Nat.le_of_ble_eq_true rfl), (Nat.le_of_ble_eq_true rfl)⟩ ?_
    exact rd_iret hx hb hr hlk (rfl) dX3_many_23
  · have k1 : t.1 = 1 := (nI_eq (by omega) (by omega)).mp c1
    refine lv_iload_n hx hb dX3_many_11 rfl (lv_at hl 1 rfl) ?_
    refine lv_iconst (v := 3) hx hb dX3_many_12 (by decide) ?_
    refine lv_iadd hx hb dX3_many_13 ?_
    refine lv_goto (tgt := 20) hx hb dX3_many_14 (by decide) ?_
    rw [show (3 : Int32) = nI 3 from rfl, nI_add]
    refine rd_V (wc := [(md, .inr (3, [.int th, .ref a1, .int (nI B.length), .ref a2, .int (nI T.length), .ref a3, .int (nI O.length), .ref a4, .int (nI Z.length), .ref a5])), (a3, .inl (cI, 2000, .inl eo))]) (As := [.int (nI (a + 3))]) (rest := []) ⟨hx, hb, hml, hown, hts⟩ (c_Md_two l dC dI cB cI cL md a1 a2 a3 a4 a5 B T O Z th eo (a + 3) t.2.2 hO ho (p1 k1).2.1 (p1 k1).2.2) (cwV 1 hts gX3_many_X3_two rfl rfl rfl (by decide +kernel) ⟨(Nat.le_of_ble_eq_true rfl), (Nat.le_of_ble_eq_true rfl)⟩) hK hN (sb_P hP [0, 1] rfl) 0 rfl rfl rfl rfl hl.1 rfl (Nat.le_of_ble_eq_true rfl) dX3_many_20 ⟨(Nat.le_of_ble_eq_true rfl), (Nat.le_of_ble_eq_true rfl)⟩ ?_
    exact rd_iret hx hb hr hlk (rfl) dX3_many_23
set_option maxHeartbeats 4000000 in
set_option maxRecDepth 100000 in
/-- behind(a) -/
theorem c_Md_behind (md a1 a2 a3 a4 a5 : Nat) (B T O Z : List Int32) (th : Int32) (eo : Nat → Int32) (a : Nat) (t : Nat × Nat × Nat) (hO : O.length ≤ 603) (ho : im_k eo O) (ht : t.1 < 3) (ht6 : t.2.1 + t.2.2 ≤ 600) (hp : pa_O O a t) : rd_M l yX3_behind wsX3_behind ({ frames := 1, cells := 0, slots := 0, locals := 21 } : Room) (dC, dI) vwCl (tk_s cB cI cL) [.ref md, .int (nI a)] [(md, .inr (3, [.int th, .ref a1, .int (nI B.length), .ref a2, .int (nI T.length), .ref a3, .int (nI O.length), .ref a4, .int (nI Z.length), .ref a5])), (a3, .inl (cI, 2000, .inl eo))] (nI (a + (if t.1 = 1 then 5 else 3 + t.2.2))) := by
  refine rd_ofW (cc := cX3_behind) (maxL := 2) (ret := (some .int)) (by decide) rfl (Nat.le_of_ble_eq_true rfl) ?_
  intro p e s m below meth c ls hx hb hr hml hts hown hlk hP hK hN hl
  have hl : lv_has ls 2 [(0, .ref md), (1, .int (nI a))] := hl
  obtain ⟨p0, p1, p2⟩ := hp
  have g1 := (List.getElem?_eq_some_iff.mp p0).1
  refine lv_aload_n hx hb dX3_behind_0 rfl (lv_at hl 0 rfl) ?_
  refine va_get (D := (dC, dI)) (ci := 3) (v := .ref a3) (C := RX3) (T := TX3) (N := 10) hx hb hts (by decide +kernel) hown hK hP 0 rfl rfl 5 (by decide) (hts (.fieldLink RX3 26 "PieceWaysModel" "row" "[I") (by decide +kernel)) (fun _ h9 => h9) rfl dX3_behind_1 ?_
  refine lv_iload_n hx hb dX3_behind_4 rfl (lv_at hl 1 rfl) ?_
  refine va_iald hx hb hK hP 1 1 rfl rfl (vp_in_nI (by omega) (by omega)) dX3_behind_5 ?_
  rw [nI_clamp (by omega), ho a _ p0]
  refine lv_iconst (v := 1) hx hb dX3_behind_6 (by decide) ?_
  refine lv_icmp_ne (tgt := 16) hx hb dX3_behind_7 (by decide) (fun c1 => ?_) (fun c1 => ?_)
  · have k1 : ¬ t.1 = 1 := fun h9 => c1 (by rw [h9]; rfl)
    refine lv_iload_n hx hb dX3_behind_16 rfl (lv_at hl 1 rfl) ?_
    refine lv_iconst (v := 3) hx hb dX3_behind_17 (by decide) ?_
    refine lv_iadd hx hb dX3_behind_18 ?_
    refine lv_aload_n hx hb dX3_behind_19 rfl (lv_at hl 0 rfl) ?_
    refine lv_iload_n hx hb dX3_behind_20 rfl (lv_at hl 1 rfl) ?_
    refine lv_iconst (v := 1) hx hb dX3_behind_21 (by decide) ?_
    refine lv_iadd hx hb dX3_behind_22 ?_
    rw [nI_1 a]
    refine rd_V (wc := [(md, .inr (3, [.int th, .ref a1, .int (nI B.length), .ref a2, .int (nI T.length), .ref a3, .int (nI O.length), .ref a4, .int (nI Z.length), .ref a5])), (a3, .inl (cI, 2000, .inl eo))]) (As := [.int (nI (a + 1))]) (rest := [.int ((nI a) + 3)]) ⟨hx, hb, hml, hown, hts⟩ (c_Md_two l dC dI cB cI cL md a1 a2 a3 a4 a5 B T O Z th eo (a + 1) t.2.2 hO ho (p2 k1).1 (p2 k1).2) (cwV 1 hts gX3_behind_X3_two rfl rfl rfl (by decide +kernel) ⟨(Nat.le_of_ble_eq_true rfl), (Nat.le_of_ble_eq_true rfl)⟩) hK hN (sb_P hP [0, 1] rfl) 0 rfl rfl rfl rfl hl.1 rfl (Nat.le_of_ble_eq_true rfl) dX3_behind_23 ⟨(Nat.le_of_ble_eq_true rfl), (Nat.le_of_ble_eq_true rfl)⟩ ?_
    refine lv_iadd hx hb dX3_behind_26 ?_
    exact rd_iret hx hb hr hlk (by rw [if_neg k1, show (3 : Int32) = nI 3 from rfl, nI_add, nI_add, Nat.add_assoc]) dX3_behind_27
  · have k1 : t.1 = 1 := (nI_eq (by omega) (by omega)).mp c1
    refine lv_iload_n hx hb dX3_behind_10 rfl (lv_at hl 1 rfl) ?_
    refine lv_iconst (v := 5) hx hb dX3_behind_11 (by decide) ?_
    refine lv_iadd hx hb dX3_behind_12 ?_
    refine lv_goto (tgt := 27) hx hb dX3_behind_13 (by decide) ?_
    exact rd_iret hx hb hr hlk (by rw [if_pos k1, show (5 : Int32) = nI 5 from rfl, nI_add]) dX3_behind_27
set_option maxHeartbeats 4000000 in
set_option maxRecDepth 100000 in
/-- alike(bp, tp) -/
theorem c_Md_alike (md a1 a2 a3 a4 a5 : Nat) (B T O Z : List Int32) (th : Int32) (eb et : Nat → Int32) (bp tp : Nat) (hbp : bp ≤ 600) (htp : tp ≤ 600) (hB : B.length ≤ 600) (hT : T.length ≤ 600) (hb1 : im_k eb B) (ht1 : im_k et T) : rd_M l yX3_alike wsX3_alike ({ frames := 0, cells := 0, slots := 0, locals := 0 } : Room) (dC, dI) vwCl (tk_s cB cI cL) [.ref md, .int (nI bp), .int (nI tp)] [(md, .inr (3, [.int th, .ref a1, .int (nI B.length), .ref a2, .int (nI T.length), .ref a3, .int (nI O.length), .ref a4, .int (nI Z.length), .ref a5])), (a1, .inl (cI, 600, .inl eb)), (a2, .inl (cI, 600, .inl et))] (nI (lc_p (B.drop bp) (T.drop tp))) := by
  refine rd_ofW (cc := cX3_alike) (maxL := 4) (ret := (some .int)) (by decide) rfl (Nat.le_of_ble_eq_true rfl) ?_
  intro p e s m below meth c ls hx hb hr hml hts hown hlk hP hK hN hl
  have hl : lv_has ls 4 [(0, .ref md), (1, .int (nI bp)), (2, .int (nI tp))] := hl
  have loop : ∀ (k n : Nat) (ls : Array Slot), B.length ≤ bp + n + k → n ≤ 600 → lc_p (B.drop bp) (T.drop tp) = n + lc_p (B.drop (bp + n)) (T.drop (tp + n)) → lv_has ls 4 [(3, .int (nI n)), (0, .ref md), (1, .int (nI bp)), (2, .int (nI tp))] → W p l e ({ frames := 0, cells := 0, slots := 0, locals := 0 } : Room) s m ([.ref md, .int (nI bp), .int (nI tp)] : List Value).toArray below meth c s.heap [] 0 0 (MQ below (QcRead (nI (lc_p (B.drop bp) (T.drop tp)))) ([.ref md, .int (nI bp), .int (nI tp)] : List Value).toArray s 0 0 (fun _ => False)) (F0 m 2 ls []) := by
    intro k
    induction k with
    | zero =>
      intro n ls hk hn he hl
      refine lv_iload_n hx hb dX3_alike_2 rfl (lv_at hl 2 rfl) ?_
      refine lv_iload_n hx hb dX3_alike_3 rfl (lv_at hl 0 rfl) ?_
      refine lv_iadd hx hb dX3_alike_4 ?_
      refine lv_aload_n hx hb dX3_alike_5 rfl (lv_at hl 1 rfl) ?_
      refine va_get (D := (dC, dI)) (ci := 3) (v := .int (nI B.length)) (C := RX3) (T := TX3) (N := 10) hx hb hts (by decide +kernel) hown hK hP 0 rfl rfl 2 (by decide) (hts (.fieldLink RX3 17 "PieceWaysModel" "bases" "I") (by decide +kernel)) (fun _ h9 => h9) rfl dX3_alike_6 ?_
      refine lv_icmp_ge (tgt := 47) hx hb dX3_alike_9 (by decide) (fun c1 => ?_) (fun c1 => ?_)
      · refine lv_iload_n hx hb dX3_alike_47 rfl (lv_at hl 0 rfl) ?_
        have q1 : B.length ≤ bp + n := by rw [nI_add] at c1; exact (nI_leI (by omega) (by omega)).mp c1
        exact rd_iret hx hb hr hlk (by rw [he, lc_end1 q1, Nat.add_zero]) dX3_alike_48
      · exact absurd (by rw [nI_add]; exact nI_le (by omega) (by omega)) c1
    | succ k ih =>
      intro n ls hk hn he hl
      refine lv_iload_n hx hb dX3_alike_2 rfl (lv_at hl 2 rfl) ?_
      refine lv_iload_n hx hb dX3_alike_3 rfl (lv_at hl 0 rfl) ?_
      refine lv_iadd hx hb dX3_alike_4 ?_
      refine lv_aload_n hx hb dX3_alike_5 rfl (lv_at hl 1 rfl) ?_
      refine va_get (D := (dC, dI)) (ci := 3) (v := .int (nI B.length)) (C := RX3) (T := TX3) (N := 10) hx hb hts (by decide +kernel) hown hK hP 0 rfl rfl 2 (by decide) (hts (.fieldLink RX3 17 "PieceWaysModel" "bases" "I") (by decide +kernel)) (fun _ h9 => h9) rfl dX3_alike_6 ?_
      refine lv_icmp_ge (tgt := 47) hx hb dX3_alike_9 (by decide) (fun c1 => ?_) (fun c1 => ?_)
      · refine lv_iload_n hx hb dX3_alike_47 rfl (lv_at hl 0 rfl) ?_
        have q1 : B.length ≤ bp + n := by rw [nI_add] at c1; exact (nI_leI (by omega) (by omega)).mp c1
        exact rd_iret hx hb hr hlk (by rw [he, lc_end1 q1, Nat.add_zero]) dX3_alike_48
      · have q1 : bp + n < B.length := by rcases Nat.lt_or_ge (bp + n) B.length with h9 | h9; exact h9; exact absurd (by rw [nI_add]; exact nI_le h9 (by omega)) c1
        refine lv_iload_n hx hb dX3_alike_12 rfl (lv_at hl 3 rfl) ?_
        refine lv_iload_n hx hb dX3_alike_13 rfl (lv_at hl 0 rfl) ?_
        refine lv_iadd hx hb dX3_alike_14 ?_
        refine lv_aload_n hx hb dX3_alike_15 rfl (lv_at hl 1 rfl) ?_
        refine va_get (D := (dC, dI)) (ci := 3) (v := .int (nI T.length)) (C := RX3) (T := TX3) (N := 10) hx hb hts (by decide +kernel) hown hK hP 0 rfl rfl 4 (by decide) (hts (.fieldLink RX3 23 "PieceWaysModel" "targets" "I") (by decide +kernel)) (fun _ h9 => h9) rfl dX3_alike_16 ?_
        refine lv_icmp_ge (tgt := 47) hx hb dX3_alike_19 (by decide) (fun c2 => ?_) (fun c2 => ?_)
        · refine lv_iload_n hx hb dX3_alike_47 rfl (lv_at hl 0 rfl) ?_
          have q2 : T.length ≤ tp + n := by rw [nI_add] at c2; exact (nI_leI (by omega) (by omega)).mp c2
          exact rd_iret hx hb hr hlk (by rw [he, lc_end2 q2, Nat.add_zero]) dX3_alike_48
        · have q2 : tp + n < T.length := by rcases Nat.lt_or_ge (tp + n) T.length with h9 | h9; exact h9; exact absurd (by rw [nI_add]; exact nI_le h9 (by omega)) c2
          obtain ⟨y1, hy1⟩ : ∃ y, B[bp + n]? = some y := ⟨_, List.getElem?_eq_getElem q1⟩
          obtain ⟨y2, hy2⟩ : ∃ y, T[tp + n]? = some y := ⟨_, List.getElem?_eq_getElem q2⟩
          refine lv_aload_n hx hb dX3_alike_22 rfl (lv_at hl 1 rfl) ?_
          refine va_get (D := (dC, dI)) (ci := 3) (v := .ref a1) (C := RX3) (T := TX3) (N := 10) hx hb hts (by decide +kernel) hown hK hP 0 rfl rfl 1 (by decide) (hts (.fieldLink RX3 13 "PieceWaysModel" "base" "[I") (by decide +kernel)) (fun _ h9 => h9) rfl dX3_alike_23 ?_
          refine lv_iload_n hx hb dX3_alike_26 rfl (lv_at hl 2 rfl) ?_
          refine lv_iload_n hx hb dX3_alike_27 rfl (lv_at hl 0 rfl) ?_
          refine lv_iadd hx hb dX3_alike_28 ?_
          refine va_iald hx hb hK hP 1 1 rfl rfl (by rw [nI_add bp n]; exact vp_in_nI (by omega) (by omega)) dX3_alike_29 ?_
          rw [nI_add bp n, nI_clamp (by omega), hb1 _ _ hy1]
          refine lv_aload_n hx hb dX3_alike_30 rfl (lv_at hl 1 rfl) ?_
          refine va_get (D := (dC, dI)) (ci := 3) (v := .ref a2) (C := RX3) (T := TX3) (N := 10) hx hb hts (by decide +kernel) hown hK hP 0 rfl rfl 3 (by decide) (hts (.fieldLink RX3 20 "PieceWaysModel" "target" "[I") (by decide +kernel)) (fun _ h9 => h9) rfl dX3_alike_31 ?_
          refine lv_iload_n hx hb dX3_alike_34 rfl (lv_at hl 3 rfl) ?_
          refine lv_iload_n hx hb dX3_alike_35 rfl (lv_at hl 0 rfl) ?_
          refine lv_iadd hx hb dX3_alike_36 ?_
          refine va_iald hx hb hK hP 2 1 rfl rfl (by rw [nI_add tp n]; exact vp_in_nI (by omega) (by omega)) dX3_alike_37 ?_
          rw [nI_add tp n, nI_clamp (by omega), ht1 _ _ hy2]
          refine lv_icmp_ne (tgt := 47) hx hb dX3_alike_38 (by decide) (fun c3 => ?_) (fun c3 => ?_)
          · refine lv_iload_n hx hb dX3_alike_47 rfl (lv_at hl 0 rfl) ?_
            exact rd_iret hx hb hr hlk (by rw [he, lc_stop hy1 hy2 c3, Nat.add_zero]) dX3_alike_48
          · have e3 := lc_step hy1 (c3 ▸ hy2)
            refine lv_iinc (v := ((nI n) + 1)) (lv' := [(3, .int ((nI n) + 1)), (0, .ref md), (1, .int (nI bp)), (2, .int (nI tp))]) hx hb dX3_alike_41 hl (k := 0) rfl rfl (by decide) rfl (fun ls hl => ?_)
            refine lv_goto (tgt := 2) hx hb dX3_alike_44 (by decide) ?_
            have hl : lv_has ls 4 [(3, .int (nI (n + 1))), (0, .ref md), (1, .int (nI bp)), (2, .int (nI tp))] := by have h9 := lv_sub (l' := [(3, .int ((nI n) + 1)), (0, .ref md), (1, .int (nI bp)), (2, .int (nI tp))]) hl [0, 1, 2, 3] rfl; rw [nI_1] at h9; exact h9
            exact ih (n + 1) ls (by omega) (by omega) (by rw [he, e3]; show n + (lc_p (B.drop (bp + n + 1)) (T.drop (tp + n + 1)) + 1) = n + 1 + lc_p (B.drop (bp + n + 1)) (T.drop (tp + n + 1)); omega) hl
  refine lv_iconst (v := 0) hx hb dX3_alike_0 (by decide) ?_
  refine lv_istore_n (lv' := [(3, .int 0), (0, .ref md), (1, .int (nI bp)), (2, .int (nI tp))]) hx hb dX3_alike_1 rfl hl (by decide) rfl (fun ls hl => ?_)
  exact loop B.length 0 ls (by omega) (by omega) (by rw [Nat.add_zero, Nat.add_zero, Nat.zero_add]) (lv_sub hl [0, 1, 2, 3] rfl)
end PWMREAD
