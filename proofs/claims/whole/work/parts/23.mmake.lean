section PWMMAKE
variable (l : Launch) (dC : Nat → ClassId) (dI : Nat → Nat → Nat) (cB cI cL : ClassId)

set_option maxHeartbeats 1000000 in
set_option maxRecDepth 100000 in
/-- make() -/
theorem c_Md_make (md a1 a2 a3 a4 a5 : Nat) (B T O Z : List Int32) (th : Int32) (eb et eo : Nat → Int32) (hB : B.length ≤ 600) (hT : T.length ≤ 600) (heb : im_k eb B) (het : im_k et T) : wi_M l yX3_make wsX3_make ({ frames := 2, cells := 0, slots := 0, locals := 42 } : Room) (dC, dI) vwCl (tk_s cB cI cL) [.ref md] [(md, .inr (3, [.int th, .ref a1, .int (nI B.length), .ref a2, .int (nI T.length), .ref a3, .int (nI O.length), .ref a4, .int (nI Z.length), .ref a5])), (a1, .inl (cI, 600, .inl eb)), (a2, .inl (cI, 600, .inl et)), (a3, .inl (cI, 2000, .inl eo))] 0 0 (fun (r : Int32) (z : Nat → Int32) => r = nI (wy_P B T).length ∧ im_k z (rw_R T (wy_P B T))) (fun z : Nat → Int32 => [(md, .inr (3, [.int 0, .ref a1, .int (nI B.length), .ref a2, .int (nI T.length), .ref a3, .int (nI (rw_R T (wy_P B T)).length), .ref a4, .int (nI Z.length), .ref a5])), (a1, .inl (cI, 600, .inl eb)), (a2, .inl (cI, 600, .inl et)), (a3, .inl (cI, 2000, .inl z))]) := by
  refine wi_ofW (cc := cX3_make) (maxL := 8) (ret := (some .int)) (by decide) rfl (Nat.le_of_ble_eq_true rfl) ?_
  intro p e s m below meth c ls A hx hb hr hml hts hown hlk hnm hP hK hN hD hA hS hl
  have hl : lv_has ls 8 [(0, .ref md)] := hl
  have loop : ∀ (n pl : Nat) (Q : List (Nat × Nat × Nat)) (f : Nat → Int32) (H : Heap) (locs : List Loc) (ls : Array Slot), T.length ≤ pl + n → pw_I B.length T.length Q pl → fp_P B T n pl Q = wy_P B T → im_k f (rw_R T Q) → va_P (dC, dI) vwCl [(md, .inr (3, [.int 0, .ref a1, .int (nI B.length), .ref a2, .int (nI T.length), .ref a3, .int (nI (rw_R T Q).length), .ref a4, .int (nI Z.length), .ref a5])), (a1, .inl (cI, 600, .inl eb)), (a2, .inl (cI, 600, .inl et)), (a3, .inl (cI, 2000, .inl f))] H → va_D A [(md, .inr (3, [.int 0, .ref a1, .int (nI B.length), .ref a2, .int (nI T.length), .ref a3, .int (nI (rw_R T Q).length), .ref a4, .int (nI Z.length), .ref a5])), (a1, .inl (cI, 600, .inl eb)), (a2, .inl (cI, 600, .inl et)), (a3, .inl (cI, 2000, .inl f))] → va_S A s.heap H locs → lv_has ls 8 [(3, .int (nI pl)), (2, .int (op_I T Q)), (1, .int (nI Q.length)), (0, .ref md)] → W p l e ({ frames := 2, cells := 0, slots := 0, locals := 42 } : Room) s m ([.ref md] : List Value).toArray below meth c H locs 0 0 (MQ below (va_Qi (fun (r : Int32) (z : Nat → Int32) => r = nI (wy_P B T).length ∧ im_k z (rw_R T (wy_P B T))) (fun u t => va_P (dC, dI) vwCl ((fun z : Nat → Int32 => [(md, .inr (3, [.int 0, .ref a1, .int (nI B.length), .ref a2, .int (nI T.length), .ref a3, .int (nI (rw_R T (wy_P B T)).length), .ref a4, .int (nI Z.length), .ref a5])), (a1, .inl (cI, 600, .inl eb)), (a2, .inl (cI, 600, .inl et)), (a3, .inl (cI, 2000, .inl z))]) u) t.heap ∧ va_D A ((fun z : Nat → Int32 => [(md, .inr (3, [.int 0, .ref a1, .int (nI B.length), .ref a2, .int (nI T.length), .ref a3, .int (nI (rw_R T (wy_P B T)).length), .ref a4, .int (nI Z.length), .ref a5])), (a1, .inl (cI, 600, .inl eb)), (a2, .inl (cI, 600, .inl et)), (a3, .inl (cI, 2000, .inl z))]) u)) A) ([.ref md] : List Value).toArray s 0 0 A) (F0 m 16 ls []) := by
    intro n
    induction n with
    | zero =>
      intro pl Q f H locs ls hn hI hfp hf hP hD hS hl
      have hpl : pl = T.length := by have := hI.2.2.2.2.1; omega
      have hQ : Q = wy_P B T := hfp
      subst hQ
      refine lv_iload_n hx hb dX3_make_16 rfl (lv_at hl 0 rfl) ?_
      refine lv_aload_n hx hb dX3_make_17 rfl (lv_at hl 3 rfl) ?_
      refine va_get (D := (dC, dI)) (ci := 3) (v := .int (nI T.length)) (C := RX3) (T := TX3) (N := 10) hx hb hts (by decide +kernel) hown hK hP 0 rfl rfl 4 (by decide) (hts (.fieldLink RX3 23 "PieceWaysModel" "targets" "I") (by decide +kernel)) (fun _ h9 => h9) rfl dX3_make_18 ?_
      refine lv_icmp_ge (tgt := 190) hx hb dX3_make_21 (by decide) (fun c1 => ?_) (fun c1 => ?_)
      · refine lv_iload_n hx hb dX3_make_190 rfl (lv_at hl 2 rfl) ?_
        exact wi_iret hx hb hr hlk f ⟨rfl, hf⟩ hP hD hS dX3_make_191
      · exact absurd (nI_le (by omega) (by omega)) c1
    | succ n ih =>
      intro pl Q f H locs ls hn hI hfp hf hP hD hS hl
      have hpT := hI.2.2.2.2.1
      have hQn := pw_num hI hT
      have hOl := rw_len (nB := B.length) (T := T) hI.1
      have plain : ∀ (Q1 : List (Nat × Nat × Nat)) (b k : Nat) (y : Int32) (f1 : Nat → Int32) (H : Heap) (locs : List Loc) (ls : Array Slot), b + k = pl → pl < T.length → T[pl]? = some y → (rw_R T Q1).length ≤ 603 → pw_I B.length T.length (Q1 ++ [(2, b, k + 1)]) (pl + 1) → fp_P B T n (pl + 1) (Q1 ++ [(2, b, k + 1)]) = wy_P B T → im_k f1 (rw_R T (Q1 ++ [(2, b, k)])) → va_P (dC, dI) vwCl [(md, .inr (3, [.int 0, .ref a1, .int (nI B.length), .ref a2, .int (nI T.length), .ref a3, .int (nI (rw_R T (Q1 ++ [(2, b, k)])).length), .ref a4, .int (nI Z.length), .ref a5])), (a1, .inl (cI, 600, .inl eb)), (a2, .inl (cI, 600, .inl et)), (a3, .inl (cI, 2000, .inl f1))] H → va_D A [(md, .inr (3, [.int 0, .ref a1, .int (nI B.length), .ref a2, .int (nI T.length), .ref a3, .int (nI (rw_R T (Q1 ++ [(2, b, k)])).length), .ref a4, .int (nI Z.length), .ref a5])), (a1, .inl (cI, 600, .inl eb)), (a2, .inl (cI, 600, .inl et)), (a3, .inl (cI, 2000, .inl f1))] → va_S A s.heap H locs → lv_has ls 8 [(2, .int (nI (rw_R T Q1).length)), (1, .int (nI (Q1.length + 1))), (3, .int (nI pl)), (0, .ref md)] → W p l e ({ frames := 2, cells := 0, slots := 0, locals := 42 } : Room) s m ([.ref md] : List Value).toArray below meth c H locs 0 0 (MQ below (va_Qi (fun (r : Int32) (z : Nat → Int32) => r = nI (wy_P B T).length ∧ im_k z (rw_R T (wy_P B T))) (fun u t => va_P (dC, dI) vwCl ((fun z : Nat → Int32 => [(md, .inr (3, [.int 0, .ref a1, .int (nI B.length), .ref a2, .int (nI T.length), .ref a3, .int (nI (rw_R T (wy_P B T)).length), .ref a4, .int (nI Z.length), .ref a5])), (a1, .inl (cI, 600, .inl eb)), (a2, .inl (cI, 600, .inl et)), (a3, .inl (cI, 2000, .inl z))]) u) t.heap ∧ va_D A ((fun z : Nat → Int32 => [(md, .inr (3, [.int 0, .ref a1, .int (nI B.length), .ref a2, .int (nI T.length), .ref a3, .int (nI (rw_R T (wy_P B T)).length), .ref a4, .int (nI Z.length), .ref a5])), (a1, .inl (cI, 600, .inl eb)), (a2, .inl (cI, 600, .inl et)), (a3, .inl (cI, 2000, .inl z))]) u)) A) ([.ref md] : List Value).toArray s 0 0 A) (F0 m 135 ls []) := by
        intro Q1 b k y f1 H locs ls hbk hplT hy hQ1 hI2 hfp2 hf1 hP hD hS hl
        have hlen := rw_lenP (T := T) (Q := Q1) (b := b) (n := k) (by omega) (by omega)
        have h2 := rw_two (T := T) (Q := Q1) (b := b) (n := k) (by omega)
        refine lv_aload_n hx hb dX3_make_135 rfl (lv_at hl 3 rfl) ?_
        refine lv_iload_n hx hb dX3_make_136 rfl (lv_at hl 0 rfl) ?_
        refine lv_iconst (v := 1) hx hb dX3_make_137 (by decide) ?_
        refine lv_iadd hx hb dX3_make_138 ?_
        rw [nI_1 (rw_R T Q1).length]
        have hn2 := pw_num hI2 hT
        have hl2 := rw_len (nB := B.length) (T := T) hI2.1
        have hlen2 := rw_lenP (T := T) (Q := Q1) (b := b) (n := k + 1) (by omega) (by omega)
        refine rd_V (wc := [(md, .inr (3, [.int 0, .ref a1, .int (nI B.length), .ref a2, .int (nI T.length), .ref a3, .int (nI (rw_R T (Q1 ++ [(2, b, k)])).length), .ref a4, .int (nI Z.length), .ref a5])), (a3, .inl (cI, 2000, .inl f1))]) (As := [.int (nI ((rw_R T Q1).length + 1))]) (rest := []) ⟨hx, hb, hml, hown, hts⟩ (c_Md_two l dC dI cB cI cL md a1 a2 a3 a4 a5 B T (rw_R T (Q1 ++ [(2, b, k)])) Z 0 f1 ((rw_R T Q1).length + 1) k (by omega) hf1 h2.1 h2.2) (cwV 1 hts gX3_make_X3_two rfl rfl rfl (by decide +kernel) ⟨(Nat.le_of_ble_eq_true rfl), (Nat.le_of_ble_eq_true rfl)⟩) hK hN (sb_P hP [0, 3] rfl) 0 rfl rfl rfl rfl hl.1 rfl (Nat.le_of_ble_eq_true rfl) dX3_make_139 ⟨(Nat.le_of_ble_eq_true rfl), (Nat.le_of_ble_eq_true rfl)⟩ ?_
        refine lv_iconst (v := 1) hx hb dX3_make_142 (by decide) ?_
        refine lv_iadd hx hb dX3_make_143 ?_
        rw [nI_1 k]
        refine lv_istore (lv' := [(6, .int (nI (k + 1))), (2, .int (nI (rw_R T Q1).length)), (1, .int (nI (Q1.length + 1))), (3, .int (nI pl)), (0, .ref md)]) hx hb dX3_make_144 hl (by decide) rfl (fun ls hl => ?_)
        refine lv_aload_n hx hb dX3_make_146 rfl (lv_at hl 4 rfl) ?_
        refine va_get (D := (dC, dI)) (ci := 3) (v := .ref a3) (C := RX3) (T := TX3) (N := 10) hx hb hts (by decide +kernel) hown hK hP 0 rfl rfl 5 (by decide) (hts (.fieldLink RX3 26 "PieceWaysModel" "row" "[I") (by decide +kernel)) (fun _ h9 => h9) rfl dX3_make_147 ?_
        refine lv_iload_n hx hb dX3_make_150 rfl (lv_at hl 1 rfl) ?_
        refine lv_iconst (v := 1) hx hb dX3_make_151 (by decide) ?_
        refine lv_iadd hx hb dX3_make_152 ?_
        refine lv_iload hx hb dX3_make_153 (lv_at hl 0 rfl) ?_
        refine lv_sipush (v := 256) hx hb dX3_make_155 (by decide) ?_
        refine lv_idiv hx hb dX3_make_158 (by decide) ?_
        rw [nI_1 (rw_R T Q1).length, show (256 : Int32) = nI 256 from rfl, pk_div (a := k + 1) (by omega) (by omega) (by omega)]
        refine va_iast hx hb hK hP hD hS 3 1 rfl rfl (vp_in_nI (by omega) (by omega)) dX3_make_159 (fun H locs hP hD hS => ?_)
        have hP : va_P (dC, dI) vwCl [(md, .inr (3, [.int 0, .ref a1, .int (nI B.length), .ref a2, .int (nI T.length), .ref a3, .int (nI (rw_R T (Q1 ++ [(2, b, k)])).length), .ref a4, .int (nI Z.length), .ref a5])), (a1, .inl (cI, 600, .inl eb)), (a2, .inl (cI, 600, .inl et)), (a3, .inl (cI, 2000, .inl (upd f1 (nI ((rw_R T Q1).length + 1)).toNatClampNeg (nI ((k + 1) / 256)))))] H := hP
        have hD : va_D A [(md, .inr (3, [.int 0, .ref a1, .int (nI B.length), .ref a2, .int (nI T.length), .ref a3, .int (nI (rw_R T (Q1 ++ [(2, b, k)])).length), .ref a4, .int (nI Z.length), .ref a5])), (a1, .inl (cI, 600, .inl eb)), (a2, .inl (cI, 600, .inl et)), (a3, .inl (cI, 2000, .inl (upd f1 (nI ((rw_R T Q1).length + 1)).toNatClampNeg (nI ((k + 1) / 256)))))] := hD
        rw [nI_clamp (by omega)] at hP hD
        have hf2 := im_set hf1 ((rw_R T Q1).length + 1) (nI ((k + 1) / 256))
        generalize upd f1 ((rw_R T Q1).length + 1) (nI ((k + 1) / 256)) = f2 at hf2 hP hD
        refine lv_aload_n hx hb dX3_make_160 rfl (lv_at hl 4 rfl) ?_
        refine va_get (D := (dC, dI)) (ci := 3) (v := .ref a3) (C := RX3) (T := TX3) (N := 10) hx hb hts (by decide +kernel) hown hK hP 0 rfl rfl 5 (by decide) (hts (.fieldLink RX3 26 "PieceWaysModel" "row" "[I") (by decide +kernel)) (fun _ h9 => h9) rfl dX3_make_161 ?_
        refine lv_iload_n hx hb dX3_make_164 rfl (lv_at hl 1 rfl) ?_
        refine lv_iconst (v := 2) hx hb dX3_make_165 (by decide) ?_
        refine lv_iadd hx hb dX3_make_166 ?_
        refine lv_iload hx hb dX3_make_167 (lv_at hl 0 rfl) ?_
        refine lv_sipush (v := 256) hx hb dX3_make_169 (by decide) ?_
        refine lv_irem hx hb dX3_make_172 (by decide) ?_
        rw [show (2 : Int32) = nI 2 from rfl, nI_add (rw_R T Q1).length 2, show (256 : Int32) = nI 256 from rfl, pk_rem (a := k + 1) (by omega) (by omega) (by omega)]
        refine va_iast hx hb hK hP hD hS 3 1 rfl rfl (vp_in_nI (by omega) (by omega)) dX3_make_173 (fun H locs hP hD hS => ?_)
        have hP : va_P (dC, dI) vwCl [(md, .inr (3, [.int 0, .ref a1, .int (nI B.length), .ref a2, .int (nI T.length), .ref a3, .int (nI (rw_R T (Q1 ++ [(2, b, k)])).length), .ref a4, .int (nI Z.length), .ref a5])), (a1, .inl (cI, 600, .inl eb)), (a2, .inl (cI, 600, .inl et)), (a3, .inl (cI, 2000, .inl (upd f2 (nI ((rw_R T Q1).length + 2)).toNatClampNeg (nI ((k + 1) % 256)))))] H := hP
        have hD : va_D A [(md, .inr (3, [.int 0, .ref a1, .int (nI B.length), .ref a2, .int (nI T.length), .ref a3, .int (nI (rw_R T (Q1 ++ [(2, b, k)])).length), .ref a4, .int (nI Z.length), .ref a5])), (a1, .inl (cI, 600, .inl eb)), (a2, .inl (cI, 600, .inl et)), (a3, .inl (cI, 2000, .inl (upd f2 (nI ((rw_R T Q1).length + 2)).toNatClampNeg (nI ((k + 1) % 256)))))] := hD
        rw [nI_clamp (by omega)] at hP hD
        have hf3 := im_set hf2 ((rw_R T Q1).length + 2) (nI ((k + 1) % 256))
        generalize upd f2 ((rw_R T Q1).length + 2) (nI ((k + 1) % 256)) = f3 at hf3 hP hD
        generalize hO3 : (((rw_R T (Q1 ++ [(2, b, k)])).set ((rw_R T Q1).length + 1) (nI ((k + 1) / 256))).set ((rw_R T Q1).length + 2) (nI ((k + 1) % 256))) = O3 at hf3
        have hO3l : O3.length = (rw_R T (Q1 ++ [(2, b, k)])).length := by rw [← hO3, List.length_set, List.length_set]
        rw [← hO3l] at hP hD
        refine lv_aload_n hx hb dX3_make_174 rfl (lv_at hl 4 rfl) ?_
        refine lv_aload_n hx hb dX3_make_175 rfl (lv_at hl 4 rfl) ?_
        refine va_get (D := (dC, dI)) (ci := 3) (v := .ref a2) (C := RX3) (T := TX3) (N := 10) hx hb hts (by decide +kernel) hown hK hP 0 rfl rfl 3 (by decide) (hts (.fieldLink RX3 20 "PieceWaysModel" "target" "[I") (by decide +kernel)) (fun _ h9 => h9) rfl dX3_make_176 ?_
        refine lv_iload_n hx hb dX3_make_179 rfl (lv_at hl 3 rfl) ?_
        refine va_iald hx hb hK hP 2 1 rfl rfl (vp_in_nI (by omega) (by omega)) dX3_make_180 ?_
        rw [nI_clamp (by omega), het pl _ hy]
        refine wr_V (wc := [(md, .inr (3, [.int 0, .ref a1, .int (nI B.length), .ref a2, .int (nI T.length), .ref a3, .int (nI O3.length), .ref a4, .int (nI Z.length), .ref a5])), (a3, .inl (cI, 2000, .inl f3))]) (wr := [(a1, .inl (cI, 600, .inl eb)), (a2, .inl (cI, 600, .inl et))]) (As := [.int y]) (rest := []) ⟨hx, hb, hml, hown, hts⟩ (c_Md_write l dC dI cB cI cL md a1 a2 a3 a4 a5 B T O3 Z 0 f3 y (by omega) hf3) (cwV 1 hts gX3_make_X3_write rfl rfl rfl (by decide +kernel) ⟨(Nat.le_of_ble_eq_true rfl), (Nat.le_of_ble_eq_true rfl)⟩) hK hN hP hD hS hA [0, 3] [1, 2] rfl rfl (by decide) (by decide) (by decide) 0 rfl rfl rfl rfl hl.1 rfl (Nat.le_of_ble_eq_true rfl) dX3_make_181 ⟨(Nat.le_of_ble_eq_true rfl), (Nat.le_of_ble_eq_true rfl)⟩ (fun f4 H locs hf4 hP hD hS => ?_)
        have hP : va_P (dC, dI) vwCl [(md, .inr (3, [.int 0, .ref a1, .int (nI B.length), .ref a2, .int (nI T.length), .ref a3, .int (nI (O3 ++ [y]).length), .ref a4, .int (nI Z.length), .ref a5])), (a1, .inl (cI, 600, .inl eb)), (a2, .inl (cI, 600, .inl et)), (a3, .inl (cI, 2000, .inl f4))] H := hP.sub [2, 0, 1, 3] rfl
        have hD : va_D A [(md, .inr (3, [.int 0, .ref a1, .int (nI B.length), .ref a2, .int (nI T.length), .ref a3, .int (nI (O3 ++ [y]).length), .ref a4, .int (nI Z.length), .ref a5])), (a1, .inl (cI, 600, .inl eb)), (a2, .inl (cI, 600, .inl et)), (a3, .inl (cI, 2000, .inl f4))] := hD.sub [2, 0, 1, 3] (by decide) rfl
        have e9 : O3 ++ [y] = rw_R T (Q1 ++ [(2, b, k + 1)]) := by rw [← hO3]; exact rw_more (by omega) (by rw [hbk]; exact hy)
        rw [e9] at hf4 hP hD
        refine lv_iinc (v := ((nI pl) + 1)) (lv' := [(3, .int ((nI pl) + 1)), (6, .int (nI (k + 1))), (2, .int (nI (rw_R T Q1).length)), (1, .int (nI (Q1.length + 1))), (0, .ref md)]) hx hb dX3_make_184 hl (k := 3) rfl rfl (by decide) rfl (fun ls hl => ?_)
        refine lv_goto (tgt := 16) hx hb dX3_make_187 (by decide) ?_
        refine ih (pl + 1) (Q1 ++ [(2, b, k + 1)]) f4 H locs ls (by omega) hI2 hfp2 hf4 hP hD hS ?_
        rw [op_app, if_pos rfl, List.length_append, List.length_singleton, ← nI_1 pl]
        exact lv_sub hl [0, 2, 3, 4] rfl
      refine lv_iload_n hx hb dX3_make_16 rfl (lv_at hl 0 rfl) ?_
      refine lv_aload_n hx hb dX3_make_17 rfl (lv_at hl 3 rfl) ?_
      refine va_get (D := (dC, dI)) (ci := 3) (v := .int (nI T.length)) (C := RX3) (T := TX3) (N := 10) hx hb hts (by decide +kernel) hown hK hP 0 rfl rfl 4 (by decide) (hts (.fieldLink RX3 23 "PieceWaysModel" "targets" "I") (by decide +kernel)) (fun _ h9 => h9) rfl dX3_make_18 ?_
      refine lv_icmp_ge (tgt := 190) hx hb dX3_make_21 (by decide) (fun c1 => ?_) (fun c1 => ?_)
      · have hpl : ¬ pl < T.length := fun h9 => absurd c1 (nI_ge h9 (by omega))
        have hQ : Q = wy_P B T := by unfold fp_P at hfp; rw [if_neg hpl] at hfp; exact hfp
        subst hQ
        refine lv_iload_n hx hb dX3_make_190 rfl (lv_at hl 2 rfl) ?_
        exact wi_iret hx hb hr hlk f ⟨rfl, hf⟩ hP hD hS dX3_make_191
      · have hpl : pl < T.length := by rcases Nat.lt_or_ge pl T.length with h9 | h9; exact h9; exact absurd (nI_le h9 (by omega)) c1
        unfold fp_P at hfp
        rw [if_pos hpl] at hfp
        have inner : (∀ ls : Array Slot, lv_has ls 8 [(5, .int (fr_I (lg_S B T pl (B.length / 8)).1)), (4, .int (nI (lg_S B T pl (B.length / 8)).2)), (3, .int (nI pl)), (2, .int (op_I T Q)), (1, .int (nI Q.length)), (0, .ref md)] → W p l e ({ frames := 2, cells := 0, slots := 0, locals := 42 } : Room) s m ([.ref md] : List Value).toArray below meth c H locs 0 0 (MQ below (va_Qi (fun (r : Int32) (z : Nat → Int32) => r = nI (wy_P B T).length ∧ im_k z (rw_R T (wy_P B T))) (fun u t => va_P (dC, dI) vwCl ((fun z : Nat → Int32 => [(md, .inr (3, [.int 0, .ref a1, .int (nI B.length), .ref a2, .int (nI T.length), .ref a3, .int (nI (rw_R T (wy_P B T)).length), .ref a4, .int (nI Z.length), .ref a5])), (a1, .inl (cI, 600, .inl eb)), (a2, .inl (cI, 600, .inl et)), (a3, .inl (cI, 2000, .inl z))]) u) t.heap ∧ va_D A ((fun z : Nat → Int32 => [(md, .inr (3, [.int 0, .ref a1, .int (nI B.length), .ref a2, .int (nI T.length), .ref a3, .int (nI (rw_R T (wy_P B T)).length), .ref a4, .int (nI Z.length), .ref a5])), (a1, .inl (cI, 600, .inl eb)), (a2, .inl (cI, 600, .inl et)), (a3, .inl (cI, 2000, .inl z))]) u)) A) ([.ref md] : List Value).toArray s 0 0 A) (F0 m 76 ls [])) → ∀ (j k : Nat) (ls : Array Slot), j + k = B.length / 8 → lv_has ls 8 [(6, .int (nI (8 * k))), (5, .int (fr_I (lg_S B T pl k).1)), (4, .int (nI (lg_S B T pl k).2)), (3, .int (nI pl)), (2, .int (op_I T Q)), (1, .int (nI Q.length)), (0, .ref md)] → W p l e ({ frames := 2, cells := 0, slots := 0, locals := 42 } : Room) s m ([.ref md] : List Value).toArray below meth c H locs 0 0 (MQ below (va_Qi (fun (r : Int32) (z : Nat → Int32) => r = nI (wy_P B T).length ∧ im_k z (rw_R T (wy_P B T))) (fun u t => va_P (dC, dI) vwCl ((fun z : Nat → Int32 => [(md, .inr (3, [.int 0, .ref a1, .int (nI B.length), .ref a2, .int (nI T.length), .ref a3, .int (nI (rw_R T (wy_P B T)).length), .ref a4, .int (nI Z.length), .ref a5])), (a1, .inl (cI, 600, .inl eb)), (a2, .inl (cI, 600, .inl et)), (a3, .inl (cI, 2000, .inl z))]) u) t.heap ∧ va_D A ((fun z : Nat → Int32 => [(md, .inr (3, [.int 0, .ref a1, .int (nI B.length), .ref a2, .int (nI T.length), .ref a3, .int (nI (rw_R T (wy_P B T)).length), .ref a4, .int (nI Z.length), .ref a5])), (a1, .inl (cI, 600, .inl eb)), (a2, .inl (cI, 600, .inl et)), (a3, .inl (cI, 2000, .inl z))]) u)) A) ([.ref md] : List Value).toArray s 0 0 A) (F0 m 34 ls []) := by
          intro kx j
          induction j with
          | zero =>
            intro k ls hk hl
            have hk : k = B.length / 8 := by omega
            refine lv_iload hx hb dX3_make_34 (lv_at hl 0 rfl) ?_
            refine lv_bipush (v := 8) hx hb dX3_make_36 (by decide) ?_
            refine lv_iadd hx hb dX3_make_38 ?_
            refine lv_aload_n hx hb dX3_make_39 rfl (lv_at hl 6 rfl) ?_
            refine va_get (D := (dC, dI)) (ci := 3) (v := .int (nI B.length)) (C := RX3) (T := TX3) (N := 10) hx hb hts (by decide +kernel) hown hK hP 0 rfl rfl 2 (by decide) (hts (.fieldLink RX3 17 "PieceWaysModel" "bases" "I") (by decide +kernel)) (fun _ h9 => h9) rfl dX3_make_40 ?_
            refine lv_icmp_gt (tgt := 76) hx hb dX3_make_43 (by decide) (fun d1 => ?_) (fun d1 => ?_)
            · rw [hk] at hl
              exact kx ls (lv_sub hl [1, 2, 3, 4, 5, 6] rfl)
            · exact absurd (by rw [show (8 : Int32) = nI 8 from rfl, nI_add]; exact nI_lt (by omega) (by omega)) d1
          | succ j jh =>
            intro k ls hk hl
            have h8 : 8 * k + 8 ≤ B.length := by omega
            have hlm := lg_most B T pl k
            have hlc := lc_le (B.drop (8 * k)) (T.drop pl)
            rw [List.length_drop, List.length_drop] at hlc
            have hm6 : (lg_S B T pl k).2 ≤ 600 := by
              rcases lg_ok B T pl k with ⟨-, h9⟩ | ⟨b, -, h9, -, -⟩
              · omega
              · rw [h9]; have h7 := lc_le (B.drop b) (T.drop pl); rw [List.length_drop, List.length_drop] at h7; omega
            refine lv_iload hx hb dX3_make_34 (lv_at hl 0 rfl) ?_
            refine lv_bipush (v := 8) hx hb dX3_make_36 (by decide) ?_
            refine lv_iadd hx hb dX3_make_38 ?_
            refine lv_aload_n hx hb dX3_make_39 rfl (lv_at hl 6 rfl) ?_
            refine va_get (D := (dC, dI)) (ci := 3) (v := .int (nI B.length)) (C := RX3) (T := TX3) (N := 10) hx hb hts (by decide +kernel) hown hK hP 0 rfl rfl 2 (by decide) (hts (.fieldLink RX3 17 "PieceWaysModel" "bases" "I") (by decide +kernel)) (fun _ h9 => h9) rfl dX3_make_40 ?_
            refine lv_icmp_gt (tgt := 76) hx hb dX3_make_43 (by decide) (fun d1 => ?_) (fun d1 => ?_)
            · exact absurd d1 (by rw [show (8 : Int32) = nI 8 from rfl, nI_add]; exact nI_nlt (by omega) (by omega))
            · refine lv_aload_n hx hb dX3_make_46 rfl (lv_at hl 6 rfl) ?_
              refine lv_iload hx hb dX3_make_47 (lv_at hl 0 rfl) ?_
              refine lv_iload_n hx hb dX3_make_49 rfl (lv_at hl 3 rfl) ?_
              refine rd_V (wc := [(md, .inr (3, [.int 0, .ref a1, .int (nI B.length), .ref a2, .int (nI T.length), .ref a3, .int (nI (rw_R T Q).length), .ref a4, .int (nI Z.length), .ref a5])), (a1, .inl (cI, 600, .inl eb)), (a2, .inl (cI, 600, .inl et))]) (As := [.int (nI (8 * k)), .int (nI pl)]) (rest := []) ⟨hx, hb, hml, hown, hts⟩ (c_Md_alike l dC dI cB cI cL md a1 a2 a3 a4 a5 B T (rw_R T Q) Z 0 eb et (8 * k) pl (by omega) (by omega) hB hT heb het) (cwV 2 hts gX3_make_X3_alike rfl rfl rfl (by decide +kernel) ⟨(Nat.le_of_ble_eq_true rfl), (Nat.le_of_ble_eq_true rfl)⟩) hK hN (sb_P hP [0, 1, 2] rfl) 0 rfl rfl rfl rfl hl.1 rfl (Nat.le_of_ble_eq_true rfl) dX3_make_50 ⟨(Nat.le_of_ble_eq_true rfl), (Nat.le_of_ble_eq_true rfl)⟩ ?_
              refine lv_istore (lv' := [(7, .int (nI (lc_p (B.drop (8 * k)) (T.drop pl)))), (6, .int (nI (8 * k))), (5, .int (fr_I (lg_S B T pl k).1)), (4, .int (nI (lg_S B T pl k).2)), (3, .int (nI pl)), (2, .int (op_I T Q)), (1, .int (nI Q.length)), (0, .ref md)]) hx hb dX3_make_53 hl (by decide) rfl (fun ls hl => ?_)
              refine lv_iload hx hb dX3_make_55 (lv_at hl 0 rfl) ?_
              refine lv_iload hx hb dX3_make_57 (lv_at hl 3 rfl) ?_
              refine lv_icmp_le (tgt := 70) hx hb dX3_make_59 (by decide) (fun d2 => ?_) (fun d2 => ?_)
              · have e4 : lg_S B T pl (k + 1) = lg_S B T pl k := lg_keep (by have := (nI_leI (by omega) (by omega)).mp d2; omega)
                refine lv_iinc (v := ((nI (8 * k)) + 8)) (lv' := [(6, .int ((nI (8 * k)) + 8)), (7, .int (nI (lc_p (B.drop (8 * k)) (T.drop pl)))), (5, .int (fr_I (lg_S B T pl k).1)), (4, .int (nI (lg_S B T pl k).2)), (3, .int (nI pl)), (2, .int (op_I T Q)), (1, .int (nI Q.length)), (0, .ref md)]) hx hb dX3_make_70 hl (k := 1) rfl rfl (by decide) rfl (fun ls hl => ?_)
                refine lv_goto (tgt := 34) hx hb dX3_make_73 (by decide) ?_
                have h9 : lv_has ls 8 [(6, .int ((nI (8 * k)) + 8)), (5, .int (fr_I (lg_S B T pl k).1)), (4, .int (nI (lg_S B T pl k).2)), (3, .int (nI pl)), (2, .int (op_I T Q)), (1, .int (nI Q.length)), (0, .ref md)] := lv_sub hl [0, 2, 3, 4, 5, 6, 7] rfl
                refine jh (k + 1) ls (by omega) ?_
                rw [e4, show 8 * (k + 1) = 8 * k + 8 from rfl, ← nI_add]
                exact h9
              · have e4 : lg_S B T pl (k + 1) = (some (8 * k), lc_p (B.drop (8 * k)) (T.drop pl)) := lg_take (by rcases Nat.lt_or_ge (lg_S B T pl k).2 (lc_p (B.drop (8 * k)) (T.drop pl)) with h9 | h9; exact h9; exact absurd (nI_le h9 (by omega)) d2)
                refine lv_iload hx hb dX3_make_62 (lv_at hl 0 rfl) ?_
                refine lv_istore (lv' := [(4, .int (nI (lc_p (B.drop (8 * k)) (T.drop pl)))), (7, .int (nI (lc_p (B.drop (8 * k)) (T.drop pl)))), (6, .int (nI (8 * k))), (5, .int (fr_I (lg_S B T pl k).1)), (3, .int (nI pl)), (2, .int (op_I T Q)), (1, .int (nI Q.length)), (0, .ref md)]) hx hb dX3_make_64 hl (by decide) rfl (fun ls hl => ?_)
                refine lv_iload hx hb dX3_make_66 (lv_at hl 2 rfl) ?_
                refine lv_istore (lv' := [(5, .int (nI (8 * k))), (4, .int (nI (lc_p (B.drop (8 * k)) (T.drop pl)))), (7, .int (nI (lc_p (B.drop (8 * k)) (T.drop pl)))), (6, .int (nI (8 * k))), (3, .int (nI pl)), (2, .int (op_I T Q)), (1, .int (nI Q.length)), (0, .ref md)]) hx hb dX3_make_68 hl (by decide) rfl (fun ls hl => ?_)
                refine lv_iinc (v := ((nI (8 * k)) + 8)) (lv' := [(6, .int ((nI (8 * k)) + 8)), (5, .int (nI (8 * k))), (4, .int (nI (lc_p (B.drop (8 * k)) (T.drop pl)))), (7, .int (nI (lc_p (B.drop (8 * k)) (T.drop pl)))), (3, .int (nI pl)), (2, .int (op_I T Q)), (1, .int (nI Q.length)), (0, .ref md)]) hx hb dX3_make_70 hl (k := 3) rfl rfl (by decide) rfl (fun ls hl => ?_)
                refine lv_goto (tgt := 34) hx hb dX3_make_73 (by decide) ?_
                have h9 : lv_has ls 8 [(6, .int ((nI (8 * k)) + 8)), (5, .int (nI (8 * k))), (4, .int (nI (lc_p (B.drop (8 * k)) (T.drop pl)))), (3, .int (nI pl)), (2, .int (op_I T Q)), (1, .int (nI Q.length)), (0, .ref md)] := lv_sub hl [0, 1, 2, 4, 5, 6, 7] rfl
                refine jh (k + 1) ls (by omega) ?_
                rw [e4, show 8 * (k + 1) = 8 * k + 8 from rfl, ← nI_add]
                exact h9
        refine lv_bipush (v := 7) hx hb dX3_make_24 (by decide) ?_
        refine lv_istore (lv' := [(4, .int 7), (3, .int (nI pl)), (2, .int (op_I T Q)), (1, .int (nI Q.length)), (0, .ref md)]) hx hb dX3_make_26 hl (by decide) rfl (fun ls hl => ?_)
        refine lv_iconst (v := 0) hx hb dX3_make_28 (by decide) ?_
        refine lv_istore (lv' := [(5, .int 0), (4, .int 7), (3, .int (nI pl)), (2, .int (op_I T Q)), (1, .int (nI Q.length)), (0, .ref md)]) hx hb dX3_make_29 hl (by decide) rfl (fun ls hl => ?_)
        refine lv_iconst (v := 0) hx hb dX3_make_31 (by decide) ?_
        refine lv_istore (lv' := [(6, .int 0), (5, .int 0), (4, .int 7), (3, .int (nI pl)), (2, .int (op_I T Q)), (1, .int (nI Q.length)), (0, .ref md)]) hx hb dX3_make_32 hl (by decide) rfl (fun ls hl => ?_)
        refine inner ?_ (B.length / 8) 0 ls (by omega) (lv_sub hl [0, 1, 2, 3, 4, 5, 6] rfl)
        intro ls hl
        rcases lg_ok B T pl (B.length / 8) with ⟨k1, k2⟩ | ⟨b, k1, k2, k3, k4⟩
        · rw [k1] at hfp
          rw [k2, k1] at hl
          have hl : lv_has ls 8 [(5, .int 0), (4, .int (nI 7)), (3, .int (nI pl)), (2, .int (op_I T Q)), (1, .int (nI Q.length)), (0, .ref md)] := hl
          have hI2 := pw_plain hI hpl
          obtain ⟨y, hy⟩ : ∃ y, T[pl]? = some y := ⟨_, List.getElem?_eq_getElem hpl⟩
          refine lv_iload hx hb dX3_make_76 (lv_at hl 1 rfl) ?_
          refine lv_bipush (v := 7) hx hb dX3_make_78 (by decide) ?_
          refine lv_icmp_le (tgt := 113) hx hb dX3_make_80 (by decide) (fun c2 => ?_) (fun c2 => ?_)
          · rcases sp_last Q with rfl | ⟨Q1, t, rfl⟩
            · have e8 : ap_P [] pl = ([] : List (Nat × Nat × Nat)) ++ [(2, pl, 0 + 1)] := rfl
              refine lv_iload_n hx hb dX3_make_113 rfl (lv_at hl 3 rfl) ?_
              refine lv_if_ge (tgt := 135) hx hb dX3_make_114 (by decide) (fun c3 => ?_) (fun c3 => ?_)
              · exact absurd c3 (by rw [show op_I T ([] : List (Nat × Nat × Nat)) = -1 from rfl]; decide)
              · refine lv_aload_n hx hb dX3_make_117 rfl (lv_at hl 5 rfl) ?_
                refine va_get (D := (dC, dI)) (ci := 3) (v := .int (nI (rw_R T ([] : List (Nat × Nat × Nat))).length)) (C := RX3) (T := TX3) (N := 10) hx hb hts (by decide +kernel) hown hK hP 0 rfl rfl 6 (by decide) (hts (.fieldLink RX3 29 "PieceWaysModel" "size" "I") (by decide +kernel)) (fun _ h9 => h9) rfl dX3_make_118 ?_
                refine lv_istore_n (lv' := [(2, .int (nI (rw_R T ([] : List (Nat × Nat × Nat))).length)), (5, .int 0), (4, .int (nI 7)), (3, .int (nI pl)), (1, .int (nI ([] : List (Nat × Nat × Nat)).length)), (0, .ref md)]) hx hb dX3_make_121 rfl hl (by decide) rfl (fun ls hl => ?_)
                refine lv_aload_n hx hb dX3_make_122 rfl (lv_at hl 5 rfl) ?_
                refine lv_iconst (v := 2) hx hb dX3_make_123 (by decide) ?_
                refine wr_V (wc := [(md, .inr (3, [.int 0, .ref a1, .int (nI B.length), .ref a2, .int (nI T.length), .ref a3, .int (nI (rw_R T ([] : List (Nat × Nat × Nat))).length), .ref a4, .int (nI Z.length), .ref a5])), (a3, .inl (cI, 2000, .inl f))]) (wr := [(a1, .inl (cI, 600, .inl eb)), (a2, .inl (cI, 600, .inl et))]) (As := [.int 2]) (rest := []) ⟨hx, hb, hml, hown, hts⟩ (c_Md_write l dC dI cB cI cL md a1 a2 a3 a4 a5 B T (rw_R T ([] : List (Nat × Nat × Nat))) Z 0 f 2 (by omega) hf) (cwV 1 hts gX3_make_X3_write rfl rfl rfl (by decide +kernel) ⟨(Nat.le_of_ble_eq_true rfl), (Nat.le_of_ble_eq_true rfl)⟩) hK hN hP hD hS hA [0, 3] [1, 2] rfl rfl (by decide) (by decide) (by decide) 0 rfl rfl rfl rfl hl.1 rfl (Nat.le_of_ble_eq_true rfl) dX3_make_124 ⟨(Nat.le_of_ble_eq_true rfl), (Nat.le_of_ble_eq_true rfl)⟩ (fun g1 H locs hg1 hP hD hS => ?_)
                have hP : va_P (dC, dI) vwCl [(md, .inr (3, [.int 0, .ref a1, .int (nI B.length), .ref a2, .int (nI T.length), .ref a3, .int (nI (rw_R T ([] : List (Nat × Nat × Nat)) ++ [2]).length), .ref a4, .int (nI Z.length), .ref a5])), (a1, .inl (cI, 600, .inl eb)), (a2, .inl (cI, 600, .inl et)), (a3, .inl (cI, 2000, .inl g1))] H := hP.sub [2, 0, 1, 3] rfl
                have hD : va_D A [(md, .inr (3, [.int 0, .ref a1, .int (nI B.length), .ref a2, .int (nI T.length), .ref a3, .int (nI (rw_R T ([] : List (Nat × Nat × Nat)) ++ [2]).length), .ref a4, .int (nI Z.length), .ref a5])), (a1, .inl (cI, 600, .inl eb)), (a2, .inl (cI, 600, .inl et)), (a3, .inl (cI, 2000, .inl g1))] := hD.sub [2, 0, 1, 3] (by decide) rfl
                refine lv_aload_n hx hb dX3_make_127 rfl (lv_at hl 5 rfl) ?_
                refine lv_iconst (v := 0) hx hb dX3_make_128 (by decide) ?_
                refine wr_V (wc := [(md, .inr (3, [.int 0, .ref a1, .int (nI B.length), .ref a2, .int (nI T.length), .ref a3, .int (nI (rw_R T ([] : List (Nat × Nat × Nat)) ++ [2]).length), .ref a4, .int (nI Z.length), .ref a5])), (a3, .inl (cI, 2000, .inl g1))]) (wr := [(a1, .inl (cI, 600, .inl eb)), (a2, .inl (cI, 600, .inl et))]) (As := [.int (nI 0)]) (rest := []) ⟨hx, hb, hml, hown, hts⟩ (c_Md_writeTwo l dC dI cB cI cL md a1 a2 a3 a4 a5 B T (rw_R T ([] : List (Nat × Nat × Nat)) ++ [2]) Z 0 g1 0 (by omega) (by simp only [List.length_append, List.length_cons, List.length_nil]; omega) hg1) (cwV 1 hts gX3_make_X3_writeTwo rfl rfl rfl (by decide +kernel) ⟨(Nat.le_of_ble_eq_true rfl), (Nat.le_of_ble_eq_true rfl)⟩) hK hN hP hD hS hA [0, 3] [1, 2] rfl rfl (by decide) (by decide) (by decide) 0 rfl rfl rfl rfl hl.1 rfl (Nat.le_of_ble_eq_true rfl) dX3_make_129 ⟨(Nat.le_of_ble_eq_true rfl), (Nat.le_of_ble_eq_true rfl)⟩ (fun g2 H locs hg2 hP hD hS => ?_)
                have hP : va_P (dC, dI) vwCl [(md, .inr (3, [.int 0, .ref a1, .int (nI B.length), .ref a2, .int (nI T.length), .ref a3, .int (nI ((rw_R T ([] : List (Nat × Nat × Nat)) ++ [2]) ++ [nI (0 / 256), nI (0 % 256)]).length), .ref a4, .int (nI Z.length), .ref a5])), (a1, .inl (cI, 600, .inl eb)), (a2, .inl (cI, 600, .inl et)), (a3, .inl (cI, 2000, .inl g2))] H := hP.sub [2, 0, 1, 3] rfl
                have hD : va_D A [(md, .inr (3, [.int 0, .ref a1, .int (nI B.length), .ref a2, .int (nI T.length), .ref a3, .int (nI ((rw_R T ([] : List (Nat × Nat × Nat)) ++ [2]) ++ [nI (0 / 256), nI (0 % 256)]).length), .ref a4, .int (nI Z.length), .ref a5])), (a1, .inl (cI, 600, .inl eb)), (a2, .inl (cI, 600, .inl et)), (a3, .inl (cI, 2000, .inl g2))] := hD.sub [2, 0, 1, 3] (by decide) rfl
                rw [rw_open (b := pl) (by omega)] at hg2 hP hD
                refine lv_iinc (v := ((nI ([] : List (Nat × Nat × Nat)).length) + 1)) (lv' := [(1, .int ((nI ([] : List (Nat × Nat × Nat)).length) + 1)), (2, .int (nI (rw_R T ([] : List (Nat × Nat × Nat))).length)), (5, .int 0), (4, .int (nI 7)), (3, .int (nI pl)), (0, .ref md)]) hx hb dX3_make_132 hl (k := 4) rfl rfl (by decide) rfl (fun ls hl => ?_)
                have h9 : lv_has ls 8 [(2, .int (nI (rw_R T ([] : List (Nat × Nat × Nat))).length)), (1, .int (nI (([] : List (Nat × Nat × Nat))).length + 1)), (3, .int (nI pl)), (0, .ref md)] := lv_sub hl [1, 0, 4, 5] rfl
                rw [nI_1] at h9
                exact plain ([] : List (Nat × Nat × Nat)) pl 0 y g2 H locs ls (by omega) hpl hy (by omega) (by rw [e8] at hI2; exact hI2) (by rw [e8] at hfp; exact hfp) hg2 hP hD hS h9
            · by_cases ht : t.1 = 2
              · have e8 : ap_P (Q1 ++ [t]) pl = Q1 ++ [(t.1, t.2.1, t.2.2 + 1)] := ap_grow ht
                rw [e8] at hI2 hfp
                have hO : op_I T (Q1 ++ [t]) = nI (rw_R T Q1).length := by rw [op_app, if_pos ht]
                have hlast := hI.2.2.2.2.2
                rw [pl_app, if_pos ht] at hlast
                obtain ⟨k, b, j⟩ := t
                have ht : k = 2 := ht
                subst ht
                have hQ1 : (rw_R T Q1).length ≤ 603 := by rw [rw_app, List.length_append] at hOl; omega
                refine lv_iload_n hx hb dX3_make_113 rfl (lv_at hl 3 rfl) ?_
                refine lv_if_ge (tgt := 135) hx hb dX3_make_114 (by decide) (fun c3 => ?_) (fun c3 => ?_)
                · rw [hO, List.length_append, List.length_singleton] at hl
                  exact plain Q1 b j y f H locs ls hlast.2 hpl hy hQ1 hI2 hfp hf hP hD hS (lv_sub hl [3, 4, 2, 5] rfl)
                · exact absurd (by rw [hO]; exact nI_pos' (by omega)) c3
              · have e8 : ap_P (Q1 ++ [t]) pl = (Q1 ++ [t]) ++ [(2, pl, 0 + 1)] := ap_new (by intro z hz; rw [List.getLast?_concat] at hz; cases hz; exact ht)
                refine lv_iload_n hx hb dX3_make_113 rfl (lv_at hl 3 rfl) ?_
                refine lv_if_ge (tgt := 135) hx hb dX3_make_114 (by decide) (fun c3 => ?_) (fun c3 => ?_)
                · exact absurd c3 (by rw [show op_I T (Q1 ++ [t]) = -1 by rw [op_app, if_neg ht]]; decide)
                · refine lv_aload_n hx hb dX3_make_117 rfl (lv_at hl 5 rfl) ?_
                  refine va_get (D := (dC, dI)) (ci := 3) (v := .int (nI (rw_R T (Q1 ++ [t])).length)) (C := RX3) (T := TX3) (N := 10) hx hb hts (by decide +kernel) hown hK hP 0 rfl rfl 6 (by decide) (hts (.fieldLink RX3 29 "PieceWaysModel" "size" "I") (by decide +kernel)) (fun _ h9 => h9) rfl dX3_make_118 ?_
                  refine lv_istore_n (lv' := [(2, .int (nI (rw_R T (Q1 ++ [t])).length)), (5, .int 0), (4, .int (nI 7)), (3, .int (nI pl)), (1, .int (nI (Q1 ++ [t]).length)), (0, .ref md)]) hx hb dX3_make_121 rfl hl (by decide) rfl (fun ls hl => ?_)
                  refine lv_aload_n hx hb dX3_make_122 rfl (lv_at hl 5 rfl) ?_
                  refine lv_iconst (v := 2) hx hb dX3_make_123 (by decide) ?_
                  refine wr_V (wc := [(md, .inr (3, [.int 0, .ref a1, .int (nI B.length), .ref a2, .int (nI T.length), .ref a3, .int (nI (rw_R T (Q1 ++ [t])).length), .ref a4, .int (nI Z.length), .ref a5])), (a3, .inl (cI, 2000, .inl f))]) (wr := [(a1, .inl (cI, 600, .inl eb)), (a2, .inl (cI, 600, .inl et))]) (As := [.int 2]) (rest := []) ⟨hx, hb, hml, hown, hts⟩ (c_Md_write l dC dI cB cI cL md a1 a2 a3 a4 a5 B T (rw_R T (Q1 ++ [t])) Z 0 f 2 (by omega) hf) (cwV 1 hts gX3_make_X3_write rfl rfl rfl (by decide +kernel) ⟨(Nat.le_of_ble_eq_true rfl), (Nat.le_of_ble_eq_true rfl)⟩) hK hN hP hD hS hA [0, 3] [1, 2] rfl rfl (by decide) (by decide) (by decide) 0 rfl rfl rfl rfl hl.1 rfl (Nat.le_of_ble_eq_true rfl) dX3_make_124 ⟨(Nat.le_of_ble_eq_true rfl), (Nat.le_of_ble_eq_true rfl)⟩ (fun g1 H locs hg1 hP hD hS => ?_)
                  have hP : va_P (dC, dI) vwCl [(md, .inr (3, [.int 0, .ref a1, .int (nI B.length), .ref a2, .int (nI T.length), .ref a3, .int (nI (rw_R T (Q1 ++ [t]) ++ [2]).length), .ref a4, .int (nI Z.length), .ref a5])), (a1, .inl (cI, 600, .inl eb)), (a2, .inl (cI, 600, .inl et)), (a3, .inl (cI, 2000, .inl g1))] H := hP.sub [2, 0, 1, 3] rfl
                  have hD : va_D A [(md, .inr (3, [.int 0, .ref a1, .int (nI B.length), .ref a2, .int (nI T.length), .ref a3, .int (nI (rw_R T (Q1 ++ [t]) ++ [2]).length), .ref a4, .int (nI Z.length), .ref a5])), (a1, .inl (cI, 600, .inl eb)), (a2, .inl (cI, 600, .inl et)), (a3, .inl (cI, 2000, .inl g1))] := hD.sub [2, 0, 1, 3] (by decide) rfl
                  refine lv_aload_n hx hb dX3_make_127 rfl (lv_at hl 5 rfl) ?_
                  refine lv_iconst (v := 0) hx hb dX3_make_128 (by decide) ?_
                  refine wr_V (wc := [(md, .inr (3, [.int 0, .ref a1, .int (nI B.length), .ref a2, .int (nI T.length), .ref a3, .int (nI (rw_R T (Q1 ++ [t]) ++ [2]).length), .ref a4, .int (nI Z.length), .ref a5])), (a3, .inl (cI, 2000, .inl g1))]) (wr := [(a1, .inl (cI, 600, .inl eb)), (a2, .inl (cI, 600, .inl et))]) (As := [.int (nI 0)]) (rest := []) ⟨hx, hb, hml, hown, hts⟩ (c_Md_writeTwo l dC dI cB cI cL md a1 a2 a3 a4 a5 B T (rw_R T (Q1 ++ [t]) ++ [2]) Z 0 g1 0 (by omega) (by simp only [List.length_append, List.length_cons, List.length_nil]; omega) hg1) (cwV 1 hts gX3_make_X3_writeTwo rfl rfl rfl (by decide +kernel) ⟨(Nat.le_of_ble_eq_true rfl), (Nat.le_of_ble_eq_true rfl)⟩) hK hN hP hD hS hA [0, 3] [1, 2] rfl rfl (by decide) (by decide) (by decide) 0 rfl rfl rfl rfl hl.1 rfl (Nat.le_of_ble_eq_true rfl) dX3_make_129 ⟨(Nat.le_of_ble_eq_true rfl), (Nat.le_of_ble_eq_true rfl)⟩ (fun g2 H locs hg2 hP hD hS => ?_)
                  have hP : va_P (dC, dI) vwCl [(md, .inr (3, [.int 0, .ref a1, .int (nI B.length), .ref a2, .int (nI T.length), .ref a3, .int (nI ((rw_R T (Q1 ++ [t]) ++ [2]) ++ [nI (0 / 256), nI (0 % 256)]).length), .ref a4, .int (nI Z.length), .ref a5])), (a1, .inl (cI, 600, .inl eb)), (a2, .inl (cI, 600, .inl et)), (a3, .inl (cI, 2000, .inl g2))] H := hP.sub [2, 0, 1, 3] rfl
                  have hD : va_D A [(md, .inr (3, [.int 0, .ref a1, .int (nI B.length), .ref a2, .int (nI T.length), .ref a3, .int (nI ((rw_R T (Q1 ++ [t]) ++ [2]) ++ [nI (0 / 256), nI (0 % 256)]).length), .ref a4, .int (nI Z.length), .ref a5])), (a1, .inl (cI, 600, .inl eb)), (a2, .inl (cI, 600, .inl et)), (a3, .inl (cI, 2000, .inl g2))] := hD.sub [2, 0, 1, 3] (by decide) rfl
                  rw [rw_open (b := pl) (by omega)] at hg2 hP hD
                  refine lv_iinc (v := ((nI (Q1 ++ [t]).length) + 1)) (lv' := [(1, .int ((nI (Q1 ++ [t]).length) + 1)), (2, .int (nI (rw_R T (Q1 ++ [t])).length)), (5, .int 0), (4, .int (nI 7)), (3, .int (nI pl)), (0, .ref md)]) hx hb dX3_make_132 hl (k := 4) rfl rfl (by decide) rfl (fun ls hl => ?_)
                  have h9 : lv_has ls 8 [(2, .int (nI (rw_R T (Q1 ++ [t])).length)), (1, .int (nI ((Q1 ++ [t])).length + 1)), (3, .int (nI pl)), (0, .ref md)] := lv_sub hl [1, 0, 4, 5] rfl
                  rw [nI_1] at h9
                  exact plain (Q1 ++ [t]) pl 0 y g2 H locs ls (by omega) hpl hy (by omega) (by rw [e8] at hI2; exact hI2) (by rw [e8] at hfp; exact hfp) hg2 hP hD hS h9
          · exact absurd (by decide) c2
        · rw [k1] at hfp
          rw [k2, k1] at hl
          have hl : lv_has ls 8 [(5, .int (nI b)), (4, .int (nI (lc_p (B.drop b) (T.drop pl)))), (3, .int (nI pl)), (2, .int (op_I T Q)), (1, .int (nI Q.length)), (0, .ref md)] := hl
          have hlc := lc_le (B.drop b) (T.drop pl)
          rw [List.length_drop, List.length_drop] at hlc
          have hI2 := pw_copy (b := b) hI k3 (by omega) (by omega)
          refine lv_iload hx hb dX3_make_76 (lv_at hl 1 rfl) ?_
          refine lv_bipush (v := 7) hx hb dX3_make_78 (by decide) ?_
          refine lv_icmp_le (tgt := 113) hx hb dX3_make_80 (by decide) (fun c2 => ?_) (fun c2 => ?_)
          · exact absurd c2 (nI_ge (a := 7) (by omega) (by omega))
          · refine lv_aload_n hx hb dX3_make_83 rfl (lv_at hl 5 rfl) ?_
            refine lv_iconst (v := 1) hx hb dX3_make_84 (by decide) ?_
            refine wr_V (wc := [(md, .inr (3, [.int 0, .ref a1, .int (nI B.length), .ref a2, .int (nI T.length), .ref a3, .int (nI (rw_R T Q).length), .ref a4, .int (nI Z.length), .ref a5])), (a3, .inl (cI, 2000, .inl f))]) (wr := [(a1, .inl (cI, 600, .inl eb)), (a2, .inl (cI, 600, .inl et))]) (As := [.int 1]) (rest := []) ⟨hx, hb, hml, hown, hts⟩ (c_Md_write l dC dI cB cI cL md a1 a2 a3 a4 a5 B T (rw_R T Q) Z 0 f 1 (by omega) hf) (cwV 1 hts gX3_make_X3_write rfl rfl rfl (by decide +kernel) ⟨(Nat.le_of_ble_eq_true rfl), (Nat.le_of_ble_eq_true rfl)⟩) hK hN hP hD hS hA [0, 3] [1, 2] rfl rfl (by decide) (by decide) (by decide) 0 rfl rfl rfl rfl hl.1 rfl (Nat.le_of_ble_eq_true rfl) dX3_make_85 ⟨(Nat.le_of_ble_eq_true rfl), (Nat.le_of_ble_eq_true rfl)⟩ (fun g1 H locs hg1 hP hD hS => ?_)
            have hP : va_P (dC, dI) vwCl [(md, .inr (3, [.int 0, .ref a1, .int (nI B.length), .ref a2, .int (nI T.length), .ref a3, .int (nI (rw_R T Q ++ [1]).length), .ref a4, .int (nI Z.length), .ref a5])), (a1, .inl (cI, 600, .inl eb)), (a2, .inl (cI, 600, .inl et)), (a3, .inl (cI, 2000, .inl g1))] H := hP.sub [2, 0, 1, 3] rfl
            have hD : va_D A [(md, .inr (3, [.int 0, .ref a1, .int (nI B.length), .ref a2, .int (nI T.length), .ref a3, .int (nI (rw_R T Q ++ [1]).length), .ref a4, .int (nI Z.length), .ref a5])), (a1, .inl (cI, 600, .inl eb)), (a2, .inl (cI, 600, .inl et)), (a3, .inl (cI, 2000, .inl g1))] := hD.sub [2, 0, 1, 3] (by decide) rfl
            refine lv_aload_n hx hb dX3_make_88 rfl (lv_at hl 5 rfl) ?_
            refine lv_iload hx hb dX3_make_89 (lv_at hl 0 rfl) ?_
            refine wr_V (wc := [(md, .inr (3, [.int 0, .ref a1, .int (nI B.length), .ref a2, .int (nI T.length), .ref a3, .int (nI (rw_R T Q ++ [1]).length), .ref a4, .int (nI Z.length), .ref a5])), (a3, .inl (cI, 2000, .inl g1))]) (wr := [(a1, .inl (cI, 600, .inl eb)), (a2, .inl (cI, 600, .inl et))]) (As := [.int (nI b)]) (rest := []) ⟨hx, hb, hml, hown, hts⟩ (c_Md_writeTwo l dC dI cB cI cL md a1 a2 a3 a4 a5 B T (rw_R T Q ++ [1]) Z 0 g1 b (by omega) (by simp only [List.length_append, List.length_cons, List.length_nil]; omega) hg1) (cwV 1 hts gX3_make_X3_writeTwo rfl rfl rfl (by decide +kernel) ⟨(Nat.le_of_ble_eq_true rfl), (Nat.le_of_ble_eq_true rfl)⟩) hK hN hP hD hS hA [0, 3] [1, 2] rfl rfl (by decide) (by decide) (by decide) 0 rfl rfl rfl rfl hl.1 rfl (Nat.le_of_ble_eq_true rfl) dX3_make_91 ⟨(Nat.le_of_ble_eq_true rfl), (Nat.le_of_ble_eq_true rfl)⟩ (fun g2 H locs hg2 hP hD hS => ?_)
            have hP : va_P (dC, dI) vwCl [(md, .inr (3, [.int 0, .ref a1, .int (nI B.length), .ref a2, .int (nI T.length), .ref a3, .int (nI ((rw_R T Q ++ [1]) ++ [nI (b / 256), nI (b % 256)]).length), .ref a4, .int (nI Z.length), .ref a5])), (a1, .inl (cI, 600, .inl eb)), (a2, .inl (cI, 600, .inl et)), (a3, .inl (cI, 2000, .inl g2))] H := hP.sub [2, 0, 1, 3] rfl
            have hD : va_D A [(md, .inr (3, [.int 0, .ref a1, .int (nI B.length), .ref a2, .int (nI T.length), .ref a3, .int (nI ((rw_R T Q ++ [1]) ++ [nI (b / 256), nI (b % 256)]).length), .ref a4, .int (nI Z.length), .ref a5])), (a1, .inl (cI, 600, .inl eb)), (a2, .inl (cI, 600, .inl et)), (a3, .inl (cI, 2000, .inl g2))] := hD.sub [2, 0, 1, 3] (by decide) rfl
            refine lv_aload_n hx hb dX3_make_94 rfl (lv_at hl 5 rfl) ?_
            refine lv_iload hx hb dX3_make_95 (lv_at hl 1 rfl) ?_
            refine wr_V (wc := [(md, .inr (3, [.int 0, .ref a1, .int (nI B.length), .ref a2, .int (nI T.length), .ref a3, .int (nI ((rw_R T Q ++ [1]) ++ [nI (b / 256), nI (b % 256)]).length), .ref a4, .int (nI Z.length), .ref a5])), (a3, .inl (cI, 2000, .inl g2))]) (wr := [(a1, .inl (cI, 600, .inl eb)), (a2, .inl (cI, 600, .inl et))]) (As := [.int (nI (lc_p (B.drop b) (T.drop pl)))]) (rest := []) ⟨hx, hb, hml, hown, hts⟩ (c_Md_writeTwo l dC dI cB cI cL md a1 a2 a3 a4 a5 B T ((rw_R T Q ++ [1]) ++ [nI (b / 256), nI (b % 256)]) Z 0 g2 (lc_p (B.drop b) (T.drop pl)) (by omega) (by simp only [List.length_append, List.length_cons, List.length_nil]; omega) hg2) (cwV 1 hts gX3_make_X3_writeTwo rfl rfl rfl (by decide +kernel) ⟨(Nat.le_of_ble_eq_true rfl), (Nat.le_of_ble_eq_true rfl)⟩) hK hN hP hD hS hA [0, 3] [1, 2] rfl rfl (by decide) (by decide) (by decide) 0 rfl rfl rfl rfl hl.1 rfl (Nat.le_of_ble_eq_true rfl) dX3_make_97 ⟨(Nat.le_of_ble_eq_true rfl), (Nat.le_of_ble_eq_true rfl)⟩ (fun g3 H locs hg3 hP hD hS => ?_)
            have hP : va_P (dC, dI) vwCl [(md, .inr (3, [.int 0, .ref a1, .int (nI B.length), .ref a2, .int (nI T.length), .ref a3, .int (nI (((rw_R T Q ++ [1]) ++ [nI (b / 256), nI (b % 256)]) ++ [nI ((lc_p (B.drop b) (T.drop pl)) / 256), nI ((lc_p (B.drop b) (T.drop pl)) % 256)]).length), .ref a4, .int (nI Z.length), .ref a5])), (a1, .inl (cI, 600, .inl eb)), (a2, .inl (cI, 600, .inl et)), (a3, .inl (cI, 2000, .inl g3))] H := hP.sub [2, 0, 1, 3] rfl
            have hD : va_D A [(md, .inr (3, [.int 0, .ref a1, .int (nI B.length), .ref a2, .int (nI T.length), .ref a3, .int (nI (((rw_R T Q ++ [1]) ++ [nI (b / 256), nI (b % 256)]) ++ [nI ((lc_p (B.drop b) (T.drop pl)) / 256), nI ((lc_p (B.drop b) (T.drop pl)) % 256)]).length), .ref a4, .int (nI Z.length), .ref a5])), (a1, .inl (cI, 600, .inl eb)), (a2, .inl (cI, 600, .inl et)), (a3, .inl (cI, 2000, .inl g3))] := hD.sub [2, 0, 1, 3] (by decide) rfl
            rw [rw_copy (b := b) (n := (lc_p (B.drop b) (T.drop pl))) (by omega)] at hg3 hP hD
            refine lv_iinc (v := ((nI Q.length) + 1)) (lv' := [(1, .int ((nI Q.length) + 1)), (5, .int (nI b)), (4, .int (nI (lc_p (B.drop b) (T.drop pl)))), (3, .int (nI pl)), (2, .int (op_I T Q)), (0, .ref md)]) hx hb dX3_make_100 hl (k := 4) rfl rfl (by decide) rfl (fun ls hl => ?_)
            refine lv_iconst (v := (-1)) hx hb dX3_make_103 (by decide) ?_
            refine lv_istore_n (lv' := [(2, .int (-1)), (1, .int ((nI Q.length) + 1)), (5, .int (nI b)), (4, .int (nI (lc_p (B.drop b) (T.drop pl)))), (3, .int (nI pl)), (0, .ref md)]) hx hb dX3_make_104 rfl hl (by decide) rfl (fun ls hl => ?_)
            refine lv_iload_n hx hb dX3_make_105 rfl (lv_at hl 4 rfl) ?_
            refine lv_iload hx hb dX3_make_106 (lv_at hl 3 rfl) ?_
            refine lv_iadd hx hb dX3_make_108 ?_
            refine lv_istore_n (lv' := [(3, .int ((nI pl) + (nI (lc_p (B.drop b) (T.drop pl))))), (2, .int (-1)), (1, .int ((nI Q.length) + 1)), (5, .int (nI b)), (4, .int (nI (lc_p (B.drop b) (T.drop pl)))), (0, .ref md)]) hx hb dX3_make_109 rfl hl (by decide) rfl (fun ls hl => ?_)
            refine lv_goto (tgt := 187) hx hb dX3_make_110 (by decide) ?_
            refine lv_goto (tgt := 16) hx hb dX3_make_187 (by decide) ?_
            refine ih (pl + (lc_p (B.drop b) (T.drop pl))) (Q ++ [(1, b, (lc_p (B.drop b) (T.drop pl)))]) g3 H locs ls (by omega) hI2 hfp hg3 hP hD hS ?_
            rw [op_app, if_neg (by simp), List.length_append, List.length_singleton, ← nI_1 Q.length, ← nI_add pl]
            exact lv_sub hl [0, 1, 2, 5] rfl
  refine lv_aload_n hx hb dX3_make_0 rfl (lv_at hl 0 rfl) ?_
  refine lv_iconst (v := 0) hx hb dX3_make_1 (by decide) ?_
  refine va_put (D := (dC, dI)) (ci := 3) (v := .int 0) (ty := .int) (C := RX3) (T := TX3) (N := 10) hx hb hts (by decide +kernel) tyX3 tyX3_ok nmX3 hown hK hP hD hS 0 rfl rfl 0 (by decide) (hts (.fieldLink RX3 7 "PieceWaysModel" "thrownCode" "I") (by decide +kernel)) (fun _ h9 => h9) rfl (by decide +kernel) rfl rfl (Nat.le_of_ble_eq_true rfl) dX3_make_2 (fun H locs hP hD hS => ?_)
  have hP : va_P (dC, dI) vwCl [(md, .inr (3, [.int 0, .ref a1, .int (nI B.length), .ref a2, .int (nI T.length), .ref a3, .int (nI O.length), .ref a4, .int (nI Z.length), .ref a5])), (a1, .inl (cI, 600, .inl eb)), (a2, .inl (cI, 600, .inl et)), (a3, .inl (cI, 2000, .inl eo))] H := hP
  have hD : va_D A [(md, .inr (3, [.int 0, .ref a1, .int (nI B.length), .ref a2, .int (nI T.length), .ref a3, .int (nI O.length), .ref a4, .int (nI Z.length), .ref a5])), (a1, .inl (cI, 600, .inl eb)), (a2, .inl (cI, 600, .inl et)), (a3, .inl (cI, 2000, .inl eo))] := hD
  refine lv_aload_n hx hb dX3_make_5 rfl (lv_at hl 0 rfl) ?_
  refine lv_iconst (v := 0) hx hb dX3_make_6 (by decide) ?_
  refine va_put (D := (dC, dI)) (ci := 3) (v := .int (nI (rw_R T ([] : List (Nat × Nat × Nat))).length)) (ty := .int) (C := RX3) (T := TX3) (N := 10) hx hb hts (by decide +kernel) tyX3 tyX3_ok nmX3 hown hK hP hD hS 0 rfl rfl 6 (by decide) (hts (.fieldLink RX3 29 "PieceWaysModel" "size" "I") (by decide +kernel)) (fun _ h9 => h9) rfl (by decide +kernel) rfl rfl (Nat.le_of_ble_eq_true rfl) dX3_make_7 (fun H locs hP hD hS => ?_)
  have hP : va_P (dC, dI) vwCl [(md, .inr (3, [.int 0, .ref a1, .int (nI B.length), .ref a2, .int (nI T.length), .ref a3, .int (nI (rw_R T ([] : List (Nat × Nat × Nat))).length), .ref a4, .int (nI Z.length), .ref a5])), (a1, .inl (cI, 600, .inl eb)), (a2, .inl (cI, 600, .inl et)), (a3, .inl (cI, 2000, .inl eo))] H := hP
  have hD : va_D A [(md, .inr (3, [.int 0, .ref a1, .int (nI B.length), .ref a2, .int (nI T.length), .ref a3, .int (nI (rw_R T ([] : List (Nat × Nat × Nat))).length), .ref a4, .int (nI Z.length), .ref a5])), (a1, .inl (cI, 600, .inl eb)), (a2, .inl (cI, 600, .inl et)), (a3, .inl (cI, 2000, .inl eo))] := hD
  refine lv_iconst (v := 0) hx hb dX3_make_10 (by decide) ?_
  refine lv_istore_n (lv' := [(1, .int 0), (0, .ref md)]) hx hb dX3_make_11 rfl hl (by decide) rfl (fun ls hl => ?_)
  refine lv_iconst (v := (-1)) hx hb dX3_make_12 (by decide) ?_
  refine lv_istore_n (lv' := [(2, .int (-1)), (1, .int 0), (0, .ref md)]) hx hb dX3_make_13 rfl hl (by decide) rfl (fun ls hl => ?_)
  refine lv_iconst (v := 0) hx hb dX3_make_14 (by decide) ?_
  refine lv_istore_n (lv' := [(3, .int 0), (2, .int (-1)), (1, .int 0), (0, .ref md)]) hx hb dX3_make_15 rfl hl (by decide) rfl (fun ls hl => ?_)
  exact loop T.length 0 [] eo H locs ls (by omega) (pw_0 _ _) rfl (im_nil _) hP hD hS (lv_sub hl [0, 1, 2, 3] rfl)
end PWMMAKE
