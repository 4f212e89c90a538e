/-! Pure words for the reference: what its arrays hold; the row, read back. -/
def im_k (f : Nat → Int32) (L : List Int32) : Prop := ∀ (j : Nat) (x : Int32), L[j]? = some x → f j = x
theorem im_nil (f : Nat → Int32) : im_k f [] := fun j x h => by simp at h
theorem im_add {f : Nat → Int32} {L : List Int32} (h : im_k f L) (v : Int32) : im_k (upd f L.length v) (L ++ [v]) := by
  intro j x hj
  rcases Nat.lt_or_ge j L.length with hl | hl
  · rw [List.getElem?_append_left hl] at hj
    rw [pk_un (by omega)]
    exact h j x hj
  · have h1 := (List.getElem?_eq_some_iff.mp hj).1
    simp only [List.length_append, List.length_cons, List.length_nil] at h1
    have h2 : j = L.length := by omega
    subst h2
    rw [List.getElem?_append_right (Nat.le_refl _), Nat.sub_self] at hj
    simp only [List.getElem?_cons_zero, Option.some.injEq] at hj
    rw [pk_us]
    exact hj
theorem im_set {f : Nat → Int32} {L : List Int32} (h : im_k f L) (k : Nat) (v : Int32) : im_k (upd f k v) (L.set k v) := by
  intro j x hj
  by_cases hk : k = j
  · subst hk
    rw [List.getElem?_set_self' ] at hj
    rw [pk_us]
    cases hL : L[k]? with
    | none => rw [hL] at hj; simp at hj
    | some y => rw [hL] at hj; simpa using hj
  · rw [List.getElem?_set_ne hk] at hj
    rw [pk_un (fun q => hk q.symm)]
    exact h j x hj
theorem hb_eq {n : Nat} (h : n < 65536) : hb_I n = [nI (n / 256), nI (n % 256)] := by
  have e1 : nI n >>> ((8 : Int32) &&& 31) = nI (n / 2 ^ 8) := pk_shrN (by omega) _ 8 (by decide)
  have e2 : ∀ k : Nat, k < 2 ^ 32 → nI k &&& 255 = nI (k % 2 ^ 8) := fun k hk => pk_andN hk 8 (by decide)
  unfold hb_I
  rw [e1, e2 _ (by omega), e2 _ (by omega), Nat.mod_eq_of_lt (a := n / 2 ^ 8) (by omega)]
theorem k8_I {n : Nat} (h : n < 256) : nI n &&& 255 = nI n := by
  have e2 : nI n &&& 255 = nI (n % 2 ^ 8) := pk_andN (by omega) 8 (by decide)
  rw [e2, Nat.mod_eq_of_lt (by omega)]
/-- a piece as it stands in a row -/
def pa_O (O : List Int32) (a : Nat) (t : Nat × Nat × Nat) : Prop := O[a]? = some (nI t.1) ∧ (t.1 = 1 → (O[a + 1]? = some (nI (t.2.1 / 256)) ∧ O[a + 2]? = some (nI (t.2.1 % 256))) ∧ (O[a + 3]? = some (nI (t.2.2 / 256)) ∧ O[a + 4]? = some (nI (t.2.2 % 256)))) ∧ (¬ t.1 = 1 → O[a + 1]? = some (nI (t.2.2 / 256)) ∧ O[a + 2]? = some (nI (t.2.2 % 256)))
theorem rw_1C {T : List Int32} {t : Nat × Nat × Nat} (h1 : t.1 = 1) (h2 : t.2.1 + t.2.2 ≤ 600) : rw_1 T t = [nI t.1, nI (t.2.1 / 256), nI (t.2.1 % 256), nI (t.2.2 / 256), nI (t.2.2 % 256)] := by
  unfold rw_1
  rw [if_pos h1, hb_eq (by omega), hb_eq (by omega), k8_I (by omega)]
  rfl
theorem rw_1P {T : List Int32} {t : Nat × Nat × Nat} (h1 : t.1 = 2) (h2 : t.2.1 + t.2.2 ≤ 600) : rw_1 T t = nI t.1 :: nI (t.2.2 / 256) :: nI (t.2.2 % 256) :: (T.drop t.2.1).take t.2.2 := by
  unfold rw_1
  rw [if_neg (by omega), hb_eq (by omega), k8_I (by omega)]
  rfl
theorem rw_split {T : List Int32} {P : List (Nat × Nat × Nat)} {j : Nat} {t : Nat × Nat × Nat} (h : P[j]? = some t) : rw_R T P = rw_R T (P.take j) ++ (rw_1 T t ++ rw_R T (P.drop (j + 1))) := by
  obtain ⟨h1, e1⟩ := List.getElem?_eq_some_iff.mp h
  have e2 : P = P.take j ++ t :: P.drop (j + 1) := by rw [← e1, ← List.drop_eq_getElem_cons h1, List.take_append_drop]
  have e3 : rw_R T P = rw_R T (P.take j ++ t :: P.drop (j + 1)) := by rw [← e2]
  rw [e3]
  simp [rw_R, List.flatMap_append]
theorem pa_of {T : List Int32} {P : List (Nat × Nat × Nat)} {j : Nat} {t : Nat × Nat × Nat} (h : P[j]? = some t) (h1 : t.1 = 1 ∨ t.1 = 2) (h2 : t.2.1 + t.2.2 ≤ 600) : pa_O (rw_R T P) (rw_R T (P.take j)).length t := by
  have e : ∀ i : Nat, (rw_R T P)[(rw_R T (P.take j)).length + i]? = (rw_1 T t ++ rw_R T (P.drop (j + 1)))[i]? := fun i => by
    rw [rw_split h, List.getElem?_append_right (by omega), Nat.add_sub_cancel_left]
  have e0 := e 0
  rw [Nat.add_zero] at e0
  rcases h1 with h1 | h1
  · have er := rw_1C (T := T) h1 h2
    refine ⟨?_, fun _ => ⟨⟨?_, ?_⟩, ⟨?_, ?_⟩⟩, fun q => absurd h1 q⟩
    · rw [e0, er]; rfl
    · rw [e, er]; rfl
    · rw [e, er]; rfl
    · rw [e, er]; rfl
    · rw [e, er]; rfl
  · have er := rw_1P (T := T) h1 h2
    refine ⟨?_, fun q => absurd q (by omega), fun _ => ⟨?_, ?_⟩⟩
    · rw [e0, er]; rfl
    · rw [e, er]; rfl
    · rw [e, er]; rfl
theorem pa_byte {T : List Int32} {P : List (Nat × Nat × Nat)} {j k : Nat} {t : Nat × Nat × Nat} (h : P[j]? = some t) (h1 : t.1 = 2) (h2 : t.2.1 + t.2.2 ≤ 600) (hk : k < t.2.2) (hT : t.2.1 + t.2.2 ≤ T.length) : (rw_R T P)[(rw_R T (P.take j)).length + (3 + k)]? = T[t.2.1 + k]? := by
  rw [rw_split h, List.getElem?_append_right (by omega), Nat.add_sub_cancel_left, rw_1P h1 h2, List.getElem?_append_left (by simp only [List.length_cons, List.length_take, List.length_drop]; omega)]
  rw [show 3 + k = k + 1 + 1 + 1 by omega, List.getElem?_cons_succ, List.getElem?_cons_succ, List.getElem?_cons_succ, List.getElem?_take_of_lt hk, List.getElem?_drop]
/-- where a plain piece begins in the target: behind all before it -/
def bg_P (P : List (Nat × Nat × Nat)) : Prop := ∀ (j : Nat) (t : Nat × Nat × Nat), P[j]? = some t → ¬ t.1 = 1 → t.2.1 = sm_P (P.take j)
theorem bg_nil : bg_P [] := fun j t h => by simp at h
theorem bg_app {P : List (Nat × Nat × Nat)} {t : Nat × Nat × Nat} (h : bg_P P) (ht : ¬ t.1 = 1 → t.2.1 = sm_P P) : bg_P (P ++ [t]) := by
  intro j z hj hz
  rcases Nat.lt_or_ge j P.length with hl | hl
  · rw [List.getElem?_append_left hl] at hj
    rw [List.take_append_of_le_length (by omega)]
    exact h j z hj hz
  · have h1 := (List.getElem?_eq_some_iff.mp hj).1
    simp only [List.length_append, List.length_cons, List.length_nil] at h1
    have h2 : j = P.length := by omega
    subst h2
    rw [List.getElem?_append_right (Nat.le_refl _), Nat.sub_self] at hj
    simp only [List.getElem?_cons_zero, Option.some.injEq] at hj
    subst hj
    rw [List.take_append_of_le_length (Nat.le_refl _), List.take_length]
    exact ht hz
theorem bg_of {P : List (Nat × Nat × Nat)} {t : Nat × Nat × Nat} (h : bg_P (P ++ [t])) : bg_P P ∧ (¬ t.1 = 1 → t.2.1 = sm_P P) := by
  refine ⟨fun j z hj hz => ?_, fun hz => ?_⟩
  · have hl := (List.getElem?_eq_some_iff.mp hj).1
    have h1 := h j z (by rw [List.getElem?_append_left hl]; exact hj) hz
    rw [List.take_append_of_le_length (by omega)] at h1
    exact h1
  · have h1 := h P.length t (by rw [List.getElem?_append_right (Nat.le_refl _), Nat.sub_self]; rfl) hz
    rw [List.take_append_of_le_length (Nat.le_refl _), List.take_length] at h1
    exact h1
theorem bg_plain {P : List (Nat × Nat × Nat)} {pl : Nat} (h : bg_P P) (hs : sm_P P = pl) : bg_P (ap_P P pl) := by
  rcases sp_last P with rfl | ⟨Q, t, rfl⟩
  · exact bg_app (P := []) bg_nil (fun _ => hs.symm)
  · by_cases ht : t.1 = 2
    · rw [ap_grow ht]
      exact bg_app (bg_of h).1 (fun q => (bg_of h).2 q)
    · rw [ap_new (by intro z hz; rw [List.getLast?_concat] at hz; cases hz; exact ht)]
      exact bg_app h (fun _ => hs.symm)
theorem fp_B {B T : List Int32} : ∀ (n pl : Nat) (P : List (Nat × Nat × Nat)), pw_I B.length T.length P pl → bg_P P → bg_P (fp_P B T n pl P) := by
  intro n
  induction n with
  | zero => intro pl P _ h; exact h
  | succ n ih =>
    intro pl P hI h
    unfold fp_P
    by_cases hp : pl < T.length
    · rw [if_pos hp]
      rcases lg_ok B T pl (B.length / 8) with ⟨h1, -⟩ | ⟨b, h1, h2, h3, h4⟩
      · rw [h1]
        exact ih _ _ (pw_plain hI hp) (bg_plain h hI.2.2.2.1)
      · rw [h1]
        have h5 := lc_le (B.drop b) (T.drop pl)
        rw [List.length_drop, List.length_drop] at h5
        exact ih _ _ (pw_copy hI h3 (by omega) (by omega)) (bg_app h (fun q => absurd rfl q))
    · rw [if_neg hp]
      exact h
theorem wy_B (B T : List Int32) : bg_P (wy_P B T) := fp_B _ _ _ (pw_0 _ _) bg_nil
theorem bt_I (v : Int64) : ∀ k : Nat, k < 8 → (v >>> ((8 * nI k).toInt64 &&& 63)).toInt32 &&& 255 = pb_b v k &&& 255 := by
  intro k hk
  have hs : 8 * nI k = nI (8 * k) := pk_mul 8 k
  have e1 : ((nI (8 * k)).toInt64 &&& 63).toBitVec.smod 64 = BitVec.ofNat 64 (8 * k) := (by decide +kernel : ∀ k, k < 8 → ((nI (8 * k)).toInt64 &&& 63).toBitVec.smod 64 = BitVec.ofNat 64 (8 * k)) k hk
  have e2 : ((nI (8 * k)).toInt64.toUInt64 &&& Int64.toUInt64 63).toBitVec % 64 = BitVec.ofNat 64 (8 * k) := (by decide +kernel : ∀ k, k < 8 → ((nI (8 * k)).toInt64.toUInt64 &&& Int64.toUInt64 63).toBitVec % 64 = BitVec.ofNat 64 (8 * k)) k hk
  have e3 : (BitVec.ofNat 64 (8 * k)).toNat = 8 * k := by rw [BitVec.toNat_ofNat]; omega
  unfold pb_b
  rw [hs]
  apply Int32.toBitVec_inj.mp
  rw [Int32.toBitVec_and, Int32.toBitVec_and, Int64.toBitVec_toInt32, Int64.toBitVec_toInt32, Int64.toBitVec_shiftRight, UInt64.toBitVec_toInt64, UInt64.toBitVec_shiftRight, e1, e2]
  apply BitVec.eq_of_getLsbD_eq
  intro i hi
  rw [BitVec.getLsbD_and, BitVec.getLsbD_and]
  have hm : ∀ i < 32, 8 ≤ i → (255 : Int32).toBitVec.getLsbD i = false := by decide
  rcases Nat.lt_or_ge i 8 with z | z
  · have h1 : 8 * k + i < 64 := by omega
    have h2 : i < 64 := by omega
    simp only [BitVec.getLsbD_signExtend, BitVec.getLsbD_setWidth, BitVec.sshiftRight', BitVec.getLsbD_sshiftRight, BitVec.ushiftRight_eq', BitVec.getLsbD_ushiftRight, e3, h1, h2, hi, if_true, decide_true, Bool.true_and]
    simp [h2, Int64.toBitVec_toUInt64]
    rw [show decide (64 ≤ i) = false from decide_eq_false (by omega)]
    simp
  · rw [hm i hi z]; simp
theorem pu_m {L : List Int32} {n : Int32} (hL : L.length ≤ 600) (h0 : ¬ n < 0) (h8 : ¬ (8 : Int32) < n) : nI L.length + n ≤ 600 ↔ n ≤ 600 - nI L.length := by
  obtain ⟨N, hN, rfl⟩ := nI_of h0
  have h9 : N ≤ 8 := by
    rcases Nat.lt_or_ge 8 N with q | q
    · exact absurd (nI_lt (a := 8) q hN) h8
    · exact q
  have e1 : (600 : Int32) - nI L.length = nI (600 - L.length) := pk_sub (a := 600) hL
  rw [e1, nI_add, show (600 : Int32) = nI 600 from rfl, nI_leI (by omega) (by omega), nI_leI (by omega) (by omega)]
  omega
/-- where the open plain piece stands in the row, or -1 -/
def op_I (T : List Int32) (Q : List (Nat × Nat × Nat)) : Int32 := match Q.getLast? with
  | some t => if t.1 = 2 then nI (rw_R T Q.dropLast).length else -1
  | none => -1
theorem op_app (T : List Int32) (Q : List (Nat × Nat × Nat)) (t : Nat × Nat × Nat) : op_I T (Q ++ [t]) = if t.1 = 2 then nI (rw_R T Q).length else -1 := by
  unfold op_I
  rw [List.getLast?_concat, List.dropLast_concat]
def fr_I : Option Nat → Int32
  | none => 0
  | some b => nI b
theorem rw_copy {T : List Int32} {Q : List (Nat × Nat × Nat)} {b n : Nat} (h : b + n ≤ 600) : ((rw_R T Q ++ [1]) ++ [nI (b / 256), nI (b % 256)]) ++ [nI (n / 256), nI (n % 256)] = rw_R T (Q ++ [(1, b, n)]) := by
  rw [rw_app, rw_1C rfl h]
  simp [show nI 1 = 1 from rfl]
theorem rw_open {T : List Int32} {Q : List (Nat × Nat × Nat)} {b : Nat} (h : b ≤ 600) : (rw_R T Q ++ [2]) ++ [nI (0 / 256), nI (0 % 256)] = rw_R T (Q ++ [(2, b, 0)]) := by
  rw [rw_app, rw_1P (t := (2, b, 0)) rfl (by show b + 0 ≤ 600; omega)]
  simp [show nI 2 = 2 from rfl]
theorem rw_more {T : List Int32} {Q : List (Nat × Nat × Nat)} {b n : Nat} {y : Int32} (h : b + (n + 1) ≤ 600) (hy : T[b + n]? = some y) : (((rw_R T (Q ++ [(2, b, n)])).set ((rw_R T Q).length + 1) (nI ((n + 1) / 256))).set ((rw_R T Q).length + 2) (nI ((n + 1) % 256))) ++ [y] = rw_R T (Q ++ [(2, b, n + 1)]) := by
  rw [rw_app, rw_app, rw_1P (t := (2, b, n)) rfl (by show b + n ≤ 600; omega), rw_1P (t := (2, b, n + 1)) rfl h]
  show (((rw_R T Q ++ (nI 2 :: nI (n / 256) :: nI (n % 256) :: (T.drop b).take n)).set ((rw_R T Q).length + 1) (nI ((n + 1) / 256))).set ((rw_R T Q).length + 2) (nI ((n + 1) % 256))) ++ [y] = rw_R T Q ++ (nI 2 :: nI ((n + 1) / 256) :: nI ((n + 1) % 256) :: (T.drop b).take (n + 1))
  rw [tk_snoc hy, List.set_append_right _ _ (by omega), List.set_append_right _ _ (by omega), Nat.add_sub_cancel_left, Nat.add_sub_cancel_left, List.append_assoc]
  rfl
theorem rw_two {T : List Int32} {Q : List (Nat × Nat × Nat)} {b n : Nat} (h : b + n ≤ 600) : (rw_R T (Q ++ [(2, b, n)]))[(rw_R T Q).length + 1]? = some (nI (n / 256)) ∧ (rw_R T (Q ++ [(2, b, n)]))[(rw_R T Q).length + 1 + 1]? = some (nI (n % 256)) := by
  rw [rw_app, rw_1P (t := (2, b, n)) rfl h, List.getElem?_append_right (by omega), List.getElem?_append_right (by omega), Nat.add_sub_cancel_left, show (rw_R T Q).length + 1 + 1 - (rw_R T Q).length = 2 by omega]
  exact ⟨rfl, rfl⟩
theorem rw_lenP {T : List Int32} {Q : List (Nat × Nat × Nat)} {b n : Nat} (h : b + n ≤ 600) (hT : b + n ≤ T.length) : (rw_R T (Q ++ [(2, b, n)])).length = (rw_R T Q).length + (3 + n) := by
  rw [rw_app, rw_1P (t := (2, b, n)) rfl h]
  simp only [List.length_append, List.length_cons, List.length_take, List.length_drop]
  omega
