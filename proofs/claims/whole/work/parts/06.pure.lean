/-! Pure words: bytes that an array holds, pieces that three arrays hold, likeness of bytes, the longest block, the pieces of a way, its row. (bp_b began as a row of kit/laws/BITS.to-paste.) -/
theorem bp_b (x : Int32) : x.toInt8.toInt32 &&& 255 = x &&& 255 := by
  apply Int32.toBitVec_inj.mp
  rw [Int32.toBitVec_and, Int32.toBitVec_and, Int8.toBitVec_toInt32, Int32.toBitVec_toInt8]
  apply BitVec.eq_of_getLsbD_eq
  intro i hi
  rw [BitVec.getLsbD_and, BitVec.getLsbD_and]
  have hm : ∀ i < 32, 8 ≤ i → (255 : Int32).toBitVec.getLsbD i = false := by decide
  rcases Nat.lt_or_ge i 8 with z | z
  · rw [BitVec.getLsbD_signExtend, BitVec.getLsbD_signExtend, if_pos z, if_pos hi]
    simp only [z, hi, decide_true, Bool.true_and]
  · rw [hm i hi z]; simp
/-- the array f holds the bytes L (0 .. 255) -/
def by_k (f : Nat → Int32) (L : List Int32) : Prop := ∀ (j : Nat) (x : Int32), L[j]? = some x → f j &&& 255 = x
theorem by_nil (f : Nat → Int32) : by_k f [] := fun j x h => by simp at h
theorem by_add {f : Nat → Int32} {L : List Int32} (h : by_k f L) (b : Int32) : by_k (upd f L.length (vp_nar .byte b.toInt8.toInt32)) (L ++ [b &&& 255]) := by
  intro j x hj
  rcases Nat.lt_or_ge j L.length with hl | hl
  · rw [List.getElem?_append_left hl] at hj
    rw [pk_un (by omega)]
    exact h j x hj
  · have h1 := (List.getElem?_eq_some_iff.mp hj).1
    simp only [List.length_append, List.length_cons, List.length_nil] at h1
    have h2 : j = L.length := by omega
    subst h2
    rw [List.getElem?_append_right (Nat.le_refl _), Nat.sub_self] at hj
    simp only [List.getElem?_cons_zero, Option.some.injEq] at hj
    rw [pk_us, pk_vb, bp_b]
    exact hj
def at_L (L : List Int32) (i : Int32) : Int32 := if i < 0 then -1 else (L[i.toNatClampNeg]?).getD (-1)
theorem at_neg {L : List Int32} {x : Int32} (h : x < 0) : at_L L x = -1 := by simp [at_L, h]
theorem at_hi {L : List Int32} {x : Int32} (hn : L.length < 2 ^ 31) (h0 : ¬ x < 0) (h : nI L.length ≤ x) : at_L L x = -1 := by
  obtain ⟨j, hj, rfl⟩ := nI_of h0
  have h1 : L.length ≤ j := (nI_leI hn hj).mp h
  unfold at_L
  rw [if_neg h0, nI_clamp hj, List.getElem?_eq_none h1]
  rfl
theorem at_in {L : List Int32} {j : Nat} {y : Int32} (h : L[j]? = some y) (hj : j < 2 ^ 31) : at_L L (nI j) = y := by
  unfold at_L
  rw [if_neg (nI_pos hj), nI_clamp hj, h]
  rfl
/-- three arrays hold the pieces P (kind, begin, length) -/
def pc_k (f0 f1 f2 : Nat → Int32) (P : List (Nat × Nat × Nat)) : Prop := ∀ (j : Nat) (t : Nat × Nat × Nat), P[j]? = some t → f0 j = nI t.1 ∧ f1 j = nI t.2.1 ∧ f2 j = nI t.2.2
theorem pc_nil (f0 f1 f2 : Nat → Int32) : pc_k f0 f1 f2 [] := fun j x h => by simp at h
theorem pc_add {f0 f1 f2 : Nat → Int32} {P : List (Nat × Nat × Nat)} (h : pc_k f0 f1 f2 P) (k b n : Nat) : pc_k (upd f0 P.length (nI k)) (upd f1 P.length (nI b)) (upd f2 P.length (nI n)) (P ++ [(k, b, n)]) := by
  intro j x hj
  rcases Nat.lt_or_ge j P.length with hl | hl
  · rw [List.getElem?_append_left hl] at hj
    rw [pk_un (by omega), pk_un (by omega), pk_un (by omega)]
    exact h j x hj
  · have h1 := (List.getElem?_eq_some_iff.mp hj).1
    simp only [List.length_append, List.length_cons, List.length_nil] at h1
    have h2 : j = P.length := by omega
    subst h2
    rw [List.getElem?_append_right (Nat.le_refl _), Nat.sub_self] at hj
    simp only [List.getElem?_cons_zero, Option.some.injEq] at hj
    subst hj
    exact ⟨pk_us, pk_us, pk_us⟩
/-- the last piece grows by one -/
theorem pc_grow {f0 f1 f2 : Nat → Int32} {P : List (Nat × Nat × Nat)} {t : Nat × Nat × Nat} (h : pc_k f0 f1 f2 (P ++ [t])) : pc_k f0 f1 (upd f2 P.length (f2 P.length + 1)) (P ++ [(t.1, t.2.1, t.2.2 + 1)]) := by
  intro j x hj
  rcases Nat.lt_or_ge j P.length with hl | hl
  · rw [List.getElem?_append_left hl] at hj
    rw [pk_un (by omega)]
    exact h j x (by rw [List.getElem?_append_left hl]; exact hj)
  · have h1 := (List.getElem?_eq_some_iff.mp hj).1
    simp only [List.length_append, List.length_cons, List.length_nil] at h1
    have h2 : j = P.length := by omega
    subst h2
    rw [List.getElem?_append_right (Nat.le_refl _), Nat.sub_self] at hj
    simp only [List.getElem?_cons_zero, Option.some.injEq] at hj
    subst hj
    have h3 := h P.length t (by rw [List.getElem?_append_right (Nat.le_refl _), Nat.sub_self]; rfl)
    refine ⟨h3.1, h3.2.1, ?_⟩
    rw [pk_us, h3.2.2]
    exact nI_1 _
def ps_L (g : Nat × Nat × Nat → Nat) (P : List (Nat × Nat × Nat)) (i : Int32) : Int32 := if i < 0 then -1 else ((P[i.toNatClampNeg]?).map (fun t => nI (g t))).getD (-1)
theorem ps_neg {g : Nat × Nat × Nat → Nat} {P : List (Nat × Nat × Nat)} {x : Int32} (h : x < 0) : ps_L g P x = -1 := by simp [ps_L, h]
theorem ps_hi {g : Nat × Nat × Nat → Nat} {P : List (Nat × Nat × Nat)} {x : Int32} (hn : P.length < 2 ^ 31) (h0 : ¬ x < 0) (h : nI P.length ≤ x) : ps_L g P x = -1 := by
  obtain ⟨j, hj, rfl⟩ := nI_of h0
  have h1 : P.length ≤ j := (nI_leI hn hj).mp h
  unfold ps_L
  rw [if_neg h0, nI_clamp hj, List.getElem?_eq_none h1]
  rfl
theorem ps_in {g : Nat × Nat × Nat → Nat} {P : List (Nat × Nat × Nat)} {j : Nat} {t : Nat × Nat × Nat} (h : P[j]? = some t) (hj : j < 2 ^ 31) : ps_L g P (nI j) = nI (g t) := by
  unfold ps_L
  rw [if_neg (nI_pos hj), nI_clamp hj, h]
  rfl
/-- is there a piece i -/
def th_P (P : List (Nat × Nat × Nat)) (i : Int32) : Int32 := if i < 0 then 0 else if i.toNatClampNeg < P.length then 1 else 0
theorem th_neg {P : List (Nat × Nat × Nat)} {x : Int32} (h : x < 0) : th_P P x = 0 := by simp [th_P, h]
theorem th_hi {P : List (Nat × Nat × Nat)} {x : Int32} (hn : P.length < 2 ^ 31) (h0 : ¬ x < 0) (h : nI P.length ≤ x) : th_P P x = 0 := by
  obtain ⟨j, hj, rfl⟩ := nI_of h0
  have h1 : P.length ≤ j := (nI_leI hn hj).mp h
  unfold th_P
  rw [if_neg h0, nI_clamp hj, if_neg (by omega)]
theorem th_in {P : List (Nat × Nat × Nat)} {j : Nat} (h : j < P.length) (hj : j < 2 ^ 31) : th_P P (nI j) = 1 := by
  unfold th_P
  rw [if_neg (nI_pos hj), nI_clamp hj, if_pos h]
/-- how many bytes two rows have alike from their beginnings on -/
def lc_p : List Int32 → List Int32 → Nat
  | x :: xs, y :: ys => if x = y then lc_p xs ys + 1 else 0
  | _, _ => 0
theorem lc_nil (b : List Int32) : lc_p [] b = 0 := by cases b <;> rfl
theorem lc_nil2 (a : List Int32) : lc_p a [] = 0 := by cases a <;> rfl
theorem lc_le : ∀ (a b : List Int32), lc_p a b ≤ a.length ∧ lc_p a b ≤ b.length := by
  intro a
  induction a with
  | nil => intro b; rw [lc_nil]; exact ⟨Nat.zero_le _, Nat.zero_le _⟩
  | cons x xs ih =>
    intro b
    cases b with
    | nil => rw [lc_nil2]; exact ⟨Nat.zero_le _, Nat.zero_le _⟩
    | cons y ys =>
      have h := ih ys
      unfold lc_p
      split
      · simp only [List.length_cons]; omega
      · exact ⟨Nat.zero_le _, Nat.zero_le _⟩
theorem lc_step {B T : List Int32} {j k : Nat} {x : Int32} (hj : B[j]? = some x) (hk : T[k]? = some x) : lc_p (B.drop j) (T.drop k) = lc_p (B.drop (j + 1)) (T.drop (k + 1)) + 1 := by
  obtain ⟨h1, e1⟩ := List.getElem?_eq_some_iff.mp hj
  obtain ⟨h2, e2⟩ := List.getElem?_eq_some_iff.mp hk
  rw [List.drop_eq_getElem_cons h1, List.drop_eq_getElem_cons h2, e1, e2]
  conv => lhs; unfold lc_p
  rw [if_pos rfl]
theorem lc_stop {B T : List Int32} {j k : Nat} {x y : Int32} (hj : B[j]? = some x) (hk : T[k]? = some y) (hn : ¬ x = y) : lc_p (B.drop j) (T.drop k) = 0 := by
  obtain ⟨h1, e1⟩ := List.getElem?_eq_some_iff.mp hj
  obtain ⟨h2, e2⟩ := List.getElem?_eq_some_iff.mp hk
  rw [List.drop_eq_getElem_cons h1, List.drop_eq_getElem_cons h2, e1, e2]
  unfold lc_p
  rw [if_neg hn]
theorem lc_end1 {B T : List Int32} {j k : Nat} (h : B.length ≤ j) : lc_p (B.drop j) (T.drop k) = 0 := by rw [List.drop_eq_nil_of_le h, lc_nil]
theorem lc_end2 {B T : List Int32} {j k : Nat} (h : T.length ≤ k) : lc_p (B.drop j) (T.drop k) = 0 := by rw [List.drop_eq_nil_of_le h, lc_nil2]
/-- the longest block among the first k: where it begins (if any is alike), how many bytes -/
def lg_S (B T : List Int32) (tp : Nat) : Nat → Option Nat × Nat
  | 0 => (none, 7)
  | k + 1 => if (lg_S B T tp k).2 < lc_p (B.drop (8 * k)) (T.drop tp) then (some (8 * k), lc_p (B.drop (8 * k)) (T.drop tp)) else lg_S B T tp k
def ob_I : Option Nat → Int32
  | none => -1
  | some b => nI b
theorem lg_ok (B T : List Int32) (tp : Nat) : ∀ k : Nat, ((lg_S B T tp k).1 = none ∧ (lg_S B T tp k).2 = 7) ∨ ∃ b : Nat, (lg_S B T tp k).1 = some b ∧ (lg_S B T tp k).2 = lc_p (B.drop b) (T.drop tp) ∧ 8 ≤ lc_p (B.drop b) (T.drop tp) ∧ b + 8 ≤ 8 * k := by
  intro k
  induction k with
  | zero => exact Or.inl ⟨rfl, rfl⟩
  | succ k ih =>
    unfold lg_S
    split
    · rename_i h
      refine Or.inr ⟨8 * k, rfl, rfl, ?_, by omega⟩
      rcases ih with ⟨-, h2⟩ | ⟨b, -, h2, h3, -⟩ <;> omega
    · rcases ih with h | ⟨b, h1, h2, h3, h4⟩
      · exact Or.inl h
      · exact Or.inr ⟨b, h1, h2, h3, by omega⟩
theorem lg_most (B T : List Int32) (tp k : Nat) : 7 ≤ (lg_S B T tp k).2 := by
  rcases lg_ok B T tp k with ⟨-, h⟩ | ⟨b, -, h2, h3, -⟩ <;> omega
/-- a plain byte at the place pl -/
def ap_P (P : List (Nat × Nat × Nat)) (pl : Nat) : List (Nat × Nat × Nat) := match P.getLast? with
  | some t => if t.1 = 2 then P.dropLast ++ [(t.1, t.2.1, t.2.2 + 1)] else P ++ [(2, pl, 1)]
  | none => P ++ [(2, pl, 1)]
/-- the pieces from the place pl on, behind those of P -/
def fp_P (B T : List Int32) : Nat → Nat → List (Nat × Nat × Nat) → List (Nat × Nat × Nat)
  | 0, _, P => P
  | n + 1, pl, P => if pl < T.length then (match (lg_S B T pl (B.length / 8)).1 with
      | none => fp_P B T n (pl + 1) (ap_P P pl)
      | some b => fp_P B T n (pl + lc_p (B.drop b) (T.drop pl)) (P ++ [(1, b, lc_p (B.drop b) (T.drop pl))])) else P
/-- the way's pieces -/
def wy_P (B T : List Int32) : List (Nat × Nat × Nat) := fp_P B T T.length 0 []
/-- a piece as a row of bytes -/
def hb_I (n : Nat) : List Int32 := [(nI n >>> ((8 : Int32) &&& 31)) &&& 255, nI n &&& 255]
def rw_1 (T : List Int32) (t : Nat × Nat × Nat) : List Int32 := if t.1 = 1 then (nI t.1 &&& 255) :: (hb_I t.2.1 ++ hb_I t.2.2) else (nI t.1 &&& 255) :: (hb_I t.2.2 ++ (T.drop t.2.1).take t.2.2)
def rw_R (T : List Int32) (P : List (Nat × Nat × Nat)) : List Int32 := P.flatMap (rw_1 T)
/-- how far the copies reach -/
def ce_P (P : List (Nat × Nat × Nat)) : Nat := P.foldl (fun e t => if t.1 = 1 then max e (t.2.1 + t.2.2) else e) 0
/-- what comes of a way -/
def go_R (B T : List Int32) (P : List (Nat × Nat × Nat)) : List Int32 := P.flatMap (fun t => ((if t.1 = 1 then B else T).drop t.2.1).take t.2.2)
theorem by_255 {f : Nat → Int32} {L : List Int32} (h : by_k f L) {j : Nat} {y : Int32} (hj : L[j]? = some y) : y &&& 255 = y := by
  rw [← h j y hj, Int32.and_assoc]
  rfl
theorem tk_snoc {G : List Int32} {bg j : Nat} {y : Int32} (h : G[bg + j]? = some y) : (G.drop bg).take (j + 1) = (G.drop bg).take j ++ [y] := by
  rw [List.take_succ, List.getElem?_drop, h]
  rfl
/-- the array classes of a claim, by their places -/
abbrev tk_s (cB cI cL : ClassId) : List (ClassId × FieldType) := [(cB, .byte), (cI, .int), (cL, .long)]
theorem nn_ge {n : Nat} {x : Int32} (hn : n < 2 ^ 31) (h : nI n ≤ x) : ¬ x < 0 := by
  intro h9
  have h8 := Int32.le_iff_toInt_le.mp h
  have h7 := Int32.lt_iff_toInt_lt.mp h9
  rw [nI_toInt hn] at h8
  rw [Int32.toInt_zero] at h7
  omega
theorem mx_I {a b : Nat} (ha : a < 2 ^ 31) (hb : b < 2 ^ 31) : (if nI a < nI b then nI b else nI a) = nI (max a b) := by
  by_cases h : a < b
  · rw [if_pos (nI_lt h hb), Nat.max_eq_right (by omega)]
  · rw [if_neg (nI_nlt (by omega) ha), Nat.max_eq_left (by omega)]
theorem mn_I {a b : Nat} (ha : a < 2 ^ 31) (hb : b < 2 ^ 31) : (if nI b < nI a then nI b else nI a) = nI (min a b) := by
  by_cases h : b < a
  · rw [if_pos (nI_lt h ha), Nat.min_eq_right (by omega)]
  · rw [if_neg (nI_nlt (by omega) hb), Nat.min_eq_left (by omega)]
/-- the byte i of v -/
def pb_b (v : Int64) (i : Nat) : Int32 := ((v.toUInt64 >>> ((8 * nI i).toInt64.toUInt64 &&& Int64.toUInt64 63)).toInt64).toInt32
/-- the lowest n bytes of v, the highest of them first -/
def pb_L (v : Int64) : Nat → List Int32
  | 0 => []
  | n + 1 => (pb_b v n &&& 255) :: pb_L v n
theorem pb_len (v : Int64) : ∀ n : Nat, (pb_L v n).length = n := by
  intro n
  induction n with
  | zero => rfl
  | succ n ih => simp [pb_L, ih]
theorem sw_3 (x : Int32) : x = 0 ∨ x = 1 ∨ x = 2 ∨ (¬ x = 0 ∧ ¬ x = 1 ∧ ¬ x = 2 ∧ (x.toInt < 0 ∨ 2 < x.toInt)) := by
  by_cases h0 : x = 0
  · exact Or.inl h0
  · by_cases h1 : x = 1
    · exact Or.inr (Or.inl h1)
    · by_cases h2 : x = 2
      · exact Or.inr (Or.inr (Or.inl h2))
      · refine Or.inr (Or.inr (Or.inr ⟨h0, h1, h2, ?_⟩))
        have a0 : ¬ x.toInt = 0 := fun h => h0 (Int32.toInt_inj.mp h)
        have a1 : ¬ x.toInt = 1 := fun h => h1 (Int32.toInt_inj.mp h)
        have a2 : ¬ x.toInt = 2 := fun h => h2 (Int32.toInt_inj.mp h)
        omega
def ct_I (B T Z : List Int32) (x : Int32) : Int32 := if x = 0 then nI B.length else if x = 1 then nI T.length else if x = 2 then nI Z.length else -1
theorem ct_no {B T Z : List Int32} {x : Int32} (h0 : ¬ x = 0) (h1 : ¬ x = 1) (h2 : ¬ x = 2) : ct_I B T Z x = -1 := by
  unfold ct_I
  rw [if_neg h0, if_neg h1, if_neg h2]
def pi_I (P : List (Nat × Nat × Nat)) (y x : Int32) : Int32 := if x = 0 then ps_L (fun t => t.1) P y else if x = 1 then ps_L (fun t => t.2.1) P y else if x = 2 then ps_L (fun t => t.2.2) P y else -1
theorem pi_no {P : List (Nat × Nat × Nat)} {y x : Int32} (h0 : ¬ x = 0) (h1 : ¬ x = 1) (h2 : ¬ x = 2) : pi_I P y x = -1 := by
  unfold pi_I
  rw [if_neg h0, if_neg h1, if_neg h2]
/-- may the lowest n bytes come to L -/
def pu_ok (L : List Int32) (n : Int32) : Prop := ¬ n < 0 ∧ ¬ (8 : Int32) < n ∧ n ≤ 600 - nI L.length
def pu_L (L : List Int32) (v : Int64) (n : Int32) (r : Int32) : List Int32 := if r = 0 then L else L ++ pb_L v n.toNatClampNeg
/-- the answer of put -/
def pu_r (L : List Int32) (n : Int32) : Int32 := if n < 0 then 0 else if (8 : Int32) < n then 0 else if n ≤ 600 - nI L.length then 1 else 0
theorem pu_L0 {L : List Int32} {v : Int64} {n r : Int32} (h : r = 0) : pu_L L v n r = L := if_pos h
theorem pu_in {L : List Int32} {n : Int32} (hL : L.length ≤ 600) (h0 : ¬ n < 0) (h8 : ¬ (8 : Int32) < n) (h6 : n ≤ 600 - nI L.length) : ∃ N : Nat, n = nI N ∧ N ≤ 8 ∧ L.length + N ≤ 600 := by
  obtain ⟨N, hN, rfl⟩ := nI_of h0
  have e1 : (600 : Int32) - nI L.length = nI (600 - L.length) := pk_sub (a := 600) hL
  rw [e1] at h6
  have h1 := (nI_leI hN (by omega)).mp h6
  refine ⟨N, rfl, ?_, by omega⟩
  rcases Nat.lt_or_ge 8 N with h9 | h9
  · exact absurd (nI_lt (a := 8) h9 hN) h8
  · exact h9
theorem pu_1 {L : List Int32} {n : Int32} (h0 : ¬ n < 0) (h8 : ¬ (8 : Int32) < n) (h6 : n ≤ 600 - nI L.length) : pu_r L n = 1 := by
  unfold pu_r
  rw [if_neg h0, if_neg h8, if_pos h6]
theorem pu_01 {L : List Int32} {n : Int32} (h0 : n < 0) : pu_r L n = 0 := by
  unfold pu_r
  rw [if_pos h0]
theorem pu_02 {L : List Int32} {n : Int32} (h0 : ¬ n < 0) (h8 : (8 : Int32) < n) : pu_r L n = 0 := by
  unfold pu_r
  rw [if_neg h0, if_pos h8]
theorem pu_03 {L : List Int32} {n : Int32} (h0 : ¬ n < 0) (h8 : ¬ (8 : Int32) < n) (h6 : ¬ n ≤ 600 - nI L.length) : pu_r L n = 0 := by
  unfold pu_r
  rw [if_neg h0, if_neg h8, if_neg h6]
theorem m1_I (k : Nat) : nI k + (-1) = nI k - 1 := by rw [Int32.sub_eq_add_neg]
theorem lg_keep {B T : List Int32} {tp k : Nat} (h : ¬ (lg_S B T tp k).2 < lc_p (B.drop (8 * k)) (T.drop tp)) : lg_S B T tp (k + 1) = lg_S B T tp k := by
  show (if (lg_S B T tp k).2 < lc_p (B.drop (8 * k)) (T.drop tp) then (some (8 * k), lc_p (B.drop (8 * k)) (T.drop tp)) else lg_S B T tp k) = _
  exact if_neg h
theorem lg_take {B T : List Int32} {tp k : Nat} (h : (lg_S B T tp k).2 < lc_p (B.drop (8 * k)) (T.drop tp)) : lg_S B T tp (k + 1) = (some (8 * k), lc_p (B.drop (8 * k)) (T.drop tp)) := by
  show (if (lg_S B T tp k).2 < lc_p (B.drop (8 * k)) (T.drop tp) then (some (8 * k), lc_p (B.drop (8 * k)) (T.drop tp)) else lg_S B T tp k) = _
  exact if_pos h
