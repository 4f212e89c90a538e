/-! The pieces of a way: how many there can be, how long their row is. -/
def nc_P (P : List (Nat × Nat × Nat)) : Nat := (P.map (fun t => if t.1 = 1 then 1 else 0)).sum
def nq_P (P : List (Nat × Nat × Nat)) : Nat := (P.map (fun t => if t.1 = 1 then 0 else 1)).sum
def rl_P (P : List (Nat × Nat × Nat)) : Nat := (P.map (fun t => if t.1 = 1 then 5 else 3 + t.2.2)).sum
def sm_P (P : List (Nat × Nat × Nat)) : Nat := (P.map (fun t => t.2.2)).sum
theorem nc_app (P : List (Nat × Nat × Nat)) (t : Nat × Nat × Nat) : nc_P (P ++ [t]) = nc_P P + (if t.1 = 1 then 1 else 0) := by simp [nc_P, List.map_append, List.sum_append]
theorem nq_app (P : List (Nat × Nat × Nat)) (t : Nat × Nat × Nat) : nq_P (P ++ [t]) = nq_P P + (if t.1 = 1 then 0 else 1) := by simp [nq_P, List.map_append, List.sum_append]
theorem rl_app (P : List (Nat × Nat × Nat)) (t : Nat × Nat × Nat) : rl_P (P ++ [t]) = rl_P P + (if t.1 = 1 then 5 else 3 + t.2.2) := by simp [rl_P, List.map_append, List.sum_append]
theorem sm_app (P : List (Nat × Nat × Nat)) (t : Nat × Nat × Nat) : sm_P (P ++ [t]) = sm_P P + t.2.2 := by simp [sm_P, List.map_append, List.sum_append]
theorem ln_P (P : List (Nat × Nat × Nat)) : P.length = nc_P P + nq_P P := by
  induction P with
  | nil => rfl
  | cons t P ih =>
    have h1 : nc_P (t :: P) = (if t.1 = 1 then 1 else 0) + nc_P P := by simp [nc_P]
    have h2 : nq_P (t :: P) = (if t.1 = 1 then 0 else 1) + nq_P P := by simp [nq_P]
    rw [h1, h2, List.length_cons, ih]
    split <;> omega
/-- a good piece -/
def pg_1 (nB nT : Nat) (t : Nat × Nat × Nat) : Prop := (t.1 = 1 ∧ 8 ≤ t.2.2 ∧ t.2.1 + t.2.2 ≤ nB) ∨ (t.1 = 2 ∧ 1 ≤ t.2.2 ∧ t.2.1 + t.2.2 ≤ nT)
def pl_L (P : List (Nat × Nat × Nat)) (pl : Nat) : Prop := match P.getLast? with
  | some t => if t.1 = 2 then nq_P P ≤ nc_P P + 1 ∧ t.2.1 + t.2.2 = pl else nq_P P ≤ nc_P P
  | none => nq_P P ≤ nc_P P
def pw_I (nB nT : Nat) (P : List (Nat × Nat × Nat)) (pl : Nat) : Prop := (∀ t ∈ P, pg_1 nB nT t) ∧ 8 * nc_P P + nq_P P ≤ pl ∧ rl_P P + 3 * nc_P P ≤ pl + 3 * nq_P P ∧ sm_P P = pl ∧ pl ≤ nT ∧ pl_L P pl
theorem pw_0 (nB nT : Nat) : pw_I nB nT [] 0 := ⟨fun t h => by simp at h, Nat.le_refl _, Nat.le_refl _, rfl, Nat.zero_le _, Nat.le_refl _⟩
theorem pl_le {P : List (Nat × Nat × Nat)} {pl : Nat} (h : pl_L P pl) : nq_P P ≤ nc_P P + 1 := by
  unfold pl_L at h
  split at h
  · split at h
    · exact h.1
    · omega
  · omega
theorem pw_num {nB nT : Nat} {P : List (Nat × Nat × Nat)} {pl : Nat} (h : pw_I nB nT P pl) (hT : nT ≤ 600) : P.length ≤ 133 ∧ rl_P P ≤ 603 := by
  obtain ⟨-, h2, h3, -, h5, h6⟩ := h
  have h7 := pl_le h6
  rw [ln_P]
  omega
theorem pl_app {P : List (Nat × Nat × Nat)} {t : Nat × Nat × Nat} {pl : Nat} : pl_L (P ++ [t]) pl ↔ (if t.1 = 2 then nq_P (P ++ [t]) ≤ nc_P (P ++ [t]) + 1 ∧ t.2.1 + t.2.2 = pl else nq_P (P ++ [t]) ≤ nc_P (P ++ [t])) := by
  unfold pl_L
  rw [List.getLast?_concat]
theorem pw_copy {nB nT : Nat} {P : List (Nat × Nat × Nat)} {pl b n : Nat} (h : pw_I nB nT P pl) (h8 : 8 ≤ n) (hb : b + n ≤ nB) (hn : pl + n ≤ nT) : pw_I nB nT (P ++ [(1, b, n)]) (pl + n) := by
  obtain ⟨h1, h2, h3, h4, h5, h6⟩ := h
  have h7 := pl_le h6
  refine ⟨?_, ?_, ?_, ?_, hn, ?_⟩
  · intro t ht
    rcases List.mem_append.mp ht with q | q
    · exact h1 t q
    · rw [List.mem_singleton] at q
      subst q
      exact Or.inl ⟨rfl, h8, hb⟩
  · rw [nc_app, nq_app, if_pos rfl, if_pos rfl]; omega
  · rw [nc_app, nq_app, rl_app, if_pos rfl, if_pos rfl, if_pos rfl]; omega
  · rw [sm_app, h4]
  · rw [pl_app, if_neg (by simp), nc_app, nq_app, if_pos rfl, if_pos rfl]; omega
theorem ap_grow {P : List (Nat × Nat × Nat)} {t : Nat × Nat × Nat} {pl : Nat} (h : t.1 = 2) : ap_P (P ++ [t]) pl = P ++ [(t.1, t.2.1, t.2.2 + 1)] := by
  unfold ap_P
  rw [List.getLast?_concat]
  simp only [h, if_true, List.dropLast_concat]
theorem ap_new {P : List (Nat × Nat × Nat)} {pl : Nat} (h : ∀ t, P.getLast? = some t → ¬ t.1 = 2) : ap_P P pl = P ++ [(2, pl, 1)] := by
  unfold ap_P
  split
  · rename_i t ht
    rw [if_neg (h t ht)]
  · rfl
theorem sp_last (P : List (Nat × Nat × Nat)) : P = [] ∨ ∃ (Q : List (Nat × Nat × Nat)) (t : Nat × Nat × Nat), P = Q ++ [t] := by
  rcases List.eq_nil_or_concat P with h | ⟨Q, t, h⟩
  · exact Or.inl h
  · exact Or.inr ⟨Q, t, by simpa using h⟩
theorem pw_plain {nB nT : Nat} {P : List (Nat × Nat × Nat)} {pl : Nat} (h : pw_I nB nT P pl) (hn : pl < nT) : pw_I nB nT (ap_P P pl) (pl + 1) := by
  obtain ⟨h1, h2, h3, h4, h5, h6⟩ := h
  have new : nq_P P ≤ nc_P P → pw_I nB nT (P ++ [(2, pl, 1)]) (pl + 1) := by
    intro hq
    refine ⟨?_, ?_, ?_, ?_, hn, ?_⟩
    · intro t ht
      rcases List.mem_append.mp ht with q | q
      · exact h1 t q
      · rw [List.mem_singleton] at q
        subst q
        exact Or.inr ⟨rfl, Nat.le_refl _, hn⟩
    · rw [nc_app, nq_app, if_neg (by simp), if_neg (by simp)]; omega
    · rw [nc_app, nq_app, rl_app, if_neg (by simp), if_neg (by simp), if_neg (by simp)]
      show rl_P P + (3 + 1) + 3 * (nc_P P + 0) ≤ pl + 1 + 3 * (nq_P P + 1)
      omega
    · rw [sm_app, h4]
    · rw [pl_app, if_pos rfl, nc_app, nq_app, if_neg (by simp), if_neg (by simp)]
      exact ⟨by omega, rfl⟩
  rcases sp_last P with rfl | ⟨Q, t, rfl⟩
  · exact new (Nat.le_refl _)
  · by_cases ht : t.1 = 2
    · rw [pl_app, if_pos ht] at h6
      have ht1 : ¬ t.1 = 1 := by omega
      have hg := h1 t (by simp)
      rw [ap_grow ht]
      rw [nc_app, nq_app, if_neg ht1, if_neg ht1] at h2 h6
      rw [nc_app, nq_app, rl_app, if_neg ht1, if_neg ht1, if_neg ht1] at h3
      rw [sm_app] at h4
      refine ⟨?_, ?_, ?_, ?_, hn, ?_⟩
      · intro z hz
        rcases List.mem_append.mp hz with q | q
        · exact h1 z (List.mem_append_left _ q)
        · rw [List.mem_singleton] at q
          subst q
          exact Or.inr ⟨ht, by show 1 ≤ t.2.2 + 1; omega, by show t.2.1 + (t.2.2 + 1) ≤ nT; omega⟩
      · rw [nc_app, nq_app, if_neg ht1, if_neg ht1]; omega
      · rw [nc_app, nq_app, rl_app, if_neg ht1, if_neg ht1, if_neg ht1]
        show rl_P Q + (3 + (t.2.2 + 1)) + 3 * (nc_P Q + 0) ≤ pl + 1 + 3 * (nq_P Q + 1)
        omega
      · rw [sm_app]
        show sm_P Q + (t.2.2 + 1) = pl + 1
        omega
      · rw [pl_app, if_pos ht, nc_app, nq_app, if_neg ht1, if_neg ht1]
        exact ⟨h6.1, by show t.2.1 + (t.2.2 + 1) = pl + 1; omega⟩
    · rw [ap_new (by intro z hz; rw [List.getLast?_concat] at hz; cases hz; exact ht)]
      rw [pl_app, if_neg ht] at h6
      exact new h6
/-- the search keeps it -/
theorem fp_I {B T : List Int32} : ∀ (n pl : Nat) (P : List (Nat × Nat × Nat)), pw_I B.length T.length P pl → T.length ≤ pl + n → pw_I B.length T.length (fp_P B T n pl P) T.length := by
  intro n
  induction n with
  | zero =>
    intro pl P h hn
    have : pl = T.length := by have := h.2.2.2.2.1; omega
    subst this
    exact h
  | succ n ih =>
    intro pl P h hn
    unfold fp_P
    by_cases hp : pl < T.length
    · rw [if_pos hp]
      rcases lg_ok B T pl (B.length / 8) with ⟨h1, -⟩ | ⟨b, h1, h2, h3, h4⟩
      · rw [h1]
        exact ih _ _ (pw_plain h hp) (by omega)
      · rw [h1]
        have h5 := lc_le (B.drop b) (T.drop pl)
        rw [List.length_drop, List.length_drop] at h5
        exact ih _ _ (pw_copy h h3 (by omega) (by omega)) (by show T.length ≤ pl + lc_p (B.drop b) (T.drop pl) + n; omega)
    · rw [if_neg hp]
      have : pl = T.length := by have := h.2.2.2.2.1; omega
      subst this
      exact h
theorem wy_I (B T : List Int32) : pw_I B.length T.length (wy_P B T) T.length := fp_I _ _ _ (pw_0 _ _) (by omega)
/-- the row's length, piece by piece -/
theorem hb_len (n : Nat) : (hb_I n).length = 2 := rfl
theorem rw_len1 {nB : Nat} {T : List Int32} {t : Nat × Nat × Nat} (h : pg_1 nB T.length t) : (rw_1 T t).length = if t.1 = 1 then 5 else 3 + t.2.2 := by
  unfold rw_1
  rcases h with ⟨h1, h2, h3⟩ | ⟨h1, h2, h3⟩
  · rw [if_pos h1, if_pos h1]; rfl
  · rw [if_neg (by omega), if_neg (by omega)]
    simp only [List.length_cons, List.length_append, hb_len, List.length_take, List.length_drop]
    omega
theorem rw_len {nB : Nat} {T : List Int32} : ∀ {P : List (Nat × Nat × Nat)}, (∀ t ∈ P, pg_1 nB T.length t) → (rw_R T P).length = rl_P P := by
  intro P
  induction P with
  | nil => intro _; rfl
  | cons t P ih =>
    intro h
    have h1 := rw_len1 (h t List.mem_cons_self)
    have h2 := ih (fun z hz => h z (List.mem_cons_of_mem _ hz))
    have h3 : rw_R T (t :: P) = rw_1 T t ++ rw_R T P := by simp [rw_R]
    have h4 : rl_P (t :: P) = (if t.1 = 1 then 5 else 3 + t.2.2) + rl_P P := by simp [rl_P]
    rw [h3, h4, List.length_append, h1, h2]
theorem rw_app (T : List Int32) (P : List (Nat × Nat × Nat)) (t : Nat × Nat × Nat) : rw_R T (P ++ [t]) = rw_R T P ++ rw_1 T t := by simp [rw_R, List.flatMap_append]
theorem rw_take {T : List Int32} {P : List (Nat × Nat × Nat)} {j : Nat} {t : Nat × Nat × Nat} (h : P[j]? = some t) : rw_R T (P.take (j + 1)) = rw_R T (P.take j) ++ rw_1 T t := by
  rw [List.take_succ, h]
  exact rw_app T _ t
theorem rl_take : ∀ (P : List (Nat × Nat × Nat)) (j : Nat), rl_P (P.take j) ≤ rl_P P := by
  intro P
  induction P with
  | nil => intro j; simp
  | cons t P ih =>
    intro j
    have h4 : ∀ Q : List (Nat × Nat × Nat), rl_P (t :: Q) = (if t.1 = 1 then 5 else 3 + t.2.2) + rl_P Q := fun Q => by simp [rl_P]
    cases j with
    | zero => exact Nat.zero_le _
    | succ j =>
      rw [List.take_succ_cons, h4, h4]
      have := ih j
      omega
/-- what comes of a way, piece by piece -/
def go_1 (B T : List Int32) (t : Nat × Nat × Nat) : List Int32 := ((if t.1 = 1 then B else T).drop t.2.1).take t.2.2
theorem go_app (B T : List Int32) (P : List (Nat × Nat × Nat)) (t : Nat × Nat × Nat) : go_R B T (P ++ [t]) = go_R B T P ++ go_1 B T t := by simp [go_R, go_1, List.flatMap_append]
theorem go_take {B T : List Int32} {P : List (Nat × Nat × Nat)} {j : Nat} {t : Nat × Nat × Nat} (h : P[j]? = some t) : go_R B T (P.take (j + 1)) = go_R B T (P.take j) ++ go_1 B T t := by
  rw [List.take_succ, h]
  exact go_app B T _ t
theorem go_len1 {B T : List Int32} {t : Nat × Nat × Nat} : (go_1 B T t).length ≤ t.2.2 := by
  unfold go_1
  rw [List.length_take]
  omega
theorem sm_take : ∀ (P : List (Nat × Nat × Nat)) (j : Nat), sm_P (P.take j) ≤ sm_P P := by
  intro P
  induction P with
  | nil => intro j; simp
  | cons t P ih =>
    intro j
    have h4 : ∀ Q : List (Nat × Nat × Nat), sm_P (t :: Q) = t.2.2 + sm_P Q := fun Q => by simp [sm_P]
    cases j with
    | zero => exact Nat.zero_le _
    | succ j =>
      rw [List.take_succ_cons, h4, h4]
      have := ih j
      omega
theorem go_len (B T : List Int32) (P : List (Nat × Nat × Nat)) : (go_R B T P).length ≤ sm_P P := by
  induction P with
  | nil => exact Nat.le_refl _
  | cons t P ih =>
    have h3 : go_R B T (t :: P) = go_1 B T t ++ go_R B T P := by simp [go_R, go_1]
    have h4 : sm_P (t :: P) = t.2.2 + sm_P P := by simp [sm_P]
    have h5 := go_len1 (B := B) (T := T) (t := t)
    rw [h3, h4, List.length_append]
    omega
/-- how far the copies reach -/
theorem ce_app (P : List (Nat × Nat × Nat)) (t : Nat × Nat × Nat) : ce_P (P ++ [t]) = if t.1 = 1 then max (ce_P P) (t.2.1 + t.2.2) else ce_P P := by simp [ce_P, List.foldl_append]
theorem ce_take {P : List (Nat × Nat × Nat)} {j : Nat} {t : Nat × Nat × Nat} (h : P[j]? = some t) : ce_P (P.take (j + 1)) = if t.1 = 1 then max (ce_P (P.take j)) (t.2.1 + t.2.2) else ce_P (P.take j) := by
  rw [List.take_succ, h]
  exact ce_app _ t
theorem ce_ge : ∀ (P : List (Nat × Nat × Nat)) (e : Nat), e ≤ P.foldl (fun e t => if t.1 = 1 then max e (t.2.1 + t.2.2) else e) e ∧ ∀ t ∈ P, t.1 = 1 → t.2.1 + t.2.2 ≤ P.foldl (fun e t => if t.1 = 1 then max e (t.2.1 + t.2.2) else e) e := by
  intro P
  induction P with
  | nil => intro e; exact ⟨Nat.le_refl _, fun t h => by simp at h⟩
  | cons z P ih =>
    intro e
    have h := ih (if z.1 = 1 then max e (z.2.1 + z.2.2) else e)
    have h0 : e ≤ (if z.1 = 1 then max e (z.2.1 + z.2.2) else e) := by split <;> omega
    rw [List.foldl_cons]
    refine ⟨Nat.le_trans h0 h.1, fun t ht h1 => ?_⟩
    rcases List.mem_cons.mp ht with rfl | q
    · refine Nat.le_trans ?_ h.1
      rw [if_pos h1]; omega
    · exact h.2 t q h1
theorem ce_mem {P : List (Nat × Nat × Nat)} {t : Nat × Nat × Nat} (ht : t ∈ P) (h1 : t.1 = 1) : t.2.1 + t.2.2 ≤ ce_P P := (ce_ge P 0).2 t ht h1
theorem ce_le : ∀ (P : List (Nat × Nat × Nat)) (e N : Nat), e ≤ N → (∀ t ∈ P, t.1 = 1 → t.2.1 + t.2.2 ≤ N) → P.foldl (fun e t => if t.1 = 1 then max e (t.2.1 + t.2.2) else e) e ≤ N := by
  intro P
  induction P with
  | nil => intro e N h _; exact h
  | cons z P ih =>
    intro e N h h2
    rw [List.foldl_cons]
    refine ih _ N ?_ (fun t ht => h2 t (List.mem_cons_of_mem _ ht))
    split
    · rename_i h1
      have := h2 z List.mem_cons_self h1
      omega
    · exact h
/-- the pieces of a kept way: good for a base and a target of some lengths -/
def pk_W (nB nT : Nat) (P : List (Nat × Nat × Nat)) : Prop := nB ≤ 600 ∧ nT ≤ 600 ∧ pw_I nB nT P nT
theorem pk_0 : pk_W 0 0 [] := ⟨by omega, by omega, pw_0 0 0⟩
theorem pk_len {nB nT : Nat} {P : List (Nat × Nat × Nat)} (h : pk_W nB nT P) : P.length ≤ 133 ∧ rl_P P ≤ 603 := pw_num h.2.2 h.2.1
theorem pk_ce {nB nT : Nat} {P : List (Nat × Nat × Nat)} (h : pk_W nB nT P) : ce_P P ≤ 600 := ce_le P 0 600 (by omega) (fun t ht h1 => by
  have h2 := h.2.2.1 t ht
  have h3 := h.1
  rcases h2 with ⟨-, -, h4⟩ | ⟨h4, -, -⟩ <;> omega)
theorem pk_sm {nB nT : Nat} {P : List (Nat × Nat × Nat)} (h : pk_W nB nT P) : sm_P P ≤ 600 := by have h1 := h.2.2.2.2.2.1; have h2 := h.2.1; omega
theorem pk_1 {nB nT : Nat} {P : List (Nat × Nat × Nat)} (h : pk_W nB nT P) {t : Nat × Nat × Nat} (ht : t ∈ P) : (t.1 = 1 ∨ t.1 = 2) ∧ t.2.1 + t.2.2 ≤ 600 := by
  have h2 := h.2.2.1 t ht
  have h3 := h.1
  have h4 := h.2.1
  rcases h2 with ⟨h5, -, h6⟩ | ⟨h5, -, h6⟩
  · exact ⟨Or.inl h5, by omega⟩
  · exact ⟨Or.inr h5, by omega⟩
theorem sm_tk {P : List (Nat × Nat × Nat)} {j : Nat} {t : Nat × Nat × Nat} (h : P[j]? = some t) : sm_P (P.take (j + 1)) = sm_P (P.take j) + t.2.2 := by
  rw [List.take_succ, h]
  exact sm_app _ t
