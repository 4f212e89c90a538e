/-! Pure words for piece and go of the reference. -/
theorem pi_neg {P : List (Nat × Nat × Nat)} {y x : Int32} (h : y < 0) : pi_I P y x = -1 := by
  unfold pi_I
  rw [ps_neg h, ps_neg h, ps_neg h]
  simp
theorem pi_hi {P : List (Nat × Nat × Nat)} {y x : Int32} (hn : P.length < 2 ^ 31) (h0 : ¬ y < 0) (h : nI P.length ≤ y) : pi_I P y x = -1 := by
  unfold pi_I
  rw [ps_hi hn h0 h, ps_hi hn h0 h, ps_hi hn h0 h]
  simp
theorem rl_lt {T : List Int32} {P : List (Nat × Nat × Nat)} {j : Nat} {t : Nat × Nat × Nat} (h : P[j]? = some t) (h1 : t.1 = 1 ∨ t.1 = 2) (h2 : t.2.1 + t.2.2 ≤ 600) : (rw_R T (P.take j)).length < (rw_R T P).length := by
  have e : (rw_R T P).length = (rw_R T (P.take j)).length + ((rw_1 T t).length + (rw_R T (P.drop (j + 1))).length) := by
    rw [rw_split h, List.length_append, List.length_append]
  rcases h1 with h1 | h1
  · rw [rw_1C h1 h2] at e
    simp only [List.length_cons, List.length_nil] at e
    omega
  · rw [rw_1P h1 h2] at e
    simp only [List.length_cons] at e
    omega
theorem rl_step {nB : Nat} {T : List Int32} {P : List (Nat × Nat × Nat)} {j : Nat} {t : Nat × Nat × Nat} (h : P[j]? = some t) (hg : pg_1 nB T.length t) : (rw_R T (P.take (j + 1))).length = (rw_R T (P.take j)).length + (if t.1 = 1 then 5 else 3 + t.2.2) := by
  rw [rw_take h, List.length_append, rw_len1 hg]
