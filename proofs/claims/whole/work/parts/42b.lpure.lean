/-! Pure words for the law's loop. -/
theorem sw_9 (x : Int32) : x = 0 ∨ x = 1 ∨ x = 2 ∨ x = 3 ∨ x = 4 ∨ x = 5 ∨ x = 6 ∨ x = 7 ∨ x = 8 ∨ (x.toInt < 0 ∨ 8 < x.toInt) := by
  by_cases h : x.toInt < 0 ∨ 8 < x.toInt
  · simp [h]
  · have c : ∀ k : Int32, x.toInt = k.toInt → x = k := fun k q => Int32.toInt_inj.mp q
    have e : x.toInt = 0 ∨ x.toInt = 1 ∨ x.toInt = 2 ∨ x.toInt = 3 ∨ x.toInt = 4 ∨ x.toInt = 5 ∨ x.toInt = 6 ∨ x.toInt = 7 ∨ x.toInt = 8 := by omega
    rcases e with q | q | q | q | q | q | q | q | q
    · exact Or.inl (c 0 q)
    · exact Or.inr (Or.inl (c 1 q))
    · exact Or.inr (Or.inr (Or.inl (c 2 q)))
    · exact Or.inr (Or.inr (Or.inr (Or.inl (c 3 q))))
    · exact Or.inr (Or.inr (Or.inr (Or.inr (Or.inl (c 4 q)))))
    · exact Or.inr (Or.inr (Or.inr (Or.inr (Or.inr (Or.inl (c 5 q))))))
    · exact Or.inr (Or.inr (Or.inr (Or.inr (Or.inr (Or.inr (Or.inl (c 6 q)))))))
    · exact Or.inr (Or.inr (Or.inr (Or.inr (Or.inr (Or.inr (Or.inr (Or.inl (c 7 q))))))))
    · exact Or.inr (Or.inr (Or.inr (Or.inr (Or.inr (Or.inr (Or.inr (Or.inr (Or.inl (c 8 q)))))))))
theorem pu_len {L : List Int32} {v : Int64} {n : Int32} (hL : L.length ≤ 600) : (pu_L L v n (pu_r L n)).length ≤ 600 := by
  by_cases h0 : n < 0
  · rw [pu_L0 (pu_01 h0)]; exact hL
  · by_cases h8 : (8 : Int32) < n
    · rw [pu_L0 (pu_02 h0 h8)]; exact hL
    · by_cases h6 : n ≤ 600 - nI L.length
      · obtain ⟨N, rfl, hN8, hN6⟩ := pu_in hL h0 h8 h6
        rw [pu_1 h0 h8 h6]
        unfold pu_L
        rw [if_neg (by decide), nI_clamp (by omega), List.length_append, pb_len]
        exact hN6
      · rw [pu_L0 (pu_03 h0 h8 h6)]; exact hL
theorem lt_5 {L a : Nat} (hL : L ≤ 2560) (ha : a ≤ 2560) (h : ¬ nI L - 5 < nI a) : a + 5 ≤ L := by
  have h1 : (nI L - nI 5).toInt = (L : Int) - 5 := pk_sub_toInt (by omega) (by omega)
  have h2 : ¬ (nI L - nI 5).toInt < (nI a).toInt := fun q => h (Int32.lt_iff_toInt_lt.mpr q)
  rw [h1, nI_toInt (by omega)] at h2
  omega
/-- what holds between the numbers, at the head of the law's loop -/
def li_I (B T Z U : List Int32) (P : List (Nat × Nat × Nat)) (fb ft fr fu fo f0 f1 f2 eb et eo er : Nat → Int32) : Prop := B.length ≤ 600 ∧ T.length ≤ 600 ∧ Z.length ≤ 600 ∧ (∃ nB : Nat, pk_W nB U.length P) ∧ bg_P P ∧ by_k fb B ∧ by_k ft T ∧ by_k fr Z ∧ by_k fu U ∧ by_k fo (rw_R U P) ∧ pc_k f0 f1 f2 P ∧ im_k eb B ∧ im_k et T ∧ im_k eo (rw_R U P) ∧ im_k er Z
theorem lc_0 {x y : Int64} (h : x = y) (c : ¬ (if x < y then (-1 : Int32) else if x = y then 0 else 1) = 0) : False := by
  subst h
  exact c (by simp)
theorem lg_c0 (x : Int64) : lg_cmp x x = 0 := by
  unfold lg_cmp
  simp
