/-! what is pure, out of other parts, second -/
theorem lc_nI {c : Int32} (h : isL c = true) : c - 97 = nI (nn (c - 97)) ∧ nn (c - 97) < 10 := by
  simp only [isL, Bool.and_eq_true, Bool.not_eq_true', decide_eq_false_iff_not] at h
  obtain ⟨h1, h2⟩ := h
  rw [i_lt, show (97 : Int32).toInt = 97 from rfl] at h1
  rw [i_le, show (107 : Int32).toInt = 107 from rfl] at h2
  obtain ⟨j, hj, hc⟩ : ∃ j : Nat, j < 10 ∧ c = nI (j + 97) := by
    refine ⟨(c.toInt - 97).toNat, by omega, ?_⟩
    rw [i_eq, nI_toInt (by omega)]
    omega
  have e : c - 97 = nI j := by rw [hc]; exact pk_sub (a := j + 97) (b := 97) (by omega)
  rw [e, show nn (nI j) = j from nI_clamp (by omega)]
  exact ⟨rfl, hj⟩
/-- the pair at a place, if letters are there -/
def lpA (T : Nat → Int32) (k : Nat) : Nat := 10 * nn (T k - 97) + nn (T (k + 1) - 97)
theorem lpA_lt {T : Nat → Int32} {k : Nat} (h : isL (T k) = true) (h2 : isL (T (k + 1)) = true) : lpA T k < 100 := by
  have h1 := (lc_nI h).2
  have h3 := (lc_nI h2).2
  unfold lpA
  omega
theorem lpA_eq {T : Nat → Int32} {k : Nat} (h : isL (T k) = true) (h2 : isL (T (k + 1)) = true) : 10 * (T k - 97) + (T (k + 1) - 97) = nI (lpA T k) := by
  rw [(lc_nI h).1, (lc_nI h2).1, show (10 : Int32) = nI 10 from rfl, pk_mul, nI_add]
  rfl
theorem hlA_t {T : Nat → Int32} {n k : Nat} (h : hlA T n (nI k) = true) (hk : k < 2 ^ 31) (hn : n < 2 ^ 31) : k < n ∧ isL (T k) = true := by
  rcases Nat.lt_or_ge k n with z | z
  · exact ⟨z, by rw [← hlA_nI z hn]; exact h⟩
  · rw [hlA_out z hk] at h
    cases h
