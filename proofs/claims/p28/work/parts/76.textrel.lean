/-! PURE, sixth: texts -/
/-- the widths and settings in their bounds -/
def BdOk (S : Nat → Nat → Int32) : Prop := (∀ k, k < 10 → 13 ≤ (S 1 k).toInt ∧ (S 1 k).toInt ≤ 30) ∧ 1 ≤ (S 5 2).toInt ∧ (S 5 2).toInt ≤ 20
theorem wA_b {S T A : Nat → Nat → Int32} {cs : Nat → Int32} {n nl : Nat} (hn : n ≤ 60) (hS : ShOk S) (hB : BdOk S) (hT : CRel T A) (hA : AOk (sh S) A nl) : ∀ k, k < n → hlA cs n (nI k) = true → 0 ≤ (wA S T cs n k).toInt ∧ (wA S T cs n k).toInt ≤ 42 := fun k hk hl => by
  obtain ⟨-, l2⟩ := hlA_t hl (by omega) (by omega)
  have b := hB.1 _ (lc_nI l2).2
  unfold wA
  rw [if_pos hl]
  split
  · rename_i c
    obtain ⟨-, -, l3⟩ := hpA_t c (by omega) (by omega)
    have hp := lpA_lt l2 l3
    obtain ⟨b1, b2⟩ := (hA.2 _ hp).1
    rw [← kp_rel hT hp (sh_lt hS hp)] at b1 b2
    rw [Jvm.Kit.i32_add (by omega) (by omega)]
    omega
  · omega
theorem fw_b {S T : Nat → Nat → Int32} {cs : Nat → Int32} {n : Nat} (hn : n ≤ 60) (hb : ∀ k, k < n → hlA cs n (nI k) = true → 0 ≤ (wA S T cs n k).toInt ∧ (wA S T cs n k).toInt ≤ 42) : ∀ i, i ≤ n → ∀ j, 0 ≤ ((fwF S T cs n i).1 j).toInt ∧ ((fwF S T cs n i).1 j).toInt ≤ 42 * i
  | 0, _, j => by
    show 0 ≤ (0 : Int32).toInt ∧ (0 : Int32).toInt ≤ _
    rw [i0_]
    omega
  | i + 1, hi, j => by
    have ih := fw_b hn hb i (by omega)
    rw [fwF]
    split
    · rename_i c
      have b := hb i (by omega) c
      show 0 ≤ (upd (fwF S T cs n i).1 ((fwF S T cs n i).2 - 1) _ j).toInt ∧ (upd (fwF S T cs n i).1 ((fwF S T cs n i).2 - 1) _ j).toInt ≤ _
      by_cases e : j = (fwF S T cs n i).2 - 1
      · subst e
        have := ih ((fwF S T cs n i).2 - 1)
        rw [upd_s, Jvm.Kit.i32_add (by omega) (by omega)]
        omega
      · have := ih j
        rw [upd_n _ _ e]
        omega
    · have := ih j
      show 0 ≤ ((fwF S T cs n i).1 j).toInt ∧ ((fwF S T cs n i).1 j).toInt ≤ _
      omega
