/-! PURE: the text that isWidth writes -/
theorem hl_in {f : Nat → Int32} {k i : Nat} (c : Int32) (hi : i < k) (hk : k ≤ 60) : hlA (upd f k c) (k + 1) (nI i) = isL (f i) := by
  rw [hlA_nI (by omega) (by omega), upd_n _ _ (by omega)]
theorem hl_new (f : Nat → Int32) {k : Nat} (c : Int32) (hk : k ≤ 60) : hlA (upd f k c) (k + 1) (nI k) = isL c := by
  rw [hlA_nI (by omega) (by omega), upd_s]
theorem hp_eq (f : Nat → Int32) (n i : Nat) : hpA f n (nI i) = (hlA f n (nI i) && hlA f n (nI (i + 1))) := by
  unfold hpA
  rw [nI_1]
theorem wA_in {S T : Nat → Nat → Int32} {f : Nat → Int32} {k i : Nat} (c : Int32) (hi : i + 1 < k) (hk : k ≤ 60) : wA S T (upd f k c) (k + 1) i = wA S T f k i := by
  unfold wA
  rw [hp_eq, hp_eq, hl_in c (by omega) hk, hl_in c hi hk, hlA_nI (by omega) (by omega), hlA_nI (by omega) (by omega), upd_n _ _ (by omega)]
  have : lpA (upd f k c) i = lpA f i := by unfold lpA; rw [upd_n _ _ (by omega), upd_n _ _ (by omega)]
  rw [this]
/-- what the pair at the seam adds -/
def knC (S T : Nat → Nat → Int32) (f : Nat → Int32) (k : Nat) (c : Int32) : Int32 := if 0 < k ∧ isL (f (k - 1)) = true ∧ isL c = true then kp S T (10 * nn (f (k - 1) - 97) + nn (c - 97)) else 0
theorem wA_seam {S T : Nat → Nat → Int32} {f : Nat → Int32} {i : Nat} (c : Int32) (hk : i + 1 ≤ 60) : wA S T (upd f (i + 1) c) (i + 2) i = wA S T f (i + 1) i + knC S T f (i + 1) c := by
  unfold wA knC
  rw [hp_eq, hp_eq, hl_in c (by omega) hk, hl_new f c hk, hlA_nI (by omega) (by omega), hlA_out (n := i + 1) (k := i + 1) (by omega) (by omega), Bool.and_false, upd_n _ _ (by omega), Nat.add_sub_cancel]
  have : lpA (upd f (i + 1) c) i = 10 * nn (f i - 97) + nn (c - 97) := by unfold lpA; rw [upd_n _ _ (by omega), upd_s]
  rw [this]
  by_cases a : isL (f i) = true
  · rw [if_pos a, if_pos a, if_neg (by decide : ¬ (false = true)), a, Bool.true_and]
    by_cases b : isL c = true
    · rw [if_pos b, if_pos ⟨by omega, rfl, b⟩]
    · rw [if_neg b, if_neg (fun z => b z.2.2), Int32.add_zero]
  · rw [if_neg a, if_neg a, if_neg (fun z => a z.2.1), Int32.add_zero]
theorem wA_last (S T : Nat → Nat → Int32) (f : Nat → Int32) {k : Nat} (c : Int32) (hk : k ≤ 60) : wA S T (upd f k c) (k + 1) k = if isL c = true then S 1 (nn (c - 97)) else S 5 2 := by
  unfold wA
  rw [hp_eq, hl_new f c hk, hlA_out (n := k + 1) (k := k + 1) (by omega) (by omega), Bool.and_false, upd_s]
  rw [if_neg (by decide : ¬ (false = true))]
theorem knC_0 (S T : Nat → Nat → Int32) (f : Nat → Int32) (c : Int32) : knC S T f 0 c = 0 := if_neg (fun z => absurd z.1 (Nat.lt_irrefl 0))
theorem iw_sum {S T : Nat → Nat → Int32} {f : Nat → Int32} (c : Int32) : ∀ {k : Nat}, k ≤ 60 → isum (wA S T (upd f k c) (k + 1)) (k + 1) = isum (wA S T f k) k + (knC S T f k c + if isL c = true then S 1 (nn (c - 97)) else S 5 2)
  | 0, hk => by
    show (0 : Int32) + wA S T (upd f 0 c) 1 0 = 0 + _
    rw [wA_last S T f c hk, knC_0]
    simp only [Int32.zero_add]
  | i + 1, hk => by
    show isum (wA S T (upd f (i + 1) c) (i + 2)) i + wA S T (upd f (i + 1) c) (i + 2) i + wA S T (upd f (i + 1) c) (i + 1 + 1) (i + 1) = isum (wA S T f (i + 1)) i + wA S T f (i + 1) i + _
    rw [wA_last S T f c hk, wA_seam c hk, isum_cong (f := wA S T (upd f (i + 1) c) (i + 2)) (k := wA S T f (i + 1)) (fun j hj => wA_in c (by omega) hk)]
    grind
theorem fw_in {S T : Nat → Nat → Int32} {f : Nat → Int32} {k : Nat} (c : Int32) (hk : k ≤ 60) : ∀ j, j < k → fwF S T (upd f k c) (k + 1) j = fwF S T f k j
  | 0, _ => rfl
  | j + 1, hj => by rw [fwF, fwF, fw_in c hk j (by omega), hl_in c (by omega) hk, hlA_nI (by omega) (by omega), wA_in c hj hk]
theorem fw_seam {S T : Nat → Nat → Int32} {f : Nat → Int32} (c : Int32) : ∀ {k : Nat}, k ≤ 60 → fwF S T (upd f k c) (k + 1) k = (upd (fwF S T f k k).1 ((fwF S T f k k).2 - 1) ((fwF S T f k k).1 ((fwF S T f k k).2 - 1) + knC S T f k c), (fwF S T f k k).2)
  | 0, _ => by
    rw [knC_0, Int32.add_zero, upd_self]
    rfl
  | i + 1, hk => by
    rw [fwF, fw_in c hk i (by omega), hl_in c (by omega) hk]
    have e : fwF S T f (i + 1) (i + 1) = if isL (f i) = true then (upd (fwF S T f (i + 1) i).1 ((fwF S T f (i + 1) i).2 - 1) ((fwF S T f (i + 1) i).1 ((fwF S T f (i + 1) i).2 - 1) + wA S T f (i + 1) i), (fwF S T f (i + 1) i).2) else ((fwF S T f (i + 1) i).1, (fwF S T f (i + 1) i).2 + 1) := by
      rw [fwF, hlA_nI (by omega) (by omega)]
    rw [e]
    by_cases a : isL (f i) = true
    · rw [if_pos a, if_pos a, wA_seam c hk]
      dsimp only
      rw [upd_s, upd_upd, Int32.add_assoc]
    · rw [if_neg a, if_neg a]
      have : knC S T f (i + 1) c = 0 := if_neg (fun z => a z.2.1)
      rw [this, Int32.add_zero, upd_self]
theorem fw_letter {S T : Nat → Nat → Int32} {f : Nat → Int32} {c : Int32} {k : Nat} (hk : k ≤ 60) (hc : isL c = true) : fwF S T (upd f k c) (k + 1) (k + 1) = (upd (fwF S T f k k).1 ((fwF S T f k k).2 - 1) ((fwF S T f k k).1 ((fwF S T f k k).2 - 1) + (knC S T f k c + S 1 (nn (c - 97)))), (fwF S T f k k).2) := by
  rw [fwF, fw_seam c hk, hl_new f c hk, if_pos hc, wA_last S T f c hk, if_pos hc]
  dsimp only
  rw [upd_s, upd_upd, Int32.add_assoc]
theorem fw_dot {S T : Nat → Nat → Int32} {f : Nat → Int32} {c : Int32} {k : Nat} (hk : k ≤ 60) (hc : ¬ isL c = true) : fwF S T (upd f k c) (k + 1) (k + 1) = ((fwF S T f k k).1, (fwF S T f k k).2 + 1) := by
  have : knC S T f k c = 0 := if_neg (fun z => hc z.2.2)
  rw [fwF, fw_seam c hk, hl_new f c hk, if_neg hc, this, Int32.add_zero, upd_self]
theorem mxN_cong {f h : Nat → Int32} : ∀ {n : Nat}, (∀ j, j < n → f j = h j) → mxN f n = mxN h n
  | 0, _ => rfl
  | n + 1, z => by rw [mxN, mxN, mxN_cong (fun j hj => z j (by omega)), z n (by omega)]
theorem imax_imax {a b c : Int32} (h : b ≤ c) : imax (imax a b) c = imax a c := by
  unfold imax
  rw [i_le] at h
  by_cases x : a < b
  · rw [if_pos x]
    rw [i_lt] at x
    by_cases y : b < c
    · rw [if_pos y, if_pos (by rw [i_lt] at y ⊢; omega)]
    · rw [if_neg y]
      have : b = c := by rw [i_lt] at y; rw [i_eq]; omega
      subst this
      rw [if_pos (by rw [i_lt]; exact x)]
  · rw [if_neg x]
def IW (S T : Nat → Nat → Int32) (f : Nat → Int32) (k : Nat) (due word widest last : Int32) (m : Nat) : Prop :=
  (∀ j, j < k → isL (f j) = true ∨ (f j = 46 ∧ 0 < j ∧ isL (f (j - 1)) = true ∧ j < 29)) ∧
  m = (fwF S T f k k).2 ∧ due = isum (wA S T f k) k ∧ word = (fwF S T f k k).1 (m - 1) ∧ widest = mxN (fwF S T f k k).1 m ∧
  ((0 < k ∧ isL (f (k - 1)) = true ∧ last = nI (nn (f (k - 1) - 97)) ∧ nn (f (k - 1) - 97) < 10) ∨ ((k = 0 ∨ isL (f (k - 1)) = false) ∧ last = -1)) ∧
  (0 ≤ word.toInt ∧ word.toInt ≤ due.toInt) ∧ (0 ≤ widest.toInt ∧ widest.toInt ≤ due.toInt) ∧ due.toInt ≤ 42 * k
theorem IW_0 (S T : Nat → Nat → Int32) (f : Nat → Int32) : IW S T f 0 0 0 0 (-1) 1 :=
  ⟨fun j hj => absurd hj (Nat.not_lt_zero j), rfl, rfl, rfl, rfl, Or.inr ⟨Or.inl rfl, rfl⟩, by decide, by decide, by decide⟩
theorem IW.m (S T : Nat → Nat → Int32) {f : Nat → Int32} {k m : Nat} {due word widest last : Int32} (h : IW S T f k due word widest last m) : 1 ≤ m ∧ m ≤ k + 1 := by
  rw [h.2.1]; exact fw_le S T f k k
theorem IW.last {S T : Nat → Nat → Int32} {f : Nat → Int32} {k m : Nat} {due word widest last : Int32} (h : IW S T f k due word widest last m) : (∃ la, la < 10 ∧ last = nI la) ∨ last = -1 := by
  rcases h.2.2.2.2.2.1 with z | z
  · exact Or.inl ⟨_, z.2.2.2, z.2.2.1⟩
  · exact Or.inr z.2
theorem isL_n : ∀ l, l < 10 → isL (nI (97 + l)) = true ∧ nI (97 + l) - 97 = nI l := by decide +kernel
theorem isL_46 : ¬ isL 46 = true := by decide
/-- a letter more -/
theorem IW.letter {S T : Nat → Nat → Int32} {nl np : Nat} (hG : GK S T nl np) {f : Nat → Int32} {k m : Nat} {due word widest last : Int32} (h : IW S T f k due word widest last m) (hk : k < 30) {l : Nat} (hl : l < 10) {more : Int32}
    (hm : more = S 1 l + (if last < 0 then 0 else kp S T (10 * nn last + l))) : IW S T (upd f k (nI (97 + l))) (k + 1) (due + more) (word + more) (imax widest (word + more)) (nI l) m := by
  obtain ⟨h1, h2, h3, h4, h5, h6, h7, h8, h9⟩ := h
  obtain ⟨l1, l2⟩ := isL_n l hl
  have l3 : nn (nI (97 + l) - 97) = l := by rw [l2, nnI (by omega)]
  have hmm : more = knC S T f k (nI (97 + l)) + S 1 l := by
    rw [hm]
    unfold knC
    rw [l3, l1]
    rcases h6 with ⟨a, b, c, d⟩ | ⟨a, b⟩
    · rw [c, if_neg (nI_pos (by omega)), nnI (by omega), if_pos (show 0 < k ∧ isL (f (k - 1)) = true ∧ true = true from ⟨a, b, rfl⟩), Int32.add_comm]
    · rw [b, if_pos (by decide), if_neg (fun z => by
        rcases a with a | a
        · omega
        · rw [a] at z; exact absurd z.2.1 (by decide)), Int32.add_comm]
  have hb1 := hG.2.1.1 l hl
  have hb2 : 1 ≤ more.toInt ∧ more.toInt ≤ 42 := by
    rw [hm]
    rcases h6 with ⟨a, b, c, d⟩ | ⟨a, b⟩
    · rw [c, if_neg (nI_pos (by omega)), nnI (by omega)]
      have := hG.gbk (p := 10 * nn (f (k - 1) - 97) + l) (by omega)
      unfold Bk at this
      rw [Jvm.Kit.i32_add (by omega) (by omega)]
      omega
    · rw [b, if_pos (by decide), Int32.add_zero]
      omega
  have hF := fw_letter (S := S) (T := T) (f := f) (c := nI (97 + l)) (k := k) (by omega) l1
  rw [l3, ← hmm, ← h2] at hF
  have hw : (word + more).toInt = word.toInt + more.toInt := Jvm.Kit.i32_add (by omega) (by omega)
  have hd : (due + more).toInt = due.toInt + more.toInt := Jvm.Kit.i32_add (by omega) (by omega)
  have hmx := (fw_le S T f k k).1
  rw [← h2] at hmx
  refine ⟨fun j hj => ?_, ?_, ?_, ?_, ?_, Or.inl ⟨by omega, ?_, ?_, ?_⟩, by omega, ?_, by omega⟩
  · by_cases e : j = k
    · subst e; rw [upd_s]; exact Or.inl l1
    · rw [upd_n _ _ e]
      rcases h1 j (by omega) with z | ⟨z1, z2, z3, z4⟩
      · exact Or.inl z
      · exact Or.inr ⟨z1, z2, by rw [upd_n _ _ (by omega)]; exact z3, z4⟩
  · rw [hF]
  · rw [iw_sum _ (by omega), ← h3, if_pos l1, l3, ← hmm]
  · rw [hF]
    dsimp only
    rw [upd_s, ← h4]
  · rw [hF]
    dsimp only
    obtain ⟨i, rfl⟩ : ∃ i, m = i + 1 := ⟨m - 1, by omega⟩
    rw [mxN, Nat.add_sub_cancel, upd_s, mxN_cong (h := (fwF S T f k k).1) (fun j hj => upd_n _ _ (by omega)), h5, mxN]
    rw [Nat.add_sub_cancel] at h4
    rw [← h4]
    exact imax_imax (by rw [i_le]; omega)
  · rw [Nat.add_sub_cancel, upd_s]; exact l1
  · rw [Nat.add_sub_cancel, upd_s, l3]
  · rw [Nat.add_sub_cancel, upd_s, l3]; exact hl
  · unfold imax
    split <;> omega
/-- a space more -/
theorem IW.dot {S T : Nat → Nat → Int32} {nl np : Nat} (hG : GK S T nl np) {f : Nat → Int32} {k m : Nat} {due word widest last : Int32} (h : IW S T f k due word widest last m) (hk : k < 29) (hl : ¬ last < 0) : IW S T (upd f k 46) (k + 1) (due + S 5 2) 0 (imax widest 0) (-1) (m + 1) := by
  obtain ⟨h1, h2, h3, h4, h5, h6, h7, h8, h9⟩ := h
  have hb := hG.2.1.2
  have hF := fw_dot (S := S) (T := T) (f := f) (c := 46) (k := k) (by omega) isL_46
  rw [← h2] at hF
  have hd : (due + S 5 2).toInt = due.toInt + (S 5 2).toInt := Jvm.Kit.i32_add (by omega) (by omega)
  obtain ⟨a, b, c, d⟩ : 0 < k ∧ isL (f (k - 1)) = true ∧ last = nI (nn (f (k - 1) - 97)) ∧ nn (f (k - 1) - 97) < 10 := by
    rcases h6 with z | z
    · exact z
    · rw [z.2] at hl; exact absurd (by decide) hl
  have hk0 : knC S T f k 46 = 0 := if_neg (fun z => isL_46 z.2.2)
  have hz : (fwF S T f k k).1 m = 0 := fw_zero S T f k k m (by omega)
  refine ⟨fun j hj => ?_, ?_, ?_, ?_, ?_, Or.inr ⟨Or.inr ?_, rfl⟩, ?_, ?_, by omega⟩
  · by_cases e : j = k
    · subst e; rw [upd_s, upd_n _ _ (by omega)]; exact Or.inr ⟨rfl, a, b, hk⟩
    · rw [upd_n _ _ e]
      rcases h1 j (by omega) with z | ⟨z1, z2, z3, z4⟩
      · exact Or.inl z
      · exact Or.inr ⟨z1, z2, by rw [upd_n _ _ (by omega)]; exact z3, z4⟩
  · rw [hF]
  · rw [iw_sum _ (by omega), ← h3, hk0, if_neg isL_46, Int32.zero_add]
  · rw [hF, Nat.add_sub_cancel]; exact hz.symm
  · rw [hF]
    dsimp only
    rw [mxN, ← h5, hz]
  · rw [Nat.add_sub_cancel, upd_s, ← Bool.not_eq_true]; exact isL_46
  · rw [i0_]; omega
  · unfold imax
    split
    · rw [i0_]; omega
    · omega
theorem fwp_ok {cs : Nat → Int32} {n : Nat} : ∀ {d k : Nat}, (∀ j, k ≤ j → j < k + d → okc cs n j = true) → fwp cs n d k = k + d
  | 0, _, _ => rfl
  | d + 1, k, h => by
    rw [fwp, if_pos (h k (by omega) (by omega)), fwp_ok (fun j h1 h2 => h j (by omega) (by omega))]
    omega
theorem lb_b (F : Nat → Int32) (sp ln : Int32) : ∀ i, 1 ≤ (lbN F sp ln i).1 ∧ (lbN F sp ln i).1 ≤ i + 1
  | 0 => ⟨Nat.le_refl _, Nat.le_refl _⟩
  | i + 1 => by
    have := lb_b F sp ln i
    rw [lbN]
    split <;> (dsimp only; omega)
def gW (F : Nat → Int32) (sp : Int32) (i : Nat) : Int32 := isum F (i + 1) + nI i * sp
theorem gW_s (F : Nat → Int32) (sp : Int32) (i : Nat) : gW F sp (i + 1) = gW F sp i + sp + F (i + 1) := by
  unfold gW
  rw [isum, ← nI_1]
  grind
theorem lb_one {F : Nat → Int32} {sp ln : Int32} : ∀ {i : Nat}, (∀ j, j ≤ i → ¬ ln < gW F sp j) → lbN F sp ln i = (1, gW F sp i)
  | 0, _ => by
    rw [lbN]
    have : gW F sp 0 = F 0 := by
      show (0 : Int32) + F 0 + nI 0 * sp = F 0
      rw [nI_0]
      grind
    rw [this]
  | i + 1, h => by
    rw [lbN, lb_one (fun j hj => h j (by omega))]
    dsimp only
    rw [← gW_s, if_neg (h (i + 1) (Nat.le_refl _))]
theorem gW_b {F : Nat → Int32} {sp : Int32} (hs : 0 ≤ sp.toInt ∧ sp.toInt ≤ 20) {m : Nat} (hm : m ≤ 61) (hF : ∀ j, j < m → 0 ≤ (F j).toInt ∧ (F j).toInt ≤ 1260) : ∀ i, i < m → 0 ≤ (gW F sp i).toInt ∧ (gW F sp i).toInt ≤ 1280 * (i + 1) ∧ ∀ j, j ≤ i → (gW F sp j).toInt ≤ (gW F sp i).toInt
  | 0, h => by
    have e : gW F sp 0 = F 0 := by
      show (0 : Int32) + F 0 + nI 0 * sp = F 0
      rw [nI_0]
      grind
    have := hF 0 h
    rw [e]
    refine ⟨this.1, by omega, fun j hj => ?_⟩
    rw [show j = 0 by omega, e]
    exact Int.le_refl _
  | i + 1, h => by
    obtain ⟨a, b, c⟩ := gW_b hs hm hF i (by omega)
    have f := hF (i + 1) h
    have e1 : (gW F sp i + sp).toInt = (gW F sp i).toInt + sp.toInt := Jvm.Kit.i32_add (by omega) (by omega)
    have e2 : (gW F sp i + sp + F (i + 1)).toInt = (gW F sp i).toInt + sp.toInt + (F (i + 1)).toInt := by
      rw [Jvm.Kit.i32_add (by omega) (by omega), e1]
    rw [gW_s, e2]
    refine ⟨by omega, by omega, fun j hj => ?_⟩
    by_cases z : j = i + 1
    · subst z; rw [gW_s, e2]; exact Int.le_refl _
    · have := c j (by omega); omega
/-- the text's numbers at the end -/
theorem IW.fin {S T : Nat → Nat → Int32} {nl np : Nat} (hG : GK S T nl np) {f : Nat → Int32} {m : Nat} {due word widest last : Int32} (h : IW S T f 30 due word widest last m) :
    ∃ c, (∀ V, txV S T f 30 V 0 = due) ∧ (∀ V, txV S T f 30 V 1 = due) ∧ (∀ V, txV S T f 30 V 2 = nI m) ∧ (∀ V, txV S T f 30 V 3 = widest) ∧ (∀ V, txV S T f 30 V 4 = nI c) ∧ (∀ V, txV S T f 30 V 5 = nI c) ∧ fwp f 30 30 0 = 30 ∧ 1 ≤ c ∧ c ≤ m ∧ m ≤ 31 ∧ (¬ S 5 3 < due → c = 1) ∧ ¬ due < widest ∧ ¬ due < 0 := by
  have hm := h.m
  obtain ⟨h1, h2, h3, h4, h5, h6, h7, h8, h9⟩ := h
  have hf : fwp f 30 30 0 = 30 := by
    rw [fwp_ok (fun j _ hj => ?_)]
    unfold okc
    rw [hlA_nI (by omega) (by omega), hlA_m1 (by omega) (by omega)]
    rcases h1 j (by omega) with z | ⟨z1, z2, z3, z4⟩
    · rw [z, Bool.true_or]
    · rw [decide_eq_true z1, decide_eq_true z2, z3, Bool.true_and, Bool.true_and, Bool.or_true]
  have h29 : isL (f 29) = true := by
    rcases h1 29 (by omega) with z | z
    · exact z
    · exact absurd z.2.2.2 (Nat.lt_irrefl _)
  have ht : ttx f 30 = true := by
    unfold ttx
    rw [hf, decide_eq_true rfl, Bool.true_and, hlA_m1 (by omega) (by omega), decide_eq_true (by omega), Bool.true_and]
    exact h29
  have hb := wA_b (T := T) (cs := f) (n := 30) (nl := nl) (by omega) hG.gsh hG.2.1 hG.gcr hG.gao
  have hF := fw_b (S := S) (T := T) (cs := f) (n := 30) (by omega) hb 30 (Nat.le_refl _)
  have hs := hG.2.1.2
  have hWO : WOk (fwF S T f 30 30).1 (S 5 2) (S 5 3) m := ⟨by omega, ⟨by omega, by omega⟩, fun j _ => by have := hF j; omega⟩
  have hlb := lb_b (fwF S T f 30 30).1 (S 5 2) (S 5 3) (m - 1)
  refine ⟨(lbN (fwF S T f 30 30).1 (S 5 2) (S 5 3) (m - 1)).1, fun V => ?_, fun V => ?_, fun V => ?_, fun V => ?_, fun V => ?_, fun V => ?_, hf, hlb.1, by omega, by omega, fun z => ?_, ?_, ?_⟩
  · unfold txV; rw [if_pos ht, if_pos rfl]; exact h3.symm
  · unfold txV; rw [if_pos ht, if_neg (by decide), if_pos rfl, h3]
    exact wbc_sum S T f (by omega) 30 (Nat.le_refl _)
  · unfold txV; rw [if_pos ht, if_neg (by decide), if_neg (by decide), if_pos rfl, ← h2]
  · unfold txV; rw [if_pos ht, if_neg (by decide), if_neg (by decide), if_neg (by decide), if_pos rfl, ← h2]; exact h5.symm
  · unfold txV; rw [if_pos ht, if_neg (by decide), if_neg (by decide), if_neg (by decide), if_neg (by decide), if_pos rfl, ← h2]
  · unfold txV; rw [if_pos ht, if_neg (by decide), if_neg (by decide), if_neg (by decide), if_neg (by decide), if_neg (by decide), ← h2]
    exact lines_eq hWO (by omega)
  · have hg := gW_b (F := (fwF S T f 30 30).1) (sp := S 5 2) ⟨by omega, by omega⟩ (m := m) (by omega) (fun j _ => by have := hF j; omega) (m - 1) (by omega)
    have hd : due = gW (fwF S T f 30 30).1 (S 5 2) (m - 1) := by
      rw [h3, isum_words, ← h2]
      unfold gW
      rw [show m - 1 + 1 = m by omega]
    rw [lb_one (fun j hj => ?_)]
    have := hg.2.2 j hj
    rw [← hd] at this
    rw [i_lt] at z ⊢
    omega
  · rw [i_lt]; omega
  · rw [i_lt, i0_]; omega
