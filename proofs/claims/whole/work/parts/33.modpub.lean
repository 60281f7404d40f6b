/-! KernLessonsModel: its public methods -/
theorem inb_ls {v : Int32} {nl : Nat} (h : inb v 0 (nI nl - 1) = true) (hn : nl ≤ 40) : ∃ k : Nat, k < nl ∧ v = nI k := by
  cases nl with
  | zero =>
    simp only [inb, Bool.and_eq_true, Bool.not_eq_true', decide_eq_false_iff_not] at h
    obtain ⟨j, hj, rfl⟩ := nI_of h.1
    exact absurd (show nI 0 - 1 < nI j from by
      rw [i_lt, nI_toInt hj, show (nI 0 - 1).toInt = -1 from rfl]
      omega) h.2
  | succ n =>
    rw [nI_pred] at h
    obtain ⟨k, hk, rfl⟩ := inb_nI (n := n) h rfl (by omega)
    exact ⟨k, by omega, rfl⟩
theorem ls_inb {k nl : Nat} (h : k < nl) (hn : nl ≤ 40) : inb (nI k) 0 (nI nl - 1) = true := by
  cases nl with
  | zero => omega
  | succ n =>
    rw [nI_pred]
    exact nI_inb rfl (by omega) (by omega)
abbrev thr (M : Nat → Nat → Int32) (k : Int32) : Nat → Nat → Int32 := rw_ M 0 (upd (M 0) 8 k)
def svQ (q : Nat) : Nat := if q = 6 then 5 else q
theorem svQ_le {q : Nat} (h : q ≤ 6) : svQ q ≤ 5 := by unfold svQ; split <;> omega
def shl_ (f : Nat → Int32) (k : Nat) : Nat → Int32 := fun j => if j < k then f (174 + j) else f j
theorem shl_0 (f : Nat → Int32) : f = shl_ f 0 := by funext j; unfold shl_; rw [if_neg (by omega)]
theorem shl_s (f : Nat → Int32) (k : Nat) : upd (shl_ f k) k (shl_ f k (174 + k)) = shl_ f (k + 1) := by
  funext j
  unfold upd
  by_cases hj : j = k
  · rw [if_pos hj, hj, shl_, if_neg (by omega), shl_, if_pos (by omega)]
  · rw [if_neg hj]
    unfold shl_
    by_cases h2 : j < k
    · rw [if_pos h2, if_pos (by omega)]
    · rw [if_neg h2, if_neg (by omega)]
/-- the saved states, one more -/
def svF (s f : Nat → Int32) (q : Nat) : Nat → Int32 := va_cpy s (if q = 6 then shl_ f 870 else f) 0 (174 * svQ q) 174
abbrev svT (M : Nat → Nat → Int32) (q : Nat) : Nat → Nat → Int32 := rw_ (rw_ M 2 (svF (M 1) (M 2) q)) 0 (upd (M 0) 2 (nI (svQ q + 1)))
/-- .. and nothing thrown -/
abbrev svM (M : Nat → Nat → Int32) (q : Nat) : Nat → Nat → Int32 := svT (thr M 0) q
def aWidthT (M : Nat → Nat → Int32) (q : Nat) (letter width : Int32) : Nat → Nat → Int32 :=
  if inb letter 0 9 = true then if inb width 13 30 = true then rw_ (svM M q) 1 (upd (M 1) (8 + 3 * nn letter + 0) width) else thr M 2 else thr M 1
def aWidthV (M : Nat → Nat → Int32) (letter width : Int32) : Int32 :=
  if inb letter 0 9 = true then if inb width 13 30 = true then M 1 (8 + 3 * nn letter + 0) else 0 else 0
def aShapeT (M : Nat → Nat → Int32) (q : Nat) (letter left right : Int32) : Nat → Nat → Int32 :=
  if inb letter 0 9 = true then if inb left 0 3 = true then if inb right 0 3 = true then rw_ (svM M q) 1 (upd (upd (upd (M 1) (8 + 3 * nn letter + 1) left) (8 + 3 * nn letter + 2) right) 7 (M 1 7 + 1)) else thr M 2 else thr M 2 else thr M 1
def aShapeV (M : Nat → Nat → Int32) (letter left right : Int32) : Int32 :=
  if inb letter 0 9 = true then if inb left 0 3 = true then if inb right 0 3 = true then 4 * M 1 (8 + 3 * nn letter + 1) + M 1 (8 + 3 * nn letter + 2) else 0 else 0 else 0
def aBaseT (M : Nat → Nat → Int32) (q : Nat) (right left kern : Int32) : Nat → Nat → Int32 :=
  if inb right 0 3 = true then if inb left 0 3 = true then if inb kern (-12) 12 = true then rw_ (svM M q) 1 (upd (upd (M 1) (38 + 4 * nn right + nn left) kern) 7 (M 1 7 + 1)) else thr M 2 else thr M 1 else thr M 1
def aBaseV (M : Nat → Nat → Int32) (right left kern : Int32) : Int32 :=
  if inb right 0 3 = true then if inb left 0 3 = true then if inb kern (-12) 12 = true then M 1 (38 + 4 * nn right + nn left) + 100 else 0 else 0 else 0
def fitb (x : Nat) (v : Int32) : Bool := if x = 0 then inb v 1 6 else if x = 1 then inb v 2 5 else if x = 2 then inb v 1 20 else inb v 40 600
def aSetT (M : Nat → Nat → Int32) (q : Nat) (setting value : Int32) : Nat → Nat → Int32 :=
  if inb setting 0 3 = true then if fitb (nn setting) value = true then rw_ (svM M q) 1 (upd (upd (M 1) (1 + nn setting) value) 7 (M 1 7 + (if nn setting < 2 then 1 else 0))) else thr M 2 else thr M 1
def aSetV (M : Nat → Nat → Int32) (setting value : Int32) : Int32 :=
  if inb setting 0 3 = true then if fitb (nn setting) value = true then M 1 (1 + nn setting) else 0 else 0
def aCircleT (M : Nat → Nat → Int32) (q nl : Nat) (first second told : Int32) : Nat → Nat → Int32 :=
  if inb first 0 9 = true then if inb second 0 9 = true then if tld told = true then ciT (svM M q) (10 * nn first + nn second) nl told else thr M 2 else thr M 1 else thr M 1
def aCircleV (M : Nat → Nat → Int32) (q nl : Nat) (first second told : Int32) : Int32 :=
  if inb first 0 9 = true then if inb second 0 9 = true then if tld told = true then ciV (svM M q) (10 * nn first + nn second) nl told else 0 else 0 else 0
def fgM (M : Nat → Nat → Int32) (q : Nat) : Nat → Nat → Int32 := rw_ (svM M q) 1 (upd (upd (M 1) 6 (M 1 6 + 1)) 7 (M 1 7 + 1))
theorem fgM_sh {M : Nat → Nat → Int32} {q : Nat} (h : MSh (M 1)) : MSh (fgM M q 1) := by
  intro j hj
  have e : ∀ x, 8 ≤ x → fgM M q 1 x = M 1 x := fun x h1 => by
    unfold fgM
    rw [rw_s, upd_n _ _ (by omega), upd_n _ _ (by omega)]
  rw [e _ (by omega), e _ (by omega)]
  exact h j hj
theorem fgM_ls {M : Nat → Nat → Int32} {q nl : Nat} (h : MLs (M 1) nl) : MLs (fgM M q 1) nl := by
  have e : ∀ x, x < 6 ∨ 8 ≤ x → fgM M q 1 x = M 1 x := fun x h1 => by
    unfold fgM
    rw [rw_s, upd_n _ _ (by omega), upd_n _ _ (by omega)]
  refine ⟨by rw [e 0 (by omega)]; exact h.1, h.2.1, fun i hi => ?_⟩
  rw [e _ (by omega), e _ (by omega)]
  exact h.2.2 i hi
def aForgetT (M : Nat → Nat → Int32) (q nl : Nat) (lesson : Int32) : Nat → Nat → Int32 :=
  if inb lesson 0 (nI nl - 1) = true then drT (fgM M q) (nn lesson) nl else thr M 1
def aForgetV (M : Nat → Nat → Int32) (q nl : Nat) (lesson : Int32) : Int32 :=
  if inb lesson 0 (nI nl - 1) = true then nI (okN (drT (fgM M q) (nn lesson) nl)) else 0
def aAppendT (M : Nat → Nat → Int32) (n : Nat) (code : Int32) : Nat → Nat → Int32 :=
  if inb code 33 126 = true then if n = 60 then thr M 2 else rw_ (rw_ M 6 (upd (M 6) n code)) 0 (upd (upd (M 0) 8 0) 7 (nI (n + 1))) else thr M 1
def aAppendV (n : Nat) (code : Int32) : Int32 := if inb code 33 126 = true then if n = 60 then 0 else nI (n + 1) else 0
def aClearT (M : Nat → Nat → Int32) : Nat → Nat → Int32 := rw_ M 0 (upd (upd (M 0) 8 0) 7 0)
def thereB (T : Nat → Int32) (n : Nat) (place : Int32) : Bool := !decide (60 ≤ place) && (hlA T n place && hlA T n (place + 1))
def aCirAtT (M : Nat → Nat → Int32) (q nl n : Nat) (place told : Int32) : Nat → Nat → Int32 :=
  if ttx (M 6) n = true then if thereB (M 6) n place = true then if tld told = true then ciT (svM M q) (lpA (M 6) (nn place)) nl told else thr M 3 else thr M 2 else thr M 1
def aCirAtV (M : Nat → Nat → Int32) (q nl n : Nat) (place told : Int32) : Int32 :=
  if ttx (M 6) n = true then if thereB (M 6) n place = true then if tld told = true then ciV (svM M q) (lpA (M 6) (nn place)) nl told else 0 else 0 else 0
def aKeepT (M : Nat → Nat → Int32) (slot : Int32) : Nat → Nat → Int32 :=
  if inb slot 0 1 = true then rw_ (rw_ (thr M 0) 3 (va_cpy (M 1) (M 3) 0 (174 * nn slot) 174)) 4 (upd (M 4) (nn slot) 1) else thr M 1
def aKeepV (nl : Nat) (slot : Int32) : Int32 := if inb slot 0 1 = true then nI nl else 0
def aBackT (M : Nat → Nat → Int32) (q : Nat) (slot : Int32) : Nat → Nat → Int32 :=
  if inb slot 0 1 = true then if M 4 (nn slot) = 0 then thr M 2 else rw_ (svM M q) 1 (va_cpy (M 3) (M 1) (174 * nn slot) 0 174) else thr M 1
def aBackV (M : Nat → Nat → Int32) (slot : Int32) : Int32 :=
  if inb slot 0 1 = true then if M 4 (nn slot) = 0 then 0 else va_cpy (M 3) (M 1) (174 * nn slot) 0 174 0 else 0
def aUndoT (M : Nat → Nat → Int32) (q : Nat) : Nat → Nat → Int32 := if q ≤ 0 then thr M 1 else rw_ (rw_ M 1 (va_cpy (M 2) (M 1) (174 * (q - 1)) 0 174)) 0 (upd (upd (M 0) 8 0) 2 (nI (q - 1)))
def aUndoV (q : Nat) : Int32 := if q ≤ 0 then 0 else nI (q - 1)
def aLetterT (M : Nat → Nat → Int32) (letter x : Int32) : Nat → Nat → Int32 := if inb letter 0 9 = true then if inb x 0 3 = true then thr M 0 else thr M 2 else thr M 1
def aLetterV (M : Nat → Nat → Int32) (nl : Nat) (letter x : Int32) : Int32 := if inb letter 0 9 = true then if inb x 0 3 = true then ltd (M 1) nl (nn letter) (nn x) else 0 else 0
def aPairT (M : Nat → Nat → Int32) (nl : Nat) (first second x : Int32) : Nat → Nat → Int32 :=
  if inb first 0 9 = true then if inb second 0 9 = true then if inb x 0 4 = true then mlaN (thr M 0) nl else thr M 2 else thr M 1 else thr M 1
def aPairV (M : Nat → Nat → Int32) (nl : Nat) (first second x : Int32) : Int32 :=
  if inb first 0 9 = true then if inb second 0 9 = true then if inb x 0 4 = true then ptd (mlaN (thr M 0) nl) (10 * nn first + nn second) (nn x) else 0 else 0 else 0
def aShapesT (M : Nat → Nat → Int32) (nl : Nat) (right left x : Int32) : Nat → Nat → Int32 :=
  if inb right 0 3 = true then if inb left 0 3 = true then if inb x 0 3 = true then mlaN (thr M 0) nl else thr M 2 else thr M 1 else thr M 1
def aShapesV (M : Nat → Nat → Int32) (nl : Nat) (right left x : Int32) : Int32 :=
  if inb right 0 3 = true then if inb left 0 3 = true then if inb x 0 3 = true then std (mlaN (thr M 0) nl) (4 * nn right + nn left) (nn x) else 0 else 0 else 0
def aLessonT (M : Nat → Nat → Int32) (nl : Nat) (lesson x : Int32) : Nat → Nat → Int32 :=
  if inb lesson 0 (nI nl - 1) = true then if inb x 0 3 = true then mlaN (thr M 0) nl else thr M 2 else thr M 1
def aLessonV (M : Nat → Nat → Int32) (nl : Nat) (lesson x : Int32) : Int32 :=
  if inb lesson 0 (nI nl - 1) = true then if inb x 0 3 = true then lsd (mlaN (thr M 0) nl) (nn lesson) (nn x) else 0 else 0
def aCountT (M : Nat → Nat → Int32) (nl : Nat) (x : Int32) : Nat → Nat → Int32 := if inb x 0 7 = true then mlaN (thr M 0) nl else thr M 1
def aCountV (M : Nat → Nat → Int32) (nl : Nat) (x : Int32) : Int32 := if inb x 0 7 = true then ctd (mlaN (thr M 0) nl) nl (nn x) else 0
def aSettingT (M : Nat → Nat → Int32) (x : Int32) : Nat → Nat → Int32 := if inb x 0 3 = true then thr M 0 else thr M 1
def aSettingV (M : Nat → Nat → Int32) (x : Int32) : Int32 := if inb x 0 3 = true then M 1 (1 + nn x) else 0
def aTextT (M : Nat → Nat → Int32) (nl : Nat) (x : Int32) : Nat → Nat → Int32 := if inb x 0 5 = true then mlaN (thr M 0) nl else thr M 1
def aTextV (M : Nat → Nat → Int32) (nl n : Nat) (x : Int32) : Int32 := if inb x 0 5 = true then ttd (mlaN (thr M 0) nl) n (nn x) else 0
/-- of the rows, learning touches 7 to 12 alone, the dropping 1 and 13 beside -/
theorem lsT_r (M : Nat → Nat → Int32) (x : Nat) (way : Int32) {r : Nat} (h : r < 7 ∨ 12 < r) : lsT M x way r = M r := by
  unfold lsT
  split
  · rfl
  · split
    · rfl
    · rw [rw_n _ _ (by omega), rw_n _ _ (by omega)]
theorem mlA_r (M : Nat → Nat → Int32) (p : Nat) (way : Int32) {r : Nat} (h : r < 7 ∨ 12 < r) : mlA M p way r = M r := by
  unfold mlA
  split
  · rw [rw_n _ _ (by omega)]
  · split
    · rfl
    · rw [rw_n _ _ (by omega)]
theorem mlB_r (M : Nat → Nat → Int32) (p : Nat) (way : Int32) {r : Nat} (h : r < 7 ∨ 12 < r) : mlB M p way r = M r := by
  unfold mlB
  rw [rw_n _ _ (by omega), rw_n _ _ (by omega), rw_n _ _ (by omega)]
theorem mlT_r (M : Nat → Nat → Int32) (k : Nat) {r : Nat} (h : r < 7 ∨ 12 < r) : mlT M k r = M r := by
  unfold mlT
  split
  · rw [rw_n _ _ (by omega)]
  · rw [lsT_r _ _ _ h, mlB_r _ _ _ h, mlA_r _ _ _ h, rw_n _ _ (by omega)]
theorem mlaN_r (M : Nat → Nat → Int32) {r : Nat} (h : r < 7 ∨ 12 < r) : ∀ n, mlaN M n r = M r
  | 0 => by
    rw [mlaN, mla0, rw_n _ _ (by omega), rw_n _ _ (by omega), rw_n _ _ (by omega), rw_n _ _ (by omega)]
  | n + 1 => by rw [mlaN, mlT_r _ _ h, mlaN_r M h n]
theorem drT_r (M : Nat → Nat → Int32) (k nl : Nat) {r : Nat} (h : r < 7) (h1 : r ≠ 1) : drT M k nl r = M r := by
  rw [drT, mlaN_r _ (by omega), drB, rw_n _ _ h1, drA, rw_n _ _ (by omega), mlaN_r _ (by omega)]
theorem ciT_r (M : Nat → Nat → Int32) (p nl : Nat) (way : Int32) {r : Nat} (h : r < 7) (h1 : r ≠ 1) : ciT M p nl way r = M r := by
  unfold ciT
  split
  · rw [rw_n _ _ h1, mlaN_r _ (by omega)]
  · rw [mlaN_r _ (by omega), adM, rw_n _ _ h1, mlaN_r _ (by omega)]
/-- what a circle would do; a lesson less -/
def bfM (M : Nat → Nat → Int32) : Nat → Nat → Int32 := rw_ M 5 (M 1)
def aIfCT (M : Nat → Nat → Int32) (nl : Nat) (first second told : Int32) : Nat → Nat → Int32 :=
  if inb first 0 9 = true then if inb second 0 9 = true then if tld told = true then rw_ (ciT (bfM (thr M 0)) (10 * nn first + nn second) nl told) 1 (M 1) else thr M 2 else thr M 1 else thr M 1
def aIfCV (M : Nat → Nat → Int32) (nl : Nat) (first second told : Int32) : Int32 :=
  if inb first 0 9 = true then if inb second 0 9 = true then if tld told = true then ciV (bfM (thr M 0)) (10 * nn first + nn second) nl told else 0 else 0 else 0
def wiT (M : Nat → Nat → Int32) (k nl : Nat) : Nat → Nat → Int32 := rw_ (drT (bfM M) k nl) 1 (M 1)
def wiV (M : Nat → Nat → Int32) (k nl : Nat) : Nat := okN (drT (bfM M) k nl)
def aIfFT (M : Nat → Nat → Int32) (nl : Nat) (lesson : Int32) : Nat → Nat → Int32 := if inb lesson 0 (nI nl - 1) = true then wiT (thr M 0) (nn lesson) nl else thr M 1
def aIfFV (M : Nat → Nat → Int32) (nl : Nat) (lesson : Int32) : Int32 := if inb lesson 0 (nI nl - 1) = true then nI (wiV (thr M 0) (nn lesson) nl) else 0
/-- every lesson left out once -/
def mnT (M : Nat → Nat → Int32) (nl : Nat) : Nat → Nat → Nat → Int32
  | 0 => M
  | k + 1 => wiT (mnT M nl k) k nl
def mnF (M : Nat → Nat → Int32) (nl : Nat) : Nat → Int32 × Int32
  | 0 => (-1, -1)
  | k + 1 => if nI (wiV (mnT M nl k) k nl) ≤ (mnF M nl k).2 then mnF M nl k else (nI k, nI (wiV (mnT M nl k) k nl))
theorem mnT_1 (M : Nat → Nat → Int32) (nl : Nat) : ∀ k, mnT M nl k 1 = M 1
  | 0 => rfl
  | k + 1 => by rw [mnT, wiT, rw_s, mnT_1 M nl k]

set_option maxHeartbeats 4000000 in
set_option maxRecDepth 100000 in
theorem m_X5_save (l : Launch) (g : GG) (m : Nat) (M : Nat → Nat → Int32) (hs : Int64) (q : Nat) (hq : q ≤ 6) (h2 : M 0 2 = nI q) : MW l g yX5_save cX5_save 2 none ({ frames := 1, cells := 0, slots := 0, locals := 24 } : Room) [.ref m] (mW g m M hs) (mW g m (svT M q) hs) none := by
  refine MW.of rfl (Nat.le_of_ble_eq_true rfl) ?_
  intro zp ze zs zm zbelow zmeth zc ls zS hr hlk hK hP hD hS hl
  obtain ⟨hx, hb, hml, hown, hts⟩ := id zS
  have hl : lv_has ls 2 [(0, .ref m)] := hl
  have loop_50 : ∀ (q1 : Nat) (f2 : Nat → Int32) (hq1 : q1 = svQ q) (hf2 : f2 = if q = 6 then shl_ (M 2) 870 else M 2), ∀ (H : Heap) (locs : List Loc), PP g [(m, .inr (5, [.ref (m + 1), .ref (m + 2), .int (nI q1), .ref (m + 3), .ref (m + 4), .ref (m + 5), .ref (m + 6), .int (M 0 7), .int (M 0 8), .ref (m + 7), .ref (m + 8), .ref (m + 9), .ref (m + 10), .ref (m + 11), .ref (m + 12), .ref (m + 13), .long hs])), (m + 1, .inl (g.2 0, 174, .inl (M 1))), (m + 2, .inl (g.2 0, 1044, .inl f2)), (m + 3, .inl (g.2 0, 348, .inl (M 3))), (m + 4, .inl (g.2 1, 2, .inl (M 4))), (m + 5, .inl (g.2 0, 174, .inl (M 5))), (m + 6, .inl (g.2 0, 60, .inl (M 6))), (m + 7, .inl (g.2 0, 16, .inl (M 7))), (m + 8, .inl (g.2 0, 100, .inl (M 8))), (m + 9, .inl (g.2 0, 100, .inl (M 9))), (m + 10, .inl (g.2 0, 100, .inl (M 10))), (m + 11, .inl (g.2 0, 100, .inl (M 11))), (m + 12, .inl (g.2 1, 40, .inl (M 12))), (m + 13, .inl (g.2 0, 100, .inl (M 13)))] H → va_D (inW (mW g m M hs)) [(m, .inr (5, [.ref (m + 1), .ref (m + 2), .int (nI q1), .ref (m + 3), .ref (m + 4), .ref (m + 5), .ref (m + 6), .int (M 0 7), .int (M 0 8), .ref (m + 7), .ref (m + 8), .ref (m + 9), .ref (m + 10), .ref (m + 11), .ref (m + 12), .ref (m + 13), .long hs])), (m + 1, .inl (g.2 0, 174, .inl (M 1))), (m + 2, .inl (g.2 0, 1044, .inl f2)), (m + 3, .inl (g.2 0, 348, .inl (M 3))), (m + 4, .inl (g.2 1, 2, .inl (M 4))), (m + 5, .inl (g.2 0, 174, .inl (M 5))), (m + 6, .inl (g.2 0, 60, .inl (M 6))), (m + 7, .inl (g.2 0, 16, .inl (M 7))), (m + 8, .inl (g.2 0, 100, .inl (M 8))), (m + 9, .inl (g.2 0, 100, .inl (M 9))), (m + 10, .inl (g.2 0, 100, .inl (M 10))), (m + 11, .inl (g.2 0, 100, .inl (M 11))), (m + 12, .inl (g.2 1, 40, .inl (M 12))), (m + 13, .inl (g.2 0, 100, .inl (M 13)))] → va_S (inW (mW g m M hs)) zs.heap H locs → ∀ ls : Array Slot, lv_has ls 2 [(0, .ref m)] → W zp l ze ({ frames := 1, cells := 0, slots := 0, locals := 24 } : Room) zs zm ([.ref m] : List Value).toArray zbelow zmeth zc H locs 0 0 (MQ zbelow (QW g (mW g m M hs) (mW g m (svT M q) hs) none) ([.ref m] : List Value).toArray zs 0 0 (inW (mW g m M hs))) (F0 zm 50 ls []) := by
    intro q1 f2 hq1 hf2 H locs hP hD hS ls hl
    have hq5 := svQ_le hq
    refine lv_aload_n hx hb dX5_save_50 rfl (lv_at hl 0 rfl) ?_
    refine gf zS hK hP iG5 rfl 0 rfl 0 (by decide) q757 rfl rfl dX5_save_51 ?_
    refine lv_iconst (v := 0) hx hb dX5_save_54 (by decide) ?_
    refine lv_aload_n hx hb dX5_save_55 rfl (lv_at hl 0 rfl) ?_
    refine gf zS hK hP iG5 rfl 0 rfl 1 (by decide) q758 rfl rfl dX5_save_56 ?_
    refine lv_sipush (v := 174) hx hb dX5_save_59 (by decide) ?_
    refine lv_aload_n hx hb dX5_save_62 rfl (lv_at hl 0 rfl) ?_
    refine gf zS hK hP iG5 rfl 0 rfl 2 (by decide) q759 rfl rfl dX5_save_63 ?_
    refine lv_imul hx hb dX5_save_66 ?_
    refine topE (pk_mul 174 q1) ?_
    refine wrS (rest := []) zS hK hP hD hS (m_X5_copy l g (m + 1) 174 (M 1) (m + 2) 1044 f2 0 (by omega) (by omega) (174 * q1) (by omega) (by omega)) cw_X5_copy q831 [1, 2] rfl (by decide) rfl ⟨Nat.le_of_ble_eq_true rfl, Nat.le_of_ble_eq_true rfl, rfl, rfl⟩ rfl rfl (Nat.le_of_ble_eq_true rfl) hl.1 dX5_save_67 ⟨Nat.zero_le _, Nat.zero_le _⟩ (fun H locs hP hD hS => ?_)
    have hP : PP g [(m, .inr (5, [.ref (m + 1), .ref (m + 2), .int (nI q1), .ref (m + 3), .ref (m + 4), .ref (m + 5), .ref (m + 6), .int (M 0 7), .int (M 0 8), .ref (m + 7), .ref (m + 8), .ref (m + 9), .ref (m + 10), .ref (m + 11), .ref (m + 12), .ref (m + 13), .long hs])), (m + 1, .inl (g.2 0, 174, .inl (M 1))), (m + 2, .inl (g.2 0, 1044, .inl (va_cpy (M 1) f2 0 (174 * q1) 174))), (m + 3, .inl (g.2 0, 348, .inl (M 3))), (m + 4, .inl (g.2 1, 2, .inl (M 4))), (m + 5, .inl (g.2 0, 174, .inl (M 5))), (m + 6, .inl (g.2 0, 60, .inl (M 6))), (m + 7, .inl (g.2 0, 16, .inl (M 7))), (m + 8, .inl (g.2 0, 100, .inl (M 8))), (m + 9, .inl (g.2 0, 100, .inl (M 9))), (m + 10, .inl (g.2 0, 100, .inl (M 10))), (m + 11, .inl (g.2 0, 100, .inl (M 11))), (m + 12, .inl (g.2 1, 40, .inl (M 12))), (m + 13, .inl (g.2 0, 100, .inl (M 13)))] H := hP
    have hD : va_D (inW (mW g m M hs)) [(m, .inr (5, [.ref (m + 1), .ref (m + 2), .int (nI q1), .ref (m + 3), .ref (m + 4), .ref (m + 5), .ref (m + 6), .int (M 0 7), .int (M 0 8), .ref (m + 7), .ref (m + 8), .ref (m + 9), .ref (m + 10), .ref (m + 11), .ref (m + 12), .ref (m + 13), .long hs])), (m + 1, .inl (g.2 0, 174, .inl (M 1))), (m + 2, .inl (g.2 0, 1044, .inl (va_cpy (M 1) f2 0 (174 * q1) 174))), (m + 3, .inl (g.2 0, 348, .inl (M 3))), (m + 4, .inl (g.2 1, 2, .inl (M 4))), (m + 5, .inl (g.2 0, 174, .inl (M 5))), (m + 6, .inl (g.2 0, 60, .inl (M 6))), (m + 7, .inl (g.2 0, 16, .inl (M 7))), (m + 8, .inl (g.2 0, 100, .inl (M 8))), (m + 9, .inl (g.2 0, 100, .inl (M 9))), (m + 10, .inl (g.2 0, 100, .inl (M 10))), (m + 11, .inl (g.2 0, 100, .inl (M 11))), (m + 12, .inl (g.2 1, 40, .inl (M 12))), (m + 13, .inl (g.2 0, 100, .inl (M 13)))] := hD
    refine lv_aload_n hx hb dX5_save_70 rfl (lv_at hl 0 rfl) ?_
    refine lv_dup hx hb dX5_save_71 rfl ?_
    refine gf zS hK hP iG5 rfl 0 rfl 2 (by decide) q759 rfl rfl dX5_save_72 ?_
    refine lv_iconst (v := 1) hx hb dX5_save_75 (by decide) ?_
    refine lv_iadd hx hb dX5_save_76 ?_
    refine topE (nI_add q1 1) ?_
    refine pf tyX5 tyX5_ok nmX5 zS hK hP hD hS iG5 rfl 0 rfl 2 (by decide) q759 rfl rfl rfl rfl rfl (Nat.le_of_ble_eq_true rfl) dX5_save_77 (fun H locs hP hD hS => ?_)
    have hP : PP g [(m, .inr (5, [.ref (m + 1), .ref (m + 2), .int (nI (q1 + 1)), .ref (m + 3), .ref (m + 4), .ref (m + 5), .ref (m + 6), .int (M 0 7), .int (M 0 8), .ref (m + 7), .ref (m + 8), .ref (m + 9), .ref (m + 10), .ref (m + 11), .ref (m + 12), .ref (m + 13), .long hs])), (m + 1, .inl (g.2 0, 174, .inl (M 1))), (m + 2, .inl (g.2 0, 1044, .inl (va_cpy (M 1) f2 0 (174 * q1) 174))), (m + 3, .inl (g.2 0, 348, .inl (M 3))), (m + 4, .inl (g.2 1, 2, .inl (M 4))), (m + 5, .inl (g.2 0, 174, .inl (M 5))), (m + 6, .inl (g.2 0, 60, .inl (M 6))), (m + 7, .inl (g.2 0, 16, .inl (M 7))), (m + 8, .inl (g.2 0, 100, .inl (M 8))), (m + 9, .inl (g.2 0, 100, .inl (M 9))), (m + 10, .inl (g.2 0, 100, .inl (M 10))), (m + 11, .inl (g.2 0, 100, .inl (M 11))), (m + 12, .inl (g.2 1, 40, .inl (M 12))), (m + 13, .inl (g.2 0, 100, .inl (M 13)))] H := hP
    have hD : va_D (inW (mW g m M hs)) [(m, .inr (5, [.ref (m + 1), .ref (m + 2), .int (nI (q1 + 1)), .ref (m + 3), .ref (m + 4), .ref (m + 5), .ref (m + 6), .int (M 0 7), .int (M 0 8), .ref (m + 7), .ref (m + 8), .ref (m + 9), .ref (m + 10), .ref (m + 11), .ref (m + 12), .ref (m + 13), .long hs])), (m + 1, .inl (g.2 0, 174, .inl (M 1))), (m + 2, .inl (g.2 0, 1044, .inl (va_cpy (M 1) f2 0 (174 * q1) 174))), (m + 3, .inl (g.2 0, 348, .inl (M 3))), (m + 4, .inl (g.2 1, 2, .inl (M 4))), (m + 5, .inl (g.2 0, 174, .inl (M 5))), (m + 6, .inl (g.2 0, 60, .inl (M 6))), (m + 7, .inl (g.2 0, 16, .inl (M 7))), (m + 8, .inl (g.2 0, 100, .inl (M 8))), (m + 9, .inl (g.2 0, 100, .inl (M 9))), (m + 10, .inl (g.2 0, 100, .inl (M 10))), (m + 11, .inl (g.2 0, 100, .inl (M 11))), (m + 12, .inl (g.2 1, 40, .inl (M 12))), (m + 13, .inl (g.2 0, 100, .inl (M 13)))] := hD
    refine w_v hx hb hr hlk hS dX5_save_80 ?_
    (rw [hf2, hq1] at hP; exact hP)
  refine lv_aload_n hx hb dX5_save_0 rfl (lv_at hl 0 rfl) ?_
  refine gf zS hK hP iG5 rfl 0 rfl 2 (by decide) q759 rfl rfl dX5_save_1 ?_
  refine topE (y := nI q) (h2) ?_
  refine lv_bipush (v := 6) hx hb dX5_save_4 (by decide) ?_
  refine lv_icmp_ne (tgt := 50) hx hb dX5_save_6 (by decide) (fun c_6 => ?_) (fun c_6 => ?_)
  · skip
    have c_6 : q ≠ 6 := fun z => c_6 ((nI_eq (a := q) (b := 6) (by omega) (by omega)).mpr z)
    have hP : PP g [(m, .inr (5, [.ref (m + 1), .ref (m + 2), .int (nI q), .ref (m + 3), .ref (m + 4), .ref (m + 5), .ref (m + 6), .int (M 0 7), .int (M 0 8), .ref (m + 7), .ref (m + 8), .ref (m + 9), .ref (m + 10), .ref (m + 11), .ref (m + 12), .ref (m + 13), .long hs])), (m + 1, .inl (g.2 0, 174, .inl (M 1))), (m + 2, .inl (g.2 0, 1044, .inl (M 2))), (m + 3, .inl (g.2 0, 348, .inl (M 3))), (m + 4, .inl (g.2 1, 2, .inl (M 4))), (m + 5, .inl (g.2 0, 174, .inl (M 5))), (m + 6, .inl (g.2 0, 60, .inl (M 6))), (m + 7, .inl (g.2 0, 16, .inl (M 7))), (m + 8, .inl (g.2 0, 100, .inl (M 8))), (m + 9, .inl (g.2 0, 100, .inl (M 9))), (m + 10, .inl (g.2 0, 100, .inl (M 10))), (m + 11, .inl (g.2 0, 100, .inl (M 11))), (m + 12, .inl (g.2 1, 40, .inl (M 12))), (m + 13, .inl (g.2 0, 100, .inl (M 13)))] zs.heap := by rw [← h2]; exact hP
    have hD : va_D (inW (mW g m M hs)) [(m, .inr (5, [.ref (m + 1), .ref (m + 2), .int (nI q), .ref (m + 3), .ref (m + 4), .ref (m + 5), .ref (m + 6), .int (M 0 7), .int (M 0 8), .ref (m + 7), .ref (m + 8), .ref (m + 9), .ref (m + 10), .ref (m + 11), .ref (m + 12), .ref (m + 13), .long hs])), (m + 1, .inl (g.2 0, 174, .inl (M 1))), (m + 2, .inl (g.2 0, 1044, .inl (M 2))), (m + 3, .inl (g.2 0, 348, .inl (M 3))), (m + 4, .inl (g.2 1, 2, .inl (M 4))), (m + 5, .inl (g.2 0, 174, .inl (M 5))), (m + 6, .inl (g.2 0, 60, .inl (M 6))), (m + 7, .inl (g.2 0, 16, .inl (M 7))), (m + 8, .inl (g.2 0, 100, .inl (M 8))), (m + 9, .inl (g.2 0, 100, .inl (M 9))), (m + 10, .inl (g.2 0, 100, .inl (M 10))), (m + 11, .inl (g.2 0, 100, .inl (M 11))), (m + 12, .inl (g.2 1, 40, .inl (M 12))), (m + 13, .inl (g.2 0, 100, .inl (M 13)))] := by rw [← h2]; exact hD
    exact loop_50 q (M 2) (by rw [svQ, if_neg c_6]) (by rw [if_neg c_6]) _ _ hP hD hS _ (lv_sub hl [0] rfl)
  · skip
    have c_6 : q = 6 := (nI_eq (a := q) (b := 6) (by omega) (by omega)).mp c_6
    refine lv_iconst (v := 0) hx hb dX5_save_9 (by decide) ?_
    refine lv_istore_n (lv' := [(1, .int 0), (0, .ref m)]) hx hb dX5_save_10 rfl hl (by decide) rfl (fun ls hl => ?_)
    have loop_11 : ∀ (r_ : Nat) (k : Nat) (f : Nat → Int32) (h_m : 870 - k < r_) (hk : k ≤ 870) (hf : f = shl_ (M 2) k), ∀ (H : Heap) (locs : List Loc), PP g [(m, .inr (5, [.ref (m + 1), .ref (m + 2), .int (M 0 2), .ref (m + 3), .ref (m + 4), .ref (m + 5), .ref (m + 6), .int (M 0 7), .int (M 0 8), .ref (m + 7), .ref (m + 8), .ref (m + 9), .ref (m + 10), .ref (m + 11), .ref (m + 12), .ref (m + 13), .long hs])), (m + 1, .inl (g.2 0, 174, .inl (M 1))), (m + 2, .inl (g.2 0, 1044, .inl f)), (m + 3, .inl (g.2 0, 348, .inl (M 3))), (m + 4, .inl (g.2 1, 2, .inl (M 4))), (m + 5, .inl (g.2 0, 174, .inl (M 5))), (m + 6, .inl (g.2 0, 60, .inl (M 6))), (m + 7, .inl (g.2 0, 16, .inl (M 7))), (m + 8, .inl (g.2 0, 100, .inl (M 8))), (m + 9, .inl (g.2 0, 100, .inl (M 9))), (m + 10, .inl (g.2 0, 100, .inl (M 10))), (m + 11, .inl (g.2 0, 100, .inl (M 11))), (m + 12, .inl (g.2 1, 40, .inl (M 12))), (m + 13, .inl (g.2 0, 100, .inl (M 13)))] H → va_D (inW (mW g m M hs)) [(m, .inr (5, [.ref (m + 1), .ref (m + 2), .int (M 0 2), .ref (m + 3), .ref (m + 4), .ref (m + 5), .ref (m + 6), .int (M 0 7), .int (M 0 8), .ref (m + 7), .ref (m + 8), .ref (m + 9), .ref (m + 10), .ref (m + 11), .ref (m + 12), .ref (m + 13), .long hs])), (m + 1, .inl (g.2 0, 174, .inl (M 1))), (m + 2, .inl (g.2 0, 1044, .inl f)), (m + 3, .inl (g.2 0, 348, .inl (M 3))), (m + 4, .inl (g.2 1, 2, .inl (M 4))), (m + 5, .inl (g.2 0, 174, .inl (M 5))), (m + 6, .inl (g.2 0, 60, .inl (M 6))), (m + 7, .inl (g.2 0, 16, .inl (M 7))), (m + 8, .inl (g.2 0, 100, .inl (M 8))), (m + 9, .inl (g.2 0, 100, .inl (M 9))), (m + 10, .inl (g.2 0, 100, .inl (M 10))), (m + 11, .inl (g.2 0, 100, .inl (M 11))), (m + 12, .inl (g.2 1, 40, .inl (M 12))), (m + 13, .inl (g.2 0, 100, .inl (M 13)))] → va_S (inW (mW g m M hs)) zs.heap H locs → ∀ ls : Array Slot, lv_has ls 2 [(0, .ref m), (1, .int (nI k))] → W zp l ze ({ frames := 1, cells := 0, slots := 0, locals := 24 } : Room) zs zm ([.ref m] : List Value).toArray zbelow zmeth zc H locs 0 0 (MQ zbelow (QW g (mW g m M hs) (mW g m (svT M q) hs) none) ([.ref m] : List Value).toArray zs 0 0 (inW (mW g m M hs))) (F0 zm 11 ls []) := by
      intro r_
      induction r_ with
      | zero => intro k f h_m hk hf; exact absurd h_m (by omega)
      | succ r_ ih_11 =>
        intro k f h_m hk hf H locs hP hD hS ls hl
        refine lv_iload_n hx hb dX5_save_11 rfl (lv_at hl 1 rfl) ?_
        refine lv_sipush (v := 870) hx hb dX5_save_12 (by decide) ?_
        refine lv_icmp_ge (tgt := 40) hx hb dX5_save_15 (by decide) (fun c_15 => ?_) (fun c_15 => ?_)
        · skip
          have c_15 : 870 ≤ k := (nI_leI (a := 870) (b := k) (by omega) (by omega)).mp c_15
          refine lv_aload_n hx hb dX5_save_40 rfl (lv_at hl 0 rfl) ?_
          refine lv_dup hx hb dX5_save_41 rfl ?_
          refine gf zS hK hP iG5 rfl 0 rfl 2 (by decide) q759 rfl rfl dX5_save_42 ?_
          refine topE (y := nI q) (h2) ?_
          refine lv_iconst (v := 1) hx hb dX5_save_45 (by decide) ?_
          refine lv_isub hx hb dX5_save_46 ?_
          refine topE (pk_sub (a := q) (b := 1) (by omega)) ?_
          refine pf tyX5 tyX5_ok nmX5 zS hK hP hD hS iG5 rfl 0 rfl 2 (by decide) q759 rfl rfl rfl rfl rfl (Nat.le_of_ble_eq_true rfl) dX5_save_47 (fun H locs hP hD hS => ?_)
          have hP : PP g [(m, .inr (5, [.ref (m + 1), .ref (m + 2), .int (nI (q - 1)), .ref (m + 3), .ref (m + 4), .ref (m + 5), .ref (m + 6), .int (M 0 7), .int (M 0 8), .ref (m + 7), .ref (m + 8), .ref (m + 9), .ref (m + 10), .ref (m + 11), .ref (m + 12), .ref (m + 13), .long hs])), (m + 1, .inl (g.2 0, 174, .inl (M 1))), (m + 2, .inl (g.2 0, 1044, .inl f)), (m + 3, .inl (g.2 0, 348, .inl (M 3))), (m + 4, .inl (g.2 1, 2, .inl (M 4))), (m + 5, .inl (g.2 0, 174, .inl (M 5))), (m + 6, .inl (g.2 0, 60, .inl (M 6))), (m + 7, .inl (g.2 0, 16, .inl (M 7))), (m + 8, .inl (g.2 0, 100, .inl (M 8))), (m + 9, .inl (g.2 0, 100, .inl (M 9))), (m + 10, .inl (g.2 0, 100, .inl (M 10))), (m + 11, .inl (g.2 0, 100, .inl (M 11))), (m + 12, .inl (g.2 1, 40, .inl (M 12))), (m + 13, .inl (g.2 0, 100, .inl (M 13)))] H := hP
          have hD : va_D (inW (mW g m M hs)) [(m, .inr (5, [.ref (m + 1), .ref (m + 2), .int (nI (q - 1)), .ref (m + 3), .ref (m + 4), .ref (m + 5), .ref (m + 6), .int (M 0 7), .int (M 0 8), .ref (m + 7), .ref (m + 8), .ref (m + 9), .ref (m + 10), .ref (m + 11), .ref (m + 12), .ref (m + 13), .long hs])), (m + 1, .inl (g.2 0, 174, .inl (M 1))), (m + 2, .inl (g.2 0, 1044, .inl f)), (m + 3, .inl (g.2 0, 348, .inl (M 3))), (m + 4, .inl (g.2 1, 2, .inl (M 4))), (m + 5, .inl (g.2 0, 174, .inl (M 5))), (m + 6, .inl (g.2 0, 60, .inl (M 6))), (m + 7, .inl (g.2 0, 16, .inl (M 7))), (m + 8, .inl (g.2 0, 100, .inl (M 8))), (m + 9, .inl (g.2 0, 100, .inl (M 9))), (m + 10, .inl (g.2 0, 100, .inl (M 10))), (m + 11, .inl (g.2 0, 100, .inl (M 11))), (m + 12, .inl (g.2 1, 40, .inl (M 12))), (m + 13, .inl (g.2 0, 100, .inl (M 13)))] := hD
          exact loop_50 (q - 1) f (by rw [svQ, if_pos c_6]; omega) (by rw [if_pos c_6, hf, show k = 870 by omega]) _ _ hP hD hS _ (lv_sub hl [0] rfl)
        · skip
          have c_15 : k < 870 := Nat.lt_of_not_le (fun z => c_15 ((nI_leI (a := 870) (b := k) (by omega) (by omega)).mpr z))
          refine lv_aload_n hx hb dX5_save_18 rfl (lv_at hl 0 rfl) ?_
          refine gf zS hK hP iG5 rfl 0 rfl 1 (by decide) q758 rfl rfl dX5_save_19 ?_
          refine lv_iload_n hx hb dX5_save_22 rfl (lv_at hl 1 rfl) ?_
          refine lv_aload_n hx hb dX5_save_23 rfl (lv_at hl 0 rfl) ?_
          refine gf zS hK hP iG5 rfl 0 rfl 1 (by decide) q758 rfl rfl dX5_save_24 ?_
          refine lv_sipush (v := 174) hx hb dX5_save_27 (by decide) ?_
          refine lv_iload_n hx hb dX5_save_30 rfl (lv_at hl 1 rfl) ?_
          refine lv_iadd hx hb dX5_save_31 ?_
          refine topE (nI_add 174 k) ?_
          refine aldN (j := (174 + k)) hx hb hK hP 2 0 rfl rfl rfl (by omega) (by decide) dX5_save_32 ?_
          refine astN (j := k) hx hb hK hP hD hS 2 0 rfl rfl rfl (by omega) (by decide) dX5_save_33 (fun H locs hP hD hS => ?_)
          have hP : PP g [(m, .inr (5, [.ref (m + 1), .ref (m + 2), .int (M 0 2), .ref (m + 3), .ref (m + 4), .ref (m + 5), .ref (m + 6), .int (M 0 7), .int (M 0 8), .ref (m + 7), .ref (m + 8), .ref (m + 9), .ref (m + 10), .ref (m + 11), .ref (m + 12), .ref (m + 13), .long hs])), (m + 1, .inl (g.2 0, 174, .inl (M 1))), (m + 2, .inl (g.2 0, 1044, .inl (upd f k (f (174 + k))))), (m + 3, .inl (g.2 0, 348, .inl (M 3))), (m + 4, .inl (g.2 1, 2, .inl (M 4))), (m + 5, .inl (g.2 0, 174, .inl (M 5))), (m + 6, .inl (g.2 0, 60, .inl (M 6))), (m + 7, .inl (g.2 0, 16, .inl (M 7))), (m + 8, .inl (g.2 0, 100, .inl (M 8))), (m + 9, .inl (g.2 0, 100, .inl (M 9))), (m + 10, .inl (g.2 0, 100, .inl (M 10))), (m + 11, .inl (g.2 0, 100, .inl (M 11))), (m + 12, .inl (g.2 1, 40, .inl (M 12))), (m + 13, .inl (g.2 0, 100, .inl (M 13)))] H := hP
          have hD : va_D (inW (mW g m M hs)) [(m, .inr (5, [.ref (m + 1), .ref (m + 2), .int (M 0 2), .ref (m + 3), .ref (m + 4), .ref (m + 5), .ref (m + 6), .int (M 0 7), .int (M 0 8), .ref (m + 7), .ref (m + 8), .ref (m + 9), .ref (m + 10), .ref (m + 11), .ref (m + 12), .ref (m + 13), .long hs])), (m + 1, .inl (g.2 0, 174, .inl (M 1))), (m + 2, .inl (g.2 0, 1044, .inl (upd f k (f (174 + k))))), (m + 3, .inl (g.2 0, 348, .inl (M 3))), (m + 4, .inl (g.2 1, 2, .inl (M 4))), (m + 5, .inl (g.2 0, 174, .inl (M 5))), (m + 6, .inl (g.2 0, 60, .inl (M 6))), (m + 7, .inl (g.2 0, 16, .inl (M 7))), (m + 8, .inl (g.2 0, 100, .inl (M 8))), (m + 9, .inl (g.2 0, 100, .inl (M 9))), (m + 10, .inl (g.2 0, 100, .inl (M 10))), (m + 11, .inl (g.2 0, 100, .inl (M 11))), (m + 12, .inl (g.2 1, 40, .inl (M 12))), (m + 13, .inl (g.2 0, 100, .inl (M 13)))] := hD
          refine lv_iinc (v := nI (k + 1)) (lv' := [(1, .int (nI (k + 1))), (0, .ref m)]) hx hb dX5_save_34 hl (k := 1) rfl (by first | exact nI_add _ 1 | exact nI_1 _) (by decide) rfl (fun ls hl => ?_)
          refine lv_goto (tgt := 11) hx hb dX5_save_37 (by decide) ?_
          exact ih_11 (k + 1) (upd f k (f (174 + k))) (by omega) (by omega) (by rw [hf]; exact shl_s _ _) _ _ hP hD hS _ (lv_sub hl [1, 0] rfl)
    exact loop_11 871 0 (M 2) (by omega) (by omega) (shl_0 _) _ _ hP hD hS _ (lv_sub hl [1, 0] rfl)
theorem cw_X5_save : CWV yX5_save cX5_save 2 none 0 := ⟨⟨q830, q65, by decide +kernel, by decide +kernel, by decide +kernel⟩, q829, q16⟩
set_option maxHeartbeats 4000000 in
set_option maxRecDepth 100000 in
theorem m_X5_width (l : Launch) (g : GG) (m : Nat) (M : Nat → Nat → Int32) (hs : Int64) (hSh : MSh (M 1)) (nl : Nat) (hL : MLs (M 1) nl) (q : Nat) (hq : q ≤ 6) (h2 : M 0 2 = nI q) (n : Nat) (hn : n ≤ 60) (h7 : M 0 7 = nI n) (letter width : Int32) : MW l g yX5_width cX5_width 4 (some .int) ({ frames := 2, cells := 0, slots := 0, locals := 45 } : Room) [.ref m, .int letter, .int width] (mW g m M hs) (mW g m (aWidthT M q letter width) hs) (some (.int (aWidthV M letter width))) := by
  refine MW.of rfl (Nat.le_of_ble_eq_true rfl) ?_
  intro zp ze zs zm zbelow zmeth zc ls zS hr hlk hK hP hD hS hl
  obtain ⟨hx, hb, hml, hown, hts⟩ := id zS
  have hl : lv_has ls 4 [(0, .ref m), (1, .int letter), (2, .int width)] := hl
  have hnl := hL.2.1
  refine lv_aload_n hx hb dX5_width_0 rfl (lv_at hl 0 rfl) ?_
  refine lv_iload_n hx hb dX5_width_1 rfl (lv_at hl 1 rfl) ?_
  refine rdS (rest := [.ref m]) zS hK hP (m_X5_isLetter l g letter) cw_X5_isLetter q817 [] rfl ⟨Nat.le_of_ble_eq_true rfl, Nat.le_of_ble_eq_true rfl, rfl, rfl⟩ rfl rfl (Nat.le_of_ble_eq_true rfl) hl.1 dX5_width_2 ⟨Nat.zero_le _, Nat.zero_le _⟩ ?_
  refine lv_if_ne (tgt := 12) hx hb dX5_width_5 (by decide) (fun c_5 => ?_) (fun c_5 => ?_)
  · skip
    have c_5 : (inb letter 0 9) = true := bI_n0.mp c_5
    obtain ⟨k, h_k, rfl⟩ := inb_nI (n := 9) c_5 rfl (by omega)
    have hn_k : nn (nI k) = k := nI_clamp (by omega)
    refine lv_iload_n hx hb dX5_width_12 rfl (lv_at hl 2 rfl) ?_
    refine lv_bipush (v := 13) hx hb dX5_width_13 (by decide) ?_
    refine lv_bipush (v := 30) hx hb dX5_width_15 (by decide) ?_
    refine rdS (rest := [.ref m]) zS hK hP (m_X5_in l g width 13 30) cw_X5_in q820 [] rfl ⟨Nat.le_of_ble_eq_true rfl, Nat.le_of_ble_eq_true rfl, rfl, rfl⟩ rfl rfl (Nat.le_of_ble_eq_true rfl) hl.1 dX5_width_17 ⟨Nat.zero_le _, Nat.zero_le _⟩ ?_
    refine lv_if_ne (tgt := 27) hx hb dX5_width_20 (by decide) (fun c_20 => ?_) (fun c_20 => ?_)
    · skip
      have c_20 : (inb width 13 30) = true := bI_n0.mp c_20
      refine lv_iconst (v := 0) hx hb dX5_width_27 (by decide) ?_
      refine wrV (rest := []) zS hK hP hD hS (m_X5_holds l g m M hs 0) cw_X5_holds q823 [0, 1, 2, 3, 4, 5, 6, 7, 8, 9, 10, 11, 12, 13] rfl (by decide) rfl 0 rfl rfl ⟨Nat.le_of_ble_eq_true rfl, Nat.le_of_ble_eq_true rfl, rfl, rfl⟩ rfl rfl (Nat.le_of_ble_eq_true rfl) hl.1 dX5_width_28 ⟨Nat.zero_le _, Nat.zero_le _⟩ (fun H locs hP hD hS => ?_)
      have hP : PP g [(m, .inr (5, [.ref (m + 1), .ref (m + 2), .int (M 0 2), .ref (m + 3), .ref (m + 4), .ref (m + 5), .ref (m + 6), .int (M 0 7), .int 0, .ref (m + 7), .ref (m + 8), .ref (m + 9), .ref (m + 10), .ref (m + 11), .ref (m + 12), .ref (m + 13), .long hs])), (m + 1, .inl (g.2 0, 174, .inl (M 1))), (m + 2, .inl (g.2 0, 1044, .inl (M 2))), (m + 3, .inl (g.2 0, 348, .inl (M 3))), (m + 4, .inl (g.2 1, 2, .inl (M 4))), (m + 5, .inl (g.2 0, 174, .inl (M 5))), (m + 6, .inl (g.2 0, 60, .inl (M 6))), (m + 7, .inl (g.2 0, 16, .inl (M 7))), (m + 8, .inl (g.2 0, 100, .inl (M 8))), (m + 9, .inl (g.2 0, 100, .inl (M 9))), (m + 10, .inl (g.2 0, 100, .inl (M 10))), (m + 11, .inl (g.2 0, 100, .inl (M 11))), (m + 12, .inl (g.2 1, 40, .inl (M 12))), (m + 13, .inl (g.2 0, 100, .inl (M 13)))] H := hP
      have hD : va_D (inW (mW g m M hs)) [(m, .inr (5, [.ref (m + 1), .ref (m + 2), .int (M 0 2), .ref (m + 3), .ref (m + 4), .ref (m + 5), .ref (m + 6), .int (M 0 7), .int 0, .ref (m + 7), .ref (m + 8), .ref (m + 9), .ref (m + 10), .ref (m + 11), .ref (m + 12), .ref (m + 13), .long hs])), (m + 1, .inl (g.2 0, 174, .inl (M 1))), (m + 2, .inl (g.2 0, 1044, .inl (M 2))), (m + 3, .inl (g.2 0, 348, .inl (M 3))), (m + 4, .inl (g.2 1, 2, .inl (M 4))), (m + 5, .inl (g.2 0, 174, .inl (M 5))), (m + 6, .inl (g.2 0, 60, .inl (M 6))), (m + 7, .inl (g.2 0, 16, .inl (M 7))), (m + 8, .inl (g.2 0, 100, .inl (M 8))), (m + 9, .inl (g.2 0, 100, .inl (M 9))), (m + 10, .inl (g.2 0, 100, .inl (M 10))), (m + 11, .inl (g.2 0, 100, .inl (M 11))), (m + 12, .inl (g.2 1, 40, .inl (M 12))), (m + 13, .inl (g.2 0, 100, .inl (M 13)))] := hD
      refine topE (show bI (decide ((0 : Int32) = 0)) = 1 from by decide) ?_
      refine lv_if_ne (tgt := 36) hx hb dX5_width_31 (by decide) (fun c_31 => ?_) (fun c_31 => ?_)
      · skip
        refine lv_aload_n hx hb dX5_width_36 rfl (lv_at hl 0 rfl) ?_
        refine wrV (rest := []) zS hK hP hD hS (m_X5_save l g m (rw_ M 0 (upd (M 0) 8 0)) hs q (by omega) h2) cw_X5_save q827 [0, 1, 2, 3, 4, 5, 6, 7, 8, 9, 10, 11, 12, 13] rfl (by decide) rfl 0 rfl rfl ⟨Nat.le_of_ble_eq_true rfl, Nat.le_of_ble_eq_true rfl, rfl, rfl⟩ rfl rfl (Nat.le_of_ble_eq_true rfl) hl.1 dX5_width_37 ⟨Nat.zero_le _, Nat.zero_le _⟩ (fun H locs hP hD hS => ?_)
        have hP : PP g [(m, .inr (5, [.ref (m + 1), .ref (m + 2), .int (nI (svQ q + 1)), .ref (m + 3), .ref (m + 4), .ref (m + 5), .ref (m + 6), .int (M 0 7), .int 0, .ref (m + 7), .ref (m + 8), .ref (m + 9), .ref (m + 10), .ref (m + 11), .ref (m + 12), .ref (m + 13), .long hs])), (m + 1, .inl (g.2 0, 174, .inl (M 1))), (m + 2, .inl (g.2 0, 1044, .inl (svF (M 1) (M 2) q))), (m + 3, .inl (g.2 0, 348, .inl (M 3))), (m + 4, .inl (g.2 1, 2, .inl (M 4))), (m + 5, .inl (g.2 0, 174, .inl (M 5))), (m + 6, .inl (g.2 0, 60, .inl (M 6))), (m + 7, .inl (g.2 0, 16, .inl (M 7))), (m + 8, .inl (g.2 0, 100, .inl (M 8))), (m + 9, .inl (g.2 0, 100, .inl (M 9))), (m + 10, .inl (g.2 0, 100, .inl (M 10))), (m + 11, .inl (g.2 0, 100, .inl (M 11))), (m + 12, .inl (g.2 1, 40, .inl (M 12))), (m + 13, .inl (g.2 0, 100, .inl (M 13)))] H := hP
        have hD : va_D (inW (mW g m M hs)) [(m, .inr (5, [.ref (m + 1), .ref (m + 2), .int (nI (svQ q + 1)), .ref (m + 3), .ref (m + 4), .ref (m + 5), .ref (m + 6), .int (M 0 7), .int 0, .ref (m + 7), .ref (m + 8), .ref (m + 9), .ref (m + 10), .ref (m + 11), .ref (m + 12), .ref (m + 13), .long hs])), (m + 1, .inl (g.2 0, 174, .inl (M 1))), (m + 2, .inl (g.2 0, 1044, .inl (svF (M 1) (M 2) q))), (m + 3, .inl (g.2 0, 348, .inl (M 3))), (m + 4, .inl (g.2 1, 2, .inl (M 4))), (m + 5, .inl (g.2 0, 174, .inl (M 5))), (m + 6, .inl (g.2 0, 60, .inl (M 6))), (m + 7, .inl (g.2 0, 16, .inl (M 7))), (m + 8, .inl (g.2 0, 100, .inl (M 8))), (m + 9, .inl (g.2 0, 100, .inl (M 9))), (m + 10, .inl (g.2 0, 100, .inl (M 10))), (m + 11, .inl (g.2 0, 100, .inl (M 11))), (m + 12, .inl (g.2 1, 40, .inl (M 12))), (m + 13, .inl (g.2 0, 100, .inl (M 13)))] := hD
        refine lv_aload_n hx hb dX5_width_40 rfl (lv_at hl 0 rfl) ?_
        refine lv_iload_n hx hb dX5_width_41 rfl (lv_at hl 1 rfl) ?_
        refine lv_iconst (v := 0) hx hb dX5_width_42 (by decide) ?_
        refine rdV (rest := []) zS hK hP (m_X5_of l g m (rw_ (rw_ M 2 (svF (M 1) (M 2) q)) 0 (upd (upd (M 0) 2 (nI (svQ q + 1))) 8 0)) hs k (by omega) 0 (by omega)) cw_X5_of q834 [0, 1, 2, 3, 4, 5, 6, 7, 8, 9, 10, 11, 12, 13] rfl 0 rfl rfl ⟨Nat.le_of_ble_eq_true rfl, Nat.le_of_ble_eq_true rfl, rfl, rfl⟩ rfl rfl (Nat.le_of_ble_eq_true rfl) hl.1 dX5_width_43 ⟨Nat.zero_le _, Nat.zero_le _⟩ ?_
        refine topE (rfl : _ = M 1 (8 + 3 * k + 0)) ?_
        refine lv_istore_n (lv' := [(3, .int (M 1 (8 + 3 * k + 0))), (0, .ref m), (1, .int (nI k)), (2, .int width)]) hx hb dX5_width_46 rfl hl (by decide) rfl (fun ls hl => ?_)
        refine lv_aload_n hx hb dX5_width_47 rfl (lv_at hl 1 rfl) ?_
        refine lv_iload_n hx hb dX5_width_48 rfl (lv_at hl 2 rfl) ?_
        refine lv_iconst (v := 0) hx hb dX5_width_49 (by decide) ?_
        refine lv_iload_n hx hb dX5_width_50 rfl (lv_at hl 3 rfl) ?_
        refine wrV (rest := []) zS hK hP hD hS (m_X5_put l g m (rw_ (rw_ M 2 (svF (M 1) (M 2) q)) 0 (upd (upd (M 0) 2 (nI (svQ q + 1))) 8 0)) hs k (by omega) 0 (by omega) width) cw_X5_put q753 [0, 1, 2, 3, 4, 5, 6, 7, 8, 9, 10, 11, 12, 13] rfl (by decide) rfl 0 rfl rfl ⟨Nat.le_of_ble_eq_true rfl, Nat.le_of_ble_eq_true rfl, rfl, rfl⟩ rfl rfl (Nat.le_of_ble_eq_true rfl) hl.1 dX5_width_51 ⟨Nat.zero_le _, Nat.zero_le _⟩ (fun H locs hP hD hS => ?_)
        have hP : PP g [(m, .inr (5, [.ref (m + 1), .ref (m + 2), .int (nI (svQ q + 1)), .ref (m + 3), .ref (m + 4), .ref (m + 5), .ref (m + 6), .int (M 0 7), .int 0, .ref (m + 7), .ref (m + 8), .ref (m + 9), .ref (m + 10), .ref (m + 11), .ref (m + 12), .ref (m + 13), .long hs])), (m + 1, .inl (g.2 0, 174, .inl (upd (M 1) (8 + 3 * k + 0) width))), (m + 2, .inl (g.2 0, 1044, .inl (svF (M 1) (M 2) q))), (m + 3, .inl (g.2 0, 348, .inl (M 3))), (m + 4, .inl (g.2 1, 2, .inl (M 4))), (m + 5, .inl (g.2 0, 174, .inl (M 5))), (m + 6, .inl (g.2 0, 60, .inl (M 6))), (m + 7, .inl (g.2 0, 16, .inl (M 7))), (m + 8, .inl (g.2 0, 100, .inl (M 8))), (m + 9, .inl (g.2 0, 100, .inl (M 9))), (m + 10, .inl (g.2 0, 100, .inl (M 10))), (m + 11, .inl (g.2 0, 100, .inl (M 11))), (m + 12, .inl (g.2 1, 40, .inl (M 12))), (m + 13, .inl (g.2 0, 100, .inl (M 13)))] H := hP
        have hD : va_D (inW (mW g m M hs)) [(m, .inr (5, [.ref (m + 1), .ref (m + 2), .int (nI (svQ q + 1)), .ref (m + 3), .ref (m + 4), .ref (m + 5), .ref (m + 6), .int (M 0 7), .int 0, .ref (m + 7), .ref (m + 8), .ref (m + 9), .ref (m + 10), .ref (m + 11), .ref (m + 12), .ref (m + 13), .long hs])), (m + 1, .inl (g.2 0, 174, .inl (upd (M 1) (8 + 3 * k + 0) width))), (m + 2, .inl (g.2 0, 1044, .inl (svF (M 1) (M 2) q))), (m + 3, .inl (g.2 0, 348, .inl (M 3))), (m + 4, .inl (g.2 1, 2, .inl (M 4))), (m + 5, .inl (g.2 0, 174, .inl (M 5))), (m + 6, .inl (g.2 0, 60, .inl (M 6))), (m + 7, .inl (g.2 0, 16, .inl (M 7))), (m + 8, .inl (g.2 0, 100, .inl (M 8))), (m + 9, .inl (g.2 0, 100, .inl (M 9))), (m + 10, .inl (g.2 0, 100, .inl (M 10))), (m + 11, .inl (g.2 0, 100, .inl (M 11))), (m + 12, .inl (g.2 1, 40, .inl (M 12))), (m + 13, .inl (g.2 0, 100, .inl (M 13)))] := hD
        refine lv_iload_n hx hb dX5_width_54 rfl (lv_at hl 0 rfl) ?_
        refine w_i hx hb hr hlk hS dX5_width_55 ?_ ?_
        · (rw [aWidthT, if_pos c_5, if_pos c_20]; (try simp only [hn_k]); exact hP)
        · rw [aWidthV, if_pos c_5, if_pos c_20]; (try simp only [hn_k])
      · skip
        exact absurd c_31 (by decide)
    · skip
      have c_20 : (inb width 13 30) = false := bI_0.mp c_20
      refine lv_iconst (v := 2) hx hb dX5_width_23 (by decide) ?_
      refine lv_goto (tgt := 28) hx hb dX5_width_24 (by decide) ?_
      refine wrV (rest := []) zS hK hP hD hS (m_X5_holds l g m M hs 2) cw_X5_holds q823 [0, 1, 2, 3, 4, 5, 6, 7, 8, 9, 10, 11, 12, 13] rfl (by decide) rfl 0 rfl rfl ⟨Nat.le_of_ble_eq_true rfl, Nat.le_of_ble_eq_true rfl, rfl, rfl⟩ rfl rfl (Nat.le_of_ble_eq_true rfl) hl.1 dX5_width_28 ⟨Nat.zero_le _, Nat.zero_le _⟩ (fun H locs hP hD hS => ?_)
      have hP : PP g [(m, .inr (5, [.ref (m + 1), .ref (m + 2), .int (M 0 2), .ref (m + 3), .ref (m + 4), .ref (m + 5), .ref (m + 6), .int (M 0 7), .int 2, .ref (m + 7), .ref (m + 8), .ref (m + 9), .ref (m + 10), .ref (m + 11), .ref (m + 12), .ref (m + 13), .long hs])), (m + 1, .inl (g.2 0, 174, .inl (M 1))), (m + 2, .inl (g.2 0, 1044, .inl (M 2))), (m + 3, .inl (g.2 0, 348, .inl (M 3))), (m + 4, .inl (g.2 1, 2, .inl (M 4))), (m + 5, .inl (g.2 0, 174, .inl (M 5))), (m + 6, .inl (g.2 0, 60, .inl (M 6))), (m + 7, .inl (g.2 0, 16, .inl (M 7))), (m + 8, .inl (g.2 0, 100, .inl (M 8))), (m + 9, .inl (g.2 0, 100, .inl (M 9))), (m + 10, .inl (g.2 0, 100, .inl (M 10))), (m + 11, .inl (g.2 0, 100, .inl (M 11))), (m + 12, .inl (g.2 1, 40, .inl (M 12))), (m + 13, .inl (g.2 0, 100, .inl (M 13)))] H := hP
      have hD : va_D (inW (mW g m M hs)) [(m, .inr (5, [.ref (m + 1), .ref (m + 2), .int (M 0 2), .ref (m + 3), .ref (m + 4), .ref (m + 5), .ref (m + 6), .int (M 0 7), .int 2, .ref (m + 7), .ref (m + 8), .ref (m + 9), .ref (m + 10), .ref (m + 11), .ref (m + 12), .ref (m + 13), .long hs])), (m + 1, .inl (g.2 0, 174, .inl (M 1))), (m + 2, .inl (g.2 0, 1044, .inl (M 2))), (m + 3, .inl (g.2 0, 348, .inl (M 3))), (m + 4, .inl (g.2 1, 2, .inl (M 4))), (m + 5, .inl (g.2 0, 174, .inl (M 5))), (m + 6, .inl (g.2 0, 60, .inl (M 6))), (m + 7, .inl (g.2 0, 16, .inl (M 7))), (m + 8, .inl (g.2 0, 100, .inl (M 8))), (m + 9, .inl (g.2 0, 100, .inl (M 9))), (m + 10, .inl (g.2 0, 100, .inl (M 10))), (m + 11, .inl (g.2 0, 100, .inl (M 11))), (m + 12, .inl (g.2 1, 40, .inl (M 12))), (m + 13, .inl (g.2 0, 100, .inl (M 13)))] := hD
      refine topE (show bI (decide ((2 : Int32) = 0)) = 0 from by decide) ?_
      refine lv_if_ne (tgt := 36) hx hb dX5_width_31 (by decide) (fun c_31 => ?_) (fun c_31 => ?_)
      · skip
        exact absurd c_31 (by decide)
      · skip
        refine lv_iconst (v := 0) hx hb dX5_width_34 (by decide) ?_
        refine w_i hx hb hr hlk hS dX5_width_35 ?_ ?_
        · (rw [aWidthT, if_pos c_5, if_neg (by rw [c_20]; decide)]; (try simp only [hn_k]); exact hP)
        · rw [aWidthV, if_pos c_5, if_neg (by rw [c_20]; decide)]; (try simp only [hn_k])
  · skip
    have c_5 : (inb letter 0 9) = false := bI_0.mp c_5
    refine lv_iconst (v := 1) hx hb dX5_width_8 (by decide) ?_
    refine lv_goto (tgt := 28) hx hb dX5_width_9 (by decide) ?_
    refine wrV (rest := []) zS hK hP hD hS (m_X5_holds l g m M hs 1) cw_X5_holds q823 [0, 1, 2, 3, 4, 5, 6, 7, 8, 9, 10, 11, 12, 13] rfl (by decide) rfl 0 rfl rfl ⟨Nat.le_of_ble_eq_true rfl, Nat.le_of_ble_eq_true rfl, rfl, rfl⟩ rfl rfl (Nat.le_of_ble_eq_true rfl) hl.1 dX5_width_28 ⟨Nat.zero_le _, Nat.zero_le _⟩ (fun H locs hP hD hS => ?_)
    have hP : PP g [(m, .inr (5, [.ref (m + 1), .ref (m + 2), .int (M 0 2), .ref (m + 3), .ref (m + 4), .ref (m + 5), .ref (m + 6), .int (M 0 7), .int 1, .ref (m + 7), .ref (m + 8), .ref (m + 9), .ref (m + 10), .ref (m + 11), .ref (m + 12), .ref (m + 13), .long hs])), (m + 1, .inl (g.2 0, 174, .inl (M 1))), (m + 2, .inl (g.2 0, 1044, .inl (M 2))), (m + 3, .inl (g.2 0, 348, .inl (M 3))), (m + 4, .inl (g.2 1, 2, .inl (M 4))), (m + 5, .inl (g.2 0, 174, .inl (M 5))), (m + 6, .inl (g.2 0, 60, .inl (M 6))), (m + 7, .inl (g.2 0, 16, .inl (M 7))), (m + 8, .inl (g.2 0, 100, .inl (M 8))), (m + 9, .inl (g.2 0, 100, .inl (M 9))), (m + 10, .inl (g.2 0, 100, .inl (M 10))), (m + 11, .inl (g.2 0, 100, .inl (M 11))), (m + 12, .inl (g.2 1, 40, .inl (M 12))), (m + 13, .inl (g.2 0, 100, .inl (M 13)))] H := hP
    have hD : va_D (inW (mW g m M hs)) [(m, .inr (5, [.ref (m + 1), .ref (m + 2), .int (M 0 2), .ref (m + 3), .ref (m + 4), .ref (m + 5), .ref (m + 6), .int (M 0 7), .int 1, .ref (m + 7), .ref (m + 8), .ref (m + 9), .ref (m + 10), .ref (m + 11), .ref (m + 12), .ref (m + 13), .long hs])), (m + 1, .inl (g.2 0, 174, .inl (M 1))), (m + 2, .inl (g.2 0, 1044, .inl (M 2))), (m + 3, .inl (g.2 0, 348, .inl (M 3))), (m + 4, .inl (g.2 1, 2, .inl (M 4))), (m + 5, .inl (g.2 0, 174, .inl (M 5))), (m + 6, .inl (g.2 0, 60, .inl (M 6))), (m + 7, .inl (g.2 0, 16, .inl (M 7))), (m + 8, .inl (g.2 0, 100, .inl (M 8))), (m + 9, .inl (g.2 0, 100, .inl (M 9))), (m + 10, .inl (g.2 0, 100, .inl (M 10))), (m + 11, .inl (g.2 0, 100, .inl (M 11))), (m + 12, .inl (g.2 1, 40, .inl (M 12))), (m + 13, .inl (g.2 0, 100, .inl (M 13)))] := hD
    refine topE (show bI (decide ((1 : Int32) = 0)) = 0 from by decide) ?_
    refine lv_if_ne (tgt := 36) hx hb dX5_width_31 (by decide) (fun c_31 => ?_) (fun c_31 => ?_)
    · skip
      exact absurd c_31 (by decide)
    · skip
      refine lv_iconst (v := 0) hx hb dX5_width_34 (by decide) ?_
      refine w_i hx hb hr hlk hS dX5_width_35 ?_ ?_
      · (rw [aWidthT, if_neg (by rw [c_5]; decide)]; exact hP)
      · rw [aWidthV, if_neg (by rw [c_5]; decide)]
theorem cw_X5_width : CWV yX5_width cX5_width 4 (some .int) 2 := ⟨⟨q816, q65, by decide +kernel, by decide +kernel, by decide +kernel⟩, q814, q815⟩
set_option maxHeartbeats 4000000 in
set_option maxRecDepth 100000 in
theorem m_X5_shape (l : Launch) (g : GG) (m : Nat) (M : Nat → Nat → Int32) (hs : Int64) (hSh : MSh (M 1)) (nl : Nat) (hL : MLs (M 1) nl) (q : Nat) (hq : q ≤ 6) (h2 : M 0 2 = nI q) (n : Nat) (hn : n ≤ 60) (h7 : M 0 7 = nI n) (letter left right : Int32) : MW l g yX5_shape cX5_shape 5 (some .int) ({ frames := 2, cells := 0, slots := 0, locals := 45 } : Room) [.ref m, .int letter, .int left, .int right] (mW g m M hs) (mW g m (aShapeT M q letter left right) hs) (some (.int (aShapeV M letter left right))) := by
  refine MW.of rfl (Nat.le_of_ble_eq_true rfl) ?_
  intro zp ze zs zm zbelow zmeth zc ls zS hr hlk hK hP hD hS hl
  obtain ⟨hx, hb, hml, hown, hts⟩ := id zS
  have hl : lv_has ls 5 [(0, .ref m), (1, .int letter), (2, .int left), (3, .int right)] := hl
  have hnl := hL.2.1
  refine lv_aload_n hx hb dX5_shape_0 rfl (lv_at hl 0 rfl) ?_
  refine lv_iload_n hx hb dX5_shape_1 rfl (lv_at hl 1 rfl) ?_
  refine rdS (rest := [.ref m]) zS hK hP (m_X5_isLetter l g letter) cw_X5_isLetter q817 [] rfl ⟨Nat.le_of_ble_eq_true rfl, Nat.le_of_ble_eq_true rfl, rfl, rfl⟩ rfl rfl (Nat.le_of_ble_eq_true rfl) hl.1 dX5_shape_2 ⟨Nat.zero_le _, Nat.zero_le _⟩ ?_
  refine lv_if_ne (tgt := 12) hx hb dX5_shape_5 (by decide) (fun c_5 => ?_) (fun c_5 => ?_)
  · skip
    have c_5 : (inb letter 0 9) = true := bI_n0.mp c_5
    obtain ⟨k, h_k, rfl⟩ := inb_nI (n := 9) c_5 rfl (by omega)
    have hn_k : nn (nI k) = k := nI_clamp (by omega)
    refine lv_iload_n hx hb dX5_shape_12 rfl (lv_at hl 2 rfl) ?_
    refine rdS (rest := [.ref m]) zS hK hP (m_X5_isShape l g left) cw_X5_isShape q842 [] rfl ⟨Nat.le_of_ble_eq_true rfl, Nat.le_of_ble_eq_true rfl, rfl, rfl⟩ rfl rfl (Nat.le_of_ble_eq_true rfl) hl.1 dX5_shape_13 ⟨Nat.zero_le _, Nat.zero_le _⟩ ?_
    refine lv_if_eq (tgt := 26) hx hb dX5_shape_16 (by decide) (fun c_16 => ?_) (fun c_16 => ?_)
    · skip
      have c_16 : (inb left 0 3) = false := bI_0.mp c_16
      refine lv_iconst (v := 2) hx hb dX5_shape_26 (by decide) ?_
      refine lv_goto (tgt := 31) hx hb dX5_shape_27 (by decide) ?_
      refine wrV (rest := []) zS hK hP hD hS (m_X5_holds l g m M hs 2) cw_X5_holds q823 [0, 1, 2, 3, 4, 5, 6, 7, 8, 9, 10, 11, 12, 13] rfl (by decide) rfl 0 rfl rfl ⟨Nat.le_of_ble_eq_true rfl, Nat.le_of_ble_eq_true rfl, rfl, rfl⟩ rfl rfl (Nat.le_of_ble_eq_true rfl) hl.1 dX5_shape_31 ⟨Nat.zero_le _, Nat.zero_le _⟩ (fun H locs hP hD hS => ?_)
      have hP : PP g [(m, .inr (5, [.ref (m + 1), .ref (m + 2), .int (M 0 2), .ref (m + 3), .ref (m + 4), .ref (m + 5), .ref (m + 6), .int (M 0 7), .int 2, .ref (m + 7), .ref (m + 8), .ref (m + 9), .ref (m + 10), .ref (m + 11), .ref (m + 12), .ref (m + 13), .long hs])), (m + 1, .inl (g.2 0, 174, .inl (M 1))), (m + 2, .inl (g.2 0, 1044, .inl (M 2))), (m + 3, .inl (g.2 0, 348, .inl (M 3))), (m + 4, .inl (g.2 1, 2, .inl (M 4))), (m + 5, .inl (g.2 0, 174, .inl (M 5))), (m + 6, .inl (g.2 0, 60, .inl (M 6))), (m + 7, .inl (g.2 0, 16, .inl (M 7))), (m + 8, .inl (g.2 0, 100, .inl (M 8))), (m + 9, .inl (g.2 0, 100, .inl (M 9))), (m + 10, .inl (g.2 0, 100, .inl (M 10))), (m + 11, .inl (g.2 0, 100, .inl (M 11))), (m + 12, .inl (g.2 1, 40, .inl (M 12))), (m + 13, .inl (g.2 0, 100, .inl (M 13)))] H := hP
      have hD : va_D (inW (mW g m M hs)) [(m, .inr (5, [.ref (m + 1), .ref (m + 2), .int (M 0 2), .ref (m + 3), .ref (m + 4), .ref (m + 5), .ref (m + 6), .int (M 0 7), .int 2, .ref (m + 7), .ref (m + 8), .ref (m + 9), .ref (m + 10), .ref (m + 11), .ref (m + 12), .ref (m + 13), .long hs])), (m + 1, .inl (g.2 0, 174, .inl (M 1))), (m + 2, .inl (g.2 0, 1044, .inl (M 2))), (m + 3, .inl (g.2 0, 348, .inl (M 3))), (m + 4, .inl (g.2 1, 2, .inl (M 4))), (m + 5, .inl (g.2 0, 174, .inl (M 5))), (m + 6, .inl (g.2 0, 60, .inl (M 6))), (m + 7, .inl (g.2 0, 16, .inl (M 7))), (m + 8, .inl (g.2 0, 100, .inl (M 8))), (m + 9, .inl (g.2 0, 100, .inl (M 9))), (m + 10, .inl (g.2 0, 100, .inl (M 10))), (m + 11, .inl (g.2 0, 100, .inl (M 11))), (m + 12, .inl (g.2 1, 40, .inl (M 12))), (m + 13, .inl (g.2 0, 100, .inl (M 13)))] := hD
      refine topE (show bI (decide ((2 : Int32) = 0)) = 0 from by decide) ?_
      refine lv_if_ne (tgt := 39) hx hb dX5_shape_34 (by decide) (fun c_34 => ?_) (fun c_34 => ?_)
      · skip
        exact absurd c_34 (by decide)
      · skip
        refine lv_iconst (v := 0) hx hb dX5_shape_37 (by decide) ?_
        refine w_i hx hb hr hlk hS dX5_shape_38 ?_ ?_
        · (rw [aShapeT, if_pos c_5, if_neg (by rw [c_16]; decide)]; (try simp only [hn_k]); exact hP)
        · rw [aShapeV, if_pos c_5, if_neg (by rw [c_16]; decide)]; (try simp only [hn_k])
    · skip
      have c_16 : (inb left 0 3) = true := bI_n0.mp c_16
      refine lv_iload_n hx hb dX5_shape_19 rfl (lv_at hl 3 rfl) ?_
      refine rdS (rest := [.ref m]) zS hK hP (m_X5_isShape l g right) cw_X5_isShape q842 [] rfl ⟨Nat.le_of_ble_eq_true rfl, Nat.le_of_ble_eq_true rfl, rfl, rfl⟩ rfl rfl (Nat.le_of_ble_eq_true rfl) hl.1 dX5_shape_20 ⟨Nat.zero_le _, Nat.zero_le _⟩ ?_
      refine lv_if_ne (tgt := 30) hx hb dX5_shape_23 (by decide) (fun c_23 => ?_) (fun c_23 => ?_)
      · skip
        have c_23 : (inb right 0 3) = true := bI_n0.mp c_23
        refine lv_iconst (v := 0) hx hb dX5_shape_30 (by decide) ?_
        refine wrV (rest := []) zS hK hP hD hS (m_X5_holds l g m M hs 0) cw_X5_holds q823 [0, 1, 2, 3, 4, 5, 6, 7, 8, 9, 10, 11, 12, 13] rfl (by decide) rfl 0 rfl rfl ⟨Nat.le_of_ble_eq_true rfl, Nat.le_of_ble_eq_true rfl, rfl, rfl⟩ rfl rfl (Nat.le_of_ble_eq_true rfl) hl.1 dX5_shape_31 ⟨Nat.zero_le _, Nat.zero_le _⟩ (fun H locs hP hD hS => ?_)
        have hP : PP g [(m, .inr (5, [.ref (m + 1), .ref (m + 2), .int (M 0 2), .ref (m + 3), .ref (m + 4), .ref (m + 5), .ref (m + 6), .int (M 0 7), .int 0, .ref (m + 7), .ref (m + 8), .ref (m + 9), .ref (m + 10), .ref (m + 11), .ref (m + 12), .ref (m + 13), .long hs])), (m + 1, .inl (g.2 0, 174, .inl (M 1))), (m + 2, .inl (g.2 0, 1044, .inl (M 2))), (m + 3, .inl (g.2 0, 348, .inl (M 3))), (m + 4, .inl (g.2 1, 2, .inl (M 4))), (m + 5, .inl (g.2 0, 174, .inl (M 5))), (m + 6, .inl (g.2 0, 60, .inl (M 6))), (m + 7, .inl (g.2 0, 16, .inl (M 7))), (m + 8, .inl (g.2 0, 100, .inl (M 8))), (m + 9, .inl (g.2 0, 100, .inl (M 9))), (m + 10, .inl (g.2 0, 100, .inl (M 10))), (m + 11, .inl (g.2 0, 100, .inl (M 11))), (m + 12, .inl (g.2 1, 40, .inl (M 12))), (m + 13, .inl (g.2 0, 100, .inl (M 13)))] H := hP
        have hD : va_D (inW (mW g m M hs)) [(m, .inr (5, [.ref (m + 1), .ref (m + 2), .int (M 0 2), .ref (m + 3), .ref (m + 4), .ref (m + 5), .ref (m + 6), .int (M 0 7), .int 0, .ref (m + 7), .ref (m + 8), .ref (m + 9), .ref (m + 10), .ref (m + 11), .ref (m + 12), .ref (m + 13), .long hs])), (m + 1, .inl (g.2 0, 174, .inl (M 1))), (m + 2, .inl (g.2 0, 1044, .inl (M 2))), (m + 3, .inl (g.2 0, 348, .inl (M 3))), (m + 4, .inl (g.2 1, 2, .inl (M 4))), (m + 5, .inl (g.2 0, 174, .inl (M 5))), (m + 6, .inl (g.2 0, 60, .inl (M 6))), (m + 7, .inl (g.2 0, 16, .inl (M 7))), (m + 8, .inl (g.2 0, 100, .inl (M 8))), (m + 9, .inl (g.2 0, 100, .inl (M 9))), (m + 10, .inl (g.2 0, 100, .inl (M 10))), (m + 11, .inl (g.2 0, 100, .inl (M 11))), (m + 12, .inl (g.2 1, 40, .inl (M 12))), (m + 13, .inl (g.2 0, 100, .inl (M 13)))] := hD
        refine topE (show bI (decide ((0 : Int32) = 0)) = 1 from by decide) ?_
        refine lv_if_ne (tgt := 39) hx hb dX5_shape_34 (by decide) (fun c_34 => ?_) (fun c_34 => ?_)
        · skip
          refine lv_aload_n hx hb dX5_shape_39 rfl (lv_at hl 0 rfl) ?_
          refine wrV (rest := []) zS hK hP hD hS (m_X5_save l g m (rw_ M 0 (upd (M 0) 8 0)) hs q (by omega) h2) cw_X5_save q827 [0, 1, 2, 3, 4, 5, 6, 7, 8, 9, 10, 11, 12, 13] rfl (by decide) rfl 0 rfl rfl ⟨Nat.le_of_ble_eq_true rfl, Nat.le_of_ble_eq_true rfl, rfl, rfl⟩ rfl rfl (Nat.le_of_ble_eq_true rfl) hl.1 dX5_shape_40 ⟨Nat.zero_le _, Nat.zero_le _⟩ (fun H locs hP hD hS => ?_)
          have hP : PP g [(m, .inr (5, [.ref (m + 1), .ref (m + 2), .int (nI (svQ q + 1)), .ref (m + 3), .ref (m + 4), .ref (m + 5), .ref (m + 6), .int (M 0 7), .int 0, .ref (m + 7), .ref (m + 8), .ref (m + 9), .ref (m + 10), .ref (m + 11), .ref (m + 12), .ref (m + 13), .long hs])), (m + 1, .inl (g.2 0, 174, .inl (M 1))), (m + 2, .inl (g.2 0, 1044, .inl (svF (M 1) (M 2) q))), (m + 3, .inl (g.2 0, 348, .inl (M 3))), (m + 4, .inl (g.2 1, 2, .inl (M 4))), (m + 5, .inl (g.2 0, 174, .inl (M 5))), (m + 6, .inl (g.2 0, 60, .inl (M 6))), (m + 7, .inl (g.2 0, 16, .inl (M 7))), (m + 8, .inl (g.2 0, 100, .inl (M 8))), (m + 9, .inl (g.2 0, 100, .inl (M 9))), (m + 10, .inl (g.2 0, 100, .inl (M 10))), (m + 11, .inl (g.2 0, 100, .inl (M 11))), (m + 12, .inl (g.2 1, 40, .inl (M 12))), (m + 13, .inl (g.2 0, 100, .inl (M 13)))] H := hP
          have hD : va_D (inW (mW g m M hs)) [(m, .inr (5, [.ref (m + 1), .ref (m + 2), .int (nI (svQ q + 1)), .ref (m + 3), .ref (m + 4), .ref (m + 5), .ref (m + 6), .int (M 0 7), .int 0, .ref (m + 7), .ref (m + 8), .ref (m + 9), .ref (m + 10), .ref (m + 11), .ref (m + 12), .ref (m + 13), .long hs])), (m + 1, .inl (g.2 0, 174, .inl (M 1))), (m + 2, .inl (g.2 0, 1044, .inl (svF (M 1) (M 2) q))), (m + 3, .inl (g.2 0, 348, .inl (M 3))), (m + 4, .inl (g.2 1, 2, .inl (M 4))), (m + 5, .inl (g.2 0, 174, .inl (M 5))), (m + 6, .inl (g.2 0, 60, .inl (M 6))), (m + 7, .inl (g.2 0, 16, .inl (M 7))), (m + 8, .inl (g.2 0, 100, .inl (M 8))), (m + 9, .inl (g.2 0, 100, .inl (M 9))), (m + 10, .inl (g.2 0, 100, .inl (M 10))), (m + 11, .inl (g.2 0, 100, .inl (M 11))), (m + 12, .inl (g.2 1, 40, .inl (M 12))), (m + 13, .inl (g.2 0, 100, .inl (M 13)))] := hD
          refine lv_iconst (v := 4) hx hb dX5_shape_43 (by decide) ?_
          refine lv_aload_n hx hb dX5_shape_44 rfl (lv_at hl 0 rfl) ?_
          refine lv_iload_n hx hb dX5_shape_45 rfl (lv_at hl 1 rfl) ?_
          refine lv_iconst (v := 1) hx hb dX5_shape_46 (by decide) ?_
          refine rdV (rest := [.int 4]) zS hK hP (m_X5_of l g m (rw_ (rw_ M 2 (svF (M 1) (M 2) q)) 0 (upd (upd (M 0) 2 (nI (svQ q + 1))) 8 0)) hs k (by omega) 1 (by omega)) cw_X5_of q834 [0, 1, 2, 3, 4, 5, 6, 7, 8, 9, 10, 11, 12, 13] rfl 0 rfl rfl ⟨Nat.le_of_ble_eq_true rfl, Nat.le_of_ble_eq_true rfl, rfl, rfl⟩ rfl rfl (Nat.le_of_ble_eq_true rfl) hl.1 dX5_shape_47 ⟨Nat.zero_le _, Nat.zero_le _⟩ ?_
          refine topE (rfl : _ = M 1 (8 + 3 * k + 1)) ?_
          refine lv_imul hx hb dX5_shape_50 ?_
          refine lv_aload_n hx hb dX5_shape_51 rfl (lv_at hl 0 rfl) ?_
          refine lv_iload_n hx hb dX5_shape_52 rfl (lv_at hl 1 rfl) ?_
          refine lv_iconst (v := 2) hx hb dX5_shape_53 (by decide) ?_
          refine rdV (rest := [.int (4 * (M 1 (8 + 3 * k + 1)))]) zS hK hP (m_X5_of l g m (rw_ (rw_ M 2 (svF (M 1) (M 2) q)) 0 (upd (upd (M 0) 2 (nI (svQ q + 1))) 8 0)) hs k (by omega) 2 (by omega)) cw_X5_of q834 [0, 1, 2, 3, 4, 5, 6, 7, 8, 9, 10, 11, 12, 13] rfl 0 rfl rfl ⟨Nat.le_of_ble_eq_true rfl, Nat.le_of_ble_eq_true rfl, rfl, rfl⟩ rfl rfl (Nat.le_of_ble_eq_true rfl) hl.1 dX5_shape_54 ⟨Nat.zero_le _, Nat.zero_le _⟩ ?_
          refine topE (rfl : _ = M 1 (8 + 3 * k + 2)) ?_
          refine lv_iadd hx hb dX5_shape_57 ?_
          refine lv_istore (lv' := [(4, .int ((4 * (M 1 (8 + 3 * k + 1))) + (M 1 (8 + 3 * k + 2)))), (0, .ref m), (1, .int (nI k)), (2, .int left), (3, .int right)]) hx hb dX5_shape_58 hl (by decide) rfl (fun ls hl => ?_)
          refine lv_aload_n hx hb dX5_shape_60 rfl (lv_at hl 1 rfl) ?_
          refine lv_iload_n hx hb dX5_shape_61 rfl (lv_at hl 2 rfl) ?_
          refine lv_iconst (v := 1) hx hb dX5_shape_62 (by decide) ?_
          refine lv_iload_n hx hb dX5_shape_63 rfl (lv_at hl 3 rfl) ?_
          refine wrV (rest := []) zS hK hP hD hS (m_X5_put l g m (rw_ (rw_ M 2 (svF (M 1) (M 2) q)) 0 (upd (upd (M 0) 2 (nI (svQ q + 1))) 8 0)) hs k (by omega) 1 (by omega) left) cw_X5_put q753 [0, 1, 2, 3, 4, 5, 6, 7, 8, 9, 10, 11, 12, 13] rfl (by decide) rfl 0 rfl rfl ⟨Nat.le_of_ble_eq_true rfl, Nat.le_of_ble_eq_true rfl, rfl, rfl⟩ rfl rfl (Nat.le_of_ble_eq_true rfl) hl.1 dX5_shape_64 ⟨Nat.zero_le _, Nat.zero_le _⟩ (fun H locs hP hD hS => ?_)
          have hP : PP g [(m, .inr (5, [.ref (m + 1), .ref (m + 2), .int (nI (svQ q + 1)), .ref (m + 3), .ref (m + 4), .ref (m + 5), .ref (m + 6), .int (M 0 7), .int 0, .ref (m + 7), .ref (m + 8), .ref (m + 9), .ref (m + 10), .ref (m + 11), .ref (m + 12), .ref (m + 13), .long hs])), (m + 1, .inl (g.2 0, 174, .inl (upd (M 1) (8 + 3 * k + 1) left))), (m + 2, .inl (g.2 0, 1044, .inl (svF (M 1) (M 2) q))), (m + 3, .inl (g.2 0, 348, .inl (M 3))), (m + 4, .inl (g.2 1, 2, .inl (M 4))), (m + 5, .inl (g.2 0, 174, .inl (M 5))), (m + 6, .inl (g.2 0, 60, .inl (M 6))), (m + 7, .inl (g.2 0, 16, .inl (M 7))), (m + 8, .inl (g.2 0, 100, .inl (M 8))), (m + 9, .inl (g.2 0, 100, .inl (M 9))), (m + 10, .inl (g.2 0, 100, .inl (M 10))), (m + 11, .inl (g.2 0, 100, .inl (M 11))), (m + 12, .inl (g.2 1, 40, .inl (M 12))), (m + 13, .inl (g.2 0, 100, .inl (M 13)))] H := hP
          have hD : va_D (inW (mW g m M hs)) [(m, .inr (5, [.ref (m + 1), .ref (m + 2), .int (nI (svQ q + 1)), .ref (m + 3), .ref (m + 4), .ref (m + 5), .ref (m + 6), .int (M 0 7), .int 0, .ref (m + 7), .ref (m + 8), .ref (m + 9), .ref (m + 10), .ref (m + 11), .ref (m + 12), .ref (m + 13), .long hs])), (m + 1, .inl (g.2 0, 174, .inl (upd (M 1) (8 + 3 * k + 1) left))), (m + 2, .inl (g.2 0, 1044, .inl (svF (M 1) (M 2) q))), (m + 3, .inl (g.2 0, 348, .inl (M 3))), (m + 4, .inl (g.2 1, 2, .inl (M 4))), (m + 5, .inl (g.2 0, 174, .inl (M 5))), (m + 6, .inl (g.2 0, 60, .inl (M 6))), (m + 7, .inl (g.2 0, 16, .inl (M 7))), (m + 8, .inl (g.2 0, 100, .inl (M 8))), (m + 9, .inl (g.2 0, 100, .inl (M 9))), (m + 10, .inl (g.2 0, 100, .inl (M 10))), (m + 11, .inl (g.2 0, 100, .inl (M 11))), (m + 12, .inl (g.2 1, 40, .inl (M 12))), (m + 13, .inl (g.2 0, 100, .inl (M 13)))] := hD
          refine lv_aload_n hx hb dX5_shape_67 rfl (lv_at hl 1 rfl) ?_
          refine lv_iload_n hx hb dX5_shape_68 rfl (lv_at hl 2 rfl) ?_
          refine lv_iconst (v := 2) hx hb dX5_shape_69 (by decide) ?_
          refine lv_iload_n hx hb dX5_shape_70 rfl (lv_at hl 4 rfl) ?_
          refine wrV (rest := []) zS hK hP hD hS (m_X5_put l g m (rw_ (rw_ (rw_ M 1 (upd (M 1) (8 + 3 * k + 1) left)) 2 (svF (M 1) (M 2) q)) 0 (upd (upd (M 0) 2 (nI (svQ q + 1))) 8 0)) hs k (by omega) 2 (by omega) right) cw_X5_put q753 [0, 1, 2, 3, 4, 5, 6, 7, 8, 9, 10, 11, 12, 13] rfl (by decide) rfl 0 rfl rfl ⟨Nat.le_of_ble_eq_true rfl, Nat.le_of_ble_eq_true rfl, rfl, rfl⟩ rfl rfl (Nat.le_of_ble_eq_true rfl) hl.1 dX5_shape_71 ⟨Nat.zero_le _, Nat.zero_le _⟩ (fun H locs hP hD hS => ?_)
          have hP : PP g [(m, .inr (5, [.ref (m + 1), .ref (m + 2), .int (nI (svQ q + 1)), .ref (m + 3), .ref (m + 4), .ref (m + 5), .ref (m + 6), .int (M 0 7), .int 0, .ref (m + 7), .ref (m + 8), .ref (m + 9), .ref (m + 10), .ref (m + 11), .ref (m + 12), .ref (m + 13), .long hs])), (m + 1, .inl (g.2 0, 174, .inl (upd (upd (M 1) (8 + 3 * k + 1) left) (8 + 3 * k + 2) right))), (m + 2, .inl (g.2 0, 1044, .inl (svF (M 1) (M 2) q))), (m + 3, .inl (g.2 0, 348, .inl (M 3))), (m + 4, .inl (g.2 1, 2, .inl (M 4))), (m + 5, .inl (g.2 0, 174, .inl (M 5))), (m + 6, .inl (g.2 0, 60, .inl (M 6))), (m + 7, .inl (g.2 0, 16, .inl (M 7))), (m + 8, .inl (g.2 0, 100, .inl (M 8))), (m + 9, .inl (g.2 0, 100, .inl (M 9))), (m + 10, .inl (g.2 0, 100, .inl (M 10))), (m + 11, .inl (g.2 0, 100, .inl (M 11))), (m + 12, .inl (g.2 1, 40, .inl (M 12))), (m + 13, .inl (g.2 0, 100, .inl (M 13)))] H := hP
          have hD : va_D (inW (mW g m M hs)) [(m, .inr (5, [.ref (m + 1), .ref (m + 2), .int (nI (svQ q + 1)), .ref (m + 3), .ref (m + 4), .ref (m + 5), .ref (m + 6), .int (M 0 7), .int 0, .ref (m + 7), .ref (m + 8), .ref (m + 9), .ref (m + 10), .ref (m + 11), .ref (m + 12), .ref (m + 13), .long hs])), (m + 1, .inl (g.2 0, 174, .inl (upd (upd (M 1) (8 + 3 * k + 1) left) (8 + 3 * k + 2) right))), (m + 2, .inl (g.2 0, 1044, .inl (svF (M 1) (M 2) q))), (m + 3, .inl (g.2 0, 348, .inl (M 3))), (m + 4, .inl (g.2 1, 2, .inl (M 4))), (m + 5, .inl (g.2 0, 174, .inl (M 5))), (m + 6, .inl (g.2 0, 60, .inl (M 6))), (m + 7, .inl (g.2 0, 16, .inl (M 7))), (m + 8, .inl (g.2 0, 100, .inl (M 8))), (m + 9, .inl (g.2 0, 100, .inl (M 9))), (m + 10, .inl (g.2 0, 100, .inl (M 10))), (m + 11, .inl (g.2 0, 100, .inl (M 11))), (m + 12, .inl (g.2 1, 40, .inl (M 12))), (m + 13, .inl (g.2 0, 100, .inl (M 13)))] := hD
          refine lv_aload_n hx hb dX5_shape_74 rfl (lv_at hl 1 rfl) ?_
          refine gf zS hK hP iG5 rfl 0 rfl 0 (by decide) q757 rfl rfl dX5_shape_75 ?_
          refine lv_bipush (v := 7) hx hb dX5_shape_78 (by decide) ?_
          refine lv_dup2_11 hx hb dX5_shape_80 rfl rfl ?_
          refine aldN (j := 7) hx hb hK hP 1 0 rfl rfl rfl (by omega) (by decide) dX5_shape_81 ?_
          refine topE (y := M 1 7) ((by repeat rw [upd_n _ _ (by omega)])) ?_
          refine lv_iconst (v := 1) hx hb dX5_shape_82 (by decide) ?_
          refine lv_iadd hx hb dX5_shape_83 ?_
          refine astN (j := 7) hx hb hK hP hD hS 1 0 rfl rfl rfl (by omega) (by decide) dX5_shape_84 (fun H locs hP hD hS => ?_)
          have hP : PP g [(m, .inr (5, [.ref (m + 1), .ref (m + 2), .int (nI (svQ q + 1)), .ref (m + 3), .ref (m + 4), .ref (m + 5), .ref (m + 6), .int (M 0 7), .int 0, .ref (m + 7), .ref (m + 8), .ref (m + 9), .ref (m + 10), .ref (m + 11), .ref (m + 12), .ref (m + 13), .long hs])), (m + 1, .inl (g.2 0, 174, .inl (upd (upd (upd (M 1) (8 + 3 * k + 1) left) (8 + 3 * k + 2) right) 7 ((M 1 7) + 1)))), (m + 2, .inl (g.2 0, 1044, .inl (svF (M 1) (M 2) q))), (m + 3, .inl (g.2 0, 348, .inl (M 3))), (m + 4, .inl (g.2 1, 2, .inl (M 4))), (m + 5, .inl (g.2 0, 174, .inl (M 5))), (m + 6, .inl (g.2 0, 60, .inl (M 6))), (m + 7, .inl (g.2 0, 16, .inl (M 7))), (m + 8, .inl (g.2 0, 100, .inl (M 8))), (m + 9, .inl (g.2 0, 100, .inl (M 9))), (m + 10, .inl (g.2 0, 100, .inl (M 10))), (m + 11, .inl (g.2 0, 100, .inl (M 11))), (m + 12, .inl (g.2 1, 40, .inl (M 12))), (m + 13, .inl (g.2 0, 100, .inl (M 13)))] H := hP
          have hD : va_D (inW (mW g m M hs)) [(m, .inr (5, [.ref (m + 1), .ref (m + 2), .int (nI (svQ q + 1)), .ref (m + 3), .ref (m + 4), .ref (m + 5), .ref (m + 6), .int (M 0 7), .int 0, .ref (m + 7), .ref (m + 8), .ref (m + 9), .ref (m + 10), .ref (m + 11), .ref (m + 12), .ref (m + 13), .long hs])), (m + 1, .inl (g.2 0, 174, .inl (upd (upd (upd (M 1) (8 + 3 * k + 1) left) (8 + 3 * k + 2) right) 7 ((M 1 7) + 1)))), (m + 2, .inl (g.2 0, 1044, .inl (svF (M 1) (M 2) q))), (m + 3, .inl (g.2 0, 348, .inl (M 3))), (m + 4, .inl (g.2 1, 2, .inl (M 4))), (m + 5, .inl (g.2 0, 174, .inl (M 5))), (m + 6, .inl (g.2 0, 60, .inl (M 6))), (m + 7, .inl (g.2 0, 16, .inl (M 7))), (m + 8, .inl (g.2 0, 100, .inl (M 8))), (m + 9, .inl (g.2 0, 100, .inl (M 9))), (m + 10, .inl (g.2 0, 100, .inl (M 10))), (m + 11, .inl (g.2 0, 100, .inl (M 11))), (m + 12, .inl (g.2 1, 40, .inl (M 12))), (m + 13, .inl (g.2 0, 100, .inl (M 13)))] := hD
          refine lv_iload hx hb dX5_shape_85 (lv_at hl 0 rfl) ?_
          refine w_i hx hb hr hlk hS dX5_shape_87 ?_ ?_
          · (rw [aShapeT, if_pos c_5, if_pos c_16, if_pos c_23]; (try simp only [hn_k]); exact hP)
          · rw [aShapeV, if_pos c_5, if_pos c_16, if_pos c_23]; (try simp only [hn_k])
        · skip
          exact absurd c_34 (by decide)
      · skip
        have c_23 : (inb right 0 3) = false := bI_0.mp c_23
        refine lv_iconst (v := 2) hx hb dX5_shape_26 (by decide) ?_
        refine lv_goto (tgt := 31) hx hb dX5_shape_27 (by decide) ?_
        refine wrV (rest := []) zS hK hP hD hS (m_X5_holds l g m M hs 2) cw_X5_holds q823 [0, 1, 2, 3, 4, 5, 6, 7, 8, 9, 10, 11, 12, 13] rfl (by decide) rfl 0 rfl rfl ⟨Nat.le_of_ble_eq_true rfl, Nat.le_of_ble_eq_true rfl, rfl, rfl⟩ rfl rfl (Nat.le_of_ble_eq_true rfl) hl.1 dX5_shape_31 ⟨Nat.zero_le _, Nat.zero_le _⟩ (fun H locs hP hD hS => ?_)
        have hP : PP g [(m, .inr (5, [.ref (m + 1), .ref (m + 2), .int (M 0 2), .ref (m + 3), .ref (m + 4), .ref (m + 5), .ref (m + 6), .int (M 0 7), .int 2, .ref (m + 7), .ref (m + 8), .ref (m + 9), .ref (m + 10), .ref (m + 11), .ref (m + 12), .ref (m + 13), .long hs])), (m + 1, .inl (g.2 0, 174, .inl (M 1))), (m + 2, .inl (g.2 0, 1044, .inl (M 2))), (m + 3, .inl (g.2 0, 348, .inl (M 3))), (m + 4, .inl (g.2 1, 2, .inl (M 4))), (m + 5, .inl (g.2 0, 174, .inl (M 5))), (m + 6, .inl (g.2 0, 60, .inl (M 6))), (m + 7, .inl (g.2 0, 16, .inl (M 7))), (m + 8, .inl (g.2 0, 100, .inl (M 8))), (m + 9, .inl (g.2 0, 100, .inl (M 9))), (m + 10, .inl (g.2 0, 100, .inl (M 10))), (m + 11, .inl (g.2 0, 100, .inl (M 11))), (m + 12, .inl (g.2 1, 40, .inl (M 12))), (m + 13, .inl (g.2 0, 100, .inl (M 13)))] H := hP
        have hD : va_D (inW (mW g m M hs)) [(m, .inr (5, [.ref (m + 1), .ref (m + 2), .int (M 0 2), .ref (m + 3), .ref (m + 4), .ref (m + 5), .ref (m + 6), .int (M 0 7), .int 2, .ref (m + 7), .ref (m + 8), .ref (m + 9), .ref (m + 10), .ref (m + 11), .ref (m + 12), .ref (m + 13), .long hs])), (m + 1, .inl (g.2 0, 174, .inl (M 1))), (m + 2, .inl (g.2 0, 1044, .inl (M 2))), (m + 3, .inl (g.2 0, 348, .inl (M 3))), (m + 4, .inl (g.2 1, 2, .inl (M 4))), (m + 5, .inl (g.2 0, 174, .inl (M 5))), (m + 6, .inl (g.2 0, 60, .inl (M 6))), (m + 7, .inl (g.2 0, 16, .inl (M 7))), (m + 8, .inl (g.2 0, 100, .inl (M 8))), (m + 9, .inl (g.2 0, 100, .inl (M 9))), (m + 10, .inl (g.2 0, 100, .inl (M 10))), (m + 11, .inl (g.2 0, 100, .inl (M 11))), (m + 12, .inl (g.2 1, 40, .inl (M 12))), (m + 13, .inl (g.2 0, 100, .inl (M 13)))] := hD
        refine topE (show bI (decide ((2 : Int32) = 0)) = 0 from by decide) ?_
        refine lv_if_ne (tgt := 39) hx hb dX5_shape_34 (by decide) (fun c_34 => ?_) (fun c_34 => ?_)
        · skip
          exact absurd c_34 (by decide)
        · skip
          refine lv_iconst (v := 0) hx hb dX5_shape_37 (by decide) ?_
          refine w_i hx hb hr hlk hS dX5_shape_38 ?_ ?_
          · (rw [aShapeT, if_pos c_5, if_pos c_16, if_neg (by rw [c_23]; decide)]; (try simp only [hn_k]); exact hP)
          · rw [aShapeV, if_pos c_5, if_pos c_16, if_neg (by rw [c_23]; decide)]; (try simp only [hn_k])
  · skip
    have c_5 : (inb letter 0 9) = false := bI_0.mp c_5
    refine lv_iconst (v := 1) hx hb dX5_shape_8 (by decide) ?_
    refine lv_goto (tgt := 31) hx hb dX5_shape_9 (by decide) ?_
    refine wrV (rest := []) zS hK hP hD hS (m_X5_holds l g m M hs 1) cw_X5_holds q823 [0, 1, 2, 3, 4, 5, 6, 7, 8, 9, 10, 11, 12, 13] rfl (by decide) rfl 0 rfl rfl ⟨Nat.le_of_ble_eq_true rfl, Nat.le_of_ble_eq_true rfl, rfl, rfl⟩ rfl rfl (Nat.le_of_ble_eq_true rfl) hl.1 dX5_shape_31 ⟨Nat.zero_le _, Nat.zero_le _⟩ (fun H locs hP hD hS => ?_)
    have hP : PP g [(m, .inr (5, [.ref (m + 1), .ref (m + 2), .int (M 0 2), .ref (m + 3), .ref (m + 4), .ref (m + 5), .ref (m + 6), .int (M 0 7), .int 1, .ref (m + 7), .ref (m + 8), .ref (m + 9), .ref (m + 10), .ref (m + 11), .ref (m + 12), .ref (m + 13), .long hs])), (m + 1, .inl (g.2 0, 174, .inl (M 1))), (m + 2, .inl (g.2 0, 1044, .inl (M 2))), (m + 3, .inl (g.2 0, 348, .inl (M 3))), (m + 4, .inl (g.2 1, 2, .inl (M 4))), (m + 5, .inl (g.2 0, 174, .inl (M 5))), (m + 6, .inl (g.2 0, 60, .inl (M 6))), (m + 7, .inl (g.2 0, 16, .inl (M 7))), (m + 8, .inl (g.2 0, 100, .inl (M 8))), (m + 9, .inl (g.2 0, 100, .inl (M 9))), (m + 10, .inl (g.2 0, 100, .inl (M 10))), (m + 11, .inl (g.2 0, 100, .inl (M 11))), (m + 12, .inl (g.2 1, 40, .inl (M 12))), (m + 13, .inl (g.2 0, 100, .inl (M 13)))] H := hP
    have hD : va_D (inW (mW g m M hs)) [(m, .inr (5, [.ref (m + 1), .ref (m + 2), .int (M 0 2), .ref (m + 3), .ref (m + 4), .ref (m + 5), .ref (m + 6), .int (M 0 7), .int 1, .ref (m + 7), .ref (m + 8), .ref (m + 9), .ref (m + 10), .ref (m + 11), .ref (m + 12), .ref (m + 13), .long hs])), (m + 1, .inl (g.2 0, 174, .inl (M 1))), (m + 2, .inl (g.2 0, 1044, .inl (M 2))), (m + 3, .inl (g.2 0, 348, .inl (M 3))), (m + 4, .inl (g.2 1, 2, .inl (M 4))), (m + 5, .inl (g.2 0, 174, .inl (M 5))), (m + 6, .inl (g.2 0, 60, .inl (M 6))), (m + 7, .inl (g.2 0, 16, .inl (M 7))), (m + 8, .inl (g.2 0, 100, .inl (M 8))), (m + 9, .inl (g.2 0, 100, .inl (M 9))), (m + 10, .inl (g.2 0, 100, .inl (M 10))), (m + 11, .inl (g.2 0, 100, .inl (M 11))), (m + 12, .inl (g.2 1, 40, .inl (M 12))), (m + 13, .inl (g.2 0, 100, .inl (M 13)))] := hD
    refine topE (show bI (decide ((1 : Int32) = 0)) = 0 from by decide) ?_
    refine lv_if_ne (tgt := 39) hx hb dX5_shape_34 (by decide) (fun c_34 => ?_) (fun c_34 => ?_)
    · skip
      exact absurd c_34 (by decide)
    · skip
      refine lv_iconst (v := 0) hx hb dX5_shape_37 (by decide) ?_
      refine w_i hx hb hr hlk hS dX5_shape_38 ?_ ?_
      · (rw [aShapeT, if_neg (by rw [c_5]; decide)]; exact hP)
      · rw [aShapeV, if_neg (by rw [c_5]; decide)]
theorem cw_X5_shape : CWV yX5_shape cX5_shape 5 (some .int) 3 := ⟨⟨q841, q65, by decide +kernel, by decide +kernel, by decide +kernel⟩, q839, q840⟩
set_option maxHeartbeats 4000000 in
set_option maxRecDepth 100000 in
theorem m_X5_base (l : Launch) (g : GG) (m : Nat) (M : Nat → Nat → Int32) (hs : Int64) (hSh : MSh (M 1)) (nl : Nat) (hL : MLs (M 1) nl) (q : Nat) (hq : q ≤ 6) (h2 : M 0 2 = nI q) (n : Nat) (hn : n ≤ 60) (h7 : M 0 7 = nI n) (right left kern : Int32) : MW l g yX5_base cX5_base 5 (some .int) ({ frames := 2, cells := 0, slots := 0, locals := 45 } : Room) [.ref m, .int right, .int left, .int kern] (mW g m M hs) (mW g m (aBaseT M q right left kern) hs) (some (.int (aBaseV M right left kern))) := by
  refine MW.of rfl (Nat.le_of_ble_eq_true rfl) ?_
  intro zp ze zs zm zbelow zmeth zc ls zS hr hlk hK hP hD hS hl
  obtain ⟨hx, hb, hml, hown, hts⟩ := id zS
  have hl : lv_has ls 5 [(0, .ref m), (1, .int right), (2, .int left), (3, .int kern)] := hl
  have hnl := hL.2.1
  refine lv_aload_n hx hb dX5_base_0 rfl (lv_at hl 0 rfl) ?_
  refine lv_iload_n hx hb dX5_base_1 rfl (lv_at hl 1 rfl) ?_
  refine rdS (rest := [.ref m]) zS hK hP (m_X5_isShape l g right) cw_X5_isShape q842 [] rfl ⟨Nat.le_of_ble_eq_true rfl, Nat.le_of_ble_eq_true rfl, rfl, rfl⟩ rfl rfl (Nat.le_of_ble_eq_true rfl) hl.1 dX5_base_2 ⟨Nat.zero_le _, Nat.zero_le _⟩ ?_
  refine lv_if_eq (tgt := 15) hx hb dX5_base_5 (by decide) (fun c_5 => ?_) (fun c_5 => ?_)
  · skip
    have c_5 : (inb right 0 3) = false := bI_0.mp c_5
    refine lv_iconst (v := 1) hx hb dX5_base_15 (by decide) ?_
    refine lv_goto (tgt := 35) hx hb dX5_base_16 (by decide) ?_
    refine wrV (rest := []) zS hK hP hD hS (m_X5_holds l g m M hs 1) cw_X5_holds q823 [0, 1, 2, 3, 4, 5, 6, 7, 8, 9, 10, 11, 12, 13] rfl (by decide) rfl 0 rfl rfl ⟨Nat.le_of_ble_eq_true rfl, Nat.le_of_ble_eq_true rfl, rfl, rfl⟩ rfl rfl (Nat.le_of_ble_eq_true rfl) hl.1 dX5_base_35 ⟨Nat.zero_le _, Nat.zero_le _⟩ (fun H locs hP hD hS => ?_)
    have hP : PP g [(m, .inr (5, [.ref (m + 1), .ref (m + 2), .int (M 0 2), .ref (m + 3), .ref (m + 4), .ref (m + 5), .ref (m + 6), .int (M 0 7), .int 1, .ref (m + 7), .ref (m + 8), .ref (m + 9), .ref (m + 10), .ref (m + 11), .ref (m + 12), .ref (m + 13), .long hs])), (m + 1, .inl (g.2 0, 174, .inl (M 1))), (m + 2, .inl (g.2 0, 1044, .inl (M 2))), (m + 3, .inl (g.2 0, 348, .inl (M 3))), (m + 4, .inl (g.2 1, 2, .inl (M 4))), (m + 5, .inl (g.2 0, 174, .inl (M 5))), (m + 6, .inl (g.2 0, 60, .inl (M 6))), (m + 7, .inl (g.2 0, 16, .inl (M 7))), (m + 8, .inl (g.2 0, 100, .inl (M 8))), (m + 9, .inl (g.2 0, 100, .inl (M 9))), (m + 10, .inl (g.2 0, 100, .inl (M 10))), (m + 11, .inl (g.2 0, 100, .inl (M 11))), (m + 12, .inl (g.2 1, 40, .inl (M 12))), (m + 13, .inl (g.2 0, 100, .inl (M 13)))] H := hP
    have hD : va_D (inW (mW g m M hs)) [(m, .inr (5, [.ref (m + 1), .ref (m + 2), .int (M 0 2), .ref (m + 3), .ref (m + 4), .ref (m + 5), .ref (m + 6), .int (M 0 7), .int 1, .ref (m + 7), .ref (m + 8), .ref (m + 9), .ref (m + 10), .ref (m + 11), .ref (m + 12), .ref (m + 13), .long hs])), (m + 1, .inl (g.2 0, 174, .inl (M 1))), (m + 2, .inl (g.2 0, 1044, .inl (M 2))), (m + 3, .inl (g.2 0, 348, .inl (M 3))), (m + 4, .inl (g.2 1, 2, .inl (M 4))), (m + 5, .inl (g.2 0, 174, .inl (M 5))), (m + 6, .inl (g.2 0, 60, .inl (M 6))), (m + 7, .inl (g.2 0, 16, .inl (M 7))), (m + 8, .inl (g.2 0, 100, .inl (M 8))), (m + 9, .inl (g.2 0, 100, .inl (M 9))), (m + 10, .inl (g.2 0, 100, .inl (M 10))), (m + 11, .inl (g.2 0, 100, .inl (M 11))), (m + 12, .inl (g.2 1, 40, .inl (M 12))), (m + 13, .inl (g.2 0, 100, .inl (M 13)))] := hD
    refine topE (show bI (decide ((1 : Int32) = 0)) = 0 from by decide) ?_
    refine lv_if_ne (tgt := 43) hx hb dX5_base_38 (by decide) (fun c_38 => ?_) (fun c_38 => ?_)
    · skip
      exact absurd c_38 (by decide)
    · skip
      refine lv_iconst (v := 0) hx hb dX5_base_41 (by decide) ?_
      refine w_i hx hb hr hlk hS dX5_base_42 ?_ ?_
      · (rw [aBaseT, if_neg (by rw [c_5]; decide)]; exact hP)
      · rw [aBaseV, if_neg (by rw [c_5]; decide)]
  · skip
    have c_5 : (inb right 0 3) = true := bI_n0.mp c_5
    obtain ⟨k, h_k, rfl⟩ := inb_nI (n := 3) c_5 rfl (by omega)
    have hn_k : nn (nI k) = k := nI_clamp (by omega)
    refine lv_iload_n hx hb dX5_base_8 rfl (lv_at hl 2 rfl) ?_
    refine rdS (rest := [.ref m]) zS hK hP (m_X5_isShape l g left) cw_X5_isShape q842 [] rfl ⟨Nat.le_of_ble_eq_true rfl, Nat.le_of_ble_eq_true rfl, rfl, rfl⟩ rfl rfl (Nat.le_of_ble_eq_true rfl) hl.1 dX5_base_9 ⟨Nat.zero_le _, Nat.zero_le _⟩ ?_
    refine lv_if_ne (tgt := 19) hx hb dX5_base_12 (by decide) (fun c_12 => ?_) (fun c_12 => ?_)
    · skip
      have c_12 : (inb left 0 3) = true := bI_n0.mp c_12
      obtain ⟨j, h_j, rfl⟩ := inb_nI (n := 3) c_12 rfl (by omega)
      have hn_j : nn (nI j) = j := nI_clamp (by omega)
      refine lv_iload_n hx hb dX5_base_19 rfl (lv_at hl 3 rfl) ?_
      refine lv_bipush (v := (-12)) hx hb dX5_base_20 (by decide) ?_
      refine lv_bipush (v := 12) hx hb dX5_base_22 (by decide) ?_
      refine rdS (rest := [.ref m]) zS hK hP (m_X5_in l g kern (-12) 12) cw_X5_in q820 [] rfl ⟨Nat.le_of_ble_eq_true rfl, Nat.le_of_ble_eq_true rfl, rfl, rfl⟩ rfl rfl (Nat.le_of_ble_eq_true rfl) hl.1 dX5_base_24 ⟨Nat.zero_le _, Nat.zero_le _⟩ ?_
      refine lv_if_ne (tgt := 34) hx hb dX5_base_27 (by decide) (fun c_27 => ?_) (fun c_27 => ?_)
      · skip
        have c_27 : (inb kern (-12) 12) = true := bI_n0.mp c_27
        refine lv_iconst (v := 0) hx hb dX5_base_34 (by decide) ?_
        refine wrV (rest := []) zS hK hP hD hS (m_X5_holds l g m M hs 0) cw_X5_holds q823 [0, 1, 2, 3, 4, 5, 6, 7, 8, 9, 10, 11, 12, 13] rfl (by decide) rfl 0 rfl rfl ⟨Nat.le_of_ble_eq_true rfl, Nat.le_of_ble_eq_true rfl, rfl, rfl⟩ rfl rfl (Nat.le_of_ble_eq_true rfl) hl.1 dX5_base_35 ⟨Nat.zero_le _, Nat.zero_le _⟩ (fun H locs hP hD hS => ?_)
        have hP : PP g [(m, .inr (5, [.ref (m + 1), .ref (m + 2), .int (M 0 2), .ref (m + 3), .ref (m + 4), .ref (m + 5), .ref (m + 6), .int (M 0 7), .int 0, .ref (m + 7), .ref (m + 8), .ref (m + 9), .ref (m + 10), .ref (m + 11), .ref (m + 12), .ref (m + 13), .long hs])), (m + 1, .inl (g.2 0, 174, .inl (M 1))), (m + 2, .inl (g.2 0, 1044, .inl (M 2))), (m + 3, .inl (g.2 0, 348, .inl (M 3))), (m + 4, .inl (g.2 1, 2, .inl (M 4))), (m + 5, .inl (g.2 0, 174, .inl (M 5))), (m + 6, .inl (g.2 0, 60, .inl (M 6))), (m + 7, .inl (g.2 0, 16, .inl (M 7))), (m + 8, .inl (g.2 0, 100, .inl (M 8))), (m + 9, .inl (g.2 0, 100, .inl (M 9))), (m + 10, .inl (g.2 0, 100, .inl (M 10))), (m + 11, .inl (g.2 0, 100, .inl (M 11))), (m + 12, .inl (g.2 1, 40, .inl (M 12))), (m + 13, .inl (g.2 0, 100, .inl (M 13)))] H := hP
        have hD : va_D (inW (mW g m M hs)) [(m, .inr (5, [.ref (m + 1), .ref (m + 2), .int (M 0 2), .ref (m + 3), .ref (m + 4), .ref (m + 5), .ref (m + 6), .int (M 0 7), .int 0, .ref (m + 7), .ref (m + 8), .ref (m + 9), .ref (m + 10), .ref (m + 11), .ref (m + 12), .ref (m + 13), .long hs])), (m + 1, .inl (g.2 0, 174, .inl (M 1))), (m + 2, .inl (g.2 0, 1044, .inl (M 2))), (m + 3, .inl (g.2 0, 348, .inl (M 3))), (m + 4, .inl (g.2 1, 2, .inl (M 4))), (m + 5, .inl (g.2 0, 174, .inl (M 5))), (m + 6, .inl (g.2 0, 60, .inl (M 6))), (m + 7, .inl (g.2 0, 16, .inl (M 7))), (m + 8, .inl (g.2 0, 100, .inl (M 8))), (m + 9, .inl (g.2 0, 100, .inl (M 9))), (m + 10, .inl (g.2 0, 100, .inl (M 10))), (m + 11, .inl (g.2 0, 100, .inl (M 11))), (m + 12, .inl (g.2 1, 40, .inl (M 12))), (m + 13, .inl (g.2 0, 100, .inl (M 13)))] := hD
        refine topE (show bI (decide ((0 : Int32) = 0)) = 1 from by decide) ?_
        refine lv_if_ne (tgt := 43) hx hb dX5_base_38 (by decide) (fun c_38 => ?_) (fun c_38 => ?_)
        · skip
          refine lv_aload_n hx hb dX5_base_43 rfl (lv_at hl 0 rfl) ?_
          refine wrV (rest := []) zS hK hP hD hS (m_X5_save l g m (rw_ M 0 (upd (M 0) 8 0)) hs q (by omega) h2) cw_X5_save q827 [0, 1, 2, 3, 4, 5, 6, 7, 8, 9, 10, 11, 12, 13] rfl (by decide) rfl 0 rfl rfl ⟨Nat.le_of_ble_eq_true rfl, Nat.le_of_ble_eq_true rfl, rfl, rfl⟩ rfl rfl (Nat.le_of_ble_eq_true rfl) hl.1 dX5_base_44 ⟨Nat.zero_le _, Nat.zero_le _⟩ (fun H locs hP hD hS => ?_)
          have hP : PP g [(m, .inr (5, [.ref (m + 1), .ref (m + 2), .int (nI (svQ q + 1)), .ref (m + 3), .ref (m + 4), .ref (m + 5), .ref (m + 6), .int (M 0 7), .int 0, .ref (m + 7), .ref (m + 8), .ref (m + 9), .ref (m + 10), .ref (m + 11), .ref (m + 12), .ref (m + 13), .long hs])), (m + 1, .inl (g.2 0, 174, .inl (M 1))), (m + 2, .inl (g.2 0, 1044, .inl (svF (M 1) (M 2) q))), (m + 3, .inl (g.2 0, 348, .inl (M 3))), (m + 4, .inl (g.2 1, 2, .inl (M 4))), (m + 5, .inl (g.2 0, 174, .inl (M 5))), (m + 6, .inl (g.2 0, 60, .inl (M 6))), (m + 7, .inl (g.2 0, 16, .inl (M 7))), (m + 8, .inl (g.2 0, 100, .inl (M 8))), (m + 9, .inl (g.2 0, 100, .inl (M 9))), (m + 10, .inl (g.2 0, 100, .inl (M 10))), (m + 11, .inl (g.2 0, 100, .inl (M 11))), (m + 12, .inl (g.2 1, 40, .inl (M 12))), (m + 13, .inl (g.2 0, 100, .inl (M 13)))] H := hP
          have hD : va_D (inW (mW g m M hs)) [(m, .inr (5, [.ref (m + 1), .ref (m + 2), .int (nI (svQ q + 1)), .ref (m + 3), .ref (m + 4), .ref (m + 5), .ref (m + 6), .int (M 0 7), .int 0, .ref (m + 7), .ref (m + 8), .ref (m + 9), .ref (m + 10), .ref (m + 11), .ref (m + 12), .ref (m + 13), .long hs])), (m + 1, .inl (g.2 0, 174, .inl (M 1))), (m + 2, .inl (g.2 0, 1044, .inl (svF (M 1) (M 2) q))), (m + 3, .inl (g.2 0, 348, .inl (M 3))), (m + 4, .inl (g.2 1, 2, .inl (M 4))), (m + 5, .inl (g.2 0, 174, .inl (M 5))), (m + 6, .inl (g.2 0, 60, .inl (M 6))), (m + 7, .inl (g.2 0, 16, .inl (M 7))), (m + 8, .inl (g.2 0, 100, .inl (M 8))), (m + 9, .inl (g.2 0, 100, .inl (M 9))), (m + 10, .inl (g.2 0, 100, .inl (M 10))), (m + 11, .inl (g.2 0, 100, .inl (M 11))), (m + 12, .inl (g.2 1, 40, .inl (M 12))), (m + 13, .inl (g.2 0, 100, .inl (M 13)))] := hD
          refine lv_aload_n hx hb dX5_base_47 rfl (lv_at hl 0 rfl) ?_
          refine gf zS hK hP iG5 rfl 0 rfl 0 (by decide) q757 rfl rfl dX5_base_48 ?_
          refine lv_bipush (v := 38) hx hb dX5_base_51 (by decide) ?_
          refine lv_iconst (v := 4) hx hb dX5_base_53 (by decide) ?_
          refine lv_iload_n hx hb dX5_base_54 rfl (lv_at hl 1 rfl) ?_
          refine lv_imul hx hb dX5_base_55 ?_
          refine topE (pk_mul 4 k) ?_
          refine lv_iadd hx hb dX5_base_56 ?_
          refine topE (nI_add 38 (4 * k)) ?_
          refine lv_iload_n hx hb dX5_base_57 rfl (lv_at hl 2 rfl) ?_
          refine lv_iadd hx hb dX5_base_58 ?_
          refine topE (nI_add (38 + (4 * k)) j) ?_
          refine aldN (j := ((38 + (4 * k)) + j)) hx hb hK hP 1 0 rfl rfl rfl (by omega) (by decide) dX5_base_59 ?_
          refine lv_istore (lv' := [(4, .int (M 1 ((38 + (4 * k)) + j))), (0, .ref m), (1, .int (nI k)), (2, .int (nI j)), (3, .int kern)]) hx hb dX5_base_60 hl (by decide) rfl (fun ls hl => ?_)
          refine lv_aload_n hx hb dX5_base_62 rfl (lv_at hl 1 rfl) ?_
          refine gf zS hK hP iG5 rfl 0 rfl 0 (by decide) q757 rfl rfl dX5_base_63 ?_
          refine lv_bipush (v := 38) hx hb dX5_base_66 (by decide) ?_
          refine lv_iconst (v := 4) hx hb dX5_base_68 (by decide) ?_
          refine lv_iload_n hx hb dX5_base_69 rfl (lv_at hl 2 rfl) ?_
          refine lv_imul hx hb dX5_base_70 ?_
          refine topE (pk_mul 4 k) ?_
          refine lv_iadd hx hb dX5_base_71 ?_
          refine topE (nI_add 38 (4 * k)) ?_
          refine lv_iload_n hx hb dX5_base_72 rfl (lv_at hl 3 rfl) ?_
          refine lv_iadd hx hb dX5_base_73 ?_
          refine topE (nI_add (38 + (4 * k)) j) ?_
          refine lv_iload_n hx hb dX5_base_74 rfl (lv_at hl 4 rfl) ?_
          refine astN (j := ((38 + (4 * k)) + j)) hx hb hK hP hD hS 1 0 rfl rfl rfl (by omega) (by decide) dX5_base_75 (fun H locs hP hD hS => ?_)
          have hP : PP g [(m, .inr (5, [.ref (m + 1), .ref (m + 2), .int (nI (svQ q + 1)), .ref (m + 3), .ref (m + 4), .ref (m + 5), .ref (m + 6), .int (M 0 7), .int 0, .ref (m + 7), .ref (m + 8), .ref (m + 9), .ref (m + 10), .ref (m + 11), .ref (m + 12), .ref (m + 13), .long hs])), (m + 1, .inl (g.2 0, 174, .inl (upd (M 1) ((38 + (4 * k)) + j) kern))), (m + 2, .inl (g.2 0, 1044, .inl (svF (M 1) (M 2) q))), (m + 3, .inl (g.2 0, 348, .inl (M 3))), (m + 4, .inl (g.2 1, 2, .inl (M 4))), (m + 5, .inl (g.2 0, 174, .inl (M 5))), (m + 6, .inl (g.2 0, 60, .inl (M 6))), (m + 7, .inl (g.2 0, 16, .inl (M 7))), (m + 8, .inl (g.2 0, 100, .inl (M 8))), (m + 9, .inl (g.2 0, 100, .inl (M 9))), (m + 10, .inl (g.2 0, 100, .inl (M 10))), (m + 11, .inl (g.2 0, 100, .inl (M 11))), (m + 12, .inl (g.2 1, 40, .inl (M 12))), (m + 13, .inl (g.2 0, 100, .inl (M 13)))] H := hP
          have hD : va_D (inW (mW g m M hs)) [(m, .inr (5, [.ref (m + 1), .ref (m + 2), .int (nI (svQ q + 1)), .ref (m + 3), .ref (m + 4), .ref (m + 5), .ref (m + 6), .int (M 0 7), .int 0, .ref (m + 7), .ref (m + 8), .ref (m + 9), .ref (m + 10), .ref (m + 11), .ref (m + 12), .ref (m + 13), .long hs])), (m + 1, .inl (g.2 0, 174, .inl (upd (M 1) ((38 + (4 * k)) + j) kern))), (m + 2, .inl (g.2 0, 1044, .inl (svF (M 1) (M 2) q))), (m + 3, .inl (g.2 0, 348, .inl (M 3))), (m + 4, .inl (g.2 1, 2, .inl (M 4))), (m + 5, .inl (g.2 0, 174, .inl (M 5))), (m + 6, .inl (g.2 0, 60, .inl (M 6))), (m + 7, .inl (g.2 0, 16, .inl (M 7))), (m + 8, .inl (g.2 0, 100, .inl (M 8))), (m + 9, .inl (g.2 0, 100, .inl (M 9))), (m + 10, .inl (g.2 0, 100, .inl (M 10))), (m + 11, .inl (g.2 0, 100, .inl (M 11))), (m + 12, .inl (g.2 1, 40, .inl (M 12))), (m + 13, .inl (g.2 0, 100, .inl (M 13)))] := hD
          refine lv_aload_n hx hb dX5_base_76 rfl (lv_at hl 1 rfl) ?_
          refine gf zS hK hP iG5 rfl 0 rfl 0 (by decide) q757 rfl rfl dX5_base_77 ?_
          refine lv_bipush (v := 7) hx hb dX5_base_80 (by decide) ?_
          refine lv_dup2_11 hx hb dX5_base_82 rfl rfl ?_
          refine aldN (j := 7) hx hb hK hP 1 0 rfl rfl rfl (by omega) (by decide) dX5_base_83 ?_
          refine topE (y := M 1 7) ((by repeat rw [upd_n _ _ (by omega)])) ?_
          refine lv_iconst (v := 1) hx hb dX5_base_84 (by decide) ?_
          refine lv_iadd hx hb dX5_base_85 ?_
          refine astN (j := 7) hx hb hK hP hD hS 1 0 rfl rfl rfl (by omega) (by decide) dX5_base_86 (fun H locs hP hD hS => ?_)
          have hP : PP g [(m, .inr (5, [.ref (m + 1), .ref (m + 2), .int (nI (svQ q + 1)), .ref (m + 3), .ref (m + 4), .ref (m + 5), .ref (m + 6), .int (M 0 7), .int 0, .ref (m + 7), .ref (m + 8), .ref (m + 9), .ref (m + 10), .ref (m + 11), .ref (m + 12), .ref (m + 13), .long hs])), (m + 1, .inl (g.2 0, 174, .inl (upd (upd (M 1) ((38 + (4 * k)) + j) kern) 7 ((M 1 7) + 1)))), (m + 2, .inl (g.2 0, 1044, .inl (svF (M 1) (M 2) q))), (m + 3, .inl (g.2 0, 348, .inl (M 3))), (m + 4, .inl (g.2 1, 2, .inl (M 4))), (m + 5, .inl (g.2 0, 174, .inl (M 5))), (m + 6, .inl (g.2 0, 60, .inl (M 6))), (m + 7, .inl (g.2 0, 16, .inl (M 7))), (m + 8, .inl (g.2 0, 100, .inl (M 8))), (m + 9, .inl (g.2 0, 100, .inl (M 9))), (m + 10, .inl (g.2 0, 100, .inl (M 10))), (m + 11, .inl (g.2 0, 100, .inl (M 11))), (m + 12, .inl (g.2 1, 40, .inl (M 12))), (m + 13, .inl (g.2 0, 100, .inl (M 13)))] H := hP
          have hD : va_D (inW (mW g m M hs)) [(m, .inr (5, [.ref (m + 1), .ref (m + 2), .int (nI (svQ q + 1)), .ref (m + 3), .ref (m + 4), .ref (m + 5), .ref (m + 6), .int (M 0 7), .int 0, .ref (m + 7), .ref (m + 8), .ref (m + 9), .ref (m + 10), .ref (m + 11), .ref (m + 12), .ref (m + 13), .long hs])), (m + 1, .inl (g.2 0, 174, .inl (upd (upd (M 1) ((38 + (4 * k)) + j) kern) 7 ((M 1 7) + 1)))), (m + 2, .inl (g.2 0, 1044, .inl (svF (M 1) (M 2) q))), (m + 3, .inl (g.2 0, 348, .inl (M 3))), (m + 4, .inl (g.2 1, 2, .inl (M 4))), (m + 5, .inl (g.2 0, 174, .inl (M 5))), (m + 6, .inl (g.2 0, 60, .inl (M 6))), (m + 7, .inl (g.2 0, 16, .inl (M 7))), (m + 8, .inl (g.2 0, 100, .inl (M 8))), (m + 9, .inl (g.2 0, 100, .inl (M 9))), (m + 10, .inl (g.2 0, 100, .inl (M 10))), (m + 11, .inl (g.2 0, 100, .inl (M 11))), (m + 12, .inl (g.2 1, 40, .inl (M 12))), (m + 13, .inl (g.2 0, 100, .inl (M 13)))] := hD
          refine lv_iload hx hb dX5_base_87 (lv_at hl 0 rfl) ?_
          refine lv_bipush (v := 100) hx hb dX5_base_89 (by decide) ?_
          refine lv_iadd hx hb dX5_base_91 ?_
          refine w_i hx hb hr hlk hS dX5_base_92 ?_ ?_
          · (rw [aBaseT, if_pos c_5, if_pos c_12, if_pos c_27]; (try simp only [hn_k, hn_j]); exact hP)
          · rw [aBaseV, if_pos c_5, if_pos c_12, if_pos c_27]; (try simp only [hn_k, hn_j])
        · skip
          exact absurd c_38 (by decide)
      · skip
        have c_27 : (inb kern (-12) 12) = false := bI_0.mp c_27
        refine lv_iconst (v := 2) hx hb dX5_base_30 (by decide) ?_
        refine lv_goto (tgt := 35) hx hb dX5_base_31 (by decide) ?_
        refine wrV (rest := []) zS hK hP hD hS (m_X5_holds l g m M hs 2) cw_X5_holds q823 [0, 1, 2, 3, 4, 5, 6, 7, 8, 9, 10, 11, 12, 13] rfl (by decide) rfl 0 rfl rfl ⟨Nat.le_of_ble_eq_true rfl, Nat.le_of_ble_eq_true rfl, rfl, rfl⟩ rfl rfl (Nat.le_of_ble_eq_true rfl) hl.1 dX5_base_35 ⟨Nat.zero_le _, Nat.zero_le _⟩ (fun H locs hP hD hS => ?_)
        have hP : PP g [(m, .inr (5, [.ref (m + 1), .ref (m + 2), .int (M 0 2), .ref (m + 3), .ref (m + 4), .ref (m + 5), .ref (m + 6), .int (M 0 7), .int 2, .ref (m + 7), .ref (m + 8), .ref (m + 9), .ref (m + 10), .ref (m + 11), .ref (m + 12), .ref (m + 13), .long hs])), (m + 1, .inl (g.2 0, 174, .inl (M 1))), (m + 2, .inl (g.2 0, 1044, .inl (M 2))), (m + 3, .inl (g.2 0, 348, .inl (M 3))), (m + 4, .inl (g.2 1, 2, .inl (M 4))), (m + 5, .inl (g.2 0, 174, .inl (M 5))), (m + 6, .inl (g.2 0, 60, .inl (M 6))), (m + 7, .inl (g.2 0, 16, .inl (M 7))), (m + 8, .inl (g.2 0, 100, .inl (M 8))), (m + 9, .inl (g.2 0, 100, .inl (M 9))), (m + 10, .inl (g.2 0, 100, .inl (M 10))), (m + 11, .inl (g.2 0, 100, .inl (M 11))), (m + 12, .inl (g.2 1, 40, .inl (M 12))), (m + 13, .inl (g.2 0, 100, .inl (M 13)))] H := hP
        have hD : va_D (inW (mW g m M hs)) [(m, .inr (5, [.ref (m + 1), .ref (m + 2), .int (M 0 2), .ref (m + 3), .ref (m + 4), .ref (m + 5), .ref (m + 6), .int (M 0 7), .int 2, .ref (m + 7), .ref (m + 8), .ref (m + 9), .ref (m + 10), .ref (m + 11), .ref (m + 12), .ref (m + 13), .long hs])), (m + 1, .inl (g.2 0, 174, .inl (M 1))), (m + 2, .inl (g.2 0, 1044, .inl (M 2))), (m + 3, .inl (g.2 0, 348, .inl (M 3))), (m + 4, .inl (g.2 1, 2, .inl (M 4))), (m + 5, .inl (g.2 0, 174, .inl (M 5))), (m + 6, .inl (g.2 0, 60, .inl (M 6))), (m + 7, .inl (g.2 0, 16, .inl (M 7))), (m + 8, .inl (g.2 0, 100, .inl (M 8))), (m + 9, .inl (g.2 0, 100, .inl (M 9))), (m + 10, .inl (g.2 0, 100, .inl (M 10))), (m + 11, .inl (g.2 0, 100, .inl (M 11))), (m + 12, .inl (g.2 1, 40, .inl (M 12))), (m + 13, .inl (g.2 0, 100, .inl (M 13)))] := hD
        refine topE (show bI (decide ((2 : Int32) = 0)) = 0 from by decide) ?_
        refine lv_if_ne (tgt := 43) hx hb dX5_base_38 (by decide) (fun c_38 => ?_) (fun c_38 => ?_)
        · skip
          exact absurd c_38 (by decide)
        · skip
          refine lv_iconst (v := 0) hx hb dX5_base_41 (by decide) ?_
          refine w_i hx hb hr hlk hS dX5_base_42 ?_ ?_
          · (rw [aBaseT, if_pos c_5, if_pos c_12, if_neg (by rw [c_27]; decide)]; (try simp only [hn_k, hn_j]); exact hP)
          · rw [aBaseV, if_pos c_5, if_pos c_12, if_neg (by rw [c_27]; decide)]; (try simp only [hn_k, hn_j])
    · skip
      have c_12 : (inb left 0 3) = false := bI_0.mp c_12
      refine lv_iconst (v := 1) hx hb dX5_base_15 (by decide) ?_
      refine lv_goto (tgt := 35) hx hb dX5_base_16 (by decide) ?_
      refine wrV (rest := []) zS hK hP hD hS (m_X5_holds l g m M hs 1) cw_X5_holds q823 [0, 1, 2, 3, 4, 5, 6, 7, 8, 9, 10, 11, 12, 13] rfl (by decide) rfl 0 rfl rfl ⟨Nat.le_of_ble_eq_true rfl, Nat.le_of_ble_eq_true rfl, rfl, rfl⟩ rfl rfl (Nat.le_of_ble_eq_true rfl) hl.1 dX5_base_35 ⟨Nat.zero_le _, Nat.zero_le _⟩ (fun H locs hP hD hS => ?_)
      have hP : PP g [(m, .inr (5, [.ref (m + 1), .ref (m + 2), .int (M 0 2), .ref (m + 3), .ref (m + 4), .ref (m + 5), .ref (m + 6), .int (M 0 7), .int 1, .ref (m + 7), .ref (m + 8), .ref (m + 9), .ref (m + 10), .ref (m + 11), .ref (m + 12), .ref (m + 13), .long hs])), (m + 1, .inl (g.2 0, 174, .inl (M 1))), (m + 2, .inl (g.2 0, 1044, .inl (M 2))), (m + 3, .inl (g.2 0, 348, .inl (M 3))), (m + 4, .inl (g.2 1, 2, .inl (M 4))), (m + 5, .inl (g.2 0, 174, .inl (M 5))), (m + 6, .inl (g.2 0, 60, .inl (M 6))), (m + 7, .inl (g.2 0, 16, .inl (M 7))), (m + 8, .inl (g.2 0, 100, .inl (M 8))), (m + 9, .inl (g.2 0, 100, .inl (M 9))), (m + 10, .inl (g.2 0, 100, .inl (M 10))), (m + 11, .inl (g.2 0, 100, .inl (M 11))), (m + 12, .inl (g.2 1, 40, .inl (M 12))), (m + 13, .inl (g.2 0, 100, .inl (M 13)))] H := hP
      have hD : va_D (inW (mW g m M hs)) [(m, .inr (5, [.ref (m + 1), .ref (m + 2), .int (M 0 2), .ref (m + 3), .ref (m + 4), .ref (m + 5), .ref (m + 6), .int (M 0 7), .int 1, .ref (m + 7), .ref (m + 8), .ref (m + 9), .ref (m + 10), .ref (m + 11), .ref (m + 12), .ref (m + 13), .long hs])), (m + 1, .inl (g.2 0, 174, .inl (M 1))), (m + 2, .inl (g.2 0, 1044, .inl (M 2))), (m + 3, .inl (g.2 0, 348, .inl (M 3))), (m + 4, .inl (g.2 1, 2, .inl (M 4))), (m + 5, .inl (g.2 0, 174, .inl (M 5))), (m + 6, .inl (g.2 0, 60, .inl (M 6))), (m + 7, .inl (g.2 0, 16, .inl (M 7))), (m + 8, .inl (g.2 0, 100, .inl (M 8))), (m + 9, .inl (g.2 0, 100, .inl (M 9))), (m + 10, .inl (g.2 0, 100, .inl (M 10))), (m + 11, .inl (g.2 0, 100, .inl (M 11))), (m + 12, .inl (g.2 1, 40, .inl (M 12))), (m + 13, .inl (g.2 0, 100, .inl (M 13)))] := hD
      refine topE (show bI (decide ((1 : Int32) = 0)) = 0 from by decide) ?_
      refine lv_if_ne (tgt := 43) hx hb dX5_base_38 (by decide) (fun c_38 => ?_) (fun c_38 => ?_)
      · skip
        exact absurd c_38 (by decide)
      · skip
        refine lv_iconst (v := 0) hx hb dX5_base_41 (by decide) ?_
        refine w_i hx hb hr hlk hS dX5_base_42 ?_ ?_
        · (rw [aBaseT, if_pos c_5, if_neg (by rw [c_12]; decide)]; (try simp only [hn_k]); exact hP)
        · rw [aBaseV, if_pos c_5, if_neg (by rw [c_12]; decide)]; (try simp only [hn_k])
theorem cw_X5_base : CWV yX5_base cX5_base 5 (some .int) 3 := ⟨⟨q848, q65, by decide +kernel, by decide +kernel, by decide +kernel⟩, q846, q847⟩
set_option maxHeartbeats 4000000 in
set_option maxRecDepth 100000 in
theorem m_X5_fits (l : Launch) (g : GG) (x : Nat) (hx4 : x < 4) (v : Int32) : MR l g yX5_fits cX5_fits 2 (some .boolean) ({ frames := 1, cells := 0, slots := 0, locals := 22 } : Room) [.int (nI x), .int v] [] (some (.int (bI (fitb x v)))) := by
  refine MR.of rfl (Nat.le_of_ble_eq_true rfl) ?_
  intro zp ze zs zm zbelow zmeth zc ls zS hr hlk hK hP hl
  obtain ⟨hx, hb, hml, hown, hts⟩ := id zS
  have hl : lv_has ls 2 [(0, .int (nI x)), (1, .int v)] := hl
  refine lv_iload_n hx hb dX5_fits_0 rfl (lv_at hl 0 rfl) ?_
  refine lv_if_ne (tgt := 14) hx hb dX5_fits_1 (by decide) (fun c_1 => ?_) (fun c_1 => ?_)
  · skip
    have c_1 : x ≠ 0 := fun z => c_1 ((nI_eq (a := x) (b := 0) (by omega) (by omega)).mpr z)
    refine lv_iload_n hx hb dX5_fits_14 rfl (lv_at hl 0 rfl) ?_
    refine lv_iconst (v := 1) hx hb dX5_fits_15 (by decide) ?_
    refine lv_icmp_ne (tgt := 28) hx hb dX5_fits_16 (by decide) (fun c_16 => ?_) (fun c_16 => ?_)
    · skip
      have c_16 : x ≠ 1 := fun z => c_16 ((nI_eq (a := x) (b := 1) (by omega) (by omega)).mpr z)
      refine lv_iload_n hx hb dX5_fits_28 rfl (lv_at hl 0 rfl) ?_
      refine lv_iconst (v := 2) hx hb dX5_fits_29 (by decide) ?_
      refine lv_icmp_ne (tgt := 43) hx hb dX5_fits_30 (by decide) (fun c_30 => ?_) (fun c_30 => ?_)
      · skip
        have c_30 : x ≠ 2 := fun z => c_30 ((nI_eq (a := x) (b := 2) (by omega) (by omega)).mpr z)
        refine lv_iload_n hx hb dX5_fits_43 rfl (lv_at hl 1 rfl) ?_
        refine lv_bipush (v := 40) hx hb dX5_fits_44 (by decide) ?_
        refine lv_sipush (v := 600) hx hb dX5_fits_46 (by decide) ?_
        refine rdS (rest := []) zS hK hP (m_X5_in l g v 40 600) cw_X5_in q820 [] rfl ⟨Nat.le_of_ble_eq_true rfl, Nat.le_of_ble_eq_true rfl, rfl, rfl⟩ rfl rfl (Nat.le_of_ble_eq_true rfl) hl.1 dX5_fits_49 ⟨Nat.zero_le _, Nat.zero_le _⟩ ?_
        refine r_z hx hb hr hlk dX5_fits_52 (bI_01 _) ?_
        rw [fitb, if_neg c_1, if_neg c_16, if_neg c_30]
      · skip
        have c_30 : x = 2 := (nI_eq (a := x) (b := 2) (by omega) (by omega)).mp c_30
        refine lv_iload_n hx hb dX5_fits_33 rfl (lv_at hl 1 rfl) ?_
        refine lv_iconst (v := 1) hx hb dX5_fits_34 (by decide) ?_
        refine lv_bipush (v := 20) hx hb dX5_fits_35 (by decide) ?_
        refine rdS (rest := []) zS hK hP (m_X5_in l g v 1 20) cw_X5_in q820 [] rfl ⟨Nat.le_of_ble_eq_true rfl, Nat.le_of_ble_eq_true rfl, rfl, rfl⟩ rfl rfl (Nat.le_of_ble_eq_true rfl) hl.1 dX5_fits_37 ⟨Nat.zero_le _, Nat.zero_le _⟩ ?_
        refine lv_goto (tgt := 52) hx hb dX5_fits_40 (by decide) ?_
        refine r_z hx hb hr hlk dX5_fits_52 (bI_01 _) ?_
        rw [fitb, if_neg c_1, if_neg c_16, if_pos c_30]
    · skip
      have c_16 : x = 1 := (nI_eq (a := x) (b := 1) (by omega) (by omega)).mp c_16
      refine lv_iload_n hx hb dX5_fits_19 rfl (lv_at hl 1 rfl) ?_
      refine lv_iconst (v := 2) hx hb dX5_fits_20 (by decide) ?_
      refine lv_iconst (v := 5) hx hb dX5_fits_21 (by decide) ?_
      refine rdS (rest := []) zS hK hP (m_X5_in l g v 2 5) cw_X5_in q820 [] rfl ⟨Nat.le_of_ble_eq_true rfl, Nat.le_of_ble_eq_true rfl, rfl, rfl⟩ rfl rfl (Nat.le_of_ble_eq_true rfl) hl.1 dX5_fits_22 ⟨Nat.zero_le _, Nat.zero_le _⟩ ?_
      refine lv_goto (tgt := 52) hx hb dX5_fits_25 (by decide) ?_
      refine r_z hx hb hr hlk dX5_fits_52 (bI_01 _) ?_
      rw [fitb, if_neg c_1, if_pos c_16]
  · skip
    have c_1 : x = 0 := (nI_eq (a := x) (b := 0) (by omega) (by omega)).mp c_1
    refine lv_iload_n hx hb dX5_fits_4 rfl (lv_at hl 1 rfl) ?_
    refine lv_iconst (v := 1) hx hb dX5_fits_5 (by decide) ?_
    refine lv_bipush (v := 6) hx hb dX5_fits_6 (by decide) ?_
    refine rdS (rest := []) zS hK hP (m_X5_in l g v 1 6) cw_X5_in q820 [] rfl ⟨Nat.le_of_ble_eq_true rfl, Nat.le_of_ble_eq_true rfl, rfl, rfl⟩ rfl rfl (Nat.le_of_ble_eq_true rfl) hl.1 dX5_fits_8 ⟨Nat.zero_le _, Nat.zero_le _⟩ ?_
    refine lv_goto (tgt := 52) hx hb dX5_fits_11 (by decide) ?_
    refine r_z hx hb hr hlk dX5_fits_52 (bI_01 _) ?_
    rw [fitb, if_pos c_1]
theorem cw_X5_fits : CWS yX5_fits cX5_fits 2 (some .boolean) 2 := ⟨⟨q855, q65, by decide +kernel, by decide +kernel, by decide +kernel⟩, q854⟩
set_option maxHeartbeats 4000000 in
set_option maxRecDepth 100000 in
theorem m_X5_set (l : Launch) (g : GG) (m : Nat) (M : Nat → Nat → Int32) (hs : Int64) (hSh : MSh (M 1)) (nl : Nat) (hL : MLs (M 1) nl) (q : Nat) (hq : q ≤ 6) (h2 : M 0 2 = nI q) (n : Nat) (hn : n ≤ 60) (h7 : M 0 7 = nI n) (setting value : Int32) : MW l g yX5_set cX5_set 4 (some .int) ({ frames := 2, cells := 0, slots := 0, locals := 45 } : Room) [.ref m, .int setting, .int value] (mW g m M hs) (mW g m (aSetT M q setting value) hs) (some (.int (aSetV M setting value))) := by
  refine MW.of rfl (Nat.le_of_ble_eq_true rfl) ?_
  intro zp ze zs zm zbelow zmeth zc ls zS hr hlk hK hP hD hS hl
  obtain ⟨hx, hb, hml, hown, hts⟩ := id zS
  have hl : lv_has ls 4 [(0, .ref m), (1, .int setting), (2, .int value)] := hl
  have hnl := hL.2.1
  refine lv_aload_n hx hb dX5_set_0 rfl (lv_at hl 0 rfl) ?_
  refine lv_iload_n hx hb dX5_set_1 rfl (lv_at hl 1 rfl) ?_
  refine lv_iconst (v := 0) hx hb dX5_set_2 (by decide) ?_
  refine lv_iconst (v := 3) hx hb dX5_set_3 (by decide) ?_
  refine rdS (rest := [.ref m]) zS hK hP (m_X5_in l g setting 0 3) cw_X5_in q820 [] rfl ⟨Nat.le_of_ble_eq_true rfl, Nat.le_of_ble_eq_true rfl, rfl, rfl⟩ rfl rfl (Nat.le_of_ble_eq_true rfl) hl.1 dX5_set_4 ⟨Nat.zero_le _, Nat.zero_le _⟩ ?_
  refine lv_if_ne (tgt := 14) hx hb dX5_set_7 (by decide) (fun c_7 => ?_) (fun c_7 => ?_)
  · skip
    have c_7 : (inb setting 0 3) = true := bI_n0.mp c_7
    obtain ⟨k, h_k, rfl⟩ := inb_nI (n := 3) c_7 rfl (by omega)
    have hn_k : nn (nI k) = k := nI_clamp (by omega)
    refine lv_iload_n hx hb dX5_set_14 rfl (lv_at hl 1 rfl) ?_
    refine lv_iload_n hx hb dX5_set_15 rfl (lv_at hl 2 rfl) ?_
    refine rdS (rest := [.ref m]) zS hK hP (m_X5_fits l g k (by omega) value) cw_X5_fits q853 [] rfl ⟨Nat.le_of_ble_eq_true rfl, Nat.le_of_ble_eq_true rfl, rfl, rfl⟩ rfl rfl (Nat.le_of_ble_eq_true rfl) hl.1 dX5_set_16 ⟨Nat.zero_le _, Nat.zero_le _⟩ ?_
    refine lv_if_ne (tgt := 26) hx hb dX5_set_19 (by decide) (fun c_19 => ?_) (fun c_19 => ?_)
    · skip
      have c_19 : (fitb k value) = true := bI_n0.mp c_19
      refine lv_iconst (v := 0) hx hb dX5_set_26 (by decide) ?_
      refine wrV (rest := []) zS hK hP hD hS (m_X5_holds l g m M hs 0) cw_X5_holds q823 [0, 1, 2, 3, 4, 5, 6, 7, 8, 9, 10, 11, 12, 13] rfl (by decide) rfl 0 rfl rfl ⟨Nat.le_of_ble_eq_true rfl, Nat.le_of_ble_eq_true rfl, rfl, rfl⟩ rfl rfl (Nat.le_of_ble_eq_true rfl) hl.1 dX5_set_27 ⟨Nat.zero_le _, Nat.zero_le _⟩ (fun H locs hP hD hS => ?_)
      have hP : PP g [(m, .inr (5, [.ref (m + 1), .ref (m + 2), .int (M 0 2), .ref (m + 3), .ref (m + 4), .ref (m + 5), .ref (m + 6), .int (M 0 7), .int 0, .ref (m + 7), .ref (m + 8), .ref (m + 9), .ref (m + 10), .ref (m + 11), .ref (m + 12), .ref (m + 13), .long hs])), (m + 1, .inl (g.2 0, 174, .inl (M 1))), (m + 2, .inl (g.2 0, 1044, .inl (M 2))), (m + 3, .inl (g.2 0, 348, .inl (M 3))), (m + 4, .inl (g.2 1, 2, .inl (M 4))), (m + 5, .inl (g.2 0, 174, .inl (M 5))), (m + 6, .inl (g.2 0, 60, .inl (M 6))), (m + 7, .inl (g.2 0, 16, .inl (M 7))), (m + 8, .inl (g.2 0, 100, .inl (M 8))), (m + 9, .inl (g.2 0, 100, .inl (M 9))), (m + 10, .inl (g.2 0, 100, .inl (M 10))), (m + 11, .inl (g.2 0, 100, .inl (M 11))), (m + 12, .inl (g.2 1, 40, .inl (M 12))), (m + 13, .inl (g.2 0, 100, .inl (M 13)))] H := hP
      have hD : va_D (inW (mW g m M hs)) [(m, .inr (5, [.ref (m + 1), .ref (m + 2), .int (M 0 2), .ref (m + 3), .ref (m + 4), .ref (m + 5), .ref (m + 6), .int (M 0 7), .int 0, .ref (m + 7), .ref (m + 8), .ref (m + 9), .ref (m + 10), .ref (m + 11), .ref (m + 12), .ref (m + 13), .long hs])), (m + 1, .inl (g.2 0, 174, .inl (M 1))), (m + 2, .inl (g.2 0, 1044, .inl (M 2))), (m + 3, .inl (g.2 0, 348, .inl (M 3))), (m + 4, .inl (g.2 1, 2, .inl (M 4))), (m + 5, .inl (g.2 0, 174, .inl (M 5))), (m + 6, .inl (g.2 0, 60, .inl (M 6))), (m + 7, .inl (g.2 0, 16, .inl (M 7))), (m + 8, .inl (g.2 0, 100, .inl (M 8))), (m + 9, .inl (g.2 0, 100, .inl (M 9))), (m + 10, .inl (g.2 0, 100, .inl (M 10))), (m + 11, .inl (g.2 0, 100, .inl (M 11))), (m + 12, .inl (g.2 1, 40, .inl (M 12))), (m + 13, .inl (g.2 0, 100, .inl (M 13)))] := hD
      refine topE (show bI (decide ((0 : Int32) = 0)) = 1 from by decide) ?_
      refine lv_if_ne (tgt := 35) hx hb dX5_set_30 (by decide) (fun c_30 => ?_) (fun c_30 => ?_)
      · skip
        refine lv_aload_n hx hb dX5_set_35 rfl (lv_at hl 0 rfl) ?_
        refine wrV (rest := []) zS hK hP hD hS (m_X5_save l g m (rw_ M 0 (upd (M 0) 8 0)) hs q (by omega) h2) cw_X5_save q827 [0, 1, 2, 3, 4, 5, 6, 7, 8, 9, 10, 11, 12, 13] rfl (by decide) rfl 0 rfl rfl ⟨Nat.le_of_ble_eq_true rfl, Nat.le_of_ble_eq_true rfl, rfl, rfl⟩ rfl rfl (Nat.le_of_ble_eq_true rfl) hl.1 dX5_set_36 ⟨Nat.zero_le _, Nat.zero_le _⟩ (fun H locs hP hD hS => ?_)
        have hP : PP g [(m, .inr (5, [.ref (m + 1), .ref (m + 2), .int (nI (svQ q + 1)), .ref (m + 3), .ref (m + 4), .ref (m + 5), .ref (m + 6), .int (M 0 7), .int 0, .ref (m + 7), .ref (m + 8), .ref (m + 9), .ref (m + 10), .ref (m + 11), .ref (m + 12), .ref (m + 13), .long hs])), (m + 1, .inl (g.2 0, 174, .inl (M 1))), (m + 2, .inl (g.2 0, 1044, .inl (svF (M 1) (M 2) q))), (m + 3, .inl (g.2 0, 348, .inl (M 3))), (m + 4, .inl (g.2 1, 2, .inl (M 4))), (m + 5, .inl (g.2 0, 174, .inl (M 5))), (m + 6, .inl (g.2 0, 60, .inl (M 6))), (m + 7, .inl (g.2 0, 16, .inl (M 7))), (m + 8, .inl (g.2 0, 100, .inl (M 8))), (m + 9, .inl (g.2 0, 100, .inl (M 9))), (m + 10, .inl (g.2 0, 100, .inl (M 10))), (m + 11, .inl (g.2 0, 100, .inl (M 11))), (m + 12, .inl (g.2 1, 40, .inl (M 12))), (m + 13, .inl (g.2 0, 100, .inl (M 13)))] H := hP
        have hD : va_D (inW (mW g m M hs)) [(m, .inr (5, [.ref (m + 1), .ref (m + 2), .int (nI (svQ q + 1)), .ref (m + 3), .ref (m + 4), .ref (m + 5), .ref (m + 6), .int (M 0 7), .int 0, .ref (m + 7), .ref (m + 8), .ref (m + 9), .ref (m + 10), .ref (m + 11), .ref (m + 12), .ref (m + 13), .long hs])), (m + 1, .inl (g.2 0, 174, .inl (M 1))), (m + 2, .inl (g.2 0, 1044, .inl (svF (M 1) (M 2) q))), (m + 3, .inl (g.2 0, 348, .inl (M 3))), (m + 4, .inl (g.2 1, 2, .inl (M 4))), (m + 5, .inl (g.2 0, 174, .inl (M 5))), (m + 6, .inl (g.2 0, 60, .inl (M 6))), (m + 7, .inl (g.2 0, 16, .inl (M 7))), (m + 8, .inl (g.2 0, 100, .inl (M 8))), (m + 9, .inl (g.2 0, 100, .inl (M 9))), (m + 10, .inl (g.2 0, 100, .inl (M 10))), (m + 11, .inl (g.2 0, 100, .inl (M 11))), (m + 12, .inl (g.2 1, 40, .inl (M 12))), (m + 13, .inl (g.2 0, 100, .inl (M 13)))] := hD
        refine lv_aload_n hx hb dX5_set_39 rfl (lv_at hl 0 rfl) ?_
        refine gf zS hK hP iG5 rfl 0 rfl 0 (by decide) q757 rfl rfl dX5_set_40 ?_
        refine lv_iconst (v := 1) hx hb dX5_set_43 (by decide) ?_
        refine lv_iload_n hx hb dX5_set_44 rfl (lv_at hl 1 rfl) ?_
        refine lv_iadd hx hb dX5_set_45 ?_
        refine topE (nI_add 1 k) ?_
        refine aldN (j := (1 + k)) hx hb hK hP 1 0 rfl rfl rfl (by omega) (by decide) dX5_set_46 ?_
        refine lv_istore_n (lv' := [(3, .int (M 1 (1 + k))), (0, .ref m), (1, .int (nI k)), (2, .int value)]) hx hb dX5_set_47 rfl hl (by decide) rfl (fun ls hl => ?_)
        refine lv_aload_n hx hb dX5_set_48 rfl (lv_at hl 1 rfl) ?_
        refine gf zS hK hP iG5 rfl 0 rfl 0 (by decide) q757 rfl rfl dX5_set_49 ?_
        refine lv_iconst (v := 1) hx hb dX5_set_52 (by decide) ?_
        refine lv_iload_n hx hb dX5_set_53 rfl (lv_at hl 2 rfl) ?_
        refine lv_iadd hx hb dX5_set_54 ?_
        refine topE (nI_add 1 k) ?_
        refine lv_iload_n hx hb dX5_set_55 rfl (lv_at hl 3 rfl) ?_
        refine astN (j := (1 + k)) hx hb hK hP hD hS 1 0 rfl rfl rfl (by omega) (by decide) dX5_set_56 (fun H locs hP hD hS => ?_)
        have hP : PP g [(m, .inr (5, [.ref (m + 1), .ref (m + 2), .int (nI (svQ q + 1)), .ref (m + 3), .ref (m + 4), .ref (m + 5), .ref (m + 6), .int (M 0 7), .int 0, .ref (m + 7), .ref (m + 8), .ref (m + 9), .ref (m + 10), .ref (m + 11), .ref (m + 12), .ref (m + 13), .long hs])), (m + 1, .inl (g.2 0, 174, .inl (upd (M 1) (1 + k) value))), (m + 2, .inl (g.2 0, 1044, .inl (svF (M 1) (M 2) q))), (m + 3, .inl (g.2 0, 348, .inl (M 3))), (m + 4, .inl (g.2 1, 2, .inl (M 4))), (m + 5, .inl (g.2 0, 174, .inl (M 5))), (m + 6, .inl (g.2 0, 60, .inl (M 6))), (m + 7, .inl (g.2 0, 16, .inl (M 7))), (m + 8, .inl (g.2 0, 100, .inl (M 8))), (m + 9, .inl (g.2 0, 100, .inl (M 9))), (m + 10, .inl (g.2 0, 100, .inl (M 10))), (m + 11, .inl (g.2 0, 100, .inl (M 11))), (m + 12, .inl (g.2 1, 40, .inl (M 12))), (m + 13, .inl (g.2 0, 100, .inl (M 13)))] H := hP
        have hD : va_D (inW (mW g m M hs)) [(m, .inr (5, [.ref (m + 1), .ref (m + 2), .int (nI (svQ q + 1)), .ref (m + 3), .ref (m + 4), .ref (m + 5), .ref (m + 6), .int (M 0 7), .int 0, .ref (m + 7), .ref (m + 8), .ref (m + 9), .ref (m + 10), .ref (m + 11), .ref (m + 12), .ref (m + 13), .long hs])), (m + 1, .inl (g.2 0, 174, .inl (upd (M 1) (1 + k) value))), (m + 2, .inl (g.2 0, 1044, .inl (svF (M 1) (M 2) q))), (m + 3, .inl (g.2 0, 348, .inl (M 3))), (m + 4, .inl (g.2 1, 2, .inl (M 4))), (m + 5, .inl (g.2 0, 174, .inl (M 5))), (m + 6, .inl (g.2 0, 60, .inl (M 6))), (m + 7, .inl (g.2 0, 16, .inl (M 7))), (m + 8, .inl (g.2 0, 100, .inl (M 8))), (m + 9, .inl (g.2 0, 100, .inl (M 9))), (m + 10, .inl (g.2 0, 100, .inl (M 10))), (m + 11, .inl (g.2 0, 100, .inl (M 11))), (m + 12, .inl (g.2 1, 40, .inl (M 12))), (m + 13, .inl (g.2 0, 100, .inl (M 13)))] := hD
        refine lv_aload_n hx hb dX5_set_57 rfl (lv_at hl 1 rfl) ?_
        refine gf zS hK hP iG5 rfl 0 rfl 0 (by decide) q757 rfl rfl dX5_set_58 ?_
        refine lv_bipush (v := 7) hx hb dX5_set_61 (by decide) ?_
        refine lv_dup2_11 hx hb dX5_set_63 rfl rfl ?_
        refine aldN (j := 7) hx hb hK hP 1 0 rfl rfl rfl (by omega) (by decide) dX5_set_64 ?_
        refine topE (y := M 1 7) ((by repeat rw [upd_n _ _ (by omega)])) ?_
        refine lv_iload_n hx hb dX5_set_65 rfl (lv_at hl 2 rfl) ?_
        refine lv_iconst (v := 2) hx hb dX5_set_66 (by decide) ?_
        refine lv_icmp_ge (tgt := 74) hx hb dX5_set_67 (by decide) (fun c_67 => ?_) (fun c_67 => ?_)
        · skip
          have c_67 : 2 ≤ k := (nI_leI (a := 2) (b := k) (by omega) (by omega)).mp c_67
          refine lv_iconst (v := 0) hx hb dX5_set_74 (by decide) ?_
          refine lv_iadd hx hb dX5_set_75 ?_
          refine astN (j := 7) hx hb hK hP hD hS 1 0 rfl rfl rfl (by omega) (by decide) dX5_set_76 (fun H locs hP hD hS => ?_)
          have hP : PP g [(m, .inr (5, [.ref (m + 1), .ref (m + 2), .int (nI (svQ q + 1)), .ref (m + 3), .ref (m + 4), .ref (m + 5), .ref (m + 6), .int (M 0 7), .int 0, .ref (m + 7), .ref (m + 8), .ref (m + 9), .ref (m + 10), .ref (m + 11), .ref (m + 12), .ref (m + 13), .long hs])), (m + 1, .inl (g.2 0, 174, .inl (upd (upd (M 1) (1 + k) value) 7 ((M 1 7) + 0)))), (m + 2, .inl (g.2 0, 1044, .inl (svF (M 1) (M 2) q))), (m + 3, .inl (g.2 0, 348, .inl (M 3))), (m + 4, .inl (g.2 1, 2, .inl (M 4))), (m + 5, .inl (g.2 0, 174, .inl (M 5))), (m + 6, .inl (g.2 0, 60, .inl (M 6))), (m + 7, .inl (g.2 0, 16, .inl (M 7))), (m + 8, .inl (g.2 0, 100, .inl (M 8))), (m + 9, .inl (g.2 0, 100, .inl (M 9))), (m + 10, .inl (g.2 0, 100, .inl (M 10))), (m + 11, .inl (g.2 0, 100, .inl (M 11))), (m + 12, .inl (g.2 1, 40, .inl (M 12))), (m + 13, .inl (g.2 0, 100, .inl (M 13)))] H := hP
          have hD : va_D (inW (mW g m M hs)) [(m, .inr (5, [.ref (m + 1), .ref (m + 2), .int (nI (svQ q + 1)), .ref (m + 3), .ref (m + 4), .ref (m + 5), .ref (m + 6), .int (M 0 7), .int 0, .ref (m + 7), .ref (m + 8), .ref (m + 9), .ref (m + 10), .ref (m + 11), .ref (m + 12), .ref (m + 13), .long hs])), (m + 1, .inl (g.2 0, 174, .inl (upd (upd (M 1) (1 + k) value) 7 ((M 1 7) + 0)))), (m + 2, .inl (g.2 0, 1044, .inl (svF (M 1) (M 2) q))), (m + 3, .inl (g.2 0, 348, .inl (M 3))), (m + 4, .inl (g.2 1, 2, .inl (M 4))), (m + 5, .inl (g.2 0, 174, .inl (M 5))), (m + 6, .inl (g.2 0, 60, .inl (M 6))), (m + 7, .inl (g.2 0, 16, .inl (M 7))), (m + 8, .inl (g.2 0, 100, .inl (M 8))), (m + 9, .inl (g.2 0, 100, .inl (M 9))), (m + 10, .inl (g.2 0, 100, .inl (M 10))), (m + 11, .inl (g.2 0, 100, .inl (M 11))), (m + 12, .inl (g.2 1, 40, .inl (M 12))), (m + 13, .inl (g.2 0, 100, .inl (M 13)))] := hD
          refine lv_iload_n hx hb dX5_set_77 rfl (lv_at hl 0 rfl) ?_
          refine w_i hx hb hr hlk hS dX5_set_78 ?_ ?_
          · (rw [aSetT, if_pos c_7, hn_k, if_pos c_19, if_neg (by omega)]; exact hP)
          · rw [aSetV, if_pos c_7, hn_k, if_pos c_19]
        · skip
          have c_67 : k < 2 := Nat.lt_of_not_le (fun z => c_67 ((nI_leI (a := 2) (b := k) (by omega) (by omega)).mpr z))
          refine lv_iconst (v := 1) hx hb dX5_set_70 (by decide) ?_
          refine lv_goto (tgt := 75) hx hb dX5_set_71 (by decide) ?_
          refine lv_iadd hx hb dX5_set_75 ?_
          refine astN (j := 7) hx hb hK hP hD hS 1 0 rfl rfl rfl (by omega) (by decide) dX5_set_76 (fun H locs hP hD hS => ?_)
          have hP : PP g [(m, .inr (5, [.ref (m + 1), .ref (m + 2), .int (nI (svQ q + 1)), .ref (m + 3), .ref (m + 4), .ref (m + 5), .ref (m + 6), .int (M 0 7), .int 0, .ref (m + 7), .ref (m + 8), .ref (m + 9), .ref (m + 10), .ref (m + 11), .ref (m + 12), .ref (m + 13), .long hs])), (m + 1, .inl (g.2 0, 174, .inl (upd (upd (M 1) (1 + k) value) 7 ((M 1 7) + 1)))), (m + 2, .inl (g.2 0, 1044, .inl (svF (M 1) (M 2) q))), (m + 3, .inl (g.2 0, 348, .inl (M 3))), (m + 4, .inl (g.2 1, 2, .inl (M 4))), (m + 5, .inl (g.2 0, 174, .inl (M 5))), (m + 6, .inl (g.2 0, 60, .inl (M 6))), (m + 7, .inl (g.2 0, 16, .inl (M 7))), (m + 8, .inl (g.2 0, 100, .inl (M 8))), (m + 9, .inl (g.2 0, 100, .inl (M 9))), (m + 10, .inl (g.2 0, 100, .inl (M 10))), (m + 11, .inl (g.2 0, 100, .inl (M 11))), (m + 12, .inl (g.2 1, 40, .inl (M 12))), (m + 13, .inl (g.2 0, 100, .inl (M 13)))] H := hP
          have hD : va_D (inW (mW g m M hs)) [(m, .inr (5, [.ref (m + 1), .ref (m + 2), .int (nI (svQ q + 1)), .ref (m + 3), .ref (m + 4), .ref (m + 5), .ref (m + 6), .int (M 0 7), .int 0, .ref (m + 7), .ref (m + 8), .ref (m + 9), .ref (m + 10), .ref (m + 11), .ref (m + 12), .ref (m + 13), .long hs])), (m + 1, .inl (g.2 0, 174, .inl (upd (upd (M 1) (1 + k) value) 7 ((M 1 7) + 1)))), (m + 2, .inl (g.2 0, 1044, .inl (svF (M 1) (M 2) q))), (m + 3, .inl (g.2 0, 348, .inl (M 3))), (m + 4, .inl (g.2 1, 2, .inl (M 4))), (m + 5, .inl (g.2 0, 174, .inl (M 5))), (m + 6, .inl (g.2 0, 60, .inl (M 6))), (m + 7, .inl (g.2 0, 16, .inl (M 7))), (m + 8, .inl (g.2 0, 100, .inl (M 8))), (m + 9, .inl (g.2 0, 100, .inl (M 9))), (m + 10, .inl (g.2 0, 100, .inl (M 10))), (m + 11, .inl (g.2 0, 100, .inl (M 11))), (m + 12, .inl (g.2 1, 40, .inl (M 12))), (m + 13, .inl (g.2 0, 100, .inl (M 13)))] := hD
          refine lv_iload_n hx hb dX5_set_77 rfl (lv_at hl 0 rfl) ?_
          refine w_i hx hb hr hlk hS dX5_set_78 ?_ ?_
          · (rw [aSetT, if_pos c_7, hn_k, if_pos c_19, if_pos c_67]; exact hP)
          · rw [aSetV, if_pos c_7, hn_k, if_pos c_19]
      · skip
        exact absurd c_30 (by decide)
    · skip
      have c_19 : (fitb k value) = false := bI_0.mp c_19
      refine lv_iconst (v := 2) hx hb dX5_set_22 (by decide) ?_
      refine lv_goto (tgt := 27) hx hb dX5_set_23 (by decide) ?_
      refine wrV (rest := []) zS hK hP hD hS (m_X5_holds l g m M hs 2) cw_X5_holds q823 [0, 1, 2, 3, 4, 5, 6, 7, 8, 9, 10, 11, 12, 13] rfl (by decide) rfl 0 rfl rfl ⟨Nat.le_of_ble_eq_true rfl, Nat.le_of_ble_eq_true rfl, rfl, rfl⟩ rfl rfl (Nat.le_of_ble_eq_true rfl) hl.1 dX5_set_27 ⟨Nat.zero_le _, Nat.zero_le _⟩ (fun H locs hP hD hS => ?_)
      have hP : PP g [(m, .inr (5, [.ref (m + 1), .ref (m + 2), .int (M 0 2), .ref (m + 3), .ref (m + 4), .ref (m + 5), .ref (m + 6), .int (M 0 7), .int 2, .ref (m + 7), .ref (m + 8), .ref (m + 9), .ref (m + 10), .ref (m + 11), .ref (m + 12), .ref (m + 13), .long hs])), (m + 1, .inl (g.2 0, 174, .inl (M 1))), (m + 2, .inl (g.2 0, 1044, .inl (M 2))), (m + 3, .inl (g.2 0, 348, .inl (M 3))), (m + 4, .inl (g.2 1, 2, .inl (M 4))), (m + 5, .inl (g.2 0, 174, .inl (M 5))), (m + 6, .inl (g.2 0, 60, .inl (M 6))), (m + 7, .inl (g.2 0, 16, .inl (M 7))), (m + 8, .inl (g.2 0, 100, .inl (M 8))), (m + 9, .inl (g.2 0, 100, .inl (M 9))), (m + 10, .inl (g.2 0, 100, .inl (M 10))), (m + 11, .inl (g.2 0, 100, .inl (M 11))), (m + 12, .inl (g.2 1, 40, .inl (M 12))), (m + 13, .inl (g.2 0, 100, .inl (M 13)))] H := hP
      have hD : va_D (inW (mW g m M hs)) [(m, .inr (5, [.ref (m + 1), .ref (m + 2), .int (M 0 2), .ref (m + 3), .ref (m + 4), .ref (m + 5), .ref (m + 6), .int (M 0 7), .int 2, .ref (m + 7), .ref (m + 8), .ref (m + 9), .ref (m + 10), .ref (m + 11), .ref (m + 12), .ref (m + 13), .long hs])), (m + 1, .inl (g.2 0, 174, .inl (M 1))), (m + 2, .inl (g.2 0, 1044, .inl (M 2))), (m + 3, .inl (g.2 0, 348, .inl (M 3))), (m + 4, .inl (g.2 1, 2, .inl (M 4))), (m + 5, .inl (g.2 0, 174, .inl (M 5))), (m + 6, .inl (g.2 0, 60, .inl (M 6))), (m + 7, .inl (g.2 0, 16, .inl (M 7))), (m + 8, .inl (g.2 0, 100, .inl (M 8))), (m + 9, .inl (g.2 0, 100, .inl (M 9))), (m + 10, .inl (g.2 0, 100, .inl (M 10))), (m + 11, .inl (g.2 0, 100, .inl (M 11))), (m + 12, .inl (g.2 1, 40, .inl (M 12))), (m + 13, .inl (g.2 0, 100, .inl (M 13)))] := hD
      refine topE (show bI (decide ((2 : Int32) = 0)) = 0 from by decide) ?_
      refine lv_if_ne (tgt := 35) hx hb dX5_set_30 (by decide) (fun c_30 => ?_) (fun c_30 => ?_)
      · skip
        exact absurd c_30 (by decide)
      · skip
        refine lv_iconst (v := 0) hx hb dX5_set_33 (by decide) ?_
        refine w_i hx hb hr hlk hS dX5_set_34 ?_ ?_
        · (rw [aSetT, if_pos c_7, hn_k, if_neg (by rw [c_19]; decide)]; exact hP)
        · rw [aSetV, if_pos c_7, hn_k, if_neg (by rw [c_19]; decide)]
  · skip
    have c_7 : (inb setting 0 3) = false := bI_0.mp c_7
    refine lv_iconst (v := 1) hx hb dX5_set_10 (by decide) ?_
    refine lv_goto (tgt := 27) hx hb dX5_set_11 (by decide) ?_
    refine wrV (rest := []) zS hK hP hD hS (m_X5_holds l g m M hs 1) cw_X5_holds q823 [0, 1, 2, 3, 4, 5, 6, 7, 8, 9, 10, 11, 12, 13] rfl (by decide) rfl 0 rfl rfl ⟨Nat.le_of_ble_eq_true rfl, Nat.le_of_ble_eq_true rfl, rfl, rfl⟩ rfl rfl (Nat.le_of_ble_eq_true rfl) hl.1 dX5_set_27 ⟨Nat.zero_le _, Nat.zero_le _⟩ (fun H locs hP hD hS => ?_)
    have hP : PP g [(m, .inr (5, [.ref (m + 1), .ref (m + 2), .int (M 0 2), .ref (m + 3), .ref (m + 4), .ref (m + 5), .ref (m + 6), .int (M 0 7), .int 1, .ref (m + 7), .ref (m + 8), .ref (m + 9), .ref (m + 10), .ref (m + 11), .ref (m + 12), .ref (m + 13), .long hs])), (m + 1, .inl (g.2 0, 174, .inl (M 1))), (m + 2, .inl (g.2 0, 1044, .inl (M 2))), (m + 3, .inl (g.2 0, 348, .inl (M 3))), (m + 4, .inl (g.2 1, 2, .inl (M 4))), (m + 5, .inl (g.2 0, 174, .inl (M 5))), (m + 6, .inl (g.2 0, 60, .inl (M 6))), (m + 7, .inl (g.2 0, 16, .inl (M 7))), (m + 8, .inl (g.2 0, 100, .inl (M 8))), (m + 9, .inl (g.2 0, 100, .inl (M 9))), (m + 10, .inl (g.2 0, 100, .inl (M 10))), (m + 11, .inl (g.2 0, 100, .inl (M 11))), (m + 12, .inl (g.2 1, 40, .inl (M 12))), (m + 13, .inl (g.2 0, 100, .inl (M 13)))] H := hP
    have hD : va_D (inW (mW g m M hs)) [(m, .inr (5, [.ref (m + 1), .ref (m + 2), .int (M 0 2), .ref (m + 3), .ref (m + 4), .ref (m + 5), .ref (m + 6), .int (M 0 7), .int 1, .ref (m + 7), .ref (m + 8), .ref (m + 9), .ref (m + 10), .ref (m + 11), .ref (m + 12), .ref (m + 13), .long hs])), (m + 1, .inl (g.2 0, 174, .inl (M 1))), (m + 2, .inl (g.2 0, 1044, .inl (M 2))), (m + 3, .inl (g.2 0, 348, .inl (M 3))), (m + 4, .inl (g.2 1, 2, .inl (M 4))), (m + 5, .inl (g.2 0, 174, .inl (M 5))), (m + 6, .inl (g.2 0, 60, .inl (M 6))), (m + 7, .inl (g.2 0, 16, .inl (M 7))), (m + 8, .inl (g.2 0, 100, .inl (M 8))), (m + 9, .inl (g.2 0, 100, .inl (M 9))), (m + 10, .inl (g.2 0, 100, .inl (M 10))), (m + 11, .inl (g.2 0, 100, .inl (M 11))), (m + 12, .inl (g.2 1, 40, .inl (M 12))), (m + 13, .inl (g.2 0, 100, .inl (M 13)))] := hD
    refine topE (show bI (decide ((1 : Int32) = 0)) = 0 from by decide) ?_
    refine lv_if_ne (tgt := 35) hx hb dX5_set_30 (by decide) (fun c_30 => ?_) (fun c_30 => ?_)
    · skip
      exact absurd c_30 (by decide)
    · skip
      refine lv_iconst (v := 0) hx hb dX5_set_33 (by decide) ?_
      refine w_i hx hb hr hlk hS dX5_set_34 ?_ ?_
      · (rw [aSetT, if_neg (by rw [c_7]; decide)]; exact hP)
      · rw [aSetV, if_neg (by rw [c_7]; decide)]
theorem cw_X5_set : CWV yX5_set cX5_set 4 (some .int) 2 := ⟨⟨q852, q65, by decide +kernel, by decide +kernel, by decide +kernel⟩, q850, q851⟩
set_option maxHeartbeats 4000000 in
set_option maxRecDepth 100000 in
theorem m_X5_circle (l : Launch) (g : GG) (m : Nat) (M : Nat → Nat → Int32) (hs : Int64) (hSh : MSh (M 1)) (nl : Nat) (hL : MLs (M 1) nl) (q : Nat) (hq : q ≤ 6) (h2 : M 0 2 = nI q) (n : Nat) (hn : n ≤ 60) (h7 : M 0 7 = nI n) (first second told : Int32) : MW l g yX5_circle cX5_circle 4 (some .int) ({ frames := 8, cells := 0, slots := 0, locals := 174 } : Room) [.ref m, .int first, .int second, .int told] (mW g m M hs) (mW g m (aCircleT M q nl first second told) hs) (some (.int (aCircleV M q nl first second told))) := by
  refine MW.of rfl (Nat.le_of_ble_eq_true rfl) ?_
  intro zp ze zs zm zbelow zmeth zc ls zS hr hlk hK hP hD hS hl
  obtain ⟨hx, hb, hml, hown, hts⟩ := id zS
  have hl : lv_has ls 4 [(0, .ref m), (1, .int first), (2, .int second), (3, .int told)] := hl
  have hnl := hL.2.1
  refine lv_aload_n hx hb dX5_circle_0 rfl (lv_at hl 0 rfl) ?_
  refine lv_iload_n hx hb dX5_circle_1 rfl (lv_at hl 1 rfl) ?_
  refine rdS (rest := [.ref m]) zS hK hP (m_X5_isLetter l g first) cw_X5_isLetter q817 [] rfl ⟨Nat.le_of_ble_eq_true rfl, Nat.le_of_ble_eq_true rfl, rfl, rfl⟩ rfl rfl (Nat.le_of_ble_eq_true rfl) hl.1 dX5_circle_2 ⟨Nat.zero_le _, Nat.zero_le _⟩ ?_
  refine lv_if_eq (tgt := 15) hx hb dX5_circle_5 (by decide) (fun c_5 => ?_) (fun c_5 => ?_)
  · skip
    have c_5 : (inb first 0 9) = false := bI_0.mp c_5
    refine lv_iconst (v := 1) hx hb dX5_circle_15 (by decide) ?_
    refine lv_goto (tgt := 31) hx hb dX5_circle_16 (by decide) ?_
    refine wrV (rest := []) zS hK hP hD hS (m_X5_holds l g m M hs 1) cw_X5_holds q823 [0, 1, 2, 3, 4, 5, 6, 7, 8, 9, 10, 11, 12, 13] rfl (by decide) rfl 0 rfl rfl ⟨Nat.le_of_ble_eq_true rfl, Nat.le_of_ble_eq_true rfl, rfl, rfl⟩ rfl rfl (Nat.le_of_ble_eq_true rfl) hl.1 dX5_circle_31 ⟨Nat.zero_le _, Nat.zero_le _⟩ (fun H locs hP hD hS => ?_)
    have hP : PP g [(m, .inr (5, [.ref (m + 1), .ref (m + 2), .int (M 0 2), .ref (m + 3), .ref (m + 4), .ref (m + 5), .ref (m + 6), .int (M 0 7), .int 1, .ref (m + 7), .ref (m + 8), .ref (m + 9), .ref (m + 10), .ref (m + 11), .ref (m + 12), .ref (m + 13), .long hs])), (m + 1, .inl (g.2 0, 174, .inl (M 1))), (m + 2, .inl (g.2 0, 1044, .inl (M 2))), (m + 3, .inl (g.2 0, 348, .inl (M 3))), (m + 4, .inl (g.2 1, 2, .inl (M 4))), (m + 5, .inl (g.2 0, 174, .inl (M 5))), (m + 6, .inl (g.2 0, 60, .inl (M 6))), (m + 7, .inl (g.2 0, 16, .inl (M 7))), (m + 8, .inl (g.2 0, 100, .inl (M 8))), (m + 9, .inl (g.2 0, 100, .inl (M 9))), (m + 10, .inl (g.2 0, 100, .inl (M 10))), (m + 11, .inl (g.2 0, 100, .inl (M 11))), (m + 12, .inl (g.2 1, 40, .inl (M 12))), (m + 13, .inl (g.2 0, 100, .inl (M 13)))] H := hP
    have hD : va_D (inW (mW g m M hs)) [(m, .inr (5, [.ref (m + 1), .ref (m + 2), .int (M 0 2), .ref (m + 3), .ref (m + 4), .ref (m + 5), .ref (m + 6), .int (M 0 7), .int 1, .ref (m + 7), .ref (m + 8), .ref (m + 9), .ref (m + 10), .ref (m + 11), .ref (m + 12), .ref (m + 13), .long hs])), (m + 1, .inl (g.2 0, 174, .inl (M 1))), (m + 2, .inl (g.2 0, 1044, .inl (M 2))), (m + 3, .inl (g.2 0, 348, .inl (M 3))), (m + 4, .inl (g.2 1, 2, .inl (M 4))), (m + 5, .inl (g.2 0, 174, .inl (M 5))), (m + 6, .inl (g.2 0, 60, .inl (M 6))), (m + 7, .inl (g.2 0, 16, .inl (M 7))), (m + 8, .inl (g.2 0, 100, .inl (M 8))), (m + 9, .inl (g.2 0, 100, .inl (M 9))), (m + 10, .inl (g.2 0, 100, .inl (M 10))), (m + 11, .inl (g.2 0, 100, .inl (M 11))), (m + 12, .inl (g.2 1, 40, .inl (M 12))), (m + 13, .inl (g.2 0, 100, .inl (M 13)))] := hD
    refine topE (show bI (decide ((1 : Int32) = 0)) = 0 from by decide) ?_
    refine lv_if_ne (tgt := 39) hx hb dX5_circle_34 (by decide) (fun c_34 => ?_) (fun c_34 => ?_)
    · skip
      exact absurd c_34 (by decide)
    · skip
      refine lv_iconst (v := 0) hx hb dX5_circle_37 (by decide) ?_
      refine w_i hx hb hr hlk hS dX5_circle_38 ?_ ?_
      · (rw [aCircleT, if_neg (by rw [c_5]; decide)]; exact hP)
      · rw [aCircleV, if_neg (by rw [c_5]; decide)]
  · skip
    have c_5 : (inb first 0 9) = true := bI_n0.mp c_5
    obtain ⟨k, h_k, rfl⟩ := inb_nI (n := 9) c_5 rfl (by omega)
    have hn_k : nn (nI k) = k := nI_clamp (by omega)
    refine lv_iload_n hx hb dX5_circle_8 rfl (lv_at hl 2 rfl) ?_
    refine rdS (rest := [.ref m]) zS hK hP (m_X5_isLetter l g second) cw_X5_isLetter q817 [] rfl ⟨Nat.le_of_ble_eq_true rfl, Nat.le_of_ble_eq_true rfl, rfl, rfl⟩ rfl rfl (Nat.le_of_ble_eq_true rfl) hl.1 dX5_circle_9 ⟨Nat.zero_le _, Nat.zero_le _⟩ ?_
    refine lv_if_ne (tgt := 19) hx hb dX5_circle_12 (by decide) (fun c_12 => ?_) (fun c_12 => ?_)
    · skip
      have c_12 : (inb second 0 9) = true := bI_n0.mp c_12
      obtain ⟨j, h_j, rfl⟩ := inb_nI (n := 9) c_12 rfl (by omega)
      have hn_j : nn (nI j) = j := nI_clamp (by omega)
      refine lv_iload_n hx hb dX5_circle_19 rfl (lv_at hl 3 rfl) ?_
      refine rdS (rest := [.ref m]) zS hK hP (m_X5_isTold l g told) cw_X5_isTold q860 [] rfl ⟨Nat.le_of_ble_eq_true rfl, Nat.le_of_ble_eq_true rfl, rfl, rfl⟩ rfl rfl (Nat.le_of_ble_eq_true rfl) hl.1 dX5_circle_20 ⟨Nat.zero_le _, Nat.zero_le _⟩ ?_
      refine lv_if_ne (tgt := 30) hx hb dX5_circle_23 (by decide) (fun c_23 => ?_) (fun c_23 => ?_)
      · skip
        have c_23 : (tld told) = true := bI_n0.mp c_23
        refine lv_iconst (v := 0) hx hb dX5_circle_30 (by decide) ?_
        refine wrV (rest := []) zS hK hP hD hS (m_X5_holds l g m M hs 0) cw_X5_holds q823 [0, 1, 2, 3, 4, 5, 6, 7, 8, 9, 10, 11, 12, 13] rfl (by decide) rfl 0 rfl rfl ⟨Nat.le_of_ble_eq_true rfl, Nat.le_of_ble_eq_true rfl, rfl, rfl⟩ rfl rfl (Nat.le_of_ble_eq_true rfl) hl.1 dX5_circle_31 ⟨Nat.zero_le _, Nat.zero_le _⟩ (fun H locs hP hD hS => ?_)
        have hP : PP g [(m, .inr (5, [.ref (m + 1), .ref (m + 2), .int (M 0 2), .ref (m + 3), .ref (m + 4), .ref (m + 5), .ref (m + 6), .int (M 0 7), .int 0, .ref (m + 7), .ref (m + 8), .ref (m + 9), .ref (m + 10), .ref (m + 11), .ref (m + 12), .ref (m + 13), .long hs])), (m + 1, .inl (g.2 0, 174, .inl (M 1))), (m + 2, .inl (g.2 0, 1044, .inl (M 2))), (m + 3, .inl (g.2 0, 348, .inl (M 3))), (m + 4, .inl (g.2 1, 2, .inl (M 4))), (m + 5, .inl (g.2 0, 174, .inl (M 5))), (m + 6, .inl (g.2 0, 60, .inl (M 6))), (m + 7, .inl (g.2 0, 16, .inl (M 7))), (m + 8, .inl (g.2 0, 100, .inl (M 8))), (m + 9, .inl (g.2 0, 100, .inl (M 9))), (m + 10, .inl (g.2 0, 100, .inl (M 10))), (m + 11, .inl (g.2 0, 100, .inl (M 11))), (m + 12, .inl (g.2 1, 40, .inl (M 12))), (m + 13, .inl (g.2 0, 100, .inl (M 13)))] H := hP
        have hD : va_D (inW (mW g m M hs)) [(m, .inr (5, [.ref (m + 1), .ref (m + 2), .int (M 0 2), .ref (m + 3), .ref (m + 4), .ref (m + 5), .ref (m + 6), .int (M 0 7), .int 0, .ref (m + 7), .ref (m + 8), .ref (m + 9), .ref (m + 10), .ref (m + 11), .ref (m + 12), .ref (m + 13), .long hs])), (m + 1, .inl (g.2 0, 174, .inl (M 1))), (m + 2, .inl (g.2 0, 1044, .inl (M 2))), (m + 3, .inl (g.2 0, 348, .inl (M 3))), (m + 4, .inl (g.2 1, 2, .inl (M 4))), (m + 5, .inl (g.2 0, 174, .inl (M 5))), (m + 6, .inl (g.2 0, 60, .inl (M 6))), (m + 7, .inl (g.2 0, 16, .inl (M 7))), (m + 8, .inl (g.2 0, 100, .inl (M 8))), (m + 9, .inl (g.2 0, 100, .inl (M 9))), (m + 10, .inl (g.2 0, 100, .inl (M 10))), (m + 11, .inl (g.2 0, 100, .inl (M 11))), (m + 12, .inl (g.2 1, 40, .inl (M 12))), (m + 13, .inl (g.2 0, 100, .inl (M 13)))] := hD
        refine topE (show bI (decide ((0 : Int32) = 0)) = 1 from by decide) ?_
        refine lv_if_ne (tgt := 39) hx hb dX5_circle_34 (by decide) (fun c_34 => ?_) (fun c_34 => ?_)
        · skip
          refine lv_aload_n hx hb dX5_circle_39 rfl (lv_at hl 0 rfl) ?_
          refine wrV (rest := []) zS hK hP hD hS (m_X5_save l g m (rw_ M 0 (upd (M 0) 8 0)) hs q (by omega) h2) cw_X5_save q827 [0, 1, 2, 3, 4, 5, 6, 7, 8, 9, 10, 11, 12, 13] rfl (by decide) rfl 0 rfl rfl ⟨Nat.le_of_ble_eq_true rfl, Nat.le_of_ble_eq_true rfl, rfl, rfl⟩ rfl rfl (Nat.le_of_ble_eq_true rfl) hl.1 dX5_circle_40 ⟨Nat.zero_le _, Nat.zero_le _⟩ (fun H locs hP hD hS => ?_)
          have hP : PP g [(m, .inr (5, [.ref (m + 1), .ref (m + 2), .int (nI (svQ q + 1)), .ref (m + 3), .ref (m + 4), .ref (m + 5), .ref (m + 6), .int (M 0 7), .int 0, .ref (m + 7), .ref (m + 8), .ref (m + 9), .ref (m + 10), .ref (m + 11), .ref (m + 12), .ref (m + 13), .long hs])), (m + 1, .inl (g.2 0, 174, .inl (M 1))), (m + 2, .inl (g.2 0, 1044, .inl (svF (M 1) (M 2) q))), (m + 3, .inl (g.2 0, 348, .inl (M 3))), (m + 4, .inl (g.2 1, 2, .inl (M 4))), (m + 5, .inl (g.2 0, 174, .inl (M 5))), (m + 6, .inl (g.2 0, 60, .inl (M 6))), (m + 7, .inl (g.2 0, 16, .inl (M 7))), (m + 8, .inl (g.2 0, 100, .inl (M 8))), (m + 9, .inl (g.2 0, 100, .inl (M 9))), (m + 10, .inl (g.2 0, 100, .inl (M 10))), (m + 11, .inl (g.2 0, 100, .inl (M 11))), (m + 12, .inl (g.2 1, 40, .inl (M 12))), (m + 13, .inl (g.2 0, 100, .inl (M 13)))] H := hP
          have hD : va_D (inW (mW g m M hs)) [(m, .inr (5, [.ref (m + 1), .ref (m + 2), .int (nI (svQ q + 1)), .ref (m + 3), .ref (m + 4), .ref (m + 5), .ref (m + 6), .int (M 0 7), .int 0, .ref (m + 7), .ref (m + 8), .ref (m + 9), .ref (m + 10), .ref (m + 11), .ref (m + 12), .ref (m + 13), .long hs])), (m + 1, .inl (g.2 0, 174, .inl (M 1))), (m + 2, .inl (g.2 0, 1044, .inl (svF (M 1) (M 2) q))), (m + 3, .inl (g.2 0, 348, .inl (M 3))), (m + 4, .inl (g.2 1, 2, .inl (M 4))), (m + 5, .inl (g.2 0, 174, .inl (M 5))), (m + 6, .inl (g.2 0, 60, .inl (M 6))), (m + 7, .inl (g.2 0, 16, .inl (M 7))), (m + 8, .inl (g.2 0, 100, .inl (M 8))), (m + 9, .inl (g.2 0, 100, .inl (M 9))), (m + 10, .inl (g.2 0, 100, .inl (M 10))), (m + 11, .inl (g.2 0, 100, .inl (M 11))), (m + 12, .inl (g.2 1, 40, .inl (M 12))), (m + 13, .inl (g.2 0, 100, .inl (M 13)))] := hD
          have hP : PP g [(m, .inr (5, [.ref (m + 1), .ref (m + 2), .int ((svM M q) 0 2), .ref (m + 3), .ref (m + 4), .ref (m + 5), .ref (m + 6), .int ((svM M q) 0 7), .int ((svM M q) 0 8), .ref (m + 7), .ref (m + 8), .ref (m + 9), .ref (m + 10), .ref (m + 11), .ref (m + 12), .ref (m + 13), .long hs])), (m + 1, .inl (g.2 0, 174, .inl ((svM M q) 1))), (m + 2, .inl (g.2 0, 1044, .inl ((svM M q) 2))), (m + 3, .inl (g.2 0, 348, .inl ((svM M q) 3))), (m + 4, .inl (g.2 1, 2, .inl ((svM M q) 4))), (m + 5, .inl (g.2 0, 174, .inl ((svM M q) 5))), (m + 6, .inl (g.2 0, 60, .inl ((svM M q) 6))), (m + 7, .inl (g.2 0, 16, .inl ((svM M q) 7))), (m + 8, .inl (g.2 0, 100, .inl ((svM M q) 8))), (m + 9, .inl (g.2 0, 100, .inl ((svM M q) 9))), (m + 10, .inl (g.2 0, 100, .inl ((svM M q) 10))), (m + 11, .inl (g.2 0, 100, .inl ((svM M q) 11))), (m + 12, .inl (g.2 1, 40, .inl ((svM M q) 12))), (m + 13, .inl (g.2 0, 100, .inl ((svM M q) 13)))] H := hP
          have hD : va_D (inW (mW g m M hs)) [(m, .inr (5, [.ref (m + 1), .ref (m + 2), .int ((svM M q) 0 2), .ref (m + 3), .ref (m + 4), .ref (m + 5), .ref (m + 6), .int ((svM M q) 0 7), .int ((svM M q) 0 8), .ref (m + 7), .ref (m + 8), .ref (m + 9), .ref (m + 10), .ref (m + 11), .ref (m + 12), .ref (m + 13), .long hs])), (m + 1, .inl (g.2 0, 174, .inl ((svM M q) 1))), (m + 2, .inl (g.2 0, 1044, .inl ((svM M q) 2))), (m + 3, .inl (g.2 0, 348, .inl ((svM M q) 3))), (m + 4, .inl (g.2 1, 2, .inl ((svM M q) 4))), (m + 5, .inl (g.2 0, 174, .inl ((svM M q) 5))), (m + 6, .inl (g.2 0, 60, .inl ((svM M q) 6))), (m + 7, .inl (g.2 0, 16, .inl ((svM M q) 7))), (m + 8, .inl (g.2 0, 100, .inl ((svM M q) 8))), (m + 9, .inl (g.2 0, 100, .inl ((svM M q) 9))), (m + 10, .inl (g.2 0, 100, .inl ((svM M q) 10))), (m + 11, .inl (g.2 0, 100, .inl ((svM M q) 11))), (m + 12, .inl (g.2 1, 40, .inl ((svM M q) 12))), (m + 13, .inl (g.2 0, 100, .inl ((svM M q) 13)))] := hD
          refine lv_aload_n hx hb dX5_circle_43 rfl (lv_at hl 0 rfl) ?_
          refine lv_bipush (v := 10) hx hb dX5_circle_44 (by decide) ?_
          refine lv_iload_n hx hb dX5_circle_46 rfl (lv_at hl 1 rfl) ?_
          refine lv_imul hx hb dX5_circle_47 ?_
          refine topE (pk_mul 10 k) ?_
          refine lv_iload_n hx hb dX5_circle_48 rfl (lv_at hl 2 rfl) ?_
          refine lv_iadd hx hb dX5_circle_49 ?_
          refine topE (nI_add (10 * k) j) ?_
          refine lv_iload_n hx hb dX5_circle_50 rfl (lv_at hl 3 rfl) ?_
          refine wrV (rest := []) zS hK hP hD hS (m_X5_circles l g m (svM M q) hs hSh nl hL ((10 * k) + j) (by omega) told) cw_X5_circles q863 [0, 1, 2, 3, 4, 5, 6, 7, 8, 9, 10, 11, 12, 13] rfl (by decide) rfl 0 rfl rfl ⟨Nat.le_of_ble_eq_true rfl, Nat.le_of_ble_eq_true rfl, rfl, rfl⟩ rfl rfl (Nat.le_of_ble_eq_true rfl) hl.1 dX5_circle_51 ⟨Nat.zero_le _, Nat.zero_le _⟩ (fun H locs hP hD hS => ?_)
          have hP : PP g [(m, .inr (5, [.ref (m + 1), .ref (m + 2), .int ((ciT (svM M q) ((10 * k) + j) nl told) 0 2), .ref (m + 3), .ref (m + 4), .ref (m + 5), .ref (m + 6), .int ((ciT (svM M q) ((10 * k) + j) nl told) 0 7), .int ((ciT (svM M q) ((10 * k) + j) nl told) 0 8), .ref (m + 7), .ref (m + 8), .ref (m + 9), .ref (m + 10), .ref (m + 11), .ref (m + 12), .ref (m + 13), .long hs])), (m + 1, .inl (g.2 0, 174, .inl ((ciT (svM M q) ((10 * k) + j) nl told) 1))), (m + 2, .inl (g.2 0, 1044, .inl ((ciT (svM M q) ((10 * k) + j) nl told) 2))), (m + 3, .inl (g.2 0, 348, .inl ((ciT (svM M q) ((10 * k) + j) nl told) 3))), (m + 4, .inl (g.2 1, 2, .inl ((ciT (svM M q) ((10 * k) + j) nl told) 4))), (m + 5, .inl (g.2 0, 174, .inl ((ciT (svM M q) ((10 * k) + j) nl told) 5))), (m + 6, .inl (g.2 0, 60, .inl ((ciT (svM M q) ((10 * k) + j) nl told) 6))), (m + 7, .inl (g.2 0, 16, .inl ((ciT (svM M q) ((10 * k) + j) nl told) 7))), (m + 8, .inl (g.2 0, 100, .inl ((ciT (svM M q) ((10 * k) + j) nl told) 8))), (m + 9, .inl (g.2 0, 100, .inl ((ciT (svM M q) ((10 * k) + j) nl told) 9))), (m + 10, .inl (g.2 0, 100, .inl ((ciT (svM M q) ((10 * k) + j) nl told) 10))), (m + 11, .inl (g.2 0, 100, .inl ((ciT (svM M q) ((10 * k) + j) nl told) 11))), (m + 12, .inl (g.2 1, 40, .inl ((ciT (svM M q) ((10 * k) + j) nl told) 12))), (m + 13, .inl (g.2 0, 100, .inl ((ciT (svM M q) ((10 * k) + j) nl told) 13)))] H := hP
          have hD : va_D (inW (mW g m M hs)) [(m, .inr (5, [.ref (m + 1), .ref (m + 2), .int ((ciT (svM M q) ((10 * k) + j) nl told) 0 2), .ref (m + 3), .ref (m + 4), .ref (m + 5), .ref (m + 6), .int ((ciT (svM M q) ((10 * k) + j) nl told) 0 7), .int ((ciT (svM M q) ((10 * k) + j) nl told) 0 8), .ref (m + 7), .ref (m + 8), .ref (m + 9), .ref (m + 10), .ref (m + 11), .ref (m + 12), .ref (m + 13), .long hs])), (m + 1, .inl (g.2 0, 174, .inl ((ciT (svM M q) ((10 * k) + j) nl told) 1))), (m + 2, .inl (g.2 0, 1044, .inl ((ciT (svM M q) ((10 * k) + j) nl told) 2))), (m + 3, .inl (g.2 0, 348, .inl ((ciT (svM M q) ((10 * k) + j) nl told) 3))), (m + 4, .inl (g.2 1, 2, .inl ((ciT (svM M q) ((10 * k) + j) nl told) 4))), (m + 5, .inl (g.2 0, 174, .inl ((ciT (svM M q) ((10 * k) + j) nl told) 5))), (m + 6, .inl (g.2 0, 60, .inl ((ciT (svM M q) ((10 * k) + j) nl told) 6))), (m + 7, .inl (g.2 0, 16, .inl ((ciT (svM M q) ((10 * k) + j) nl told) 7))), (m + 8, .inl (g.2 0, 100, .inl ((ciT (svM M q) ((10 * k) + j) nl told) 8))), (m + 9, .inl (g.2 0, 100, .inl ((ciT (svM M q) ((10 * k) + j) nl told) 9))), (m + 10, .inl (g.2 0, 100, .inl ((ciT (svM M q) ((10 * k) + j) nl told) 10))), (m + 11, .inl (g.2 0, 100, .inl ((ciT (svM M q) ((10 * k) + j) nl told) 11))), (m + 12, .inl (g.2 1, 40, .inl ((ciT (svM M q) ((10 * k) + j) nl told) 12))), (m + 13, .inl (g.2 0, 100, .inl ((ciT (svM M q) ((10 * k) + j) nl told) 13)))] := hD
          refine w_i hx hb hr hlk hS dX5_circle_54 ?_ ?_
          · (rw [aCircleT, if_pos c_5, if_pos c_12, if_pos c_23]; (try simp only [hn_k, hn_j]); exact hP)
          · rw [aCircleV, if_pos c_5, if_pos c_12, if_pos c_23]; (try simp only [hn_k, hn_j])
        · skip
          exact absurd c_34 (by decide)
      · skip
        have c_23 : (tld told) = false := bI_0.mp c_23
        refine lv_iconst (v := 2) hx hb dX5_circle_26 (by decide) ?_
        refine lv_goto (tgt := 31) hx hb dX5_circle_27 (by decide) ?_
        refine wrV (rest := []) zS hK hP hD hS (m_X5_holds l g m M hs 2) cw_X5_holds q823 [0, 1, 2, 3, 4, 5, 6, 7, 8, 9, 10, 11, 12, 13] rfl (by decide) rfl 0 rfl rfl ⟨Nat.le_of_ble_eq_true rfl, Nat.le_of_ble_eq_true rfl, rfl, rfl⟩ rfl rfl (Nat.le_of_ble_eq_true rfl) hl.1 dX5_circle_31 ⟨Nat.zero_le _, Nat.zero_le _⟩ (fun H locs hP hD hS => ?_)
        have hP : PP g [(m, .inr (5, [.ref (m + 1), .ref (m + 2), .int (M 0 2), .ref (m + 3), .ref (m + 4), .ref (m + 5), .ref (m + 6), .int (M 0 7), .int 2, .ref (m + 7), .ref (m + 8), .ref (m + 9), .ref (m + 10), .ref (m + 11), .ref (m + 12), .ref (m + 13), .long hs])), (m + 1, .inl (g.2 0, 174, .inl (M 1))), (m + 2, .inl (g.2 0, 1044, .inl (M 2))), (m + 3, .inl (g.2 0, 348, .inl (M 3))), (m + 4, .inl (g.2 1, 2, .inl (M 4))), (m + 5, .inl (g.2 0, 174, .inl (M 5))), (m + 6, .inl (g.2 0, 60, .inl (M 6))), (m + 7, .inl (g.2 0, 16, .inl (M 7))), (m + 8, .inl (g.2 0, 100, .inl (M 8))), (m + 9, .inl (g.2 0, 100, .inl (M 9))), (m + 10, .inl (g.2 0, 100, .inl (M 10))), (m + 11, .inl (g.2 0, 100, .inl (M 11))), (m + 12, .inl (g.2 1, 40, .inl (M 12))), (m + 13, .inl (g.2 0, 100, .inl (M 13)))] H := hP
        have hD : va_D (inW (mW g m M hs)) [(m, .inr (5, [.ref (m + 1), .ref (m + 2), .int (M 0 2), .ref (m + 3), .ref (m + 4), .ref (m + 5), .ref (m + 6), .int (M 0 7), .int 2, .ref (m + 7), .ref (m + 8), .ref (m + 9), .ref (m + 10), .ref (m + 11), .ref (m + 12), .ref (m + 13), .long hs])), (m + 1, .inl (g.2 0, 174, .inl (M 1))), (m + 2, .inl (g.2 0, 1044, .inl (M 2))), (m + 3, .inl (g.2 0, 348, .inl (M 3))), (m + 4, .inl (g.2 1, 2, .inl (M 4))), (m + 5, .inl (g.2 0, 174, .inl (M 5))), (m + 6, .inl (g.2 0, 60, .inl (M 6))), (m + 7, .inl (g.2 0, 16, .inl (M 7))), (m + 8, .inl (g.2 0, 100, .inl (M 8))), (m + 9, .inl (g.2 0, 100, .inl (M 9))), (m + 10, .inl (g.2 0, 100, .inl (M 10))), (m + 11, .inl (g.2 0, 100, .inl (M 11))), (m + 12, .inl (g.2 1, 40, .inl (M 12))), (m + 13, .inl (g.2 0, 100, .inl (M 13)))] := hD
        refine topE (show bI (decide ((2 : Int32) = 0)) = 0 from by decide) ?_
        refine lv_if_ne (tgt := 39) hx hb dX5_circle_34 (by decide) (fun c_34 => ?_) (fun c_34 => ?_)
        · skip
          exact absurd c_34 (by decide)
        · skip
          refine lv_iconst (v := 0) hx hb dX5_circle_37 (by decide) ?_
          refine w_i hx hb hr hlk hS dX5_circle_38 ?_ ?_
          · (rw [aCircleT, if_pos c_5, if_pos c_12, if_neg (by rw [c_23]; decide)]; (try simp only [hn_k, hn_j]); exact hP)
          · rw [aCircleV, if_pos c_5, if_pos c_12, if_neg (by rw [c_23]; decide)]; (try simp only [hn_k, hn_j])
    · skip
      have c_12 : (inb second 0 9) = false := bI_0.mp c_12
      refine lv_iconst (v := 1) hx hb dX5_circle_15 (by decide) ?_
      refine lv_goto (tgt := 31) hx hb dX5_circle_16 (by decide) ?_
      refine wrV (rest := []) zS hK hP hD hS (m_X5_holds l g m M hs 1) cw_X5_holds q823 [0, 1, 2, 3, 4, 5, 6, 7, 8, 9, 10, 11, 12, 13] rfl (by decide) rfl 0 rfl rfl ⟨Nat.le_of_ble_eq_true rfl, Nat.le_of_ble_eq_true rfl, rfl, rfl⟩ rfl rfl (Nat.le_of_ble_eq_true rfl) hl.1 dX5_circle_31 ⟨Nat.zero_le _, Nat.zero_le _⟩ (fun H locs hP hD hS => ?_)
      have hP : PP g [(m, .inr (5, [.ref (m + 1), .ref (m + 2), .int (M 0 2), .ref (m + 3), .ref (m + 4), .ref (m + 5), .ref (m + 6), .int (M 0 7), .int 1, .ref (m + 7), .ref (m + 8), .ref (m + 9), .ref (m + 10), .ref (m + 11), .ref (m + 12), .ref (m + 13), .long hs])), (m + 1, .inl (g.2 0, 174, .inl (M 1))), (m + 2, .inl (g.2 0, 1044, .inl (M 2))), (m + 3, .inl (g.2 0, 348, .inl (M 3))), (m + 4, .inl (g.2 1, 2, .inl (M 4))), (m + 5, .inl (g.2 0, 174, .inl (M 5))), (m + 6, .inl (g.2 0, 60, .inl (M 6))), (m + 7, .inl (g.2 0, 16, .inl (M 7))), (m + 8, .inl (g.2 0, 100, .inl (M 8))), (m + 9, .inl (g.2 0, 100, .inl (M 9))), (m + 10, .inl (g.2 0, 100, .inl (M 10))), (m + 11, .inl (g.2 0, 100, .inl (M 11))), (m + 12, .inl (g.2 1, 40, .inl (M 12))), (m + 13, .inl (g.2 0, 100, .inl (M 13)))] H := hP
      have hD : va_D (inW (mW g m M hs)) [(m, .inr (5, [.ref (m + 1), .ref (m + 2), .int (M 0 2), .ref (m + 3), .ref (m + 4), .ref (m + 5), .ref (m + 6), .int (M 0 7), .int 1, .ref (m + 7), .ref (m + 8), .ref (m + 9), .ref (m + 10), .ref (m + 11), .ref (m + 12), .ref (m + 13), .long hs])), (m + 1, .inl (g.2 0, 174, .inl (M 1))), (m + 2, .inl (g.2 0, 1044, .inl (M 2))), (m + 3, .inl (g.2 0, 348, .inl (M 3))), (m + 4, .inl (g.2 1, 2, .inl (M 4))), (m + 5, .inl (g.2 0, 174, .inl (M 5))), (m + 6, .inl (g.2 0, 60, .inl (M 6))), (m + 7, .inl (g.2 0, 16, .inl (M 7))), (m + 8, .inl (g.2 0, 100, .inl (M 8))), (m + 9, .inl (g.2 0, 100, .inl (M 9))), (m + 10, .inl (g.2 0, 100, .inl (M 10))), (m + 11, .inl (g.2 0, 100, .inl (M 11))), (m + 12, .inl (g.2 1, 40, .inl (M 12))), (m + 13, .inl (g.2 0, 100, .inl (M 13)))] := hD
      refine topE (show bI (decide ((1 : Int32) = 0)) = 0 from by decide) ?_
      refine lv_if_ne (tgt := 39) hx hb dX5_circle_34 (by decide) (fun c_34 => ?_) (fun c_34 => ?_)
      · skip
        exact absurd c_34 (by decide)
      · skip
        refine lv_iconst (v := 0) hx hb dX5_circle_37 (by decide) ?_
        refine w_i hx hb hr hlk hS dX5_circle_38 ?_ ?_
        · (rw [aCircleT, if_pos c_5, if_neg (by rw [c_12]; decide)]; (try simp only [hn_k]); exact hP)
        · rw [aCircleV, if_pos c_5, if_neg (by rw [c_12]; decide)]; (try simp only [hn_k])
theorem cw_X5_circle : CWV yX5_circle cX5_circle 4 (some .int) 3 := ⟨⟨q859, q65, by decide +kernel, by decide +kernel, by decide +kernel⟩, q857, q858⟩
set_option maxHeartbeats 4000000 in
set_option maxRecDepth 100000 in
theorem m_X5_forget (l : Launch) (g : GG) (m : Nat) (M : Nat → Nat → Int32) (hs : Int64) (hSh : MSh (M 1)) (nl : Nat) (hL : MLs (M 1) nl) (q : Nat) (hq : q ≤ 6) (h2 : M 0 2 = nI q) (n : Nat) (hn : n ≤ 60) (h7 : M 0 7 = nI n) (lesson : Int32) : MW l g yX5_forget cX5_forget 2 (some .int) ({ frames := 7, cells := 0, slots := 0, locals := 152 } : Room) [.ref m, .int lesson] (mW g m M hs) (mW g m (aForgetT M q nl lesson) hs) (some (.int (aForgetV M q nl lesson))) := by
  refine MW.of rfl (Nat.le_of_ble_eq_true rfl) ?_
  intro zp ze zs zm zbelow zmeth zc ls zS hr hlk hK hP hD hS hl
  obtain ⟨hx, hb, hml, hown, hts⟩ := id zS
  have hl : lv_has ls 2 [(0, .ref m), (1, .int lesson)] := hl
  have hnl := hL.2.1
  refine lv_aload_n hx hb dX5_forget_0 rfl (lv_at hl 0 rfl) ?_
  refine lv_aload_n hx hb dX5_forget_1 rfl (lv_at hl 0 rfl) ?_
  refine lv_iload_n hx hb dX5_forget_2 rfl (lv_at hl 1 rfl) ?_
  refine rdV (rest := [.ref m]) zS hK hP (m_X5_isLesson l g m M hs nl hL lesson) cw_X5_isLesson q910 [0, 1, 2, 3, 4, 5, 6, 7, 8, 9, 10, 11, 12, 13] rfl 0 rfl rfl ⟨Nat.le_of_ble_eq_true rfl, Nat.le_of_ble_eq_true rfl, rfl, rfl⟩ rfl rfl (Nat.le_of_ble_eq_true rfl) hl.1 dX5_forget_3 ⟨Nat.zero_le _, Nat.zero_le _⟩ ?_
  refine lv_if_eq (tgt := 13) hx hb dX5_forget_6 (by decide) (fun c_6 => ?_) (fun c_6 => ?_)
  · skip
    have c_6 : (inb lesson 0 (nI nl - 1)) = false := bI_0.mp c_6
    refine lv_iconst (v := 1) hx hb dX5_forget_13 (by decide) ?_
    refine wrV (rest := []) zS hK hP hD hS (m_X5_holds l g m M hs 1) cw_X5_holds q823 [0, 1, 2, 3, 4, 5, 6, 7, 8, 9, 10, 11, 12, 13] rfl (by decide) rfl 0 rfl rfl ⟨Nat.le_of_ble_eq_true rfl, Nat.le_of_ble_eq_true rfl, rfl, rfl⟩ rfl rfl (Nat.le_of_ble_eq_true rfl) hl.1 dX5_forget_14 ⟨Nat.zero_le _, Nat.zero_le _⟩ (fun H locs hP hD hS => ?_)
    have hP : PP g [(m, .inr (5, [.ref (m + 1), .ref (m + 2), .int (M 0 2), .ref (m + 3), .ref (m + 4), .ref (m + 5), .ref (m + 6), .int (M 0 7), .int 1, .ref (m + 7), .ref (m + 8), .ref (m + 9), .ref (m + 10), .ref (m + 11), .ref (m + 12), .ref (m + 13), .long hs])), (m + 1, .inl (g.2 0, 174, .inl (M 1))), (m + 2, .inl (g.2 0, 1044, .inl (M 2))), (m + 3, .inl (g.2 0, 348, .inl (M 3))), (m + 4, .inl (g.2 1, 2, .inl (M 4))), (m + 5, .inl (g.2 0, 174, .inl (M 5))), (m + 6, .inl (g.2 0, 60, .inl (M 6))), (m + 7, .inl (g.2 0, 16, .inl (M 7))), (m + 8, .inl (g.2 0, 100, .inl (M 8))), (m + 9, .inl (g.2 0, 100, .inl (M 9))), (m + 10, .inl (g.2 0, 100, .inl (M 10))), (m + 11, .inl (g.2 0, 100, .inl (M 11))), (m + 12, .inl (g.2 1, 40, .inl (M 12))), (m + 13, .inl (g.2 0, 100, .inl (M 13)))] H := hP
    have hD : va_D (inW (mW g m M hs)) [(m, .inr (5, [.ref (m + 1), .ref (m + 2), .int (M 0 2), .ref (m + 3), .ref (m + 4), .ref (m + 5), .ref (m + 6), .int (M 0 7), .int 1, .ref (m + 7), .ref (m + 8), .ref (m + 9), .ref (m + 10), .ref (m + 11), .ref (m + 12), .ref (m + 13), .long hs])), (m + 1, .inl (g.2 0, 174, .inl (M 1))), (m + 2, .inl (g.2 0, 1044, .inl (M 2))), (m + 3, .inl (g.2 0, 348, .inl (M 3))), (m + 4, .inl (g.2 1, 2, .inl (M 4))), (m + 5, .inl (g.2 0, 174, .inl (M 5))), (m + 6, .inl (g.2 0, 60, .inl (M 6))), (m + 7, .inl (g.2 0, 16, .inl (M 7))), (m + 8, .inl (g.2 0, 100, .inl (M 8))), (m + 9, .inl (g.2 0, 100, .inl (M 9))), (m + 10, .inl (g.2 0, 100, .inl (M 10))), (m + 11, .inl (g.2 0, 100, .inl (M 11))), (m + 12, .inl (g.2 1, 40, .inl (M 12))), (m + 13, .inl (g.2 0, 100, .inl (M 13)))] := hD
    refine topE (show bI (decide ((1 : Int32) = 0)) = 0 from by decide) ?_
    refine lv_if_ne (tgt := 22) hx hb dX5_forget_17 (by decide) (fun c_17 => ?_) (fun c_17 => ?_)
    · skip
      exact absurd c_17 (by decide)
    · skip
      refine lv_iconst (v := 0) hx hb dX5_forget_20 (by decide) ?_
      refine w_i hx hb hr hlk hS dX5_forget_21 ?_ ?_
      · (rw [aForgetT, if_neg (by rw [c_6]; decide)]; exact hP)
      · rw [aForgetV, if_neg (by rw [c_6]; decide)]
  · skip
    have c_6 : (inb lesson 0 (nI nl - 1)) = true := bI_n0.mp c_6
    obtain ⟨k, h_k, rfl⟩ := inb_ls c_6 (by omega)
    have hn_k : nn (nI k) = k := nI_clamp (by omega)
    refine lv_iconst (v := 0) hx hb dX5_forget_9 (by decide) ?_
    refine lv_goto (tgt := 14) hx hb dX5_forget_10 (by decide) ?_
    refine wrV (rest := []) zS hK hP hD hS (m_X5_holds l g m M hs 0) cw_X5_holds q823 [0, 1, 2, 3, 4, 5, 6, 7, 8, 9, 10, 11, 12, 13] rfl (by decide) rfl 0 rfl rfl ⟨Nat.le_of_ble_eq_true rfl, Nat.le_of_ble_eq_true rfl, rfl, rfl⟩ rfl rfl (Nat.le_of_ble_eq_true rfl) hl.1 dX5_forget_14 ⟨Nat.zero_le _, Nat.zero_le _⟩ (fun H locs hP hD hS => ?_)
    have hP : PP g [(m, .inr (5, [.ref (m + 1), .ref (m + 2), .int (M 0 2), .ref (m + 3), .ref (m + 4), .ref (m + 5), .ref (m + 6), .int (M 0 7), .int 0, .ref (m + 7), .ref (m + 8), .ref (m + 9), .ref (m + 10), .ref (m + 11), .ref (m + 12), .ref (m + 13), .long hs])), (m + 1, .inl (g.2 0, 174, .inl (M 1))), (m + 2, .inl (g.2 0, 1044, .inl (M 2))), (m + 3, .inl (g.2 0, 348, .inl (M 3))), (m + 4, .inl (g.2 1, 2, .inl (M 4))), (m + 5, .inl (g.2 0, 174, .inl (M 5))), (m + 6, .inl (g.2 0, 60, .inl (M 6))), (m + 7, .inl (g.2 0, 16, .inl (M 7))), (m + 8, .inl (g.2 0, 100, .inl (M 8))), (m + 9, .inl (g.2 0, 100, .inl (M 9))), (m + 10, .inl (g.2 0, 100, .inl (M 10))), (m + 11, .inl (g.2 0, 100, .inl (M 11))), (m + 12, .inl (g.2 1, 40, .inl (M 12))), (m + 13, .inl (g.2 0, 100, .inl (M 13)))] H := hP
    have hD : va_D (inW (mW g m M hs)) [(m, .inr (5, [.ref (m + 1), .ref (m + 2), .int (M 0 2), .ref (m + 3), .ref (m + 4), .ref (m + 5), .ref (m + 6), .int (M 0 7), .int 0, .ref (m + 7), .ref (m + 8), .ref (m + 9), .ref (m + 10), .ref (m + 11), .ref (m + 12), .ref (m + 13), .long hs])), (m + 1, .inl (g.2 0, 174, .inl (M 1))), (m + 2, .inl (g.2 0, 1044, .inl (M 2))), (m + 3, .inl (g.2 0, 348, .inl (M 3))), (m + 4, .inl (g.2 1, 2, .inl (M 4))), (m + 5, .inl (g.2 0, 174, .inl (M 5))), (m + 6, .inl (g.2 0, 60, .inl (M 6))), (m + 7, .inl (g.2 0, 16, .inl (M 7))), (m + 8, .inl (g.2 0, 100, .inl (M 8))), (m + 9, .inl (g.2 0, 100, .inl (M 9))), (m + 10, .inl (g.2 0, 100, .inl (M 10))), (m + 11, .inl (g.2 0, 100, .inl (M 11))), (m + 12, .inl (g.2 1, 40, .inl (M 12))), (m + 13, .inl (g.2 0, 100, .inl (M 13)))] := hD
    refine topE (show bI (decide ((0 : Int32) = 0)) = 1 from by decide) ?_
    refine lv_if_ne (tgt := 22) hx hb dX5_forget_17 (by decide) (fun c_17 => ?_) (fun c_17 => ?_)
    · skip
      refine lv_aload_n hx hb dX5_forget_22 rfl (lv_at hl 0 rfl) ?_
      refine wrV (rest := []) zS hK hP hD hS (m_X5_save l g m (rw_ M 0 (upd (M 0) 8 0)) hs q (by omega) h2) cw_X5_save q827 [0, 1, 2, 3, 4, 5, 6, 7, 8, 9, 10, 11, 12, 13] rfl (by decide) rfl 0 rfl rfl ⟨Nat.le_of_ble_eq_true rfl, Nat.le_of_ble_eq_true rfl, rfl, rfl⟩ rfl rfl (Nat.le_of_ble_eq_true rfl) hl.1 dX5_forget_23 ⟨Nat.zero_le _, Nat.zero_le _⟩ (fun H locs hP hD hS => ?_)
      have hP : PP g [(m, .inr (5, [.ref (m + 1), .ref (m + 2), .int (nI (svQ q + 1)), .ref (m + 3), .ref (m + 4), .ref (m + 5), .ref (m + 6), .int (M 0 7), .int 0, .ref (m + 7), .ref (m + 8), .ref (m + 9), .ref (m + 10), .ref (m + 11), .ref (m + 12), .ref (m + 13), .long hs])), (m + 1, .inl (g.2 0, 174, .inl (M 1))), (m + 2, .inl (g.2 0, 1044, .inl (svF (M 1) (M 2) q))), (m + 3, .inl (g.2 0, 348, .inl (M 3))), (m + 4, .inl (g.2 1, 2, .inl (M 4))), (m + 5, .inl (g.2 0, 174, .inl (M 5))), (m + 6, .inl (g.2 0, 60, .inl (M 6))), (m + 7, .inl (g.2 0, 16, .inl (M 7))), (m + 8, .inl (g.2 0, 100, .inl (M 8))), (m + 9, .inl (g.2 0, 100, .inl (M 9))), (m + 10, .inl (g.2 0, 100, .inl (M 10))), (m + 11, .inl (g.2 0, 100, .inl (M 11))), (m + 12, .inl (g.2 1, 40, .inl (M 12))), (m + 13, .inl (g.2 0, 100, .inl (M 13)))] H := hP
      have hD : va_D (inW (mW g m M hs)) [(m, .inr (5, [.ref (m + 1), .ref (m + 2), .int (nI (svQ q + 1)), .ref (m + 3), .ref (m + 4), .ref (m + 5), .ref (m + 6), .int (M 0 7), .int 0, .ref (m + 7), .ref (m + 8), .ref (m + 9), .ref (m + 10), .ref (m + 11), .ref (m + 12), .ref (m + 13), .long hs])), (m + 1, .inl (g.2 0, 174, .inl (M 1))), (m + 2, .inl (g.2 0, 1044, .inl (svF (M 1) (M 2) q))), (m + 3, .inl (g.2 0, 348, .inl (M 3))), (m + 4, .inl (g.2 1, 2, .inl (M 4))), (m + 5, .inl (g.2 0, 174, .inl (M 5))), (m + 6, .inl (g.2 0, 60, .inl (M 6))), (m + 7, .inl (g.2 0, 16, .inl (M 7))), (m + 8, .inl (g.2 0, 100, .inl (M 8))), (m + 9, .inl (g.2 0, 100, .inl (M 9))), (m + 10, .inl (g.2 0, 100, .inl (M 10))), (m + 11, .inl (g.2 0, 100, .inl (M 11))), (m + 12, .inl (g.2 1, 40, .inl (M 12))), (m + 13, .inl (g.2 0, 100, .inl (M 13)))] := hD
      refine lv_aload_n hx hb dX5_forget_26 rfl (lv_at hl 0 rfl) ?_
      refine gf zS hK hP iG5 rfl 0 rfl 0 (by decide) q757 rfl rfl dX5_forget_27 ?_
      refine lv_bipush (v := 6) hx hb dX5_forget_30 (by decide) ?_
      refine lv_dup2_11 hx hb dX5_forget_32 rfl rfl ?_
      refine aldN (j := 6) hx hb hK hP 1 0 rfl rfl rfl (by omega) (by decide) dX5_forget_33 ?_
      refine lv_iconst (v := 1) hx hb dX5_forget_34 (by decide) ?_
      refine lv_iadd hx hb dX5_forget_35 ?_
      refine astN (j := 6) hx hb hK hP hD hS 1 0 rfl rfl rfl (by omega) (by decide) dX5_forget_36 (fun H locs hP hD hS => ?_)
      have hP : PP g [(m, .inr (5, [.ref (m + 1), .ref (m + 2), .int (nI (svQ q + 1)), .ref (m + 3), .ref (m + 4), .ref (m + 5), .ref (m + 6), .int (M 0 7), .int 0, .ref (m + 7), .ref (m + 8), .ref (m + 9), .ref (m + 10), .ref (m + 11), .ref (m + 12), .ref (m + 13), .long hs])), (m + 1, .inl (g.2 0, 174, .inl (upd (M 1) 6 ((M 1 6) + 1)))), (m + 2, .inl (g.2 0, 1044, .inl (svF (M 1) (M 2) q))), (m + 3, .inl (g.2 0, 348, .inl (M 3))), (m + 4, .inl (g.2 1, 2, .inl (M 4))), (m + 5, .inl (g.2 0, 174, .inl (M 5))), (m + 6, .inl (g.2 0, 60, .inl (M 6))), (m + 7, .inl (g.2 0, 16, .inl (M 7))), (m + 8, .inl (g.2 0, 100, .inl (M 8))), (m + 9, .inl (g.2 0, 100, .inl (M 9))), (m + 10, .inl (g.2 0, 100, .inl (M 10))), (m + 11, .inl (g.2 0, 100, .inl (M 11))), (m + 12, .inl (g.2 1, 40, .inl (M 12))), (m + 13, .inl (g.2 0, 100, .inl (M 13)))] H := hP
      have hD : va_D (inW (mW g m M hs)) [(m, .inr (5, [.ref (m + 1), .ref (m + 2), .int (nI (svQ q + 1)), .ref (m + 3), .ref (m + 4), .ref (m + 5), .ref (m + 6), .int (M 0 7), .int 0, .ref (m + 7), .ref (m + 8), .ref (m + 9), .ref (m + 10), .ref (m + 11), .ref (m + 12), .ref (m + 13), .long hs])), (m + 1, .inl (g.2 0, 174, .inl (upd (M 1) 6 ((M 1 6) + 1)))), (m + 2, .inl (g.2 0, 1044, .inl (svF (M 1) (M 2) q))), (m + 3, .inl (g.2 0, 348, .inl (M 3))), (m + 4, .inl (g.2 1, 2, .inl (M 4))), (m + 5, .inl (g.2 0, 174, .inl (M 5))), (m + 6, .inl (g.2 0, 60, .inl (M 6))), (m + 7, .inl (g.2 0, 16, .inl (M 7))), (m + 8, .inl (g.2 0, 100, .inl (M 8))), (m + 9, .inl (g.2 0, 100, .inl (M 9))), (m + 10, .inl (g.2 0, 100, .inl (M 10))), (m + 11, .inl (g.2 0, 100, .inl (M 11))), (m + 12, .inl (g.2 1, 40, .inl (M 12))), (m + 13, .inl (g.2 0, 100, .inl (M 13)))] := hD
      refine lv_aload_n hx hb dX5_forget_37 rfl (lv_at hl 0 rfl) ?_
      refine gf zS hK hP iG5 rfl 0 rfl 0 (by decide) q757 rfl rfl dX5_forget_38 ?_
      refine lv_bipush (v := 7) hx hb dX5_forget_41 (by decide) ?_
      refine lv_dup2_11 hx hb dX5_forget_43 rfl rfl ?_
      refine aldN (j := 7) hx hb hK hP 1 0 rfl rfl rfl (by omega) (by decide) dX5_forget_44 ?_
      refine topE (y := M 1 7) ((by repeat rw [upd_n _ _ (by omega)])) ?_
      refine lv_iconst (v := 1) hx hb dX5_forget_45 (by decide) ?_
      refine lv_iadd hx hb dX5_forget_46 ?_
      refine astN (j := 7) hx hb hK hP hD hS 1 0 rfl rfl rfl (by omega) (by decide) dX5_forget_47 (fun H locs hP hD hS => ?_)
      have hP : PP g [(m, .inr (5, [.ref (m + 1), .ref (m + 2), .int (nI (svQ q + 1)), .ref (m + 3), .ref (m + 4), .ref (m + 5), .ref (m + 6), .int (M 0 7), .int 0, .ref (m + 7), .ref (m + 8), .ref (m + 9), .ref (m + 10), .ref (m + 11), .ref (m + 12), .ref (m + 13), .long hs])), (m + 1, .inl (g.2 0, 174, .inl (upd (upd (M 1) 6 ((M 1 6) + 1)) 7 ((M 1 7) + 1)))), (m + 2, .inl (g.2 0, 1044, .inl (svF (M 1) (M 2) q))), (m + 3, .inl (g.2 0, 348, .inl (M 3))), (m + 4, .inl (g.2 1, 2, .inl (M 4))), (m + 5, .inl (g.2 0, 174, .inl (M 5))), (m + 6, .inl (g.2 0, 60, .inl (M 6))), (m + 7, .inl (g.2 0, 16, .inl (M 7))), (m + 8, .inl (g.2 0, 100, .inl (M 8))), (m + 9, .inl (g.2 0, 100, .inl (M 9))), (m + 10, .inl (g.2 0, 100, .inl (M 10))), (m + 11, .inl (g.2 0, 100, .inl (M 11))), (m + 12, .inl (g.2 1, 40, .inl (M 12))), (m + 13, .inl (g.2 0, 100, .inl (M 13)))] H := hP
      have hD : va_D (inW (mW g m M hs)) [(m, .inr (5, [.ref (m + 1), .ref (m + 2), .int (nI (svQ q + 1)), .ref (m + 3), .ref (m + 4), .ref (m + 5), .ref (m + 6), .int (M 0 7), .int 0, .ref (m + 7), .ref (m + 8), .ref (m + 9), .ref (m + 10), .ref (m + 11), .ref (m + 12), .ref (m + 13), .long hs])), (m + 1, .inl (g.2 0, 174, .inl (upd (upd (M 1) 6 ((M 1 6) + 1)) 7 ((M 1 7) + 1)))), (m + 2, .inl (g.2 0, 1044, .inl (svF (M 1) (M 2) q))), (m + 3, .inl (g.2 0, 348, .inl (M 3))), (m + 4, .inl (g.2 1, 2, .inl (M 4))), (m + 5, .inl (g.2 0, 174, .inl (M 5))), (m + 6, .inl (g.2 0, 60, .inl (M 6))), (m + 7, .inl (g.2 0, 16, .inl (M 7))), (m + 8, .inl (g.2 0, 100, .inl (M 8))), (m + 9, .inl (g.2 0, 100, .inl (M 9))), (m + 10, .inl (g.2 0, 100, .inl (M 10))), (m + 11, .inl (g.2 0, 100, .inl (M 11))), (m + 12, .inl (g.2 1, 40, .inl (M 12))), (m + 13, .inl (g.2 0, 100, .inl (M 13)))] := hD
      have hP : PP g [(m, .inr (5, [.ref (m + 1), .ref (m + 2), .int ((fgM M q) 0 2), .ref (m + 3), .ref (m + 4), .ref (m + 5), .ref (m + 6), .int ((fgM M q) 0 7), .int ((fgM M q) 0 8), .ref (m + 7), .ref (m + 8), .ref (m + 9), .ref (m + 10), .ref (m + 11), .ref (m + 12), .ref (m + 13), .long hs])), (m + 1, .inl (g.2 0, 174, .inl ((fgM M q) 1))), (m + 2, .inl (g.2 0, 1044, .inl ((fgM M q) 2))), (m + 3, .inl (g.2 0, 348, .inl ((fgM M q) 3))), (m + 4, .inl (g.2 1, 2, .inl ((fgM M q) 4))), (m + 5, .inl (g.2 0, 174, .inl ((fgM M q) 5))), (m + 6, .inl (g.2 0, 60, .inl ((fgM M q) 6))), (m + 7, .inl (g.2 0, 16, .inl ((fgM M q) 7))), (m + 8, .inl (g.2 0, 100, .inl ((fgM M q) 8))), (m + 9, .inl (g.2 0, 100, .inl ((fgM M q) 9))), (m + 10, .inl (g.2 0, 100, .inl ((fgM M q) 10))), (m + 11, .inl (g.2 0, 100, .inl ((fgM M q) 11))), (m + 12, .inl (g.2 1, 40, .inl ((fgM M q) 12))), (m + 13, .inl (g.2 0, 100, .inl ((fgM M q) 13)))] H := hP
      have hD : va_D (inW (mW g m M hs)) [(m, .inr (5, [.ref (m + 1), .ref (m + 2), .int ((fgM M q) 0 2), .ref (m + 3), .ref (m + 4), .ref (m + 5), .ref (m + 6), .int ((fgM M q) 0 7), .int ((fgM M q) 0 8), .ref (m + 7), .ref (m + 8), .ref (m + 9), .ref (m + 10), .ref (m + 11), .ref (m + 12), .ref (m + 13), .long hs])), (m + 1, .inl (g.2 0, 174, .inl ((fgM M q) 1))), (m + 2, .inl (g.2 0, 1044, .inl ((fgM M q) 2))), (m + 3, .inl (g.2 0, 348, .inl ((fgM M q) 3))), (m + 4, .inl (g.2 1, 2, .inl ((fgM M q) 4))), (m + 5, .inl (g.2 0, 174, .inl ((fgM M q) 5))), (m + 6, .inl (g.2 0, 60, .inl ((fgM M q) 6))), (m + 7, .inl (g.2 0, 16, .inl ((fgM M q) 7))), (m + 8, .inl (g.2 0, 100, .inl ((fgM M q) 8))), (m + 9, .inl (g.2 0, 100, .inl ((fgM M q) 9))), (m + 10, .inl (g.2 0, 100, .inl ((fgM M q) 10))), (m + 11, .inl (g.2 0, 100, .inl ((fgM M q) 11))), (m + 12, .inl (g.2 1, 40, .inl ((fgM M q) 12))), (m + 13, .inl (g.2 0, 100, .inl ((fgM M q) 13)))] := hD
      have hS_f : MSh (fgM M q 1) := fgM_sh hSh
      have hL_f : MLs (fgM M q 1) nl := fgM_ls hL
      refine lv_aload_n hx hb dX5_forget_48 rfl (lv_at hl 0 rfl) ?_
      refine lv_iload_n hx hb dX5_forget_49 rfl (lv_at hl 1 rfl) ?_
      refine wrV (rest := []) zS hK hP hD hS (m_X5_drops l g m (fgM M q) hs hS_f nl hL_f k (by omega)) cw_X5_drops q914 [0, 1, 2, 3, 4, 5, 6, 7, 8, 9, 10, 11, 12, 13] rfl (by decide) rfl 0 rfl rfl ⟨Nat.le_of_ble_eq_true rfl, Nat.le_of_ble_eq_true rfl, rfl, rfl⟩ rfl rfl (Nat.le_of_ble_eq_true rfl) hl.1 dX5_forget_50 ⟨Nat.zero_le _, Nat.zero_le _⟩ (fun H locs hP hD hS => ?_)
      have hP : PP g [(m, .inr (5, [.ref (m + 1), .ref (m + 2), .int ((drT (fgM M q) k nl) 0 2), .ref (m + 3), .ref (m + 4), .ref (m + 5), .ref (m + 6), .int ((drT (fgM M q) k nl) 0 7), .int ((drT (fgM M q) k nl) 0 8), .ref (m + 7), .ref (m + 8), .ref (m + 9), .ref (m + 10), .ref (m + 11), .ref (m + 12), .ref (m + 13), .long hs])), (m + 1, .inl (g.2 0, 174, .inl ((drT (fgM M q) k nl) 1))), (m + 2, .inl (g.2 0, 1044, .inl ((drT (fgM M q) k nl) 2))), (m + 3, .inl (g.2 0, 348, .inl ((drT (fgM M q) k nl) 3))), (m + 4, .inl (g.2 1, 2, .inl ((drT (fgM M q) k nl) 4))), (m + 5, .inl (g.2 0, 174, .inl ((drT (fgM M q) k nl) 5))), (m + 6, .inl (g.2 0, 60, .inl ((drT (fgM M q) k nl) 6))), (m + 7, .inl (g.2 0, 16, .inl ((drT (fgM M q) k nl) 7))), (m + 8, .inl (g.2 0, 100, .inl ((drT (fgM M q) k nl) 8))), (m + 9, .inl (g.2 0, 100, .inl ((drT (fgM M q) k nl) 9))), (m + 10, .inl (g.2 0, 100, .inl ((drT (fgM M q) k nl) 10))), (m + 11, .inl (g.2 0, 100, .inl ((drT (fgM M q) k nl) 11))), (m + 12, .inl (g.2 1, 40, .inl ((drT (fgM M q) k nl) 12))), (m + 13, .inl (g.2 0, 100, .inl ((drT (fgM M q) k nl) 13)))] H := hP
      have hD : va_D (inW (mW g m M hs)) [(m, .inr (5, [.ref (m + 1), .ref (m + 2), .int ((drT (fgM M q) k nl) 0 2), .ref (m + 3), .ref (m + 4), .ref (m + 5), .ref (m + 6), .int ((drT (fgM M q) k nl) 0 7), .int ((drT (fgM M q) k nl) 0 8), .ref (m + 7), .ref (m + 8), .ref (m + 9), .ref (m + 10), .ref (m + 11), .ref (m + 12), .ref (m + 13), .long hs])), (m + 1, .inl (g.2 0, 174, .inl ((drT (fgM M q) k nl) 1))), (m + 2, .inl (g.2 0, 1044, .inl ((drT (fgM M q) k nl) 2))), (m + 3, .inl (g.2 0, 348, .inl ((drT (fgM M q) k nl) 3))), (m + 4, .inl (g.2 1, 2, .inl ((drT (fgM M q) k nl) 4))), (m + 5, .inl (g.2 0, 174, .inl ((drT (fgM M q) k nl) 5))), (m + 6, .inl (g.2 0, 60, .inl ((drT (fgM M q) k nl) 6))), (m + 7, .inl (g.2 0, 16, .inl ((drT (fgM M q) k nl) 7))), (m + 8, .inl (g.2 0, 100, .inl ((drT (fgM M q) k nl) 8))), (m + 9, .inl (g.2 0, 100, .inl ((drT (fgM M q) k nl) 9))), (m + 10, .inl (g.2 0, 100, .inl ((drT (fgM M q) k nl) 10))), (m + 11, .inl (g.2 0, 100, .inl ((drT (fgM M q) k nl) 11))), (m + 12, .inl (g.2 1, 40, .inl ((drT (fgM M q) k nl) 12))), (m + 13, .inl (g.2 0, 100, .inl ((drT (fgM M q) k nl) 13)))] := hD
      refine w_i hx hb hr hlk hS dX5_forget_53 ?_ ?_
      · (rw [aForgetT, if_pos c_6]; (try simp only [hn_k]); exact hP)
      · rw [aForgetV, if_pos c_6]; (try simp only [hn_k])
    · skip
      exact absurd c_17 (by decide)
theorem cw_X5_forget : CWV yX5_forget cX5_forget 2 (some .int) 1 := ⟨⟨q909, q65, by decide +kernel, by decide +kernel, by decide +kernel⟩, q907, q908⟩
set_option maxHeartbeats 4000000 in
set_option maxRecDepth 100000 in
theorem m_X5_append (l : Launch) (g : GG) (m : Nat) (M : Nat → Nat → Int32) (hs : Int64) (hSh : MSh (M 1)) (nl : Nat) (hL : MLs (M 1) nl) (q : Nat) (hq : q ≤ 6) (h2 : M 0 2 = nI q) (n : Nat) (hn : n ≤ 60) (h7 : M 0 7 = nI n) (code : Int32) : MW l g yX5_append cX5_append 2 (some .int) ({ frames := 1, cells := 0, slots := 0, locals := 22 } : Room) [.ref m, .int code] (mW g m M hs) (mW g m (aAppendT M n code) hs) (some (.int (aAppendV n code))) := by
  refine MW.of rfl (Nat.le_of_ble_eq_true rfl) ?_
  intro zp ze zs zm zbelow zmeth zc ls zS hr hlk hK hP hD hS hl
  obtain ⟨hx, hb, hml, hown, hts⟩ := id zS
  have hl : lv_has ls 2 [(0, .ref m), (1, .int code)] := hl
  have hnl := hL.2.1
  refine lv_aload_n hx hb dX5_append_0 rfl (lv_at hl 0 rfl) ?_
  refine lv_iload_n hx hb dX5_append_1 rfl (lv_at hl 1 rfl) ?_
  refine lv_bipush (v := 33) hx hb dX5_append_2 (by decide) ?_
  refine lv_bipush (v := 126) hx hb dX5_append_4 (by decide) ?_
  refine rdS (rest := [.ref m]) zS hK hP (m_X5_in l g code 33 126) cw_X5_in q820 [] rfl ⟨Nat.le_of_ble_eq_true rfl, Nat.le_of_ble_eq_true rfl, rfl, rfl⟩ rfl rfl (Nat.le_of_ble_eq_true rfl) hl.1 dX5_append_6 ⟨Nat.zero_le _, Nat.zero_le _⟩ ?_
  refine lv_if_ne (tgt := 16) hx hb dX5_append_9 (by decide) (fun c_9 => ?_) (fun c_9 => ?_)
  · skip
    have c_9 : (inb code 33 126) = true := bI_n0.mp c_9
    refine lv_aload_n hx hb dX5_append_16 rfl (lv_at hl 0 rfl) ?_
    refine gf zS hK hP iG5 rfl 0 rfl 7 (by decide) q764 rfl rfl dX5_append_17 ?_
    refine topE (y := nI n) (h7) ?_
    refine lv_bipush (v := 60) hx hb dX5_append_20 (by decide) ?_
    refine lv_icmp_ne (tgt := 29) hx hb dX5_append_22 (by decide) (fun c_22 => ?_) (fun c_22 => ?_)
    · skip
      have c_22 : n ≠ 60 := fun z => c_22 ((nI_eq (a := n) (b := 60) (by omega) (by omega)).mpr z)
      refine lv_iconst (v := 0) hx hb dX5_append_29 (by decide) ?_
      refine wrV (rest := []) zS hK hP hD hS (m_X5_holds l g m M hs 0) cw_X5_holds q823 [0, 1, 2, 3, 4, 5, 6, 7, 8, 9, 10, 11, 12, 13] rfl (by decide) rfl 0 rfl rfl ⟨Nat.le_of_ble_eq_true rfl, Nat.le_of_ble_eq_true rfl, rfl, rfl⟩ rfl rfl (Nat.le_of_ble_eq_true rfl) hl.1 dX5_append_30 ⟨Nat.zero_le _, Nat.zero_le _⟩ (fun H locs hP hD hS => ?_)
      have hP : PP g [(m, .inr (5, [.ref (m + 1), .ref (m + 2), .int (M 0 2), .ref (m + 3), .ref (m + 4), .ref (m + 5), .ref (m + 6), .int (M 0 7), .int 0, .ref (m + 7), .ref (m + 8), .ref (m + 9), .ref (m + 10), .ref (m + 11), .ref (m + 12), .ref (m + 13), .long hs])), (m + 1, .inl (g.2 0, 174, .inl (M 1))), (m + 2, .inl (g.2 0, 1044, .inl (M 2))), (m + 3, .inl (g.2 0, 348, .inl (M 3))), (m + 4, .inl (g.2 1, 2, .inl (M 4))), (m + 5, .inl (g.2 0, 174, .inl (M 5))), (m + 6, .inl (g.2 0, 60, .inl (M 6))), (m + 7, .inl (g.2 0, 16, .inl (M 7))), (m + 8, .inl (g.2 0, 100, .inl (M 8))), (m + 9, .inl (g.2 0, 100, .inl (M 9))), (m + 10, .inl (g.2 0, 100, .inl (M 10))), (m + 11, .inl (g.2 0, 100, .inl (M 11))), (m + 12, .inl (g.2 1, 40, .inl (M 12))), (m + 13, .inl (g.2 0, 100, .inl (M 13)))] H := hP
      have hD : va_D (inW (mW g m M hs)) [(m, .inr (5, [.ref (m + 1), .ref (m + 2), .int (M 0 2), .ref (m + 3), .ref (m + 4), .ref (m + 5), .ref (m + 6), .int (M 0 7), .int 0, .ref (m + 7), .ref (m + 8), .ref (m + 9), .ref (m + 10), .ref (m + 11), .ref (m + 12), .ref (m + 13), .long hs])), (m + 1, .inl (g.2 0, 174, .inl (M 1))), (m + 2, .inl (g.2 0, 1044, .inl (M 2))), (m + 3, .inl (g.2 0, 348, .inl (M 3))), (m + 4, .inl (g.2 1, 2, .inl (M 4))), (m + 5, .inl (g.2 0, 174, .inl (M 5))), (m + 6, .inl (g.2 0, 60, .inl (M 6))), (m + 7, .inl (g.2 0, 16, .inl (M 7))), (m + 8, .inl (g.2 0, 100, .inl (M 8))), (m + 9, .inl (g.2 0, 100, .inl (M 9))), (m + 10, .inl (g.2 0, 100, .inl (M 10))), (m + 11, .inl (g.2 0, 100, .inl (M 11))), (m + 12, .inl (g.2 1, 40, .inl (M 12))), (m + 13, .inl (g.2 0, 100, .inl (M 13)))] := hD
      refine topE (show bI (decide ((0 : Int32) = 0)) = 1 from by decide) ?_
      refine lv_if_ne (tgt := 38) hx hb dX5_append_33 (by decide) (fun c_33 => ?_) (fun c_33 => ?_)
      · skip
        refine lv_aload_n hx hb dX5_append_38 rfl (lv_at hl 0 rfl) ?_
        refine gf zS hK hP iG5 rfl 0 rfl 6 (by decide) q763 rfl rfl dX5_append_39 ?_
        refine lv_aload_n hx hb dX5_append_42 rfl (lv_at hl 0 rfl) ?_
        refine gf zS hK hP iG5 rfl 0 rfl 7 (by decide) q764 rfl rfl dX5_append_43 ?_
        refine topE (y := nI n) (h7) ?_
        refine lv_iload_n hx hb dX5_append_46 rfl (lv_at hl 1 rfl) ?_
        refine astN (j := n) hx hb hK hP hD hS 6 0 rfl rfl rfl (by omega) (by decide) dX5_append_47 (fun H locs hP hD hS => ?_)
        have hP : PP g [(m, .inr (5, [.ref (m + 1), .ref (m + 2), .int (M 0 2), .ref (m + 3), .ref (m + 4), .ref (m + 5), .ref (m + 6), .int (M 0 7), .int 0, .ref (m + 7), .ref (m + 8), .ref (m + 9), .ref (m + 10), .ref (m + 11), .ref (m + 12), .ref (m + 13), .long hs])), (m + 1, .inl (g.2 0, 174, .inl (M 1))), (m + 2, .inl (g.2 0, 1044, .inl (M 2))), (m + 3, .inl (g.2 0, 348, .inl (M 3))), (m + 4, .inl (g.2 1, 2, .inl (M 4))), (m + 5, .inl (g.2 0, 174, .inl (M 5))), (m + 6, .inl (g.2 0, 60, .inl (upd (M 6) n code))), (m + 7, .inl (g.2 0, 16, .inl (M 7))), (m + 8, .inl (g.2 0, 100, .inl (M 8))), (m + 9, .inl (g.2 0, 100, .inl (M 9))), (m + 10, .inl (g.2 0, 100, .inl (M 10))), (m + 11, .inl (g.2 0, 100, .inl (M 11))), (m + 12, .inl (g.2 1, 40, .inl (M 12))), (m + 13, .inl (g.2 0, 100, .inl (M 13)))] H := hP
        have hD : va_D (inW (mW g m M hs)) [(m, .inr (5, [.ref (m + 1), .ref (m + 2), .int (M 0 2), .ref (m + 3), .ref (m + 4), .ref (m + 5), .ref (m + 6), .int (M 0 7), .int 0, .ref (m + 7), .ref (m + 8), .ref (m + 9), .ref (m + 10), .ref (m + 11), .ref (m + 12), .ref (m + 13), .long hs])), (m + 1, .inl (g.2 0, 174, .inl (M 1))), (m + 2, .inl (g.2 0, 1044, .inl (M 2))), (m + 3, .inl (g.2 0, 348, .inl (M 3))), (m + 4, .inl (g.2 1, 2, .inl (M 4))), (m + 5, .inl (g.2 0, 174, .inl (M 5))), (m + 6, .inl (g.2 0, 60, .inl (upd (M 6) n code))), (m + 7, .inl (g.2 0, 16, .inl (M 7))), (m + 8, .inl (g.2 0, 100, .inl (M 8))), (m + 9, .inl (g.2 0, 100, .inl (M 9))), (m + 10, .inl (g.2 0, 100, .inl (M 10))), (m + 11, .inl (g.2 0, 100, .inl (M 11))), (m + 12, .inl (g.2 1, 40, .inl (M 12))), (m + 13, .inl (g.2 0, 100, .inl (M 13)))] := hD
        refine lv_aload_n hx hb dX5_append_48 rfl (lv_at hl 0 rfl) ?_
        refine lv_dup hx hb dX5_append_49 rfl ?_
        refine gf zS hK hP iG5 rfl 0 rfl 7 (by decide) q764 rfl rfl dX5_append_50 ?_
        refine topE (y := nI n) (h7) ?_
        refine lv_iconst (v := 1) hx hb dX5_append_53 (by decide) ?_
        refine lv_iadd hx hb dX5_append_54 ?_
        refine topE (nI_add n 1) ?_
        refine pf tyX5 tyX5_ok nmX5 zS hK hP hD hS iG5 rfl 0 rfl 7 (by decide) q764 rfl rfl rfl rfl rfl (Nat.le_of_ble_eq_true rfl) dX5_append_55 (fun H locs hP hD hS => ?_)
        have hP : PP g [(m, .inr (5, [.ref (m + 1), .ref (m + 2), .int (M 0 2), .ref (m + 3), .ref (m + 4), .ref (m + 5), .ref (m + 6), .int (nI (n + 1)), .int 0, .ref (m + 7), .ref (m + 8), .ref (m + 9), .ref (m + 10), .ref (m + 11), .ref (m + 12), .ref (m + 13), .long hs])), (m + 1, .inl (g.2 0, 174, .inl (M 1))), (m + 2, .inl (g.2 0, 1044, .inl (M 2))), (m + 3, .inl (g.2 0, 348, .inl (M 3))), (m + 4, .inl (g.2 1, 2, .inl (M 4))), (m + 5, .inl (g.2 0, 174, .inl (M 5))), (m + 6, .inl (g.2 0, 60, .inl (upd (M 6) n code))), (m + 7, .inl (g.2 0, 16, .inl (M 7))), (m + 8, .inl (g.2 0, 100, .inl (M 8))), (m + 9, .inl (g.2 0, 100, .inl (M 9))), (m + 10, .inl (g.2 0, 100, .inl (M 10))), (m + 11, .inl (g.2 0, 100, .inl (M 11))), (m + 12, .inl (g.2 1, 40, .inl (M 12))), (m + 13, .inl (g.2 0, 100, .inl (M 13)))] H := hP
        have hD : va_D (inW (mW g m M hs)) [(m, .inr (5, [.ref (m + 1), .ref (m + 2), .int (M 0 2), .ref (m + 3), .ref (m + 4), .ref (m + 5), .ref (m + 6), .int (nI (n + 1)), .int 0, .ref (m + 7), .ref (m + 8), .ref (m + 9), .ref (m + 10), .ref (m + 11), .ref (m + 12), .ref (m + 13), .long hs])), (m + 1, .inl (g.2 0, 174, .inl (M 1))), (m + 2, .inl (g.2 0, 1044, .inl (M 2))), (m + 3, .inl (g.2 0, 348, .inl (M 3))), (m + 4, .inl (g.2 1, 2, .inl (M 4))), (m + 5, .inl (g.2 0, 174, .inl (M 5))), (m + 6, .inl (g.2 0, 60, .inl (upd (M 6) n code))), (m + 7, .inl (g.2 0, 16, .inl (M 7))), (m + 8, .inl (g.2 0, 100, .inl (M 8))), (m + 9, .inl (g.2 0, 100, .inl (M 9))), (m + 10, .inl (g.2 0, 100, .inl (M 10))), (m + 11, .inl (g.2 0, 100, .inl (M 11))), (m + 12, .inl (g.2 1, 40, .inl (M 12))), (m + 13, .inl (g.2 0, 100, .inl (M 13)))] := hD
        refine lv_aload_n hx hb dX5_append_58 rfl (lv_at hl 0 rfl) ?_
        refine gf zS hK hP iG5 rfl 0 rfl 7 (by decide) q764 rfl rfl dX5_append_59 ?_
        refine w_i hx hb hr hlk hS dX5_append_62 ?_ ?_
        · (rw [aAppendT, if_pos c_9, if_neg c_22]; exact hP)
        · rw [aAppendV, if_pos c_9, if_neg c_22]
      · skip
        exact absurd c_33 (by decide)
    · skip
      have c_22 : n = 60 := (nI_eq (a := n) (b := 60) (by omega) (by omega)).mp c_22
      refine lv_iconst (v := 2) hx hb dX5_append_25 (by decide) ?_
      refine lv_goto (tgt := 30) hx hb dX5_append_26 (by decide) ?_
      refine wrV (rest := []) zS hK hP hD hS (m_X5_holds l g m M hs 2) cw_X5_holds q823 [0, 1, 2, 3, 4, 5, 6, 7, 8, 9, 10, 11, 12, 13] rfl (by decide) rfl 0 rfl rfl ⟨Nat.le_of_ble_eq_true rfl, Nat.le_of_ble_eq_true rfl, rfl, rfl⟩ rfl rfl (Nat.le_of_ble_eq_true rfl) hl.1 dX5_append_30 ⟨Nat.zero_le _, Nat.zero_le _⟩ (fun H locs hP hD hS => ?_)
      have hP : PP g [(m, .inr (5, [.ref (m + 1), .ref (m + 2), .int (M 0 2), .ref (m + 3), .ref (m + 4), .ref (m + 5), .ref (m + 6), .int (M 0 7), .int 2, .ref (m + 7), .ref (m + 8), .ref (m + 9), .ref (m + 10), .ref (m + 11), .ref (m + 12), .ref (m + 13), .long hs])), (m + 1, .inl (g.2 0, 174, .inl (M 1))), (m + 2, .inl (g.2 0, 1044, .inl (M 2))), (m + 3, .inl (g.2 0, 348, .inl (M 3))), (m + 4, .inl (g.2 1, 2, .inl (M 4))), (m + 5, .inl (g.2 0, 174, .inl (M 5))), (m + 6, .inl (g.2 0, 60, .inl (M 6))), (m + 7, .inl (g.2 0, 16, .inl (M 7))), (m + 8, .inl (g.2 0, 100, .inl (M 8))), (m + 9, .inl (g.2 0, 100, .inl (M 9))), (m + 10, .inl (g.2 0, 100, .inl (M 10))), (m + 11, .inl (g.2 0, 100, .inl (M 11))), (m + 12, .inl (g.2 1, 40, .inl (M 12))), (m + 13, .inl (g.2 0, 100, .inl (M 13)))] H := hP
      have hD : va_D (inW (mW g m M hs)) [(m, .inr (5, [.ref (m + 1), .ref (m + 2), .int (M 0 2), .ref (m + 3), .ref (m + 4), .ref (m + 5), .ref (m + 6), .int (M 0 7), .int 2, .ref (m + 7), .ref (m + 8), .ref (m + 9), .ref (m + 10), .ref (m + 11), .ref (m + 12), .ref (m + 13), .long hs])), (m + 1, .inl (g.2 0, 174, .inl (M 1))), (m + 2, .inl (g.2 0, 1044, .inl (M 2))), (m + 3, .inl (g.2 0, 348, .inl (M 3))), (m + 4, .inl (g.2 1, 2, .inl (M 4))), (m + 5, .inl (g.2 0, 174, .inl (M 5))), (m + 6, .inl (g.2 0, 60, .inl (M 6))), (m + 7, .inl (g.2 0, 16, .inl (M 7))), (m + 8, .inl (g.2 0, 100, .inl (M 8))), (m + 9, .inl (g.2 0, 100, .inl (M 9))), (m + 10, .inl (g.2 0, 100, .inl (M 10))), (m + 11, .inl (g.2 0, 100, .inl (M 11))), (m + 12, .inl (g.2 1, 40, .inl (M 12))), (m + 13, .inl (g.2 0, 100, .inl (M 13)))] := hD
      refine topE (show bI (decide ((2 : Int32) = 0)) = 0 from by decide) ?_
      refine lv_if_ne (tgt := 38) hx hb dX5_append_33 (by decide) (fun c_33 => ?_) (fun c_33 => ?_)
      · skip
        exact absurd c_33 (by decide)
      · skip
        refine lv_iconst (v := 0) hx hb dX5_append_36 (by decide) ?_
        refine w_i hx hb hr hlk hS dX5_append_37 ?_ ?_
        · (rw [aAppendT, if_pos c_9, if_pos c_22]; exact hP)
        · rw [aAppendV, if_pos c_9, if_pos c_22]
  · skip
    have c_9 : (inb code 33 126) = false := bI_0.mp c_9
    refine lv_iconst (v := 1) hx hb dX5_append_12 (by decide) ?_
    refine lv_goto (tgt := 30) hx hb dX5_append_13 (by decide) ?_
    refine wrV (rest := []) zS hK hP hD hS (m_X5_holds l g m M hs 1) cw_X5_holds q823 [0, 1, 2, 3, 4, 5, 6, 7, 8, 9, 10, 11, 12, 13] rfl (by decide) rfl 0 rfl rfl ⟨Nat.le_of_ble_eq_true rfl, Nat.le_of_ble_eq_true rfl, rfl, rfl⟩ rfl rfl (Nat.le_of_ble_eq_true rfl) hl.1 dX5_append_30 ⟨Nat.zero_le _, Nat.zero_le _⟩ (fun H locs hP hD hS => ?_)
    have hP : PP g [(m, .inr (5, [.ref (m + 1), .ref (m + 2), .int (M 0 2), .ref (m + 3), .ref (m + 4), .ref (m + 5), .ref (m + 6), .int (M 0 7), .int 1, .ref (m + 7), .ref (m + 8), .ref (m + 9), .ref (m + 10), .ref (m + 11), .ref (m + 12), .ref (m + 13), .long hs])), (m + 1, .inl (g.2 0, 174, .inl (M 1))), (m + 2, .inl (g.2 0, 1044, .inl (M 2))), (m + 3, .inl (g.2 0, 348, .inl (M 3))), (m + 4, .inl (g.2 1, 2, .inl (M 4))), (m + 5, .inl (g.2 0, 174, .inl (M 5))), (m + 6, .inl (g.2 0, 60, .inl (M 6))), (m + 7, .inl (g.2 0, 16, .inl (M 7))), (m + 8, .inl (g.2 0, 100, .inl (M 8))), (m + 9, .inl (g.2 0, 100, .inl (M 9))), (m + 10, .inl (g.2 0, 100, .inl (M 10))), (m + 11, .inl (g.2 0, 100, .inl (M 11))), (m + 12, .inl (g.2 1, 40, .inl (M 12))), (m + 13, .inl (g.2 0, 100, .inl (M 13)))] H := hP
    have hD : va_D (inW (mW g m M hs)) [(m, .inr (5, [.ref (m + 1), .ref (m + 2), .int (M 0 2), .ref (m + 3), .ref (m + 4), .ref (m + 5), .ref (m + 6), .int (M 0 7), .int 1, .ref (m + 7), .ref (m + 8), .ref (m + 9), .ref (m + 10), .ref (m + 11), .ref (m + 12), .ref (m + 13), .long hs])), (m + 1, .inl (g.2 0, 174, .inl (M 1))), (m + 2, .inl (g.2 0, 1044, .inl (M 2))), (m + 3, .inl (g.2 0, 348, .inl (M 3))), (m + 4, .inl (g.2 1, 2, .inl (M 4))), (m + 5, .inl (g.2 0, 174, .inl (M 5))), (m + 6, .inl (g.2 0, 60, .inl (M 6))), (m + 7, .inl (g.2 0, 16, .inl (M 7))), (m + 8, .inl (g.2 0, 100, .inl (M 8))), (m + 9, .inl (g.2 0, 100, .inl (M 9))), (m + 10, .inl (g.2 0, 100, .inl (M 10))), (m + 11, .inl (g.2 0, 100, .inl (M 11))), (m + 12, .inl (g.2 1, 40, .inl (M 12))), (m + 13, .inl (g.2 0, 100, .inl (M 13)))] := hD
    refine topE (show bI (decide ((1 : Int32) = 0)) = 0 from by decide) ?_
    refine lv_if_ne (tgt := 38) hx hb dX5_append_33 (by decide) (fun c_33 => ?_) (fun c_33 => ?_)
    · skip
      exact absurd c_33 (by decide)
    · skip
      refine lv_iconst (v := 0) hx hb dX5_append_36 (by decide) ?_
      refine w_i hx hb hr hlk hS dX5_append_37 ?_ ?_
      · (rw [aAppendT, if_neg (by rw [c_9]; decide)]; exact hP)
      · rw [aAppendV, if_neg (by rw [c_9]; decide)]
theorem cw_X5_append : CWV yX5_append cX5_append 2 (some .int) 1 := ⟨⟨q929, q65, by decide +kernel, by decide +kernel, by decide +kernel⟩, q927, q928⟩
set_option maxHeartbeats 4000000 in
set_option maxRecDepth 100000 in
theorem m_X5_clearBuffer (l : Launch) (g : GG) (m : Nat) (M : Nat → Nat → Int32) (hs : Int64) (hSh : MSh (M 1)) (nl : Nat) (hL : MLs (M 1) nl) (q : Nat) (hq : q ≤ 6) (h2 : M 0 2 = nI q) (n : Nat) (hn : n ≤ 60) (h7 : M 0 7 = nI n) : MW l g yX5_clearBuffer cX5_clearBuffer 2 (some .int) ({ frames := 0, cells := 0, slots := 0, locals := 0 } : Room) [.ref m] (mW g m M hs) (mW g m (aClearT M) hs) (some (.int (nI n))) := by
  refine MW.of rfl (Nat.le_of_ble_eq_true rfl) ?_
  intro zp ze zs zm zbelow zmeth zc ls zS hr hlk hK hP hD hS hl
  obtain ⟨hx, hb, hml, hown, hts⟩ := id zS
  have hl : lv_has ls 2 [(0, .ref m)] := hl
  have hnl := hL.2.1
  refine lv_aload_n hx hb dX5_clearBuffer_0 rfl (lv_at hl 0 rfl) ?_
  refine lv_iconst (v := 0) hx hb dX5_clearBuffer_1 (by decide) ?_
  refine pf tyX5 tyX5_ok nmX5 zS hK hP hD hS iG5 rfl 0 rfl 8 (by decide) q765 rfl rfl rfl rfl rfl (Nat.le_of_ble_eq_true rfl) dX5_clearBuffer_2 (fun H locs hP hD hS => ?_)
  have hP : PP g [(m, .inr (5, [.ref (m + 1), .ref (m + 2), .int (M 0 2), .ref (m + 3), .ref (m + 4), .ref (m + 5), .ref (m + 6), .int (M 0 7), .int 0, .ref (m + 7), .ref (m + 8), .ref (m + 9), .ref (m + 10), .ref (m + 11), .ref (m + 12), .ref (m + 13), .long hs])), (m + 1, .inl (g.2 0, 174, .inl (M 1))), (m + 2, .inl (g.2 0, 1044, .inl (M 2))), (m + 3, .inl (g.2 0, 348, .inl (M 3))), (m + 4, .inl (g.2 1, 2, .inl (M 4))), (m + 5, .inl (g.2 0, 174, .inl (M 5))), (m + 6, .inl (g.2 0, 60, .inl (M 6))), (m + 7, .inl (g.2 0, 16, .inl (M 7))), (m + 8, .inl (g.2 0, 100, .inl (M 8))), (m + 9, .inl (g.2 0, 100, .inl (M 9))), (m + 10, .inl (g.2 0, 100, .inl (M 10))), (m + 11, .inl (g.2 0, 100, .inl (M 11))), (m + 12, .inl (g.2 1, 40, .inl (M 12))), (m + 13, .inl (g.2 0, 100, .inl (M 13)))] H := hP
  have hD : va_D (inW (mW g m M hs)) [(m, .inr (5, [.ref (m + 1), .ref (m + 2), .int (M 0 2), .ref (m + 3), .ref (m + 4), .ref (m + 5), .ref (m + 6), .int (M 0 7), .int 0, .ref (m + 7), .ref (m + 8), .ref (m + 9), .ref (m + 10), .ref (m + 11), .ref (m + 12), .ref (m + 13), .long hs])), (m + 1, .inl (g.2 0, 174, .inl (M 1))), (m + 2, .inl (g.2 0, 1044, .inl (M 2))), (m + 3, .inl (g.2 0, 348, .inl (M 3))), (m + 4, .inl (g.2 1, 2, .inl (M 4))), (m + 5, .inl (g.2 0, 174, .inl (M 5))), (m + 6, .inl (g.2 0, 60, .inl (M 6))), (m + 7, .inl (g.2 0, 16, .inl (M 7))), (m + 8, .inl (g.2 0, 100, .inl (M 8))), (m + 9, .inl (g.2 0, 100, .inl (M 9))), (m + 10, .inl (g.2 0, 100, .inl (M 10))), (m + 11, .inl (g.2 0, 100, .inl (M 11))), (m + 12, .inl (g.2 1, 40, .inl (M 12))), (m + 13, .inl (g.2 0, 100, .inl (M 13)))] := hD
  refine lv_aload_n hx hb dX5_clearBuffer_5 rfl (lv_at hl 0 rfl) ?_
  refine gf zS hK hP iG5 rfl 0 rfl 7 (by decide) q764 rfl rfl dX5_clearBuffer_6 ?_
  refine topE (y := nI n) (h7) ?_
  refine lv_istore_n (lv' := [(1, .int (nI n)), (0, .ref m)]) hx hb dX5_clearBuffer_9 rfl hl (by decide) rfl (fun ls hl => ?_)
  refine lv_aload_n hx hb dX5_clearBuffer_10 rfl (lv_at hl 1 rfl) ?_
  refine lv_iconst (v := 0) hx hb dX5_clearBuffer_11 (by decide) ?_
  refine pf tyX5 tyX5_ok nmX5 zS hK hP hD hS iG5 rfl 0 rfl 7 (by decide) q764 rfl rfl rfl rfl rfl (Nat.le_of_ble_eq_true rfl) dX5_clearBuffer_12 (fun H locs hP hD hS => ?_)
  have hP : PP g [(m, .inr (5, [.ref (m + 1), .ref (m + 2), .int (M 0 2), .ref (m + 3), .ref (m + 4), .ref (m + 5), .ref (m + 6), .int 0, .int 0, .ref (m + 7), .ref (m + 8), .ref (m + 9), .ref (m + 10), .ref (m + 11), .ref (m + 12), .ref (m + 13), .long hs])), (m + 1, .inl (g.2 0, 174, .inl (M 1))), (m + 2, .inl (g.2 0, 1044, .inl (M 2))), (m + 3, .inl (g.2 0, 348, .inl (M 3))), (m + 4, .inl (g.2 1, 2, .inl (M 4))), (m + 5, .inl (g.2 0, 174, .inl (M 5))), (m + 6, .inl (g.2 0, 60, .inl (M 6))), (m + 7, .inl (g.2 0, 16, .inl (M 7))), (m + 8, .inl (g.2 0, 100, .inl (M 8))), (m + 9, .inl (g.2 0, 100, .inl (M 9))), (m + 10, .inl (g.2 0, 100, .inl (M 10))), (m + 11, .inl (g.2 0, 100, .inl (M 11))), (m + 12, .inl (g.2 1, 40, .inl (M 12))), (m + 13, .inl (g.2 0, 100, .inl (M 13)))] H := hP
  have hD : va_D (inW (mW g m M hs)) [(m, .inr (5, [.ref (m + 1), .ref (m + 2), .int (M 0 2), .ref (m + 3), .ref (m + 4), .ref (m + 5), .ref (m + 6), .int 0, .int 0, .ref (m + 7), .ref (m + 8), .ref (m + 9), .ref (m + 10), .ref (m + 11), .ref (m + 12), .ref (m + 13), .long hs])), (m + 1, .inl (g.2 0, 174, .inl (M 1))), (m + 2, .inl (g.2 0, 1044, .inl (M 2))), (m + 3, .inl (g.2 0, 348, .inl (M 3))), (m + 4, .inl (g.2 1, 2, .inl (M 4))), (m + 5, .inl (g.2 0, 174, .inl (M 5))), (m + 6, .inl (g.2 0, 60, .inl (M 6))), (m + 7, .inl (g.2 0, 16, .inl (M 7))), (m + 8, .inl (g.2 0, 100, .inl (M 8))), (m + 9, .inl (g.2 0, 100, .inl (M 9))), (m + 10, .inl (g.2 0, 100, .inl (M 10))), (m + 11, .inl (g.2 0, 100, .inl (M 11))), (m + 12, .inl (g.2 1, 40, .inl (M 12))), (m + 13, .inl (g.2 0, 100, .inl (M 13)))] := hD
  refine lv_iload_n hx hb dX5_clearBuffer_15 rfl (lv_at hl 0 rfl) ?_
  refine w_i hx hb hr hlk hS dX5_clearBuffer_16 ?_ ?_
  · exact hP
  · rfl
theorem cw_X5_clearBuffer : CWV yX5_clearBuffer cX5_clearBuffer 2 (some .int) 0 := ⟨⟨q933, q65, by decide +kernel, by decide +kernel, by decide +kernel⟩, q931, q932⟩
set_option maxHeartbeats 4000000 in
set_option maxRecDepth 100000 in
theorem m_X5_firstError (l : Launch) (g : GG) (m : Nat) (M : Nat → Nat → Int32) (hs : Int64) (hSh : MSh (M 1)) (nl : Nat) (hL : MLs (M 1) nl) (q : Nat) (hq : q ≤ 6) (h2 : M 0 2 = nI q) (n : Nat) (hn : n ≤ 60) (h7 : M 0 7 = nI n) : MW l g yX5_firstError cX5_firstError 1 (some .int) ({ frames := 3, cells := 0, slots := 0, locals := 64 } : Room) [.ref m] (mW g m M hs) (mW g m (thr M 0) hs) (some (.int (nI (fwp (M 6) n n 0)))) := by
  refine MW.of rfl (Nat.le_of_ble_eq_true rfl) ?_
  intro zp ze zs zm zbelow zmeth zc ls zS hr hlk hK hP hD hS hl
  obtain ⟨hx, hb, hml, hown, hts⟩ := id zS
  have hl : lv_has ls 1 [(0, .ref m)] := hl
  have hnl := hL.2.1
  refine lv_aload_n hx hb dX5_firstError_0 rfl (lv_at hl 0 rfl) ?_
  refine lv_iconst (v := 0) hx hb dX5_firstError_1 (by decide) ?_
  refine pf tyX5 tyX5_ok nmX5 zS hK hP hD hS iG5 rfl 0 rfl 8 (by decide) q765 rfl rfl rfl rfl rfl (Nat.le_of_ble_eq_true rfl) dX5_firstError_2 (fun H locs hP hD hS => ?_)
  have hP : PP g [(m, .inr (5, [.ref (m + 1), .ref (m + 2), .int (M 0 2), .ref (m + 3), .ref (m + 4), .ref (m + 5), .ref (m + 6), .int (M 0 7), .int 0, .ref (m + 7), .ref (m + 8), .ref (m + 9), .ref (m + 10), .ref (m + 11), .ref (m + 12), .ref (m + 13), .long hs])), (m + 1, .inl (g.2 0, 174, .inl (M 1))), (m + 2, .inl (g.2 0, 1044, .inl (M 2))), (m + 3, .inl (g.2 0, 348, .inl (M 3))), (m + 4, .inl (g.2 1, 2, .inl (M 4))), (m + 5, .inl (g.2 0, 174, .inl (M 5))), (m + 6, .inl (g.2 0, 60, .inl (M 6))), (m + 7, .inl (g.2 0, 16, .inl (M 7))), (m + 8, .inl (g.2 0, 100, .inl (M 8))), (m + 9, .inl (g.2 0, 100, .inl (M 9))), (m + 10, .inl (g.2 0, 100, .inl (M 10))), (m + 11, .inl (g.2 0, 100, .inl (M 11))), (m + 12, .inl (g.2 1, 40, .inl (M 12))), (m + 13, .inl (g.2 0, 100, .inl (M 13)))] H := hP
  have hD : va_D (inW (mW g m M hs)) [(m, .inr (5, [.ref (m + 1), .ref (m + 2), .int (M 0 2), .ref (m + 3), .ref (m + 4), .ref (m + 5), .ref (m + 6), .int (M 0 7), .int 0, .ref (m + 7), .ref (m + 8), .ref (m + 9), .ref (m + 10), .ref (m + 11), .ref (m + 12), .ref (m + 13), .long hs])), (m + 1, .inl (g.2 0, 174, .inl (M 1))), (m + 2, .inl (g.2 0, 1044, .inl (M 2))), (m + 3, .inl (g.2 0, 348, .inl (M 3))), (m + 4, .inl (g.2 1, 2, .inl (M 4))), (m + 5, .inl (g.2 0, 174, .inl (M 5))), (m + 6, .inl (g.2 0, 60, .inl (M 6))), (m + 7, .inl (g.2 0, 16, .inl (M 7))), (m + 8, .inl (g.2 0, 100, .inl (M 8))), (m + 9, .inl (g.2 0, 100, .inl (M 9))), (m + 10, .inl (g.2 0, 100, .inl (M 10))), (m + 11, .inl (g.2 0, 100, .inl (M 11))), (m + 12, .inl (g.2 1, 40, .inl (M 12))), (m + 13, .inl (g.2 0, 100, .inl (M 13)))] := hD
  refine lv_aload_n hx hb dX5_firstError_5 rfl (lv_at hl 0 rfl) ?_
  refine rdV (rest := []) zS hK hP (m_X5_errorPlace l g m (rw_ M 0 (upd (M 0) 8 0)) hs n (by omega) h7) cw_X5_errorPlace q938 [0, 1, 2, 3, 4, 5, 6, 7, 8, 9, 10, 11, 12, 13] rfl 0 rfl rfl ⟨Nat.le_of_ble_eq_true rfl, Nat.le_of_ble_eq_true rfl, rfl, rfl⟩ rfl rfl (Nat.le_of_ble_eq_true rfl) hl.1 dX5_firstError_6 ⟨Nat.zero_le _, Nat.zero_le _⟩ ?_
  refine topE (rfl : _ = nI (fwp (M 6) n n 0)) ?_
  refine w_i hx hb hr hlk hS dX5_firstError_9 ?_ ?_
  · exact hP
  · rfl
theorem cw_X5_firstError : CWV yX5_firstError cX5_firstError 1 (some .int) 0 := ⟨⟨q937, q65, by decide +kernel, by decide +kernel, by decide +kernel⟩, q935, q936⟩
