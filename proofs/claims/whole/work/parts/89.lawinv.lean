/-! the law: what holds between its calls -/
theorem cL_law_eq : cL_law = code := rfl
theorem lgc (v : Int64) : lg_cmp v v = 0 := by
  unfold lg_cmp
  simp
theorem inb_t {v lo hi : Int32} (h : inb v lo hi = true) : ¬ v < lo ∧ ¬ hi < v := by
  unfold inb at h
  rw [Bool.and_eq_true, Bool.not_eq_true', Bool.not_eq_true', decide_eq_false_iff_not, decide_eq_false_iff_not] at h
  exact h
theorem tld_t {v : Int32} (h : tld v = true) : v = 1 ∨ v = -1 := by
  unfold tld at h
  rw [Bool.or_eq_true, decide_eq_true_eq, decide_eq_true_eq] at h
  exact h
theorem there_eq {T : Nat → Int32} {n : Nat} {v : Int32} (hn : n ≤ 60) : thereB T n v = hpA T n v := by
  unfold thereB hpA
  cases hz : hlA T n v
  · rw [Bool.false_and, Bool.and_false]
  · have h0 := hz
    unfold hlA at h0
    rw [Bool.and_eq_true, Bool.and_eq_true, Bool.not_eq_true', Bool.not_eq_true', decide_eq_false_iff_not, decide_eq_false_iff_not] at h0
    obtain ⟨j, hj, rfl⟩ := in_of h0.1 h0.2.1 (by omega)
    rw [show decide ((60 : Int32) ≤ nI j) = false from decide_eq_false (fun z => by
      have := (nI_leI (a := 60) (b := j) (by omega) (by omega)).mp z
      omega), Bool.not_false, Bool.true_and]
theorem hpA_at {T : Nat → Int32} {n : Nat} {v : Int32} (hn : n ≤ 60) (h : hpA T n v = true) : ∃ k : Nat, v = nI k ∧ k + 1 < n ∧ isL (T k) = true ∧ isL (T (k + 1)) = true := by
  have h0 := h
  unfold hpA hlA at h0
  rw [Bool.and_eq_true, Bool.and_eq_true, Bool.and_eq_true, Bool.not_eq_true', Bool.not_eq_true', decide_eq_false_iff_not, decide_eq_false_iff_not] at h0
  obtain ⟨j, hj, rfl⟩ := in_of h0.1.1 h0.1.2.1 (by omega)
  obtain ⟨z1, z2, z3⟩ := hpA_t h (by omega) (by omega)
  exact ⟨j, rfl, z1, z2, z3⟩
theorem dcm : ∀ k, k < 101 → Op.cmpValue (FP.dcmp (shr k) (shr k)) .l = 0 := by decide +kernel
theorem gd_set {S T : Nat → Nat → Int32} {s : Nat → Int32} {nl np k : Nat} {y : Int32} (h : GD S T s nl np) (hk : k < 4) (hf : fitb k y = true) : ∃ np', GD (stS S k y) (stT S T nl k y) (upd (upd s (1 + k) y) 7 (s 7 + (if k < 2 then 1 else 0))) nl np' := by
  by_cases c : k < 2
  · rw [show stS S k y = _ from if_pos c, show stT S T nl k y = _ from if_pos c, if_pos c]
    exact gd_setA h c
  · rw [show stS S k y = _ from if_neg c, show stT S T nl k y = _ from if_neg c, if_neg c]
    refine ⟨np, gd_setB h (by omega) hk (fun e => ?_)⟩
    subst e
    obtain ⟨h1, h2⟩ := fitb_ok hk hf
    have h1 : ¬ y < 1 := h1
    have h2 : ¬ (20 : Int32) < y := h2
    rw [i_lt, i1_] at h1
    rw [i_lt, show (20 : Int32).toInt = 20 by decide] at h2
    omega
theorem pow_rel2 {S T : Nat → Nat → Int32} (R : Nat → Nat → Int32) (f0 : Nat → Int32) {M : Nat → Nat → Int32} {nl np k : Nat} (h : LTok S nl) (hf0 : f0 7 = S 0 7) (hr : SR (rw_ S 0 f0) nl (M 1)) (hT : TOk S T nl np) (hk : k < nl) : powN S T (laT S R (nI k) nl) = okN (drT M k nl) := by
  obtain ⟨np2, -, d1⟩ := laT_drop R h hk nl (Nat.le_refl nl)
  rw [if_neg (by omega)] at d1
  have h' : LTok (rw_ S 0 f0) nl := LTok_0 h f0 hf0
  have hf : upd ((rw_ S 0 f0) 0) 7 (nI (nl - 1)) 7 = nI (nl - 1) := upd_s _ _ _
  have hd : dlS (rw_ S 0 f0) k nl = rw_ (dlS (rw_ S 0 f0) k nl) 0 (upd ((rw_ S 0 f0) 0) 7 (nI (nl - 1))) := by
    funext r
    by_cases z : r = 0
    · subst z; rw [rw_s]; rfl
    · rw [rw_n _ _ z]
  have hLd : LTok (dlS (rw_ S 0 f0) k nl) (nl - 1) := by rw [hd]; exact LTok_dl h' k _ hf
  have hrd : SR (dlS (rw_ S 0 f0) k nl) (nl - 1) (drB M k nl 1) := by
    rw [drB_1, hd]
    exact SR_dl hr h'.2.1 hk _ ⟨hf, upd_n _ _ (by omega), upd_n _ _ (by omega), upd_n _ _ (by omega)⟩
  obtain ⟨m1, -⟩ := mlaN_rel hLd hrd (nl - 1) (Nat.le_refl _)
  have eA : LA (dlS (rw_ S 0 f0) k nl) (lsS (dlS (rw_ S 0 f0) k nl)) (nl - 1) = LA (rw_ S 0 f0) (dl_ (lsS (rw_ S 0 f0)) k) (nl - 1) := by
    rw [hd]
    exact LA_dl _ (Nat.le_refl _)
  rw [eA] at m1
  have m1 : MRel (mlaN (drB M k nl) (nl - 1)) (LA S (dl_ (lsS S) k) (nl - 1)) := m1
  obtain ⟨m0, -⟩ := mlaN_rel h' hr nl (Nat.le_refl _)
  have m0 : MRel (mlaN M nl) (LA S (lsS S) nl) := m0
  unfold powN okN
  refine cn_cong (fun p hp => ?_)
  have e1 : drT M k nl 13 p = kp S T p := by
    unfold drT
    rw [mlaN_r _ (r := 13) (by omega)]
    show mk_ (mlaN M nl) p = _
    have := kp_mk (S := rw_ S 0 f0) (M := mlaN M nl) (T := T) h'.1 (by rw [mlaN_1]; exact hr) hT.2.1.1 m0 hp
    exact this.symm
  have e2 : mk_ (drT M k nl) p = kp S (laT S R (nI k) nl) p := by
    unfold drT
    have := kp_mk (S := dlS (rw_ S 0 f0) k nl) (M := mlaN (drB M k nl) (nl - 1)) (T := laT S R (nI k) nl) hLd.1 (by rw [mlaN_1]; exact hrd) d1.1 m1 hp
    rw [← this]
    rfl
  rw [e1, e2]
  congr 1
  exact decide_eq_decide.mpr ⟨fun z => z.symm, fun z => z.symm⟩
/-- what holds between the law's calls -/
def INV (g : GG) (x a sv sl sf b tr po d o y0 y1 mm : Nat) (A : Nat → Prop) (H : Heap) : Prop := ∃ (q n : Nat) (S T : Nat → Nat → Int32) (nl np : Nat) (fq fs : Nat → Option Nat) (F cs : Nat → Int32) (R : Nat → Nat → Int32) (P : Nat → Int32) (V : Nat → Nat → Int32) (ad : Nat → Nat) (B C Y Z : Nat → Nat → Nat → Int32) (f0 : Nat → Int64) (M : Nat → Nat → Int32) (hs9 : Int64), M 6 = cs ∧ PureI q n S T nl np fq fs F ad B C y0 y1 Y Z M ∧ PP g ((XW g x a sv q sl sf b tr po d o S T fq fs F cs n R P V (ad 0) (B 0) (C 0) (ad 1) (B 1) (C 1) (ad 2) (B 2) (C 2) (ad 3) (B 3) (C 3) (ad 4) (B 4) (C 4) (ad 5) (B 5) (C 5) y0 (Y 0) (Z 0) y1 (Y 1) (Z 1) f0) ++ mW g mm M hs9) H ∧ va_D A ((XW g x a sv q sl sf b tr po d o S T fq fs F cs n R P V (ad 0) (B 0) (C 0) (ad 1) (B 1) (C 1) (ad 2) (B 2) (C 2) (ad 3) (B 3) (C 3) (ad 4) (B 4) (C 4) (ad 5) (B 5) (C 5) y0 (Y 0) (Z 0) y1 (Y 1) (Z 1) f0) ++ mW g mm M hs9)
set_option maxRecDepth 100000 in
theorem rot_P {A : Nat → Prop} {H : Heap} {g : GG} {mm : Nat} {M : Nat → Nat → Int32} {hs9 : Int64} (x a sv q sl sf b tr po d o : Nat) (S T : Nat → Nat → Int32) (fq fs : Nat → Option Nat) (F cs : Nat → Int32) (n : Nat) (R : Nat → Nat → Int32) (P : Nat → Int32) (V : Nat → Nat → Int32) (v0 : Nat) (B0 C0 : Nat → Nat → Int32) (v1 : Nat) (B1 C1 : Nat → Nat → Int32) (v2 : Nat) (B2 C2 : Nat → Nat → Int32) (v3 : Nat) (B3 C3 : Nat → Nat → Int32) (v4 : Nat) (B4 C4 : Nat → Nat → Int32) (v5 : Nat) (B5 C5 : Nat → Nat → Int32) (y0 : Nat) (Y0 Z0 : Nat → Nat → Int32) (y1 : Nat) (Y1 Z1 : Nat → Nat → Int32) (f0 : Nat → Int64) (hP : PP g ((XW g x a sv q sl sf b tr po d o S T fq fs F cs n R P V v0 B0 C0 v1 B1 C1 v2 B2 C2 v3 B3 C3 v4 B4 C4 v5 B5 C5 y0 Y0 Z0 y1 Y1 Z1 f0) ++ mW g mm M hs9) H) (hD : va_D A ((XW g x a sv q sl sf b tr po d o S T fq fs F cs n R P V v0 B0 C0 v1 B1 C1 v2 B2 C2 v3 B3 C3 v4 B4 C4 v5 B5 C5 y0 Y0 Z0 y1 Y1 Z1 f0) ++ mW g mm M hs9)) : PP g ((XW g x a sv q sl sf b tr po d o S T fq fs F cs n R P V v1 B1 C1 v2 B2 C2 v3 B3 C3 v4 B4 C4 v5 B5 C5 v0 B0 C0 y0 Y0 Z0 y1 Y1 Z1 f0) ++ mW g mm M hs9) H ∧ va_D A ((XW g x a sv q sl sf b tr po d o S T fq fs F cs n R P V v1 B1 C1 v2 B2 C2 v3 B3 C3 v4 B4 C4 v5 B5 C5 v0 B0 C0 y0 Y0 Z0 y1 Y1 Z1 f0) ++ mW g mm M hs9) :=
  ⟨PP_of hP (isC := [0, 1, 2, 3, 4, 5, 6, 7, 8, 9, 10, 11, 12, 13, 14, 15, 16, 17, 18, 19, 20, 21, 22, 23, 24, 25, 26, 27, 28, 29, 30, 31, 32, 33, 34, 35, 52, 53, 54, 55, 56, 57, 58, 59, 60, 61, 62, 63, 64, 65, 66, 67, 68, 69, 70, 71, 72, 73, 74, 75, 76, 77, 78, 79, 80, 81, 82, 83, 84, 85, 86, 87, 88, 89, 90, 91, 92, 93, 94, 95, 96, 97, 98, 99, 100, 101, 102, 103, 104, 105, 106, 107, 108, 109, 110, 111, 112, 113, 114, 115, 116, 117, 118, 119, 120, 121, 122, 123, 124, 125, 126, 127, 128, 129, 130, 131, 36, 37, 38, 39, 40, 41, 42, 43, 44, 45, 46, 47, 48, 49, 50, 51, 132, 133, 134, 135, 136, 137, 138, 139, 140, 141, 142, 143, 144, 145, 146, 147, 148, 149, 150, 151, 152, 153, 154, 155, 156, 157, 158, 159, 160, 161, 162, 163, 164, 165, 166, 167, 168, 169, 170, 171, 172, 173, 174, 175, 176, 177, 178]) rfl, hD.sub [0, 1, 2, 3, 4, 5, 6, 7, 8, 9, 10, 11, 12, 13, 14, 15, 16, 17, 18, 19, 20, 21, 22, 23, 24, 25, 26, 27, 28, 29, 30, 31, 32, 33, 34, 35, 52, 53, 54, 55, 56, 57, 58, 59, 60, 61, 62, 63, 64, 65, 66, 67, 68, 69, 70, 71, 72, 73, 74, 75, 76, 77, 78, 79, 80, 81, 82, 83, 84, 85, 86, 87, 88, 89, 90, 91, 92, 93, 94, 95, 96, 97, 98, 99, 100, 101, 102, 103, 104, 105, 106, 107, 108, 109, 110, 111, 112, 113, 114, 115, 116, 117, 118, 119, 120, 121, 122, 123, 124, 125, 126, 127, 128, 129, 130, 131, 36, 37, 38, 39, 40, 41, 42, 43, 44, 45, 46, 47, 48, 49, 50, 51, 132, 133, 134, 135, 136, 137, 138, 139, 140, 141, 142, 143, 144, 145, 146, 147, 148, 149, 150, 151, 152, 153, 154, 155, 156, 157, 158, 159, 160, 161, 162, 163, 164, 165, 166, 167, 168, 169, 170, 171, 172, 173, 174, 175, 176, 177, 178] (by decide +kernel) rfl⟩
set_option maxRecDepth 100000 in
theorem ror_P {A : Nat → Prop} {H : Heap} {g : GG} {mm : Nat} {M : Nat → Nat → Int32} {hs9 : Int64} (x a sv q sl sf b tr po d o : Nat) (S T : Nat → Nat → Int32) (fq fs : Nat → Option Nat) (F cs : Nat → Int32) (n : Nat) (R : Nat → Nat → Int32) (P : Nat → Int32) (V : Nat → Nat → Int32) (v0 : Nat) (B0 C0 : Nat → Nat → Int32) (v1 : Nat) (B1 C1 : Nat → Nat → Int32) (v2 : Nat) (B2 C2 : Nat → Nat → Int32) (v3 : Nat) (B3 C3 : Nat → Nat → Int32) (v4 : Nat) (B4 C4 : Nat → Nat → Int32) (v5 : Nat) (B5 C5 : Nat → Nat → Int32) (y0 : Nat) (Y0 Z0 : Nat → Nat → Int32) (y1 : Nat) (Y1 Z1 : Nat → Nat → Int32) (f0 : Nat → Int64) (hP : PP g ((XW g x a sv q sl sf b tr po d o S T fq fs F cs n R P V v0 B0 C0 v1 B1 C1 v2 B2 C2 v3 B3 C3 v4 B4 C4 v5 B5 C5 y0 Y0 Z0 y1 Y1 Z1 f0) ++ mW g mm M hs9) H) (hD : va_D A ((XW g x a sv q sl sf b tr po d o S T fq fs F cs n R P V v0 B0 C0 v1 B1 C1 v2 B2 C2 v3 B3 C3 v4 B4 C4 v5 B5 C5 y0 Y0 Z0 y1 Y1 Z1 f0) ++ mW g mm M hs9)) : PP g ((XW g x a sv q sl sf b tr po d o S T fq fs F cs n R P V v5 B5 C5 v0 B0 C0 v1 B1 C1 v2 B2 C2 v3 B3 C3 v4 B4 C4 y0 Y0 Z0 y1 Y1 Z1 f0) ++ mW g mm M hs9) H ∧ va_D A ((XW g x a sv q sl sf b tr po d o S T fq fs F cs n R P V v5 B5 C5 v0 B0 C0 v1 B1 C1 v2 B2 C2 v3 B3 C3 v4 B4 C4 y0 Y0 Z0 y1 Y1 Z1 f0) ++ mW g mm M hs9) :=
  ⟨PP_of hP (isC := [0, 1, 2, 3, 4, 5, 6, 7, 8, 9, 10, 11, 12, 13, 14, 15, 16, 17, 18, 19, 20, 21, 22, 23, 24, 25, 26, 27, 28, 29, 30, 31, 32, 33, 34, 35, 116, 117, 118, 119, 120, 121, 122, 123, 124, 125, 126, 127, 128, 129, 130, 131, 36, 37, 38, 39, 40, 41, 42, 43, 44, 45, 46, 47, 48, 49, 50, 51, 52, 53, 54, 55, 56, 57, 58, 59, 60, 61, 62, 63, 64, 65, 66, 67, 68, 69, 70, 71, 72, 73, 74, 75, 76, 77, 78, 79, 80, 81, 82, 83, 84, 85, 86, 87, 88, 89, 90, 91, 92, 93, 94, 95, 96, 97, 98, 99, 100, 101, 102, 103, 104, 105, 106, 107, 108, 109, 110, 111, 112, 113, 114, 115, 132, 133, 134, 135, 136, 137, 138, 139, 140, 141, 142, 143, 144, 145, 146, 147, 148, 149, 150, 151, 152, 153, 154, 155, 156, 157, 158, 159, 160, 161, 162, 163, 164, 165, 166, 167, 168, 169, 170, 171, 172, 173, 174, 175, 176, 177, 178]) rfl, hD.sub [0, 1, 2, 3, 4, 5, 6, 7, 8, 9, 10, 11, 12, 13, 14, 15, 16, 17, 18, 19, 20, 21, 22, 23, 24, 25, 26, 27, 28, 29, 30, 31, 32, 33, 34, 35, 116, 117, 118, 119, 120, 121, 122, 123, 124, 125, 126, 127, 128, 129, 130, 131, 36, 37, 38, 39, 40, 41, 42, 43, 44, 45, 46, 47, 48, 49, 50, 51, 52, 53, 54, 55, 56, 57, 58, 59, 60, 61, 62, 63, 64, 65, 66, 67, 68, 69, 70, 71, 72, 73, 74, 75, 76, 77, 78, 79, 80, 81, 82, 83, 84, 85, 86, 87, 88, 89, 90, 91, 92, 93, 94, 95, 96, 97, 98, 99, 100, 101, 102, 103, 104, 105, 106, 107, 108, 109, 110, 111, 112, 113, 114, 115, 132, 133, 134, 135, 136, 137, 138, 139, 140, 141, 142, 143, 144, 145, 146, 147, 148, 149, 150, 151, 152, 153, 154, 155, 156, 157, 158, 159, 160, 161, 162, 163, 164, 165, 166, 167, 168, 169, 170, 171, 172, 173, 174, 175, 176, 177, 178] (by decide +kernel) rfl⟩
abbrev LK (p : Program) (l : Launch) (e : Env) (s : State) (m : MethodId) (args : Array Value) (below : List Frame) (meth : Method) (c : Code) (cells slots : Nat) (Q : State → Prop) (g : GG) (bs i x a sv sl sf b tr po d o y0 y1 mm : Nat) : Prop :=
  ∀ (H1 : Heap) (locs1 : List Loc) (ls1 : Array Slot), lv_has ls1 9 [(0, .ref bs), (1, .ref x), (2, .ref mm), (3, .ref o), (4, .int (nI i))] → va_S (nwS s) s.heap H1 locs1 → INV g x a sv sl sf b tr po d o y0 y1 mm (nwS s) H1 → W p l e room_1 s m args below meth c H1 locs1 (cells + 1) (slots + 6) Q (F0 m 1558 ls1 [])
theorem dgM4_r (M : Nat → Nat → Int32) (nl : Nat) {r : Nat} (h : r < 5) : dgM4 M nl r = thr M 0 r := by
  unfold dgM4 dgM3 dgM2 mlE dgM1
  rw [mlaN_r _ (r := r) (by omega), mnT_r _ _ (r := r) (by omega) (by omega), mlaN_r _ (r := r) (by omega), mlsM_r _ nl h, mlaN_r _ (r := r) (by omega)]
theorem dgM4_6 (M : Nat → Nat → Int32) (nl : Nat) : dgM4 M nl 6 = M 6 := by
  unfold dgM4 dgM3 dgM2 mlE dgM1
  rw [mlaN_r _ (r := 6) (by omega), mnT_r _ _ (r := 6) (by omega) (by omega), mlaN_r _ (r := 6) (by omega), mlsM_6, mlaN_r _ (r := 6) (by omega)]
  rfl
theorem fg_sr {S M : Nat → Nat → Int32} {q nl : Nat} (c : SR S nl (M 1)) : SR (rw_ S 0 (upd (upd (S 0) 10 (S 0 10 + 1)) 11 (S 0 11 + 1))) nl (fgM M q 1) := by
  show SR _ nl (upd (upd (M 1) 6 (M 1 6 + 1)) 7 (M 1 7 + 1))
  refine SR_cnt c _ (fun j _ h6 h7 => by rw [upd_n _ _ h7, upd_n _ _ h6]) ?_ ?_ ?_
  · rw [upd_n _ _ (by omega), upd_n _ _ (by omega), upd_n _ _ (by omega), upd_n _ _ (by omega)]; exact c.2.1.1
  · rw [upd_n _ _ (by omega), upd_s, upd_n _ _ (by omega), upd_s, c.2.1.2.1]
  · rw [upd_s, upd_s, c.2.1.2.2]
theorem cwh_width : CWH yL_width cL_width 5 [(0, 10, 13, 13), (0, 10, 17, 15)] 4 := ⟨inG 562 (by decide +kernel) rfl, q59, ⟨by decide +kernel, by decide +kernel, by decide +kernel⟩, q561⟩
theorem cwh_shape : CWH yL_shape cL_shape 6 [(0, 12, 15, 13), (0, 12, 19, 15)] 5 := ⟨inG 584 (by decide +kernel) rfl, q59, ⟨by decide +kernel, by decide +kernel, by decide +kernel⟩, q583⟩
theorem cwh_base : CWH yL_base cL_base 6 [(0, 12, 15, 13), (0, 12, 19, 15)] 5 := ⟨inG 596 (by decide +kernel) rfl, q59, ⟨by decide +kernel, by decide +kernel, by decide +kernel⟩, q595⟩
theorem cwh_set : CWH yL_set cL_set 5 [(0, 10, 13, 13), (0, 10, 17, 15)] 4 := ⟨inG 603 (by decide +kernel) rfl, q59, ⟨by decide +kernel, by decide +kernel, by decide +kernel⟩, q602⟩
theorem cwh_circle : CWH yL_circle cL_circle 6 [(0, 12, 15, 13), (0, 12, 19, 15)] 5 := ⟨inG 614 (by decide +kernel) rfl, q59, ⟨by decide +kernel, by decide +kernel, by decide +kernel⟩, q613⟩
theorem cwh_forget : CWH yL_forget cL_forget 4 [(0, 9, 12, 13)] 3 := ⟨inG 634 (by decide +kernel) rfl, q59, ⟨by decide +kernel, by decide +kernel, by decide +kernel⟩, q633⟩
theorem cwh_append : CWH yL_append cL_append 4 [(0, 9, 12, 15), (0, 9, 15, 37)] 3 := ⟨inG 645 (by decide +kernel) rfl, q59, ⟨by decide +kernel, by decide +kernel, by decide +kernel⟩, q644⟩
theorem cwh_circleAt : CWH yL_circleAt cL_circleAt 5 [(0, 10, 13, 37), (0, 10, 17, 13), (0, 10, 21, 15)] 4 := ⟨inG 669 (by decide +kernel) rfl, q59, ⟨by decide +kernel, by decide +kernel, by decide +kernel⟩, q668⟩
theorem cwh_keep : CWH yL_keep cL_keep 4 [(0, 9, 12, 15)] 3 := ⟨inG 680 (by decide +kernel) rfl, q59, ⟨by decide +kernel, by decide +kernel, by decide +kernel⟩, q679⟩
theorem cwh_goBack : CWH yL_goBack cL_goBack 4 [(0, 9, 12, 15), (0, 9, 15, 37)] 3 := ⟨inG 687 (by decide +kernel) rfl, q59, ⟨by decide +kernel, by decide +kernel, by decide +kernel⟩, q686⟩
theorem cwh_undo : CWH yL_undo cL_undo 3 [(0, 8, 11, 37)] 2 := ⟨inG 695 (by decide +kernel) rfl, q59, ⟨by decide +kernel, by decide +kernel, by decide +kernel⟩, q694⟩
theorem cwh_letterOf : CWH yL_letterOf cL_letterOf 5 [(0, 10, 13, 13), (0, 10, 17, 15)] 4 := ⟨inG 703 (by decide +kernel) rfl, q59, ⟨by decide +kernel, by decide +kernel, by decide +kernel⟩, q702⟩
theorem cwh_pairOf : CWH yL_pairOf cL_pairOf 6 [(0, 12, 15, 13), (0, 12, 19, 15)] 5 := ⟨inG 707 (by decide +kernel) rfl, q59, ⟨by decide +kernel, by decide +kernel, by decide +kernel⟩, q706⟩
theorem cwh_shapesOf : CWH yL_shapesOf cL_shapesOf 6 [(0, 12, 15, 13), (0, 12, 19, 15)] 5 := ⟨inG 711 (by decide +kernel) rfl, q59, ⟨by decide +kernel, by decide +kernel, by decide +kernel⟩, q710⟩
theorem cwh_lessonOf : CWH yL_lessonOf cL_lessonOf 5 [(0, 10, 13, 13), (0, 10, 17, 15)] 4 := ⟨inG 715 (by decide +kernel) rfl, q59, ⟨by decide +kernel, by decide +kernel, by decide +kernel⟩, q714⟩
theorem cwh_count : CWH yL_count cL_count 4 [(0, 9, 12, 15)] 3 := ⟨inG 719 (by decide +kernel) rfl, q59, ⟨by decide +kernel, by decide +kernel, by decide +kernel⟩, q718⟩
theorem cwh_setting : CWH yL_setting cL_setting 4 [(0, 9, 12, 13)] 3 := ⟨inG 723 (by decide +kernel) rfl, q59, ⟨by decide +kernel, by decide +kernel, by decide +kernel⟩, q722⟩
theorem cwh_text : CWH yL_text cL_text 4 [(0, 9, 12, 15)] 3 := ⟨inG 730 (by decide +kernel) rfl, q59, ⟨by decide +kernel, by decide +kernel, by decide +kernel⟩, q729⟩
theorem cwh_ifCircled : CWH yL_ifCircled cL_ifCircled 6 [(0, 12, 15, 13), (0, 12, 19, 15)] 5 := ⟨inG 734 (by decide +kernel) rfl, q59, ⟨by decide +kernel, by decide +kernel, by decide +kernel⟩, q733⟩
theorem cwh_ifForgotten : CWH yL_ifForgotten cL_ifForgotten 4 [(0, 9, 12, 13)] 3 := ⟨inG 742 (by decide +kernel) rfl, q59, ⟨by decide +kernel, by decide +kernel, by decide +kernel⟩, q741⟩
