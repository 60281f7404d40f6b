/-! PURE, third: a State and the reference's row of numbers -/
def SR (S : Nat → Nat → Int32) (nl : Nat) (s : Nat → Int32) : Prop :=
  s 0 = nI nl ∧ (s 5 = S 0 9 ∧ s 6 = S 0 10 ∧ s 7 = S 0 11) ∧ (∀ k, k < 4 → s (1 + k) = S 5 k) ∧ (∀ k, k < 10 → s (8 + 3 * k + 0) = S 1 k ∧ s (8 + 3 * k + 1) = S 2 k ∧ s (8 + 3 * k + 2) = S 3 k) ∧
  (∀ x, x < 16 → s (38 + x) = S 4 x) ∧ ∀ i, i < nl → s (54 + 3 * i + 0) = nI (nn (S 6 i) / 10) ∧ s (54 + 3 * i + 1) = nI (nn (S 6 i) % 10) ∧ s (54 + 3 * i + 2) = S 7 i
theorem SR.msh {S : Nat → Nat → Int32} {nl : Nat} {s : Nat → Int32} (h : SR S nl s) (hS : ShOk S) : MSh s := fun j hj => by
  obtain ⟨-, e1, e2⟩ := h.2.2.2.1 j hj
  rw [e1, e2]
  exact hS j hj
theorem nnI {n : Nat} (h : n < 2 ^ 31) : nn (nI n) = n := nI_clamp h
theorem SR.mls {S : Nat → Nat → Int32} {nl : Nat} {s : Nat → Int32} (h : SR S nl s) (hL : LsOk S nl) : MLs s nl := by
  refine ⟨h.1, hL.2.1, fun i hi => ?_⟩
  obtain ⟨e1, e2, -⟩ := h.2.2.2.2.2 i hi
  have := (hL.2.2 i hi).2
  rw [e1, e2, nnI (by omega), nnI (by omega)]
  exact ⟨⟨rfl, by omega⟩, rfl, by omega⟩
theorem SR.mtq {S : Nat → Nat → Int32} {nl : Nat} {s : Nat → Int32} (h : SR S nl s) {p : Nat} (hp : p < 100) : mt s p = sh S p := by
  unfold mt sh
  rw [(h.2.2.2.1 (p / 10) (by omega)).2.2, (h.2.2.2.1 (p % 10) (by omega)).2.1]
theorem SR.srel {S : Nat → Nat → Int32} {nl : Nat} {s : Nat → Int32} (h : SR S nl s) (hS : ShOk S) : SRel (sh S) (S 5 0) (S 5 1) s :=
  ⟨fun p hp => ⟨h.mtq hp, sh_lt hS hp⟩, h.2.2.1 0 (by omega), h.2.2.1 1 (by omega)⟩
theorem SR.lpq {S : Nat → Nat → Int32} {nl : Nat} {s : Nat → Int32} (h : SR S nl s) (hL : LsOk S nl) {i : Nat} (hi : i < nl) : lpr s i = nn (S 6 i) := by
  obtain ⟨e1, e2, -⟩ := h.2.2.2.2.2 i hi
  have := (hL.2.2 i hi).2
  unfold lpr
  rw [e1, e2, nnI (by omega), nnI (by omega)]
  omega
theorem mlaN_rel {S : Nat → Nat → Int32} {nl : Nat} {M : Nat → Nat → Int32} (h : LTok S nl) (hr : SR S nl (M 1)) : ∀ i, i ≤ nl → MRel (mlaN M i) (LA S (lsS S) i) ∧ ∀ j, j < i → mlaN M i 12 j = bI (lsI (sh S) (LA S (lsS S) j) (lsS S j).1 (lsS S j).2)
  | 0, _ => by
    refine ⟨⟨fun x hx => hr.2.2.2.2.1 x hx, fun _ _ => rfl, fun _ _ => rfl, fun _ _ => rfl, fun p _ z => absurd rfl z⟩, fun j hj => absurd hj (Nat.not_lt_zero j)⟩
  | i + 1, hi => by
    obtain ⟨h1, h2⟩ := mlaN_rel h hr i (by omega)
    have hv := h.lsv i (by omega)
    obtain ⟨h3, h4⟩ := mlT_rel (k := i) h1 (sg := sh S) (f0 := S 5 0) (nd := S 5 1) (by rw [mlaN_1]; exact hr.srel h.1) (by rw [mlaN_1]; exact hr.lpq h.2.1 (by omega)) hv.1 (w := S 7 i) (by rw [mlaN_1]; exact (hr.2.2.2.2.2 i (by omega)).2.2)
    refine ⟨h3, fun j hj => ?_⟩
    rw [mlaN, h4]
    by_cases z : j = i
    · subst z; rw [upd_s]; rfl
    · rw [upd_n _ _ z]; exact h2 j (by omega)
theorem LTok_dl {S : Nat → Nat → Int32} {nl : Nat} (h : LTok S nl) (k : Nat) (f : Nat → Int32) (hf : f 7 = nI (nl - 1)) : LTok (rw_ (dlS S k nl) 0 f) (nl - 1) := by
  refine ⟨fun j hj => h.1 j hj, LsOk_dl h.2.1 k f hf, fun x hx => h.2.2.1 x hx, fun i hi => ?_⟩
  show shf (S 7) k nl i = 1 ∨ shf (S 7) k nl i = -1
  unfold shf
  split
  · exact h.2.2.2 _ (by omega)
  · exact h.2.2.2 _ (by omega)
theorem SR_dl {S : Nat → Nat → Int32} {nl k : Nat} {s : Nat → Int32} (h : SR S nl s) (hL : LsOk S nl) (hk : k < nl) (f : Nat → Int32) (hf : f 7 = nI (nl - 1) ∧ f 9 = S 0 9 ∧ f 10 = S 0 10 ∧ f 11 = S 0 11) : SR (rw_ (dlS S k nl) 0 f) (nl - 1) (drS s k nl) := by
  have hnl := hL.2.1
  have lo : ∀ j, j < 54 → drS s k nl j = upd s 0 (nI nl - 1) j := fun j hj => by unfold drS sh3; rw [if_neg (by omega)]
  have lo2 : ∀ j, j < 54 → j ≠ 0 → drS s k nl j = s j := fun j hj h0 => by rw [lo j hj, upd_n _ _ h0]
  refine ⟨?_, ?_, fun i hi => ?_, fun i hi => ?_, fun x hx => ?_, fun i hi => ?_⟩
  · rw [lo 0 (by omega), upd_s, show nl = nl - 1 + 1 by omega, nI_pred, Nat.add_sub_cancel]
  · rw [lo2 5 (by omega) (by omega), lo2 6 (by omega) (by omega), lo2 7 (by omega) (by omega)]
    show s 5 = f 9 ∧ s 6 = f 10 ∧ s 7 = f 11
    rw [hf.2.1, hf.2.2.1, hf.2.2.2]
    exact h.2.1
  · rw [lo2 _ (by omega) (by omega)]; exact h.2.2.1 i hi
  · rw [lo2 _ (by omega) (by omega), lo2 _ (by omega) (by omega), lo2 _ (by omega) (by omega)]; exact h.2.2.2.1 i hi
  · rw [lo2 _ (by omega) (by omega)]; exact h.2.2.2.2.1 x hx
  · show drS s k nl (54 + 3 * i + 0) = nI (nn (shf (S 6) k nl i) / 10) ∧ drS s k nl (54 + 3 * i + 1) = nI (nn (shf (S 6) k nl i) % 10) ∧ drS s k nl (54 + 3 * i + 2) = shf (S 7) k nl i
    unfold drS sh3 shf
    by_cases c : k ≤ i
    · rw [if_pos (by omega), if_pos (by omega), if_pos (by omega), if_pos (by omega), if_pos (by omega), upd_n _ _ (by omega), upd_n _ _ (by omega), upd_n _ _ (by omega)]
      have := h.2.2.2.2.2 (i + 1) (by omega)
      exact this
    · rw [if_neg (by omega), if_neg (by omega), if_neg (by omega), if_neg (by omega), if_neg (by omega), upd_n _ _ (by omega), upd_n _ _ (by omega), upd_n _ _ (by omega)]
      exact h.2.2.2.2.2 i (by omega)
theorem LA_dl {S : Nat → Nat → Int32} {nl k : Nat} (f : Nat → Int32) : ∀ {n : Nat}, n ≤ nl - 1 → LA (rw_ (dlS S k nl) 0 f) (lsS (rw_ (dlS S k nl) 0 f)) n = LA S (dl_ (lsS S) k) n := fun {n} hn => by
  show lrA (sh S) (S 5 0) (S 5 1) (S 4) (lsS (rw_ (dlS S k nl) 0 f)) n = _
  refine lrA_cong (fun j hj => ?_)
  show (nn (shf (S 6) k nl j), shf (S 7) k nl j) = dl_ (lsS S) k j
  unfold shf dl_ lsS
  by_cases c : j < k
  · rw [if_neg (by omega), if_neg (by omega), if_pos c]
  · rw [if_pos (by omega), if_pos (by omega), if_neg c]
/-- the table that stands for all lessons of a State -/
def TOk (S T : Nat → Nat → Int32) (nl np : Nat) : Prop :=
  np ≤ nl ∧ TRel (sh S) T np (LA S (lsS S) nl) ∧ ∀ j, j < nl → T 7 j = bI (lsI (sh S) (LA S (lsS S) j) (lsS S j).1 (lsS S j).2)
theorem laT_tok {S : Nat → Nat → Int32} (R : Nat → Nat → Int32) {nl : Nat} (h : LTok S nl) : ∃ np, TOk S (laT S R (-1) nl) nl np := laT_rel R h nl (Nat.le_refl nl)
theorem kp_mk {S T M : Nat → Nat → Int32} {A : Nat → Nat → Int32} {nl p : Nat} (hS : ShOk S) (hr : SR S nl (M 1)) (hT : CRel T A) (hM : MRel M A) (hp : p < 100) : kp S T p = mk_ M p := by
  rw [kp_rel hT hp (sh_lt hS hp), mk_rel hM (hr.srel hS) hp]
theorem drB_1 (M : Nat → Nat → Int32) (k nl : Nat) : drB M k nl 1 = drS (M 1) k nl := by
  unfold drB
  rw [rw_s, mlaN_1]
theorem pow_rel {S T : Nat → Nat → Int32} (R : Nat → Nat → Int32) {M : Nat → Nat → Int32} {nl np k : Nat} (h : LTok S nl) (hr : SR S nl (M 1)) (hT : TOk S T nl np) (hk : k < nl) : powN S T (laT S R (nI k) nl) = okN (drT M k nl) := by
  obtain ⟨np2, -, d1⟩ := laT_drop R h hk nl (Nat.le_refl nl)
  rw [if_neg (by omega)] at d1
  have hf : upd (S 0) 7 (nI (nl - 1)) 7 = nI (nl - 1) := upd_s _ _ _
  have hd : dlS S k nl = rw_ (dlS S k nl) 0 (upd (S 0) 7 (nI (nl - 1))) := by
    funext r
    by_cases z : r = 0
    · subst z; rw [rw_s]; rfl
    · rw [rw_n _ _ z]
  have hLd : LTok (dlS S k nl) (nl - 1) := by rw [hd]; exact LTok_dl h k _ hf
  have hrd : SR (dlS S k nl) (nl - 1) (drB M k nl 1) := by
    rw [drB_1, hd]
    exact SR_dl hr h.2.1 hk _ ⟨hf, upd_n _ _ (by omega), upd_n _ _ (by omega), upd_n _ _ (by omega)⟩
  obtain ⟨m1, -⟩ := mlaN_rel hLd hrd (nl - 1) (Nat.le_refl _)
  have eA : LA (dlS S k nl) (lsS (dlS S k nl)) (nl - 1) = LA S (dl_ (lsS S) k) (nl - 1) := by
    rw [hd]
    exact LA_dl _ (Nat.le_refl _)
  rw [eA] at m1
  obtain ⟨m0, -⟩ := mlaN_rel h hr nl (Nat.le_refl _)
  unfold powN okN
  refine cn_cong (fun p hp => ?_)
  have e1 : drT M k nl 13 p = kp S T p := by
    unfold drT
    rw [mlaN_r _ (r := 13) (by omega)]
    show mk_ (mlaN M nl) p = _
    exact (kp_mk (M := mlaN M nl) h.1 (by rw [mlaN_1]; exact hr) hT.2.1.1 m0 hp).symm
  have e2 : mk_ (drT M k nl) p = kp S (laT S R (nI k) nl) p := by
    unfold drT
    have := kp_mk (S := dlS S k nl) (M := mlaN (drB M k nl) (nl - 1)) (T := laT S R (nI k) nl) hLd.1 (by rw [mlaN_1]; exact hrd) d1.1 m1 hp
    rw [← this]
    rfl
  rw [e1, e2]
  congr 1
  exact decide_eq_decide.mpr ⟨fun z => z.symm, fun z => z.symm⟩
