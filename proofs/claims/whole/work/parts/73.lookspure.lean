/-! PURE, fourth: what the looks tell -/
theorem Enm.ex {T A : Nat → Nat → Int32} {np n : Nat} {sg : Nat → Nat} (h : Enm T np (fun q => A 5 q ≠ 0)) (hA : AOk sg A n) (hn : n < 999) : ∀ q, q < 100 → exE (fun i => nn (T 6 i)) np q = !decide (A 5 q ≤ 0) := fun q hq => by
  by_cases z : A 5 q = 0
  · rw [decide_eq_true ((hA.pos (by omega) hq).mpr z)]
    rw [Bool.not_true, ← Bool.not_eq_true, exE_iff]
    exact fun y => (h.2.1 q hq).mpr y z
  · rw [decide_eq_false (fun y => z ((hA.pos (by omega) hq).mp y))]
    rw [Bool.not_false, exE_iff]
    exact (h.2.1 q hq).mp z
theorem Enm.cnt {T A : Nat → Nat → Int32} {np n : Nat} {sg : Nat → Nat} (h : Enm T np (fun q => A 5 q ≠ 0)) (hA : AOk sg A n) (hn : n < 999) (P : Nat → Bool) : cn (fun i => P (nn (T 6 i))) np = cn (fun q => !decide (A 5 q ≤ 0) && P q) 100 := by
  have h1 := cn_enum (e := fun i => nn (T 6 i)) (P := P) (N := 100) (n := np) (fun i hi => (h.1.2.2 i hi).2) h.2.2
  refine h1.trans (cn_cong (fun q hq => ?_))
  rw [h.ex hA hn q hq]
theorem LTok.aokS {S : Nat → Nat → Int32} {nl : Nat} (h : LTok S nl) : AOk (sh S) (LA S (lsS S) nl) nl := h.aok (by have := h.2.1.2.1; omega) (fun j hj => h.lsv j hj)
theorem lwl_rel {S : Nat → Nat → Int32} {nl : Nat} {s : Nat → Int32} (hL : LsOk S nl) (hr : SR S nl s) (k : Nat) : ∀ i, i ≤ nl → lwl S k i = lwM s k i
  | 0, _ => rfl
  | i + 1, hi => by
    obtain ⟨e1, e2, -⟩ := hr.2.2.2.2.2 i (by omega)
    have := (hL.2.2 i (by omega)).2
    rw [lwl, lwM, lwl_rel hL hr k i (by omega), e1, e2, nnI (by omega), nnI (by omega)]
    omega
theorem ol_rel {S : Nat → Nat → Int32} {nl k x : Nat} {s : Nat → Int32} (h : LTok S nl) (hr : SR S nl s) (hk : k < 10) (hx : x < 4) : olV S nl k x = ltd s nl k x := by
  obtain ⟨e0, e1, e2⟩ := hr.2.2.2.1 k hk
  unfold olV ltd
  rcases (show x = 0 ∨ x = 1 ∨ x = 2 ∨ x = 3 from by omega) with rfl | rfl | rfl | rfl
  · rw [if_pos rfl, if_neg (by decide), e0]
  · rw [if_neg (by decide), if_pos rfl, if_neg (by decide), e1]
  · rw [if_neg (by decide), if_neg (by decide), if_pos rfl, if_neg (by decide), e2]
  · rw [if_neg (by decide), if_neg (by decide), if_neg (by decide), if_pos rfl, lwl_rel h.2.1 hr k nl (Nat.le_refl _)]
theorem op_rel {S T R M : Nat → Nat → Int32} {nl np p x : Nat} (h : LTok S nl) (hr : SR S nl (M 1)) (hT : TOk S T nl np) (hp : p < 100) (hx : x < 5) : opV S T R nl p x = ptd (mlaN M nl) p x := by
  obtain ⟨m0, -⟩ := mlaN_rel h hr nl (Nat.le_refl _)
  have hr2 : SR S nl (mlaN M nl 1) := by rw [mlaN_1]; exact hr
  obtain ⟨np2, -, t2, -⟩ := laT_tok R h
  have k1 := kp_mk (p := p) h.1 hr2 hT.2.1.1 m0 hp
  have k2 := kp_mk (p := p) h.1 hr2 t2.1 m0 hp
  unfold opV ptd
  rcases (show x = 0 ∨ x = 1 ∨ x = 2 ∨ x = 3 ∨ x = 4 from by omega) with rfl | rfl | rfl | rfl | rfl
  · rw [if_pos rfl, if_pos (by decide), k1]
  · rw [if_neg (by decide), if_pos rfl, if_pos (by decide), k2]
  · rw [if_neg (by decide), if_neg (by decide), if_pos rfl, if_neg (by decide), if_pos rfl, hT.2.1.1.2.1 p hp, m0.2.1 p hp]
  · rw [if_neg (by decide), if_neg (by decide), if_neg (by decide), if_pos rfl, if_neg (by decide), if_neg (by decide), if_pos rfl, hT.2.1.1.2.2.1 p hp, m0.2.2.1 p hp]
  · rw [if_neg (by decide), if_neg (by decide), if_neg (by decide), if_neg (by decide), if_neg (by decide), if_neg (by decide), if_neg (by decide), hT.2.1.1.2.2.2.1 p hp, m0.2.2.2.1 p hp]
theorem os_rel {S T M : Nat → Nat → Int32} {nl np y x : Nat} (h : LTok S nl) (hr : SR S nl (M 1)) (hT : TOk S T nl np) (hy : y < 16) (hx : x < 4) : osV S T np y x = std (mlaN M nl) y x := by
  obtain ⟨m0, -⟩ := mlaN_rel h hr nl (Nat.le_refl _)
  have hr2 : SR S nl (mlaN M nl 1) := by rw [mlaN_1]; exact hr
  have hA := h.aokS
  have hnl := h.2.1.2.1
  unfold osV std
  rcases (show x = 0 ∨ x = 1 ∨ x = 2 ∨ x = 3 from by omega) with rfl | rfl | rfl | rfl
  · rw [if_pos rfl, if_pos rfl, hT.2.1.1.1 y hy, m0.1 y hy]
  · rw [if_neg (by decide), if_pos rfl, if_neg (by decide), if_pos rfl, hr2.2.2.2.2.1 y hy]
  · rw [if_neg (by decide), if_neg (by decide), if_pos rfl, if_neg (by decide), if_neg (by decide)]
    refine congrArg nI ?_
    refine cn_cong (fun p hp => ?_)
    show decide (sh S p = y) = psP (mlaN M nl) y false p
    unfold psP
    rw [hr2.mtq hp, Bool.not_false, Bool.true_or, Bool.and_true]
  · rw [if_neg (by decide), if_neg (by decide), if_neg (by decide), if_neg (by decide), if_neg (by decide)]
    refine congrArg nI ?_
    rw [hT.2.1.2.cnt hA (by omega) (fun q => decide (sh S q = y))]
    refine cn_cong (fun p hp => ?_)
    show _ = psP (mlaN M nl) y true p
    unfold psP
    rw [hr2.mtq hp, m0.2.2.2.1 p hp, Bool.not_true, Bool.false_or, Bool.and_comm]
theorem bI_if (b : Bool) : bI b = if bI b = 0 then 0 else 1 := by cases b <;> rfl
theorem oe_rel {S T M : Nat → Nat → Int32} {nl np k x : Nat} (h : LTok S nl) (hr : SR S nl (M 1)) (hT : TOk S T nl np) (hk : k < nl) (hx : x < 4) : oeV S T k x = lsd (mlaN M nl) k x := by
  obtain ⟨m0, m1⟩ := mlaN_rel h hr nl (Nat.le_refl _)
  have hr2 : SR S nl (mlaN M nl 1) := by rw [mlaN_1]; exact hr
  obtain ⟨e0, e1, e2⟩ := hr2.2.2.2.2.2 k hk
  unfold oeV lsd
  rcases (show x = 0 ∨ x = 1 ∨ x = 2 ∨ x = 3 from by omega) with rfl | rfl | rfl | rfl
  · rw [if_pos rfl, if_pos (by decide), e0]
  · rw [if_neg (by decide), if_pos rfl, if_pos (by decide), e1]
  · rw [if_neg (by decide), if_neg (by decide), if_pos (rfl : (2 : Nat) = 2), if_neg (show ¬ (2 : Nat) < 2 by decide), if_pos (rfl : (2 : Nat) = 2), e2]
  · rw [if_neg (by decide), if_neg (by decide), if_neg (by decide), if_neg (by decide), if_neg (by decide), hT.2.2 k hk, m1 k hk]
    exact bI_if _
theorem isum_rel {f h : Nat → Int32} : ∀ {n : Nat}, (∀ j, j < n → ∃ b, f j = bI b ∧ h j = bI b) → isum f n = nI (cn (fun i => !decide (h i = 0)) n)
  | 0, _ => rfl
  | n + 1, e => by
    obtain ⟨b, h1, h2⟩ := e n (by omega)
    rw [isum, isum_rel (h := h) (fun j hj => e j (by omega)), cn, h1, h2]
    cases b
    · rw [show bI false = 0 from rfl, decide_eq_true rfl]
      show _ + 0 = nI (_ + 0)
      rw [Int32.add_zero, Nat.add_zero]
    · rw [show bI true = 1 from rfl, decide_eq_false (by decide)]
      exact nI_1 _
theorem cn_true : ∀ n, cn (fun _ => true) n = n
  | 0 => rfl
  | n + 1 => by rw [cn, cn_true n]; rfl
theorem oc_rel {S T M : Nat → Nat → Int32} {nl np q x : Nat} (h : LTok S nl) (hr : SR S nl (M 1)) (hT : TOk S T nl np) (hq : M 0 2 = nI q) (hx : x < 8) : ocV S T nl np q x = ctd (mlaN M nl) nl x := by
  obtain ⟨m0, m1⟩ := mlaN_rel h hr nl (Nat.le_refl _)
  have hr2 : SR S nl (mlaN M nl 1) := by rw [mlaN_1]; exact hr
  have hA := h.aokS
  have hnl := h.2.1.2.1
  have h0 : mlaN M nl 0 2 = nI q := by rw [mlaN_r _ (r := 0) (by omega)]; exact hq
  unfold ocV ctd
  rcases (show x = 0 ∨ x = 1 ∨ x = 2 ∨ x = 3 ∨ x = 4 ∨ x = 5 ∨ x = 6 ∨ x = 7 from by omega) with rfl | rfl | rfl | rfl | rfl | rfl | rfl | rfl
  · rw [if_pos rfl, if_pos rfl]
  · rw [if_neg (by decide), if_pos rfl, if_neg (by decide), if_pos rfl]
    exact isum_rel (fun j hj => ⟨_, hT.2.2 j hj, m1 j hj⟩)
  · rw [if_neg (by decide), if_neg (by decide), if_pos rfl, if_neg (by decide), if_neg (by decide), if_pos rfl]
    have h1 := hT.2.1.2.cnt hA (by omega) (fun _ => true)
    rw [cn_true] at h1
    rw [h1]
    refine congrArg nI ?_
    exact cn_cong (fun p hp => by rw [m0.2.2.2.1 p hp, Bool.and_true])
  · rw [if_neg (by decide), if_neg (by decide), if_neg (by decide), if_pos rfl, if_neg (by decide), if_neg (by decide), if_neg (by decide), if_pos rfl]
    refine congrArg nI ?_
    exact cn_cong (fun p hp => by rw [m0.1 p hp, hT.2.1.1.1 p hp, hr2.2.2.2.2.1 p hp])
  · rw [if_neg (by decide), if_neg (by decide), if_neg (by decide), if_neg (by decide), if_pos rfl, if_neg (by decide), if_neg (by decide), if_neg (by decide), if_neg (by decide), if_pos rfl, hr2.2.1.1]
  · rw [if_neg (by decide), if_neg (by decide), if_neg (by decide), if_neg (by decide), if_neg (by decide), if_pos rfl, if_neg (by decide), if_neg (by decide), if_neg (by decide), if_neg (by decide), if_neg (by decide), if_pos rfl, hr2.2.1.2.1]
  · rw [if_neg (by decide), if_neg (by decide), if_neg (by decide), if_neg (by decide), if_neg (by decide), if_neg (by decide), if_pos rfl, if_neg (by decide), if_neg (by decide), if_neg (by decide), if_neg (by decide), if_neg (by decide), if_neg (by decide), if_pos rfl, hr2.2.1.2.2]
  · rw [if_neg (by decide), if_neg (by decide), if_neg (by decide), if_neg (by decide), if_neg (by decide), if_neg (by decide), if_neg (by decide), if_neg (by decide), if_neg (by decide), if_neg (by decide), if_neg (by decide), if_neg (by decide), if_neg (by decide), if_neg (by decide), h0]
theorem tg_rel {S T M : Nat → Nat → Int32} {nl np : Nat} (h : LTok S nl) (hr : SR S nl (M 1)) (hT : TOk S T nl np) : tgS S T = tgt (mlaN M nl) := by
  obtain ⟨m0, -⟩ := mlaN_rel h hr nl (Nat.le_refl _)
  have hr2 : SR S nl (mlaN M nl 1) := by rw [mlaN_1]; exact hr
  unfold tgS tgt
  exact cn_cong (fun p hp => by rw [tgP, kp_mk h.1 hr2 hT.2.1.1 m0 hp])
theorem wi_rel {S T : Nat → Nat → Int32} (R : Nat → Nat → Int32) {M : Nat → Nat → Int32} {nl np k : Nat} (h : LTok S nl) (hr : SR S nl (M 1)) (hT : TOk S T nl np) (hk : k < nl) : powN S T (laT S R (nI k) nl) = wiV M k nl :=
  pow_rel R (M := bfM M) h hr hT hk
theorem fpP_at (S T R : Nat → Nat → Int32) (P : Nat → Int32) (nl k : Nat) : ∀ n, k < n → fpP S T R P nl n k = nI (powN S T (laT S (fpR S R nl k) (nI k) nl))
  | 0, h => absurd h (Nat.not_lt_zero k)
  | n + 1, h => by
    rw [fpP]
    by_cases z : k = n
    · subst z; rw [upd_s]
    · rw [upd_n _ _ z]; exact fpP_at S T R P nl k n (by omega)
theorem mn_rel {S T R M : Nat → Nat → Int32} {P : Nat → Int32} {nl np : Nat} (h : LTok S nl) (hr : SR S nl (M 1)) (hT : TOk S T nl np) : ∀ k, k ≤ nl → lmF (fpP S T R P nl nl) k = mnF M nl k
  | 0, _ => rfl
  | k + 1, hk => by
    rw [lmF, mnF, mn_rel h hr hT k (by omega), fpP_at S T R P nl k nl (by omega), wi_rel (fpR S R nl k) (M := mnT M nl k) h (by rw [mnT_1]; exact hr) hT (by omega)]
/-! a circle -/
theorem LTok_ad {S : Nat → Nat → Int32} {nl p : Nat} {w : Int32} (h : LTok S nl) (hnl : nl < 40) (hp : p < 100) (hw : w = 1 ∨ w = -1) : LTok (adS S p nl w) (nl + 1) := by
  refine ⟨fun j hj => h.1 j hj, ⟨show upd (S 0) 7 (nI (nl + 1)) 7 = _ from upd_s _ _ _, by omega, fun i hi => ?_⟩, fun x hx => h.2.2.1 x hx, fun i hi => ?_⟩
  · show upd (S 6) nl (nI p) i = nI (nn (upd (S 6) nl (nI p) i)) ∧ nn (upd (S 6) nl (nI p) i) < 100
    by_cases z : i = nl
    · subst z; rw [upd_s, nnI (by omega)]; exact ⟨rfl, hp⟩
    · rw [upd_n _ _ z]; exact h.2.1.2.2 i (by omega)
  · show upd (S 7) nl w i = 1 ∨ upd (S 7) nl w i = -1
    by_cases z : i = nl
    · subst z; rw [upd_s]; exact hw
    · rw [upd_n _ _ z]; exact h.2.2.2 i (by omega)
theorem adM_at (M : Nat → Nat → Int32) (p nl : Nat) (w : Int32) : adM M p nl w 1 = upd (upd (upd (upd (M 1) (54 + 3 * nl + 0) (nI (p / 10))) (54 + 3 * nl + 1) (nI (p % 10))) (54 + 3 * nl + 2) w) 0 (nI (nl + 1)) := rw_s _ _ _
theorem SR_ad {S M : Nat → Nat → Int32} {nl p : Nat} {w : Int32} (hr : SR S nl (M 1)) (hnl : nl < 40) (hp : p < 100) : SR (adS S p nl w) (nl + 1) (adM M p nl w 1) := by
  have e : ∀ j, j ≠ 0 → j ≠ 54 + 3 * nl + 0 → j ≠ 54 + 3 * nl + 1 → j ≠ 54 + 3 * nl + 2 → adM M p nl w 1 j = M 1 j := fun j h0 h1 h2 h3 => by
    rw [adM_at, upd_n _ _ h0, upd_n _ _ h3, upd_n _ _ h2, upd_n _ _ h1]
  refine ⟨by rw [adM_at, upd_s], ?_, fun i hi => ?_, fun i hi => ?_, fun x hx => ?_, fun i hi => ?_⟩
  · rw [e 5 (by omega) (by omega) (by omega) (by omega), e 6 (by omega) (by omega) (by omega) (by omega), e 7 (by omega) (by omega) (by omega) (by omega)]
    show _ = upd (S 0) 7 (nI (nl + 1)) 9 ∧ _ = upd (S 0) 7 (nI (nl + 1)) 10 ∧ _ = upd (S 0) 7 (nI (nl + 1)) 11
    rw [upd_n _ _ (by omega), upd_n _ _ (by omega), upd_n _ _ (by omega)]
    exact hr.2.1
  · rw [e _ (by omega) (by omega) (by omega) (by omega)]; exact hr.2.2.1 i hi
  · rw [e _ (by omega) (by omega) (by omega) (by omega), e _ (by omega) (by omega) (by omega) (by omega), e _ (by omega) (by omega) (by omega) (by omega)]; exact hr.2.2.2.1 i hi
  · rw [e _ (by omega) (by omega) (by omega) (by omega)]; exact hr.2.2.2.2.1 x hx
  · show _ = nI (nn (upd (S 6) nl (nI p) i) / 10) ∧ _ = nI (nn (upd (S 6) nl (nI p) i) % 10) ∧ _ = upd (S 7) nl w i
    by_cases z : i = nl
    · subst z
      rw [upd_s, upd_s, nnI (by omega)]
      refine ⟨?_, ?_, ?_⟩
      · rw [adM_at, upd_n _ _ (by omega), upd_n _ _ (by omega), upd_n _ _ (by omega), upd_s]
      · rw [adM_at, upd_n _ _ (by omega), upd_n _ _ (by omega), upd_s]
      · rw [adM_at, upd_n _ _ (by omega), upd_s]
    · rw [upd_n _ _ z, upd_n _ _ z, e _ (by omega) (by omega) (by omega) (by omega), e _ (by omega) (by omega) (by omega) (by omega), e _ (by omega) (by omega) (by omega) (by omega)]
      exact hr.2.2.2.2.2 i (by omega)
theorem LA_ad {S : Nat → Nat → Int32} {nl p : Nat} {w : Int32} (hp : p < 100) : ∀ {n : Nat}, n ≤ nl → LA (adS S p nl w) (lsS (adS S p nl w)) n = LA S (lsS S) n := fun {n} hn => by
  show lrA (sh S) (S 5 0) (S 5 1) (S 4) (lsS (adS S p nl w)) n = _
  refine lrA_cong (fun j hj => ?_)
  show (nn (upd (S 6) nl (nI p) j), upd (S 7) nl w j) = _
  rw [upd_n _ _ (by omega), upd_n _ _ (by omega)]
  rfl
theorem LA_ads {S : Nat → Nat → Int32} {nl p : Nat} {w : Int32} (hp : p < 100) : LA (adS S p nl w) (lsS (adS S p nl w)) (nl + 1) = lsn (sh S) (S 5 0) (S 5 1) (LA S (lsS S) nl) p w := by
  have h := LA_ad (S := S) (nl := nl) (p := p) (w := w) hp (Nat.le_refl nl)
  show lsn (sh S) (S 5 0) (S 5 1) (LA (adS S p nl w) (lsS (adS S p nl w)) nl) (nn (upd (S 6) nl (nI p) nl)) (upd (S 7) nl w nl) = _
  rw [h, upd_s, upd_s, nnI (by omega)]
/-- what a circle comes to: refused (it tells -1), or kept -/
theorem ci_cases {S T M : Nat → Nat → Int32} {nl np p : Nat} {w : Int32} (h : LTok S nl) (hr : SR S nl (M 1)) (hT : TOk S T nl np) (hp : p < 100) (hw : w = 1 ∨ w = -1) :
    (ciR M p nl w = true ∧ (40 ≤ nl ∨ ¬ kp S T p * w < 12)) ∨ (ciR M p nl w = false ∧ nl < 40 ∧ kp S T p * w < 12) := by
  obtain ⟨m0, -⟩ := mlaN_rel h hr nl (Nat.le_refl _)
  have hr2 : SR S nl (mlaN M nl 1) := by rw [mlaN_1]; exact hr
  have hk := kp_mk h.1 hr2 hT.2.1.1 m0 hp
  have hnl := h.2.1.2.1
  have hA := h.aokS
  have hx := sh_lt h.1 hp
  have hid := ((hA.2 p hp).1).idle hw
  rw [← kp_rel hT.2.1.1 hp hx] at hid
  unfold ciR
  rw [← hk]
  by_cases c : nl = 40
  · exact Or.inl ⟨by rw [decide_eq_true c]; rfl, Or.inl (by omega)⟩
  · by_cases d : kp S T p * w < 12
    · rw [decide_eq_true d] at hid
      refine Or.inr ⟨?_, by omega, d⟩
      rw [decide_eq_false c, Bool.false_or]
      cases hz : decide (kp S T p = w * 12)
      · rfl
      · rw [hz] at hid; cases hid
    · rw [decide_eq_false d] at hid
      refine Or.inl ⟨?_, Or.inr d⟩
      rw [decide_eq_false c, Bool.false_or]
      cases hz : decide (kp S T p = w * 12)
      · rw [hz] at hid; cases hid
      · rfl
theorem ci_kept {S T M : Nat → Nat → Int32} {nl np p : Nat} {w : Int32} (h : LTok S nl) (hr : SR S nl (M 1)) (hT : TOk S T nl np) (hnl : nl < 40) (hp : p < 100) (hw : w = 1 ∨ w = -1) (hd : kp S T p * w < 12) :
    TOk (adS S p nl w) (rw_ (lrnT S T np p w) 7 (upd (lrnT S T np p w 7) nl 0)) (nl + 1) (lrnN S T np p w) ∧ kp S (lrnT S T np p w) p = mk_ (mlaN (adM (mlaN M nl) p nl w) (nl + 1)) p := by
  have hA := h.aokS
  have hx := sh_lt h.1 hp
  have h1 := lrnT_rel (S := S) hT.2.1 hA (by omega) (by have := hT.1; omega) hw hp hx
  have hid := lrnT_idle hT.2.1.1 hA hw hp hx
  rw [decide_eq_true hd] at hid
  have hf : lsI (sh S) (LA S (lsS S) nl) p w = false := by cases hz : lsI (sh S) (LA S (lsS S) nl) p w; rfl; rw [hz] at hid; cases hid
  have e7 : lrnT S T np p w 7 = T 7 := by
    unfold lrnT
    rw [if_pos hd]
    have : lnB (lnA S T p np w) p w (kp S T p) 7 = T 7 := by
      show lnA S T p np w 7 = T 7
      unfold lnA
      split
      · rfl
      · split <;> rfl
    unfold lnC
    split
    · exact this
    · split <;> exact this
  have hr2 : SR S nl (mlaN M nl 1) := by rw [mlaN_1]; exact hr
  have hra : SR (adS S p nl w) (nl + 1) (adM (mlaN M nl) p nl w 1) := SR_ad hr2 hnl hp
  obtain ⟨m1, -⟩ := mlaN_rel (LTok_ad h hnl hp hw) hra (nl + 1) (Nat.le_refl _)
  rw [LA_ads hp] at m1
  refine ⟨⟨Nat.le_trans (lrnN_le _ _ _ _ _) (by have := hT.1; omega), ?_, fun j hj => ?_⟩, ?_⟩
  · rw [LA_ads hp]
    exact h1.r7 _
  · rw [rw_s]
    by_cases z : j = nl
    · subst z
      rw [upd_s, LA_ad hp (Nat.le_refl _)]
      show 0 = bI (lsI (sh S) (LA S (lsS S) j) (nn (upd (S 6) j (nI p) j)) (upd (S 7) j w j))
      rw [upd_s, upd_s, nnI (by omega), hf]
      rfl
    · rw [upd_n _ _ z, LA_ad hp (by omega), e7]
      show T 7 j = bI (lsI (sh S) (LA S (lsS S) j) (nn (upd (S 6) nl (nI p) j)) (upd (S 7) nl w j))
      rw [upd_n _ _ z, upd_n _ _ z]
      exact hT.2.2 j (by omega)
  · have hz := kp_mk (S := adS S p nl w) (nl := nl + 1) (T := lrnT S T np p w) (M := mlaN (adM (mlaN M nl) p nl w) (nl + 1)) (A := lsn (sh S) (S 5 0) (S 5 1) (LA S (lsS S) nl) p w) (LTok_ad h hnl hp hw).1 (by rw [mlaN_1]; exact hra) h1.1 m1 hp
    exact hz
theorem ifV_rel {S T M : Nat → Nat → Int32} {nl np p : Nat} {w : Int32} (h : LTok S nl) (hr : SR S nl (M 1)) (hT : TOk S T nl np) (hp : p < 100) (hw : w = 1 ∨ w = -1) : ifV S T nl np p w = ciV M p nl w := by
  unfold ifV ciV
  rcases ci_cases h hr hT hp hw with ⟨c, d | d⟩ | ⟨c, d1, d2⟩
  · rw [if_pos d, if_pos c]
  · rw [if_pos c]
    split <;> first | rfl | (rw [if_neg d])
  · rw [if_neg (by omega), if_pos d2, if_neg (by rw [c]; decide), (ci_kept h hr hT d1 hp hw d2).2]
