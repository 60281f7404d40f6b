/-! PURE, eighth: the digest -/
theorem hmN_cong {f f' : Nat → Int64} {h h' : Int64} : ∀ {n : Nat}, (∀ k, k < n → f k = f' k) → h = h' → hmN f h n = hmN f' h' n
  | 0, _, e => e
  | n + 1, k, e => by rw [hmN, hmN, hmN_cong (fun j hj => k j (by omega)) e, k n (by omega)]
theorem hp_rel {S T R M : Nat → Nat → Int32} {nl np : Nat} {h1 : Int64} (h : LTok S nl) (hr : SR S nl (M 1)) (hT : TOk S T nl np) : ∀ p, p ≤ 100 → hpN S T R nl h1 p = mpN (mlaN M nl) h1 p
  | 0, _ => rfl
  | p + 1, hp => by
    rw [hpN, mpN, hp_rel h hr hT p (by omega), op_rel h hr hT (by omega) (by omega), op_rel h hr hT (by omega) (by omega), op_rel h hr hT (by omega) (by omega), op_rel h hr hT (by omega) (by omega)]
theorem he_rel {S T R M : Nat → Nat → Int32} {P : Nat → Int32} {nl np : Nat} {h1 : Int64} (h : LTok S nl) (hr : SR S nl (M 1)) (hT : TOk S T nl np) : ∀ k, k ≤ nl → heN S T (fpP S T R P nl nl) h1 k = mlsH M nl h1 k
  | 0, _ => rfl
  | k + 1, hk => by
    have r1 : SR S nl (mlsM M nl k 1) := by rw [mlsM_r M nl (r := 1) (by omega)]; exact hr
    have r2 : SR S nl (mlaN (mlsM M nl k) nl 1) := by rw [mlaN_1]; exact r1
    rw [heN, mlsH, he_rel h hr hT k (by omega), fpP_at S T R P nl k nl (by omega), wi_rel (fpR S R nl k) h r2 hT (by omega)]
    congr 1
    exact hmN_cong (fun y hy => by rw [oe_rel h r1 hT (by omega) hy]) rfl
theorem dt_rel {S T M : Nat → Nat → Int32} (V : Nat → Nat → Int32) {nl np n : Nat} {h1 : Int64} (h : LTok S nl) (hB : BdOk S) (hr : SR S nl (M 1)) (hT : TOk S T nl np) (hn : n ≤ 60) : ∀ y, y ≤ 6 → dtH S T (M 6) n V h1 y = hmN (fun x => Int32.toInt64 (ttd (mlaN M nl) n x)) h1 y
  | 0, _ => rfl
  | y + 1, hy => by
    rw [dtH, hmN, dt_rel V h hB hr hT hn y (by omega), tx_rel h hB hr hT hn (by omega)]
set_option maxHeartbeats 4000000 in
theorem dg_rel {S T R V M : Nat → Nat → Int32} {P F : Nat → Int32} {nl np q n : Nat} (h : LTok S nl) (hB : BdOk S) (hr : SR S nl (M 1)) (hT : TOk S T nl np) (hq : M 0 2 = nI q) (hn : n ≤ 60) (hF : ∀ k, k < 2 → F k = M 4 k) :
    cgV S T (fpR S R nl nl) (fpP S T R P nl nl) nl np q (M 6) n V F = dgV M nl n := by
  have q1 : (thr M 0) 0 2 = nI q := by show upd (M 0) 8 0 2 = _; rw [upd_n _ _ (by omega)]; exact hq
  have e1 : dgM1 M nl 1 = M 1 := mlaN_1 _ _
  have r0 : SR S nl (thr M 0 1) := hr
  have r1 : SR S nl (dgM1 M nl 1) := by rw [e1]; exact hr
  have e61 : dgM1 M nl 6 = M 6 := mlaN_r _ (r := 6) (by omega) nl
  have eL1 : mlsM (dgM1 M nl) nl nl 1 = M 1 := by rw [mlsM_r _ nl (r := 1) (by omega), e1]
  have eL6 : mlsM (dgM1 M nl) nl nl 6 = M 6 := by rw [mlsM_6, e61]
  have rL : SR S nl (mlsM (dgM1 M nl) nl nl 1) := by rw [eL1]; exact hr
  have r2 : SR S nl (dgM2 M nl 1) := by show SR S nl (mlaN _ nl 1); rw [mlaN_1]; exact rL
  have r3 : SR S nl (dgM3 M nl 1) := by show SR S nl (mnT _ nl nl 1); rw [mnT_1]; exact r2
  have hA : cgA S T (fpR S R nl nl) nl np q = mpN (dgM1 M nl) (dgA M nl) 100 := by
    unfold cgA dgA hcF
    rw [hp_rel (M := thr M 0) h r0 hT 100 (Nat.le_refl _), show mlaN (thr M 0) nl = dgM1 M nl from rfl]
    refine congrArg (fun h => mpN (dgM1 M nl) h 100) ?_
    refine hmN_cong (fun k hk => ?_) (hmN_cong (fun k hk => ?_) (hmN_cong (fun k hk => ?_) rfl))
    · rw [hlF, e1, ol_rel h hr (by omega) (by omega)]
    · rw [e1, hr.2.2.1 k hk]
    · rw [oc_rel (M := thr M 0) h r0 hT q1 hk]
      rfl
  have hBB : cgB S T (fpR S R nl nl) (fpP S T R P nl nl) nl np q = dgB M nl := by
    unfold cgB dgB mpH
    rw [hA, he_rel (M := dgM1 M nl) h r1 hT nl (Nat.le_refl _)]
    refine congrArg (fun h => mlsH (dgM1 M nl) nl h nl) ?_
    refine hmN_cong (fun k hk => ?_) rfl
    rw [hsF, os_rel (M := thr M 0) h r0 hT (by omega) (by omega)]
    rfl
  have hC : cgC S T (fpR S R nl nl) (fpP S T R P nl nl) nl np q (M 6) n V = dgD M nl n := by
    unfold cgC dgD dgC
    rw [hBB, mn_rel (M := dgM2 M nl) h r2 hT nl (Nat.le_refl _), tg_rel (M := dgM3 M nl) h r3 hT]
    have := dt_rel (M := mlsM (dgM1 M nl) nl nl) V (h1 := dgB M nl) h hB rL hT hn 6 (Nat.le_refl _)
    rw [eL6] at this
    rw [this]
    rfl
  unfold cgV dgV
  rw [hC]
  refine hmN_cong (fun k hk => rfl) ?_
  refine congrArg (fun h => hmx h (Int32.toInt64 (nI n))) ?_
  exact hmN_cong (fun k hk => by rw [hF k hk]) rfl
