/-! PURE: what a circle comes to -/
section GKC
variable {S T : Nat → Nat → Int32} {nl np : Nat}
theorem if_lc (S T : Nat → Nat → Int32) (nl np p : Nat) (w : Int32) : ifV S T nl np p w = lcV S T nl np p w := by
  unfold ifV lcV
  split
  · rfl
  · split <;> rfl
theorem GK.gidle (h : GK S T nl np) {p : Nat} {w : Int32} (hp : p < 100) (hw : w = 1 ∨ w = -1) : kp S T p * w < 12 ↔ ¬ kp S T p = w * 12 := by
  have := (h.gbk hp).idle hw
  constructor
  · intro z e
    rw [decide_eq_true z, decide_eq_true e] at this
    cases this
  · intro z
    rw [decide_eq_false z] at this
    exact of_decide_eq_true this
theorem gk_kept (h : GK S T nl np) {p : Nat} {w : Int32} (hnl : nl < 40) (hp : p < 100) (hw : w = 1 ∨ w = -1) (hd : kp S T p * w < 12) :
    GK (adS S p nl w) (rw_ (lrnT S T np p w) 7 (upd (lrnT S T np p w 7) nl 0)) (nl + 1) (lrnN S T np p w) := by
  have hA := h.gao
  have hx := sh_lt h.gsh hp
  have hT := h.2.2.1
  have h1 := lrnT_rel (S := S) hT.2.1 hA (by omega) (by have := hT.1; omega) hw hp hx
  have hid := lrnT_idle hT.2.1.1 hA hw hp hx
  rw [decide_eq_true hd] at hid
  have hf : lsI (sh S) (LA S (lsS S) nl) p w = false := by cases hz : lsI (sh S) (LA S (lsS S) nl) p w; rfl; rw [hz] at hid; cases hid
  have e7 : lrnT S T np p w 7 = T 7 := by
    unfold lrnT
    rw [if_pos hd]
    have : lnB (lnA S T p np w) p w (kp S T p) 7 = T 7 := by
      show lnA S T p np w 7 = T 7
      unfold lnA
      split
      · rfl
      · split <;> rfl
    unfold lnC
    split
    · exact this
    · split <;> exact this
  refine ⟨LTok_ad h.1 hnl hp hw, h.2.1, ⟨Nat.le_trans (lrnN_le _ _ _ _ _) (by have := hT.1; omega), ?_, fun j hj => ?_⟩, h.2.2.2⟩
  · show TRel (sh S) _ _ _
    rw [LA_ads hp]
    exact h1.r7 _
  · rw [rw_s]
    by_cases z : j = nl
    · subst z
      rw [upd_s, LA_ad hp (Nat.le_refl _)]
      show 0 = bI (lsI (sh S) (LA S (lsS S) j) (nn (upd (S 6) j (nI p) j)) (upd (S 7) j w j))
      rw [upd_s, upd_s, nnI (by omega), hf]
      rfl
    · rw [upd_n _ _ z, LA_ad hp (by omega), e7]
      show T 7 j = bI (lsI (sh S) (LA S (lsS S) j) (nn (upd (S 6) nl (nI p) j)) (upd (S 7) nl w j))
      rw [upd_n _ _ z, upd_n _ _ z]
      exact hT.2.2 j (by omega)
/-- the kerning of a pair behind a lesson -/
theorem wth_gt : ∀ j, j < 25 → ∀ s, s < 7 → 1 ≤ s → ∀ w ∈ [(1 : Int32), -1], nI j - 12 ≠ w * 12 → if w = 1 then nI j - 12 < wth (nI j - 12 + w * nI s) else wth (nI j - 12 + w * nI s) < nI j - 12 := by decide +kernel
def lsK (sg : Nat → Nat) (A : Nat → Nat → Int32) (q : Nat) : Int32 := A 1 (sg q) + A 2 q
theorem lsn_k {sg : Nat → Nat} {f0 nd : Int32} {A : Nat → Nat → Int32} {p n : Nat} {w : Int32} (hA : AOk sg A n) (hn : n < 900) (hp : p < 100) (hi : lsI sg A p w = false) :
    (∀ q, q < 100 → q ≠ p → (¬ A 5 q ≤ 0 → lsK sg (lsn sg f0 nd A p w) q = lsK sg A q) ∧ (A 5 q ≤ 0 → lsK sg (lsn sg f0 nd A p w) q = lsK sg A q ∨ (lsK sg (lsn sg f0 nd A p w) q = lsK sg A q + w ∧ sg q = sg p))) ∧
    lsK sg (lsn sg f0 nd A p w) p = wth (lsK sg A p + w * lsA1 f0 A p w 3 p) := by
  have e2 : ∀ q, q ≠ p → lsA2 sg (lsA1 f0 A p w) p w 2 q = A 2 q := fun q hq => by
    show upd (lsA1 f0 A p w 2) p _ q = _
    rw [upd_n _ _ hq, lsA1_r _ _ _ _ (by omega)]
  have e5 : ∀ q, q ≠ p → lsA2 sg (lsA1 f0 A p w) p w 5 q = A 5 q := fun q hq => by
    show upd (lsA1 f0 A p w 5) p _ q = _
    rw [upd_n _ _ hq, lsA1_r _ _ _ _ (by omega)]
  have e1 : lsA2 sg (lsA1 f0 A p w) p w 1 = A 1 := by
    show lsA1 f0 A p w 1 = _
    rw [lsA1_r _ _ _ _ (by omega)]
  have p2 : A 1 (sg p) + lsA2 sg (lsA1 f0 A p w) p w 2 p = wth (lsK sg A p + w * lsA1 f0 A p w 3 p) := by
    show _ + upd (lsA1 f0 A p w 2) p (wth (lsA1 f0 A p w 1 (sg p) + lsA1 f0 A p w 2 p + w * lsA1 f0 A p w 3 p) - lsA1 f0 A p w 1 (sg p)) p = _
    rw [upd_s, lsA1_r _ _ _ _ (r := 1) (by omega), lsA1_r _ _ _ _ (r := 2) (by omega), a_ba]
    rfl
  have p5 : ¬ lsA2 sg (lsA1 f0 A p w) p w 5 p ≤ 0 := by
    show ¬ upd (lsA1 f0 A p w 5) p (lsA1 f0 A p w 5 p + 1) p ≤ 0
    rw [upd_s, lsA1_r _ _ _ _ (by omega)]
    obtain ⟨c, h1, h2⟩ := (hA.2 p hp).2.2
    rw [h2, nI_1, show (0 : Int32) = nI 0 from rfl, nI_leI (by omega) (by omega)]
    omega
  unfold lsn
  rw [hi, if_neg (by decide)]
  unfold lsA3
  split
  · refine ⟨fun q hq hqp => ⟨fun _ => ?_, fun _ => Or.inl ?_⟩, ?_⟩
    · unfold lsK; rw [e1, e2 q hqp]
    · unfold lsK; rw [e1, e2 q hqp]
    · unfold lsK; rw [e1]; exact p2
  split
  · refine ⟨fun q hq hqp => ⟨fun _ => ?_, fun _ => Or.inl ?_⟩, ?_⟩
    · unfold lsK; rw [e1, e2 q hqp]
    · unfold lsK; rw [e1, e2 q hqp]
    · unfold lsK; rw [e1]; exact p2
  · rw [e1]
    have k : ∀ q, lsK sg (rw_ (rw_ (lsA2 sg (lsA1 f0 A p w) p w) 1 (upd (A 1) (sg p) (A 1 (sg p) + w))) 2 (lsMv sg (lsA2 sg (lsA1 f0 A p w) p w) (sg p) w)) q = upd (A 1) (sg p) (A 1 (sg p) + w) (sg q) + lsMv sg (lsA2 sg (lsA1 f0 A p w) p w) (sg p) w q := fun q => rfl
    refine ⟨fun q hq hqp => ⟨fun c => ?_, fun c => ?_⟩, ?_⟩
    · rw [k, lsMv, e2 q hqp, e5 q hqp, if_neg c]
      by_cases z : sg q = sg p
      · rw [if_pos z, z, upd_s, sw_sum]
        unfold lsK
        rw [z]
      · rw [if_neg z, upd_n _ _ z, Int32.sub_zero]
        rfl
    · rw [k, lsMv, e2 q hqp, e5 q hqp, if_pos c]
      by_cases z : sg q = sg p
      · refine Or.inr ⟨?_, z⟩
        rw [if_pos z, z, upd_s, Int32.sub_zero]
        unfold lsK
        rw [z]
        grind
      · refine Or.inl ?_
        rw [if_neg z, upd_n _ _ z, Int32.sub_zero]
        rfl
    · rw [k, lsMv, if_neg p5, if_pos rfl, upd_s, sw_sum]
      exact p2
/-- all that the law asks of a circle -/
def CircF (S T S' T' : Nat → Nat → Int32) (p : Nat) (w : Int32) : Prop :=
  (∀ q, q < 100 → q ≠ p → (¬ T 5 q ≤ 0 → kp S' T' q = kp S T q) ∧ (T 5 q ≤ 0 → kp S' T' q = kp S T q ∨ (kp S' T' q = kp S T q + w ∧ sh S' q = sh S' p))) ∧ (w = 1 → kp S T p < kp S' T' p) ∧ (w = -1 → kp S' T' p < kp S T p)
theorem GK.gcirc (h : GK S T nl np) {p : Nat} {w : Int32} (hp : p < 100) (hw : w = 1 ∨ w = -1) :
    (lcS S T nl p w = rfS S ∧ lcT S T nl np p w = T ∧ lcV S T nl np p w = -1 ∧ (nl = 40 ∨ kp S T p + 100 = 100 + 12 * w)) ∨
    (nl < 40 ∧ ¬ kp S T p + 100 = 100 + 12 * w ∧ ∃ T' np', lcS S T nl p w = adS S p nl w ∧ lcT S T nl np p w = T' ∧ lcV S T nl np p w = kp (adS S p nl w) T' p + 100 ∧ T' 7 nl = 0 ∧ GK (adS S p nl w) T' (nl + 1) np' ∧ CircF S T (adS S p nl w) T' p w) := by
  have hnl := h.gnl
  have hid := h.gidle hp hw
  have he : kp S T p = w * 12 ↔ kp S T p + 100 = 100 + 12 * w := ⟨fun z => by rw [z]; grind, fun z => by grind⟩
  by_cases c1 : nl < 40
  · by_cases c2 : kp S T p * w < 12
    · right
      refine ⟨c1, fun z => hid.mp c2 (he.mpr z), rw_ (lrnT S T np p w) 7 (upd (lrnT S T np p w 7) nl 0), lrnN S T np p w, ?_, ?_, ?_, ?_, gk_kept h c1 hp hw c2, ?_⟩
      · unfold lcS; rw [if_neg (by omega), if_pos c2]
      · unfold lcT; rw [if_neg (by omega), if_pos c2]
      · unfold lcV; rw [if_neg (by omega), if_pos c2]
      · rw [rw_s, upd_s]
      · have hk := gk_kept h c1 hp hw c2
        have hcr := hk.gcr
        rw [LA_ads hp] at hcr
        have hi := h.gcr
        have hf : lsI (sh S) (LA S (lsS S) nl) p w = false := by
          have := lrnT_idle h.gcr h.gao hw hp (sh_lt h.gsh hp)
          rw [decide_eq_true c2] at this
          cases hz : lsI (sh S) (LA S (lsS S) nl) p w
          · rfl
          · rw [hz] at this; cases this
        obtain ⟨k1, k2⟩ := lsn_k (f0 := S 5 0) (nd := S 5 1) h.gao (by omega) hp hf
        have e0 : ∀ q, q < 100 → lsK (sh S) (LA S (lsS S) nl) q = kp S T q := fun q hq => (kp_rel h.gcr hq (sh_lt h.gsh hq)).symm
        have e1 : ∀ q, q < 100 → lsK (sh S) (lsn (sh S) (S 5 0) (S 5 1) (LA S (lsS S) nl) p w) q = kp (adS S p nl w) (rw_ (lrnT S T np p w) 7 (upd (lrnT S T np p w 7) nl 0)) q := fun q hq => (kp_rel (S := adS S p nl w) hcr hq (sh_lt hk.gsh hq)).symm
        have hb := h.gbk hp
        obtain ⟨j, hj, hkj⟩ := hb.fin
        have hs := lsA1_3 (w := w) hp h.2.2.2.1 (lrA_as h.1 h.2.2.2.1 (n := nl) (by omega) (fun j hj => h.1.lsv j hj))
        have hs1 := hs.2.1
        have hs2 := hs.2.2
        have hs6 := h.2.2.2.2
        obtain ⟨s, hs0, hse⟩ : ∃ s : Nat, s < 7 ∧ lsA1 (S 5 0) (LA S (lsS S) nl) p w 3 p = nI s := by
          refine ⟨(lsA1 (S 5 0) (LA S (lsS S) nl) p w 3 p).toInt.toNat, by omega, ?_⟩
          rw [i_eq, nI_toInt (by omega), Int.toNat_of_nonneg (by omega)]
        have hs7 : 1 ≤ s := by
          rw [hse, nI_toInt (by omega)] at hs1
          omega
        rw [e1 p hp, e0 p hp, hse, hkj] at k2
        have g := wth_gt j hj s hs0 hs7 w (pm_mem hw) (by rw [← hkj]; exact hid.mp c2)
        rw [← k2, ← hkj] at g
        refine ⟨fun q hq hqp => ?_, fun z => ?_, fun z => ?_⟩
        · have := k1 q hq hqp
          rw [e1 q hq, e0 q hq, ← h.gcr.2.2.2.1 q hq] at this
          exact this
        · rw [if_pos z] at g; exact g
        · rw [if_neg (by rw [z]; decide)] at g; exact g
    · left
      refine ⟨?_, ?_, ?_, Or.inr (he.mp ?_)⟩
      · unfold lcS; rw [if_neg (by omega), if_neg c2]
      · unfold lcT; rw [if_neg (by omega), if_neg c2, lrnT_no c2]
      · unfold lcV; rw [if_neg (by omega), if_neg c2]
      · by_cases z : kp S T p = w * 12
        · exact z
        · exact absurd (hid.mpr z) c2
  · left
    refine ⟨?_, ?_, ?_, Or.inl (by omega)⟩
    · unfold lcS; rw [if_pos (by omega)]
    · unfold lcT; rw [if_pos (by omega)]
    · unfold lcV; rw [if_pos (by omega)]
theorem gk_circle (h : GK S T nl np) {p : Nat} {w : Int32} (hp : p < 100) (hw : w = 1 ∨ w = -1) : ∃ nl' np', GK (lcS S T nl p w) (lcT S T nl np p w) nl' np' := by
  rcases h.gcirc hp hw with ⟨e1, e2, -, -⟩ | ⟨-, -, T', np', e1, e2, -, -, hk, -⟩
  · rw [e1, e2]; exact ⟨nl, np, gk_refuse h⟩
  · rw [e1, e2]; exact ⟨_, _, hk⟩
/-! the tale -/
def tlN (f : Nat → Int64) (h : Int64) : Nat → Int64
  | 0 => h
  | n + 1 => 31 * tlN f h n + f n
def tpN (f k s : Nat → Int32) (h : Int64) : Nat → Int64
  | 0 => h
  | n + 1 => 31 * (31 * (31 * tpN f k s h n + Int32.toInt64 (f n)) + Int32.toInt64 (k n)) + Int32.toInt64 (s n)
theorem tlN_cong {f k : Nat → Int64} {h h' : Int64} (e : h = h') : ∀ {n : Nat}, (∀ j, j < n → f j = k j) → tlN f h n = tlN k h' n
  | 0, _ => e
  | n + 1, z => by rw [tlN, tlN, tlN_cong e (fun j hj => z j (by omega)), z n (by omega)]
theorem tpN_cong {f k s f' k' s' : Nat → Int32} {h h' : Int64} (e : h = h') : ∀ {n : Nat}, (∀ j, j < n → f j = f' j ∧ k j = k' j ∧ s j = s' j) → tpN f k s h n = tpN f' k' s' h' n
  | 0, _ => e
  | n + 1, z => by
    obtain ⟨a, b, c⟩ := z n (by omega)
    rw [tpN, tpN, tpN_cong e (fun j hj => z j (by omega)), a, b, c]
def tlC (S T : Nat → Nat → Int32) (nl np : Nat) : Int64 := tlN (fun y => Int32.toInt64 (ocV S T nl np 0 y)) 13 6
def tlP (S T : Nat → Nat → Int32) (nl np : Nat) : Int64 := tpN (fun p => kp S T p + 100) (fun p => T 2 p + 100) (T 3) (tlC S T nl np) 100
def tlL (S T : Nat → Nat → Int32) (nl np : Nat) : Int64 := tlN (fun k => Int32.toInt64 (olV S nl (k / 4) (k % 4))) (tlP S T nl np) 40
def tlV (S T : Nat → Nat → Int32) (nl np : Nat) : Int64 := tlN (fun k => Int32.toInt64 (oeV S T (k / 4) (k % 4))) (tlL S T nl np) (4 * nl)
/-- the same but for how often all was gone through again -/
def SmS (S S' : Nat → Nat → Int32) : Prop := (∀ r, r ≠ 0 → S' r = S r) ∧ ∀ j, j ≠ 11 → S' 0 j = S 0 j
theorem SmS.rf (S : Nat → Nat → Int32) : SmS S S := ⟨fun _ _ => rfl, fun _ _ => rfl⟩
theorem SmS.tr {S S' S'' : Nat → Nat → Int32} (h : SmS S S') (h' : SmS S' S'') : SmS S S'' := ⟨fun r z => (h'.1 r z).trans (h.1 r z), fun r z => (h'.2 r z).trans (h.2 r z)⟩
theorem SmS.again (S : Nat → Nat → Int32) (x : Int32) : SmS S (rw_ S 0 (upd (S 0) 11 x)) := ⟨fun r z => rw_n _ _ z, fun j z => by rw [rw_s, upd_n _ _ z]⟩
theorem tlV_sm {S' T' : Nat → Nat → Int32} {np' : Nat} (h : GK S T nl np) (h' : GK S' T' nl np') (hs : SmS S S') : tlV S' T' nl np' = tlV S T nl np := by
  have hnl := h.gnl
  have e1 := hs.1 1 (by omega)
  have e2 := hs.1 2 (by omega)
  have e3 := hs.1 3 (by omega)
  have e4 := hs.1 4 (by omega)
  have e5 := hs.1 5 (by omega)
  have e6 := hs.1 6 (by omega)
  have e7 := hs.1 7 (by omega)
  have es : sh S' = sh S := by
    funext p
    unfold sh
    rw [e2, e3]
  have el : lsS S' = lsS S := by
    funext i
    unfold lsS
    rw [e6, e7]
  have eA : ∀ n, LA S' (lsS S') n = LA S (lsS S) n := fun n => by
    rw [el]
    show lrA (sh S') (S' 5 0) (S' 5 1) (S' 4) (lsS S) n = lrA (sh S) (S 5 0) (S 5 1) (S 4) (lsS S) n
    rw [es, e5, e4]
  have hc := h.gcr
  have hc' := h'.gcr
  rw [eA] at hc'
  have t1 : ∀ x, x < 16 → T' 1 x = T 1 x := fun x hx => (hc'.1 x hx).trans (hc.1 x hx).symm
  have t2 : ∀ p, p < 100 → T' 2 p = T 2 p := fun p hp => (hc'.2.1 p hp).trans (hc.2.1 p hp).symm
  have t3 : ∀ p, p < 100 → T' 3 p = T 3 p := fun p hp => (hc'.2.2.1 p hp).trans (hc.2.2.1 p hp).symm
  have t5 : ∀ p, p < 100 → T' 5 p = T 5 p := fun p hp => (hc'.2.2.2.1 p hp).trans (hc.2.2.2.1 p hp).symm
  have t7 : ∀ j, j < nl → T' 7 j = T 7 j := fun j hj => by
    rw [h'.2.2.1.2.2 j hj, h.2.2.1.2.2 j hj, eA, el, es]
  have enp : np' = np := by
    rw [← h'.np_c, ← h.np_c]
    exact cn_cong (fun p hp => by rw [t5 p hp])
  have ek : ∀ p, p < 100 → kp S' T' p = kp S T p := fun p hp => by
    unfold kp
    rw [es, t1 _ (sh_lt h.gsh hp), t2 p hp]
  subst enp
  unfold tlV tlL tlP tlC
  refine tlN_cong (tlN_cong (tpN_cong (tlN_cong rfl (fun y hy => ?_)) (fun p hp => ⟨by rw [ek p hp], by rw [t2 p hp], t3 p hp⟩)) (fun k hk => ?_)) (fun k hk => ?_)
  · refine congrArg Int32.toInt64 ?_
    rcases (show y = 0 ∨ y = 1 ∨ y = 2 ∨ y = 3 ∨ y = 4 ∨ y = 5 by omega) with rfl | rfl | rfl | rfl | rfl | rfl
    · rfl
    · show isum (T' 7) nl = isum (T 7) nl
      exact isum_cong t7
    · rfl
    · show nI (cn (fun i => !decide (T' 1 i = S' 4 i)) 16) = nI (cn (fun i => !decide (T 1 i = S 4 i)) 16)
      rw [e4, cn_cong (fun i hi => by rw [t1 i hi])]
    · exact hs.2 9 (by omega)
    · exact hs.2 10 (by omega)
  · refine congrArg Int32.toInt64 ?_
    have hl : ∀ i, lwl S' (k / 4) i = lwl S (k / 4) i := by
      intro i
      induction i with
      | zero => rfl
      | succ i ih => rw [lwl, lwl, ih, e6]
    unfold olV
    rw [e1, e2, e3, hl]
  · refine congrArg Int32.toInt64 ?_
    unfold oeV
    rw [e6, e7, t7 _ (by omega)]
end GKC
