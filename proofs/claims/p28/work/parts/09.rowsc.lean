/-! OWN ROWS, third: whole rows copied, filled; Math.max, Math.min; counts -/
theorem qMax : Cond.code Lib.Math.max.name Lib.Math.max.code 2 (some .int) ∈ G := inG 344 (by decide +kernel) rfl
theorem qMin : Cond.code Lib.Math.min.name Lib.Math.min.code 2 (some .int) ∈ G := inG 355 (by decide +kernel) rfl
def imax (x y : Int32) : Int32 := if x < y then y else x
def imin (x y : Int32) : Int32 := if y < x then y else x
theorem arrV_congr (cI : ClassId) (n : Nat) {f f' : Nat → Value} (h : ∀ j, j < n → f j = f' j) : arrV cI n f = arrV cI n f' := by
  unfold arrV
  have : (fun j : Fin n => f j.val) = fun j : Fin n => f' j.val := funext fun j => h j.val j.isLt
  rw [this]
theorem PP_row {A : Nat → Prop} {g : GG} {ws : va_W} {H : Heap} {q1 a n : Nat} {c1 : ClassId} {f f' : Nat → Int32} (hP : PP g ws H) (hD : va_D A ws) (he : ws[q1]? = some (a, .inl (c1, n, .inl f))) (h : ∀ j, j < n → f j = f' j) : PP g (ws.set q1 (a, .inl (c1, n, .inl f'))) H := by
  have e : vp_cell c1 (n, .inl f') = vp_cell c1 (n, .inl f) := by
    rw [vp_cell_i, vp_cell_i]
    exact (arrV_congr c1 n (f := fun j => .int (f j)) (f' := fun j => .int (f' j)) (fun j hj => by simp only [h j hj])).symm
  have h1 : H[a]? = some (vp_cell c1 (n, .inl f)) := hP q1 _ he
  exact hP.set hD he (show H[a]? = some (vp_cell c1 (n, .inl f')) by rw [e]; exact h1) (fun _ _ => rfl)
theorem set_set {α : Type} : ∀ (l : List α) (k : Nat) (x y : α), (l.set k x).set k y = l.set k y
  | [], _, _, _ => rfl
  | _ :: _, 0, _, _ => rfl
  | a :: l, k + 1, x, y => by simp
/-- how many of the first n places bear P -/
def cn (P : Nat → Bool) : Nat → Nat
  | 0 => 0
  | n + 1 => cn P n + if P n then 1 else 0
theorem cn_le (P : Nat → Bool) : ∀ n, cn P n ≤ n
  | 0 => Nat.le_refl _
  | n + 1 => by
    have := cn_le P n
    unfold cn
    split <;> omega
theorem cn_cong {P P' : Nat → Bool} : ∀ {n : Nat}, (∀ k, k < n → P k = P' k) → cn P n = cn P' n
  | 0, _ => rfl
  | n + 1, h => by rw [cn, cn, cn_cong (fun k hk => h k (Nat.lt_succ_of_lt hk)), h n (Nat.lt_succ_self n)]
section OWNC
variable {p : Program} {l : Launch} {e : Env} {R : Room} {s : State} {m : MethodId} {args : Array Value} {below : List Frame} {meth : Method} {c : Code} {H : Heap} {locs : List Loc} {cells slots : Nat} {Q : State → Prop}
variable {cc : ByteArray} {nL pc : Nat} {own : String} {g : GG} {ws : va_W} {ls : Array Slot} {rest st0 : List Value} {A : Nat → Prop} {H0 : Heap}
/-- a whole row copied over another of its length -/
theorem cpF {index a a0 n : Nat} {k : Int32} {f f1 : Nat → Int32} (S : CallFix p m c cc nL s args G own) (hK : KK g s) (hP : PP g ws H) (hD : va_D A ws) (hS : va_S A H0 H locs) (hl : Cond.methodLink own index arraycopyName ∈ G) (q0 q1 : Nat)
    (ha0 : ws[q0]? = some (a0, .inl (g.2 0, n, .inl f))) (ha1 : ws[q1]? = some (a, .inl (g.2 0, n, .inl f1))) (hk : k = nI n) (hn : n < 2 ^ 31) (hR : 1 ≤ R.frames ∧ (rest.map fun v => v.category).sum + 18 ≤ R.locals) (hsz : ls.size = nL) (d : decode cc pc = .ok (.invokestatic index, 3))
    (kk : ∀ (H1 : Heap) (locs1 : List Loc), PP g (ws.set q1 (a, .inl (g.2 0, n, .inl f))) H1 → va_D A (ws.set q1 (a, .inl (g.2 0, n, .inl f))) → va_S A H0 H1 locs1 → W p l e R s m args below meth c H1 locs1 cells slots Q (F0 m (pc + 3) ls rest)) :
    W p l e R s m args below meth c H locs cells slots Q (F0 m pc ls (.int k :: .int 0 :: .ref a :: .int 0 :: .ref a0 :: rest)) := by
  subst hk
  obtain ⟨hx, hb, hml, hown, hts⟩ := S
  have h0 : (0 : Int32).toNatClampNeg = 0 := rfl
  have hc : (nI n).toNatClampNeg = n := nI_clamp hn
  refine va_copyi (D := g.1) (tys := tyz g) (n0 := n) (n1 := n) hx hb (hml.trans hsz.symm) hown (hts _ hl) (hts _ q400) (hts _ q399) (hts _ q20) hK hP hD hS q0 q1 0 0 ha0 ha1 rfl rfl rfl (by decide) (by decide) (nI_pos hn) (by rw [h0, hc]; omega) (by rw [h0, hc]; omega) (fun _ _ => rfl) hR.1 hR.2 d (fun H1 locs1 hP1 hD1 hS1 => ?_)
  rw [h0, hc] at hP1 hD1
  have hlen : q1 < ws.length := (List.getElem?_eq_some_iff.mp ha1).1
  have hP2 := PP_row (q1 := q1) (f' := f) hP1 hD1 (by rw [List.getElem?_set_self hlen]) (fun j hj => by unfold va_cpy; rw [if_pos ⟨Nat.zero_le _, by omega⟩]; congr 1; omega)
  have hD2 := hD1.set (p := q1) (a := a) (e := .inl (g.2 0, n, .inl f)) (e0 := .inl (g.2 0, n, .inl (va_cpy f f1 0 0 n))) (by rw [List.getElem?_set_self hlen])
  rw [set_set] at hP2 hD2
  exact kk H1 locs1 hP2 hD2 hS1
theorem mxx {index : Nat} {x y : Int32} (S : CallFix p m c cc nL s args G own) (hl : Cond.methodLink own index Lib.Math.max.name ∈ G) (hR : 1 ≤ R.frames ∧ (rest.map fun v => v.category).sum + 13 ≤ R.locals) (hf : cells ≤ R.cells ∧ slots ≤ R.slots) (hsz : ls.size = nL) (d : decode cc pc = .ok (.invokestatic index, 3))
    (kk : W p l e R s m args below meth c H locs cells slots Q (F0 m (pc + 3) ls (.int (imax x y) :: rest))) : W p l e R s m args below meth c H locs cells slots Q (F0 m pc ls (.int y :: .int x :: rest)) :=
  va_mmax S.1 S.2.1 (S.2.2.1.trans hsz.symm) S.2.2.2.1 (S.2.2.2.2 _ hl) (S.2.2.2.2 _ q343) (S.2.2.2.2 _ q22) (S.2.2.2.2 _ qMax) hR.1 hR.2 hf.1 hf.2 d kk
theorem mnn {index : Nat} {x y : Int32} (S : CallFix p m c cc nL s args G own) (hl : Cond.methodLink own index Lib.Math.min.name ∈ G) (hR : 1 ≤ R.frames ∧ (rest.map fun v => v.category).sum + 13 ≤ R.locals) (hf : cells ≤ R.cells ∧ slots ≤ R.slots) (hsz : ls.size = nL) (d : decode cc pc = .ok (.invokestatic index, 3))
    (kk : W p l e R s m args below meth c H locs cells slots Q (F0 m (pc + 3) ls (.int (imin x y) :: rest))) : W p l e R s m args below meth c H locs cells slots Q (F0 m pc ls (.int y :: .int x :: rest)) :=
  va_mmin S.1 S.2.1 (S.2.2.1.trans hsz.symm) S.2.2.2.1 (S.2.2.2.2 _ hl) (S.2.2.2.2 _ q354) (S.2.2.2.2 _ q22) (S.2.2.2.2 _ qMin) hR.1 hR.2 hf.1 hf.2 d kk
theorem zstN {a n j : Nat} {cA : ClassId} {f : Nat → Int32} {i x : Int32} (hx : p.tables.exec = Jvm.exec) (hb : c.code = cc) (hK : KK g s) (hP : PP g ws H) (hD : va_D A ws) (hS : va_S A H0 H locs) (q0 t0 : Nat) (ha : ws[q0]? = some (a, .inl (cA, n, .inl f))) (ht : (tyz g)[t0]? = some (cA, .boolean)) (hi : i = nI j) (hj : j < n) (hn : n < 2 ^ 31) (h01 : x = 0 ∨ x = 1) (d : decode cc pc = .ok (.bastore, 1))
    (kk : ∀ (H1 : Heap) (locs1 : List Loc), PP g (ws.set q0 (a, .inl (cA, n, .inl (upd f j x)))) H1 → va_D A (ws.set q0 (a, .inl (cA, n, .inl (upd f j x)))) → va_S A H0 H1 locs1 → W p l e R s m args below meth c H1 locs1 cells slots Q (F0 m (pc + 1) ls rest)) :
    W p l e R s m args below meth c H locs cells slots Q (F0 m pc ls (.int x :: .int i :: .ref a :: rest)) := by
  subst hi
  refine va_zast hx hb hK hP hD hS q0 t0 ha ht (vp_in_nI hj hn) d ?_
  rw [nI_clamp (by omega), show vp_nar .boolean x = x by rcases h01 with rfl | rfl <;> rfl]
  exact kk
end OWNC
