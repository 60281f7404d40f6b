/-! OWN ROWS: a large world behind a call, named once -/
theorem wput_len : ∀ (is : List Nat) (xs ws : va_W), (wput ws is xs).length = ws.length
  | [], xs, ws => by cases xs <;> rfl
  | i :: is, [], ws => rfl
  | i :: is, x :: xs, ws => by
    show (wput (ws.set i x) is xs).length = _
    rw [wput_len is xs (ws.set i x), List.length_set]
theorem wput_eq {ws ws' w1 : va_W} {isC isR : List Nat} (hl : isC.length = w1.length) (hlen : ws.length = ws'.length) (h1 : isC.map (fun i => ws'[i]?) = w1.map some) (h2 : isR.map (fun i => ws[i]?) = isR.map (fun i => ws'[i]?)) (h3 : (List.range ws'.length).all (fun k => decide (k ∈ isC) || decide (k ∈ isR)) = true) : wput ws isC w1 = ws' := by
  refine List.ext_getElem? fun k => ?_
  rcases Nat.lt_or_ge k ws'.length with z | z
  · have hz : k < (wput ws isC w1).length := by rw [wput_len, hlen]; exact z
    obtain ⟨q, hq⟩ : ∃ q, (wput ws isC w1)[k]? = some q := ⟨_, List.getElem?_eq_getElem hz⟩
    rw [hq]
    rcases wput_get isC w1 ws hl k q hq with ⟨j, g1, g2⟩ | ⟨g1, g2⟩
    · have h4 : (isC.map (fun i => ws'[i]?))[j]? = some (ws'[k]?) := by rw [List.getElem?_map, g1]; rfl
      rw [h1, List.getElem?_map, g2] at h4
      exact Option.some.inj h4
    · have h5 := List.all_eq_true.mp h3 k (List.mem_range.mpr z)
      simp only [Bool.or_eq_true, decide_eq_true_eq] at h5
      rcases h5 with h5 | h5
      · exact absurd h5 g1
      · have h6 := List.map_inj_left.mp h2 k h5
        rw [← g2]
        exact h6
  · rw [List.getElem?_eq_none (by rw [wput_len, hlen]; exact z), List.getElem?_eq_none z]
theorem PPD_put {A : Nat → Prop} {g : GG} {H : Heap} {ws ws' w1 : va_W} {isC : List Nat} (isR : List Nat) (wr : va_W) (n : Nat) (hP : PP g (wput ws isC w1) H) (hD : va_D A (wput ws isC w1)) (hl : isC.length = w1.length) (hlen : ws.length = ws'.length) (h1 : isC.map (fun i => ws'[i]?) = w1.map some) (h2 : isR.map (fun i => ws[i]?) = wr.map some) (h2' : isR.map (fun i => ws'[i]?) = wr.map some) (hn : ws'.length = n) (h3 : (List.range n).all (fun k => decide (k ∈ isC) || decide (k ∈ isR)) = true) : PP g ws' H ∧ va_D A ws' := by
  subst hn
  rw [wput_eq hl hlen h1 (h2.trans h2'.symm) h3] at hP hD
  exact ⟨hP, hD⟩
