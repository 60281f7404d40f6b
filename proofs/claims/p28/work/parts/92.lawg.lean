/-! the law: an act -/
/-- the first two settings are as they may be -/
def FS (S : Nat → Nat → Int32) : Prop := fitb 0 (S 5 0) = true ∧ fitb 1 (S 5 1) = true
/-- what holds of the object between the acts -/
def IV (g : GG) (x0 : Nat) (H : Heap) : Prop := ∃ (S T : Nat → Nat → Int32) (nl np n : Nat) (cs F : Nat → Int32) (Y Z : Nat → Nat → Nat → Int32), GK S T nl np ∧ FS S ∧ n ≤ 60 ∧ OB g x0 S T n cs F Y Z H
theorem IV_mk {g : GG} {x0 : Nat} {H : Heap} {S T : Nat → Nat → Int32} {nl np n : Nat} {cs F : Nat → Int32} {Y Z : Nat → Nat → Nat → Int32} (h1 : GK S T nl np) (h2 : FS S) (h3 : n ≤ 60) (h4 : OB g x0 S T n cs F Y Z H) : IV g x0 H := ⟨S, T, nl, np, n, cs, F, Y, Z, h1, h2, h3, h4⟩
theorem FS.same {S S' : Nat → Nat → Int32} (h : FS S) (e : S' 5 = S 5) : FS S' := by unfold FS; rw [e]; exact h
theorem lcS_5 (S T : Nat → Nat → Int32) (nl p : Nat) (w : Int32) : lcS S T nl p w 5 = S 5 := by
  unfold lcS
  split
  · rfl
  · split <;> rfl
theorem lgc (v : Int64) : lg_cmp v v = 0 := by
  unfold lg_cmp
  simp
abbrev agS (S : Nat → Nat → Int32) : Nat → Nat → Int32 := rw_ S 0 (upd (S 0) 11 (S 0 11 + 1))
abbrev shS1 (S : Nat → Nat → Int32) (k u z : Nat) : Nat → Nat → Int32 := rw_ (rw_ S 2 (upd (S 2) k (nI u))) 3 (upd (S 3) k (nI z))
abbrev baS1 (S : Nat → Nat → Int32) (x : Nat) (y : Int32) : Nat → Nat → Int32 := rw_ S 4 (upd (S 4) x y)
theorem rw_self (S : Nat → Nat → Int32) (k : Nat) : rw_ S k (S k) = S := by
  funext r
  by_cases e : r = k
  · subst e; rw [rw_s]
  · rw [rw_n _ _ e]
theorem sh_same {S : Nat → Nat → Int32} {k a b : Nat} (h2 : S 2 k = nI a) (h3 : S 3 k = nI b) : shS1 S k a b = S := by
  show rw_ (rw_ S 2 (upd (S 2) k (nI a))) 3 (upd (S 3) k (nI b)) = S
  rw [← h2, ← h3, upd_self, upd_self, rw_self, rw_self]
theorem ba_same (S : Nat → Nat → Int32) (x : Nat) : baS1 S x (S 4 x + 100 - 100) = S := by
  show rw_ S 4 (upd (S 4) x (S 4 x + 100 - 100)) = S
  rw [show S 4 x + 100 - 100 = S 4 x by grind, upd_self, rw_self]
theorem st_same (S T : Nat → Nat → Int32) (nl : Nat) {k : Nat} (hk : k < 2) : stS S k (S 5 k) = rw_ S 0 (upd (S 0) 11 (S 0 11 + 1)) ∧ stT S T nl k (S 5 k) = laT S T (-1) nl := by
  unfold stS stT
  rw [if_pos hk, if_pos hk, upd_self, rw_self]
  exact ⟨rfl, rfl⟩
theorem stS_5 (S : Nat → Nat → Int32) (k : Nat) (y : Int32) : stS S k y 5 = upd (S 5) k y := by
  unfold stS
  split <;> rfl
theorem stS_5k (S : Nat → Nat → Int32) (k : Nat) (y : Int32) : stS S k y 5 k = y := by rw [stS_5, upd_s]
theorem FS.set {S : Nat → Nat → Int32} {k : Nat} {y : Int32} (h : FS S) (hf : fitb k y = true) : FS (stS S k y) := by
  unfold FS
  rw [stS_5]
  constructor
  · by_cases e : k = 0
    · subst e; rw [upd_s]; exact hf
    · rw [upd_n _ _ (fun z => e z.symm)]; exact h.1
  · by_cases e : k = 1
    · subst e; rw [upd_s]; exact hf
    · rw [upd_n _ _ (fun z => e z.symm)]; exact h.2
theorem sh_had {S : Nat → Nat → Int32} {k a b : Nat} (h2 : S 2 k = nI a) (h3 : S 3 k = nI b) : 4 * S 2 k + S 3 k = nI (4 * a + b) := by
  rw [h2, h3, show (4 : Int32) = nI 4 from rfl, pk_mul, nI_add]
theorem bs_b : ∀ j, j < 25 → (¬ nI j - 12 < (-12)) ∧ ¬ (12 : Int32) < nI j - 12 := by decide +kernel
theorem bk_y {a : Int32} (h : Bk a) : (¬ a + 100 - 100 < (-12)) ∧ ¬ (12 : Int32) < a + 100 - 100 := by
  obtain ⟨j, hj, rfl⟩ := h.fin
  rw [show nI j - 12 + 100 - 100 = nI j - 12 by grind]
  exact bs_b j hj
theorem fit_0 {k j : Nat} (h : k = 0) (hj : j < 6) : fitb k (nI (1 + j)) = true := by subst h; exact (by decide +kernel : ∀ j, j < 6 → fitb 0 (nI (1 + j)) = true) j hj
theorem fit_1 {k j : Nat} (h : k = 1) (hj : j < 4) : fitb k (nI (2 + j)) = true := by subst h; exact (by decide +kernel : ∀ j, j < 4 → fitb 1 (nI (2 + j)) = true) j hj
theorem fit_2 {k j : Nat} (h : k = 2) (hj : j < 20) : fitb k (nI (1 + j)) = true := by subst h; exact (by decide +kernel : ∀ j, j < 20 → fitb 2 (nI (1 + j)) = true) j hj
theorem fit_3 {k j : Nat} (h : k = 3) (hj : j < 561) : fitb k (nI (40 + j)) = true := by subst h; exact (by decide +kernel : ∀ j, j < 561 → fitb 3 (nI (40 + j)) = true) j hj
/-- gone through again, nothing else changed -/
theorem gk_ag {S T : Nat → Nat → Int32} {nl np : Nat} (h : GK S T nl np) (R : Nat → Nat → Int32) : ∃ S1 T1 np1, S1 = rw_ S 0 (upd (S 0) 11 (S 0 11 + 1)) ∧ T1 = laT S R (-1) nl ∧ GK S1 T1 nl np1 ∧ SmS S S1 ∧ S1 0 11 = S 0 11 + 1 := by
  obtain ⟨np1, h1⟩ := gk_again (R := R) h.1 h.2.1 h.2.2.2
  exact ⟨_, _, np1, rfl, rfl, h1, SmS.again _ _, by show upd (S 0) 11 (S 0 11 + 1) 11 = _; rw [upd_s]⟩

set_option maxHeartbeats 4000000 in
set_option maxRecDepth 100000 in
theorem m_L_act (l : Launch) (g : GG) (x0 : Nat) (S T : Nat → Nat → Int32) (n : Nat) (cs F : Nat → Int32) (Y Z : Nat → Nat → Nat → Int32) (nl np : Nat) (hG : GK S T nl np) (hF : FS S) (hn : n ≤ 60) (v w : Int32) : MO l g yL_act cL_act 10 (some .boolean) ({ frames := 8, cells := 4, slots := 200, locals := 191 } : Room) [.ref x0, .int v, .int w] (nwF x0) (OB g x0 S T n cs F Y Z) (IV g x0) (some (.int 1)) := by
  refine MO.of rfl (Nat.le_of_ble_eq_true rfl) ?_
  intro zp ze zs zm zbelow zmeth zc ls zS hr hlk hK hO hX hS hl
  obtain ⟨hx, hb, hml, hown, hts⟩ := id zS
  have hl : lv_has ls 10 [(0, .ref x0), (1, .int v), (2, .int w)] := hl
  have hP : PP g [] zs.heap := PP_nil
  have h0 : x0 + 164 ≤ zs.heap.size := hO.1
  have hD : va_D (nwS zs) [] := va_D_nil
  have hnl := hG.gnl
  have hnp := hG.gnp
  refine lv_iload_n hx hb dL_act_0 rfl (lv_at hl 2 rfl) ?_
  refine lv_bipush (v := 10) hx hb dL_act_1 (by decide) ?_
  refine rdS (rest := []) zS hK hP (m_L_low l g w 10 (by omega) (by omega)) cw_L_low q489 [] rfl ⟨Nat.le_of_ble_eq_true rfl, Nat.le_of_ble_eq_true rfl, rfl, rfl⟩ rfl rfl (Nat.le_of_ble_eq_true rfl) hl.1 dL_act_3 ⟨Nat.le_of_ble_eq_true rfl, Nat.le_of_ble_eq_true rfl⟩ ?_
  obtain ⟨zu3, hzu3, ezu3⟩ : ∃ u, u < 10 ∧ lowN w 10 = u := ⟨_, lowN_lt _ (by omega), rfl⟩
  refine topE (congrArg nI ezu3) ?_
  refine lv_istore_n (lv' := [(3, .int (nI zu3)), (0, .ref x0), (1, .int v), (2, .int w)]) hx hb dL_act_6 rfl hl (by decide) rfl (fun ls hl => ?_)
  refine lv_iload_n hx hb dL_act_7 rfl (lv_at hl 2 rfl) ?_
  refine lv_bipush (v := 18) hx hb dL_act_8 (by decide) ?_
  refine rdS (rest := []) zS hK hP (m_L_low l g v 18 (by omega) (by omega)) cw_L_low q489 [] rfl ⟨Nat.le_of_ble_eq_true rfl, Nat.le_of_ble_eq_true rfl, rfl, rfl⟩ rfl rfl (Nat.le_of_ble_eq_true rfl) hl.1 dL_act_10 ⟨Nat.le_of_ble_eq_true rfl, Nat.le_of_ble_eq_true rfl⟩ ?_
  obtain ⟨zu10, hzu10, ezu10⟩ : ∃ u, u < 18 ∧ lowN v 18 = u := ⟨_, lowN_lt _ (by omega), rfl⟩
  refine topE (congrArg nI ezu10) ?_
  rcases (show zu10 = 0 ∨ zu10 = 1 ∨ zu10 = 2 ∨ zu10 = 3 ∨ zu10 = 4 ∨ zu10 = 5 ∨ zu10 = 6 ∨ zu10 = 7 ∨ 8 ≤ zu10 from by omega) with rfl | rfl | rfl | rfl | rfl | rfl | rfl | rfl | hz8
  · skip
    refine lv_tableIn (tgt := 60) hx hb dL_act_13 (by decide) (by decide) rfl (by decide) ?_
    refine lv_aload_n hx hb dL_act_60 rfl (lv_at hl 1 rfl) ?_
    refine lv_iload_n hx hb dL_act_61 rfl (lv_at hl 0 rfl) ?_
    refine lv_iconst (v := 0) hx hb dL_act_62 (by decide) ?_
    refine obV0 (x0 := x0) (rest := []) zS hK hX hO hO.recv hP hW_nil hS fp_nw (ob_letterOf l g x0 S T n cs F Y Z nl hG.gls zu3 (by omega) 0 (by decide)) cw_X4_letterOf q420 rfl ⟨Nat.le_of_ble_eq_true rfl, Nat.le_of_ble_eq_true rfl, rfl, rfl⟩ rfl rfl (Nat.le_of_ble_eq_true rfl) hl.1 dL_act_63 ⟨Nat.le_of_ble_eq_true rfl, Nat.le_of_ble_eq_true rfl⟩ (fun H locs hO hP hS => ?_)
    refine topE (y := S 1 zu3) (rfl) ?_
    refine lv_istore (lv' := [(4, .int (S 1 zu3)), (3, .int (nI zu3)), (0, .ref x0), (1, .int v), (2, .int w)]) hx hb dL_act_66 hl (by decide) rfl (fun ls hl => ?_)
    refine lv_aload_n hx hb dL_act_68 rfl (lv_at hl 2 rfl) ?_
    refine lv_iload_n hx hb dL_act_69 rfl (lv_at hl 1 rfl) ?_
    refine lv_bipush (v := 13) hx hb dL_act_70 (by decide) ?_
    refine lv_iload_n hx hb dL_act_72 rfl (lv_at hl 4 rfl) ?_
    refine lv_iconst (v := 4) hx hb dL_act_73 (by decide) ?_
    refine lv_ishr hx hb dL_act_74 ?_
    refine lv_bipush (v := 18) hx hb dL_act_75 (by decide) ?_
    refine rdS (rest := [.int 13, .int (nI zu3), .ref x0]) zS hK hP (m_L_low l g (w >>> (4 &&& 31)) 18 (by omega) (by omega)) cw_L_low q489 [] rfl ⟨Nat.le_of_ble_eq_true rfl, Nat.le_of_ble_eq_true rfl, rfl, rfl⟩ rfl rfl (Nat.le_of_ble_eq_true rfl) hl.1 dL_act_77 ⟨Nat.le_of_ble_eq_true rfl, Nat.le_of_ble_eq_true rfl⟩ ?_
    obtain ⟨zu77, hzu77, ezu77⟩ : ∃ u, u < 18 ∧ lowN (w >>> (4 &&& 31)) 18 = u := ⟨_, lowN_lt _ (by omega), rfl⟩
    refine topE (congrArg nI ezu77) ?_
    refine lv_iadd hx hb dL_act_80 ?_
    refine topE (nI_add 13 zu77) ?_
    refine obV0 (x0 := x0) (rest := []) zS hK hX hO hO.recv hP hW_nil hS fp_nw (ob_width l g x0 S T n cs F Y Z zu3 (by omega) (nI (13 + zu77)) (nI_nlt (a := 13 + zu77) (b := 13) (by omega) (by omega)) (nI_nlt (a := 30) (b := 13 + zu77) (by omega) (by omega))) cw_X4_width q521 rfl ⟨Nat.le_of_ble_eq_true rfl, Nat.le_of_ble_eq_true rfl, rfl, rfl⟩ rfl rfl (Nat.le_of_ble_eq_true rfl) hl.1 dL_act_81 ⟨Nat.le_of_ble_eq_true rfl, Nat.le_of_ble_eq_true rfl⟩ (fun H locs hO hP hS => ?_)
    have hG2 := gk_width hG hzu3 (nI_nlt (a := 13 + zu77) (b := 13) (by omega) (by omega)) (nI_nlt (a := 30) (b := 13 + zu77) (by omega) (by omega))
    refine lv_iload hx hb dL_act_84 (lv_at hl 0 rfl) ?_
    refine lv_icmp_ne (tgt := 113) hx hb dL_act_86 (by decide) (fun c_86 => ?_) (fun c_86 => ?_)
    · skip
      exact absurd rfl c_86
    · skip
      refine lv_aload_n hx hb dL_act_89 rfl (lv_at hl 2 rfl) ?_
      refine lv_iload_n hx hb dL_act_90 rfl (lv_at hl 1 rfl) ?_
      refine lv_iconst (v := 0) hx hb dL_act_91 (by decide) ?_
      refine obV0 (x0 := x0) (rest := []) zS hK hX hO hO.recv hP hW_nil hS fp_nw (ob_letterOf l g x0 (rw_ S 1 (upd (S 1) zu3 (nI (13 + zu77)))) T n cs F Y Z nl hG2.gls zu3 (by omega) 0 (by decide)) cw_X4_letterOf q420 rfl ⟨Nat.le_of_ble_eq_true rfl, Nat.le_of_ble_eq_true rfl, rfl, rfl⟩ rfl rfl (Nat.le_of_ble_eq_true rfl) hl.1 dL_act_92 ⟨Nat.le_of_ble_eq_true rfl, Nat.le_of_ble_eq_true rfl⟩ (fun H locs hO hP hS => ?_)
      refine topE (y := nI (13 + zu77)) (by show upd (S 1) zu3 (nI (13 + zu77)) zu3 = _; rw [upd_s]) ?_
      refine lv_bipush (v := 13) hx hb dL_act_95 (by decide) ?_
      refine lv_iload_n hx hb dL_act_97 rfl (lv_at hl 4 rfl) ?_
      refine lv_iconst (v := 4) hx hb dL_act_98 (by decide) ?_
      refine lv_ishr hx hb dL_act_99 ?_
      refine lv_bipush (v := 18) hx hb dL_act_100 (by decide) ?_
      refine rdS (rest := [.int 13, .int (nI (13 + zu77))]) zS hK hP (m_L_low l g (w >>> (4 &&& 31)) 18 (by omega) (by omega)) cw_L_low q489 [] rfl ⟨Nat.le_of_ble_eq_true rfl, Nat.le_of_ble_eq_true rfl, rfl, rfl⟩ rfl rfl (Nat.le_of_ble_eq_true rfl) hl.1 dL_act_102 ⟨Nat.le_of_ble_eq_true rfl, Nat.le_of_ble_eq_true rfl⟩ ?_
      refine topE (congrArg nI ezu77) ?_
      refine lv_iadd hx hb dL_act_105 ?_
      refine topE (nI_add 13 zu77) ?_
      refine lv_icmp_ne (tgt := 113) hx hb dL_act_106 (by decide) (fun c_106 => ?_) (fun c_106 => ?_)
      · skip
        have c_106 : 13 + zu77 ≠ 13 + zu77 := fun z => c_106 ((nI_eq (a := 13 + zu77) (b := 13 + zu77) (by omega) (by omega)).mpr z)
        exact absurd rfl c_106
      · skip
        have c_106 : 13 + zu77 = 13 + zu77 := (nI_eq (a := 13 + zu77) (b := 13 + zu77) (by omega) (by omega)).mp c_106
        refine lv_iconst (v := 1) hx hb dL_act_109 (by decide) ?_
        refine lv_goto (tgt := 114) hx hb dL_act_110 (by decide) ?_
        refine W.widen (k := 4) (n := 200) (Nat.le_of_ble_eq_true rfl) (Nat.le_of_ble_eq_true rfl) ?_
        exact o_z hx hb hr hlk hS dL_act_114 (by decide) (IV_mk hG2 (hF.same rfl) hn hO) (rfl)
  · skip
    refine lv_tableIn (tgt := 115) hx hb dL_act_13 (by decide) (by decide) rfl (by decide) ?_
    refine lv_iconst (v := 4) hx hb dL_act_115 (by decide) ?_
    refine lv_aload_n hx hb dL_act_116 rfl (lv_at hl 1 rfl) ?_
    refine lv_iload_n hx hb dL_act_117 rfl (lv_at hl 0 rfl) ?_
    refine lv_iconst (v := 1) hx hb dL_act_118 (by decide) ?_
    refine obV0 (x0 := x0) (rest := [.int 4]) zS hK hX hO hO.recv hP hW_nil hS fp_nw (ob_letterOf l g x0 S T n cs F Y Z nl hG.gls zu3 (by omega) 1 (by decide)) cw_X4_letterOf q420 rfl ⟨Nat.le_of_ble_eq_true rfl, Nat.le_of_ble_eq_true rfl, rfl, rfl⟩ rfl rfl (Nat.le_of_ble_eq_true rfl) hl.1 dL_act_119 ⟨Nat.le_of_ble_eq_true rfl, Nat.le_of_ble_eq_true rfl⟩ (fun H locs hO hP hS => ?_)
    refine topE (y := nI (nn (S 2 zu3))) ((hG.gsh zu3 (by omega)).1.1) ?_
    refine lv_imul hx hb dL_act_122 ?_
    refine topE (pk_mul 4 (nn (S 2 zu3))) ?_
    refine lv_aload_n hx hb dL_act_123 rfl (lv_at hl 1 rfl) ?_
    refine lv_iload_n hx hb dL_act_124 rfl (lv_at hl 0 rfl) ?_
    refine lv_iconst (v := 2) hx hb dL_act_125 (by decide) ?_
    refine obV0 (x0 := x0) (rest := [.int (nI (4 * (nn (S 2 zu3))))]) zS hK hX hO hO.recv hP hW_nil hS fp_nw (ob_letterOf l g x0 S T n cs F Y Z nl hG.gls zu3 (by omega) 2 (by decide)) cw_X4_letterOf q420 rfl ⟨Nat.le_of_ble_eq_true rfl, Nat.le_of_ble_eq_true rfl, rfl, rfl⟩ rfl rfl (Nat.le_of_ble_eq_true rfl) hl.1 dL_act_126 ⟨Nat.le_of_ble_eq_true rfl, Nat.le_of_ble_eq_true rfl⟩ (fun H locs hO hP hS => ?_)
    refine topE (y := nI (nn (S 3 zu3))) ((hG.gsh zu3 (by omega)).2.1) ?_
    refine lv_iadd hx hb dL_act_129 ?_
    refine topE (nI_add (4 * (nn (S 2 zu3))) (nn (S 3 zu3))) ?_
    refine lv_istore (lv' := [(4, .int (nI ((4 * (nn (S 2 zu3))) + (nn (S 3 zu3))))), (3, .int (nI zu3)), (0, .ref x0), (1, .int v), (2, .int w)]) hx hb dL_act_130 hl (by decide) rfl (fun ls hl => ?_)
    refine lv_aload_n hx hb dL_act_132 rfl (lv_at hl 2 rfl) ?_
    refine lv_iload_n hx hb dL_act_133 rfl (lv_at hl 1 rfl) ?_
    refine lv_iload_n hx hb dL_act_134 rfl (lv_at hl 4 rfl) ?_
    refine lv_iconst (v := 4) hx hb dL_act_135 (by decide) ?_
    refine lv_ishr hx hb dL_act_136 ?_
    refine lv_iconst (v := 4) hx hb dL_act_137 (by decide) ?_
    refine rdS (rest := [.int (nI zu3), .ref x0]) zS hK hP (m_L_low l g (w >>> (4 &&& 31)) 4 (by omega) (by omega)) cw_L_low q489 [] rfl ⟨Nat.le_of_ble_eq_true rfl, Nat.le_of_ble_eq_true rfl, rfl, rfl⟩ rfl rfl (Nat.le_of_ble_eq_true rfl) hl.1 dL_act_138 ⟨Nat.le_of_ble_eq_true rfl, Nat.le_of_ble_eq_true rfl⟩ ?_
    obtain ⟨zu138, hzu138, ezu138⟩ : ∃ u, u < 4 ∧ lowN (w >>> (4 &&& 31)) 4 = u := ⟨_, lowN_lt _ (by omega), rfl⟩
    refine topE (congrArg nI ezu138) ?_
    refine lv_iload_n hx hb dL_act_141 rfl (lv_at hl 4 rfl) ?_
    refine lv_bipush (v := 6) hx hb dL_act_142 (by decide) ?_
    refine lv_ishr hx hb dL_act_144 ?_
    refine lv_iconst (v := 4) hx hb dL_act_145 (by decide) ?_
    refine rdS (rest := [.int (nI zu138), .int (nI zu3), .ref x0]) zS hK hP (m_L_low l g (w >>> (6 &&& 31)) 4 (by omega) (by omega)) cw_L_low q489 [] rfl ⟨Nat.le_of_ble_eq_true rfl, Nat.le_of_ble_eq_true rfl, rfl, rfl⟩ rfl rfl (Nat.le_of_ble_eq_true rfl) hl.1 dL_act_146 ⟨Nat.le_of_ble_eq_true rfl, Nat.le_of_ble_eq_true rfl⟩ ?_
    obtain ⟨zu146, hzu146, ezu146⟩ : ∃ u, u < 4 ∧ lowN (w >>> (6 &&& 31)) 4 = u := ⟨_, lowN_lt _ (by omega), rfl⟩
    refine topE (congrArg nI ezu146) ?_
    refine obV0 (x0 := x0) (rest := []) zS hK hX hO hO.recv hP hW_nil hS fp_nw (ob_shape l g x0 S T n cs F Y Z hG.gsh nl hG.gls zu3 (by omega) zu138 (by omega) zu146 (by omega)) cw_X4_shape q538 rfl ⟨Nat.le_of_ble_eq_true rfl, Nat.le_of_ble_eq_true rfl, rfl, rfl⟩ rfl rfl (Nat.le_of_ble_eq_true rfl) hl.1 dL_act_149 ⟨Nat.le_of_ble_eq_true rfl, Nat.le_of_ble_eq_true rfl⟩ (fun H locs hO hP hS => ?_)
    refine topE (y := nI ((4 * nn (S 2 zu3)) + nn (S 3 zu3))) (sh_had (hG.gsh zu3 hzu3).1.1 (hG.gsh zu3 hzu3).2.1) ?_
    obtain ⟨np2, hG2⟩ := gk_shape hG (k := zu3) hzu138 hzu146
    have hs2a := (hG.gsh zu3 hzu3).1.2
    have hs3a := (hG.gsh zu3 hzu3).2.2
    refine lv_iload hx hb dL_act_152 (lv_at hl 0 rfl) ?_
    refine lv_icmp_ne (tgt := 194) hx hb dL_act_154 (by decide) (fun c_154 => ?_) (fun c_154 => ?_)
    · skip
      have c_154 : (4 * nn (S 2 zu3)) + nn (S 3 zu3) ≠ (4 * (nn (S 2 zu3))) + (nn (S 3 zu3)) := fun z => c_154 ((nI_eq (a := (4 * nn (S 2 zu3)) + nn (S 3 zu3)) (b := (4 * (nn (S 2 zu3))) + (nn (S 3 zu3))) (by omega) (by omega)).mpr z)
      exact absurd rfl c_154
    · skip
      have c_154 : (4 * nn (S 2 zu3)) + nn (S 3 zu3) = (4 * (nn (S 2 zu3))) + (nn (S 3 zu3)) := (nI_eq (a := (4 * nn (S 2 zu3)) + nn (S 3 zu3)) (b := (4 * (nn (S 2 zu3))) + (nn (S 3 zu3))) (by omega) (by omega)).mp c_154
      refine lv_aload_n hx hb dL_act_157 rfl (lv_at hl 2 rfl) ?_
      refine lv_iload_n hx hb dL_act_158 rfl (lv_at hl 1 rfl) ?_
      refine lv_iconst (v := 1) hx hb dL_act_159 (by decide) ?_
      refine obV0 (x0 := x0) (rest := []) zS hK hX hO hO.recv hP hW_nil hS fp_nw (ob_letterOf l g x0 (agS (shS1 S zu3 zu138 zu146)) (laT (shS1 S zu3 zu138 zu146) T (-1) nl) n cs F Y Z nl hG2.gls zu3 (by omega) 1 (by decide)) cw_X4_letterOf q420 rfl ⟨Nat.le_of_ble_eq_true rfl, Nat.le_of_ble_eq_true rfl, rfl, rfl⟩ rfl rfl (Nat.le_of_ble_eq_true rfl) hl.1 dL_act_160 ⟨Nat.le_of_ble_eq_true rfl, Nat.le_of_ble_eq_true rfl⟩ (fun H locs hO hP hS => ?_)
      refine topE (y := nI zu138) (by show upd (S 2) zu3 (nI zu138) zu3 = _; rw [upd_s]) ?_
      refine lv_iload_n hx hb dL_act_163 rfl (lv_at hl 4 rfl) ?_
      refine lv_iconst (v := 4) hx hb dL_act_164 (by decide) ?_
      refine lv_ishr hx hb dL_act_165 ?_
      refine lv_iconst (v := 4) hx hb dL_act_166 (by decide) ?_
      refine rdS (rest := [.int (nI zu138)]) zS hK hP (m_L_low l g (w >>> (4 &&& 31)) 4 (by omega) (by omega)) cw_L_low q489 [] rfl ⟨Nat.le_of_ble_eq_true rfl, Nat.le_of_ble_eq_true rfl, rfl, rfl⟩ rfl rfl (Nat.le_of_ble_eq_true rfl) hl.1 dL_act_167 ⟨Nat.le_of_ble_eq_true rfl, Nat.le_of_ble_eq_true rfl⟩ ?_
      refine topE (congrArg nI ezu138) ?_
      refine lv_icmp_ne (tgt := 194) hx hb dL_act_170 (by decide) (fun c_170 => ?_) (fun c_170 => ?_)
      · skip
        have c_170 : zu138 ≠ zu138 := fun z => c_170 ((nI_eq (a := zu138) (b := zu138) (by omega) (by omega)).mpr z)
        exact absurd rfl c_170
      · skip
        have c_170 : zu138 = zu138 := (nI_eq (a := zu138) (b := zu138) (by omega) (by omega)).mp c_170
        refine lv_aload_n hx hb dL_act_173 rfl (lv_at hl 2 rfl) ?_
        refine lv_iload_n hx hb dL_act_174 rfl (lv_at hl 1 rfl) ?_
        refine lv_iconst (v := 2) hx hb dL_act_175 (by decide) ?_
        refine obV0 (x0 := x0) (rest := []) zS hK hX hO hO.recv hP hW_nil hS fp_nw (ob_letterOf l g x0 (agS (shS1 S zu3 zu138 zu146)) (laT (shS1 S zu3 zu138 zu146) T (-1) nl) n cs F Y Z nl hG2.gls zu3 (by omega) 2 (by decide)) cw_X4_letterOf q420 rfl ⟨Nat.le_of_ble_eq_true rfl, Nat.le_of_ble_eq_true rfl, rfl, rfl⟩ rfl rfl (Nat.le_of_ble_eq_true rfl) hl.1 dL_act_176 ⟨Nat.le_of_ble_eq_true rfl, Nat.le_of_ble_eq_true rfl⟩ (fun H locs hO hP hS => ?_)
        refine topE (y := nI zu146) (by show upd (S 3) zu3 (nI zu146) zu3 = _; rw [upd_s]) ?_
        refine lv_iload_n hx hb dL_act_179 rfl (lv_at hl 4 rfl) ?_
        refine lv_bipush (v := 6) hx hb dL_act_180 (by decide) ?_
        refine lv_ishr hx hb dL_act_182 ?_
        refine lv_iconst (v := 4) hx hb dL_act_183 (by decide) ?_
        refine rdS (rest := [.int (nI zu146)]) zS hK hP (m_L_low l g (w >>> (6 &&& 31)) 4 (by omega) (by omega)) cw_L_low q489 [] rfl ⟨Nat.le_of_ble_eq_true rfl, Nat.le_of_ble_eq_true rfl, rfl, rfl⟩ rfl rfl (Nat.le_of_ble_eq_true rfl) hl.1 dL_act_184 ⟨Nat.le_of_ble_eq_true rfl, Nat.le_of_ble_eq_true rfl⟩ ?_
        refine topE (congrArg nI ezu146) ?_
        refine lv_icmp_ne (tgt := 194) hx hb dL_act_187 (by decide) (fun c_187 => ?_) (fun c_187 => ?_)
        · skip
          have c_187 : zu146 ≠ zu146 := fun z => c_187 ((nI_eq (a := zu146) (b := zu146) (by omega) (by omega)).mpr z)
          exact absurd rfl c_187
        · skip
          have c_187 : zu146 = zu146 := (nI_eq (a := zu146) (b := zu146) (by omega) (by omega)).mp c_187
          refine lv_iconst (v := 1) hx hb dL_act_190 (by decide) ?_
          refine lv_goto (tgt := 195) hx hb dL_act_191 (by decide) ?_
          refine W.widen (k := 4) (n := 200) (Nat.le_of_ble_eq_true rfl) (Nat.le_of_ble_eq_true rfl) ?_
          exact o_z hx hb hr hlk hS dL_act_195 (by decide) (IV_mk hG2 (hF.same rfl) hn hO) (rfl)
  · skip
    refine lv_tableIn (tgt := 196) hx hb dL_act_13 (by decide) (by decide) rfl (by decide) ?_
    refine lv_aload_n hx hb dL_act_196 rfl (lv_at hl 1 rfl) ?_
    refine lv_iload_n hx hb dL_act_197 rfl (lv_at hl 0 rfl) ?_
    refine lv_iconst (v := 4) hx hb dL_act_198 (by decide) ?_
    refine lv_irem hx hb dL_act_199 (by decide) ?_
    refine topE (pk_rem (a := zu3) (d := 4) (by omega) (by omega) (by omega)) ?_
    refine lv_iload_n hx hb dL_act_200 rfl (lv_at hl 3 rfl) ?_
    refine lv_iconst (v := 4) hx hb dL_act_201 (by decide) ?_
    refine lv_ishr hx hb dL_act_202 ?_
    refine lv_iconst (v := 4) hx hb dL_act_203 (by decide) ?_
    refine rdS (rest := [.int (nI (zu3 % 4)), .ref x0]) zS hK hP (m_L_low l g (w >>> (4 &&& 31)) 4 (by omega) (by omega)) cw_L_low q489 [] rfl ⟨Nat.le_of_ble_eq_true rfl, Nat.le_of_ble_eq_true rfl, rfl, rfl⟩ rfl rfl (Nat.le_of_ble_eq_true rfl) hl.1 dL_act_204 ⟨Nat.le_of_ble_eq_true rfl, Nat.le_of_ble_eq_true rfl⟩ ?_
    obtain ⟨zu204, hzu204, ezu204⟩ : ∃ u, u < 4 ∧ lowN (w >>> (4 &&& 31)) 4 = u := ⟨_, lowN_lt _ (by omega), rfl⟩
    refine topE (congrArg nI ezu204) ?_
    refine lv_iconst (v := 1) hx hb dL_act_207 (by decide) ?_
    refine obV0 (x0 := x0) (rest := []) zS hK hX hO hO.recv hP hW_nil hS fp_nw (ob_shapesOf l g x0 S T n cs F Y Z hG.gsh np hG.glp (zu3 % 4) (by omega) zu204 (by omega) 1 (by decide)) cw_X4_shapesOf q428 rfl ⟨Nat.le_of_ble_eq_true rfl, Nat.le_of_ble_eq_true rfl, rfl, rfl⟩ rfl rfl (Nat.le_of_ble_eq_true rfl) hl.1 dL_act_208 ⟨Nat.le_of_ble_eq_true rfl, Nat.le_of_ble_eq_true rfl⟩ (fun H locs hO hP hS => ?_)
    refine topE (y := S 4 (4 * (zu3 % 4) + zu204) + 100) (by rw [show 4 * (zu3 % 4) + zu204 = (4 * (zu3 % 4) + zu204) by omega]; rfl) ?_
    refine lv_istore (lv' := [(4, .int (S 4 (4 * (zu3 % 4) + zu204) + 100)), (3, .int (nI zu3)), (0, .ref x0), (1, .int v), (2, .int w)]) hx hb dL_act_211 hl (by decide) rfl (fun ls hl => ?_)
    refine lv_iload_n hx hb dL_act_213 rfl (lv_at hl 4 rfl) ?_
    refine lv_bipush (v := 6) hx hb dL_act_214 (by decide) ?_
    refine lv_ishr hx hb dL_act_216 ?_
    refine lv_bipush (v := 25) hx hb dL_act_217 (by decide) ?_
    refine rdS (rest := []) zS hK hP (m_L_low l g (w >>> (6 &&& 31)) 25 (by omega) (by omega)) cw_L_low q489 [] rfl ⟨Nat.le_of_ble_eq_true rfl, Nat.le_of_ble_eq_true rfl, rfl, rfl⟩ rfl rfl (Nat.le_of_ble_eq_true rfl) hl.1 dL_act_219 ⟨Nat.le_of_ble_eq_true rfl, Nat.le_of_ble_eq_true rfl⟩ ?_
    obtain ⟨zu219, hzu219, ezu219⟩ : ∃ u, u < 25 ∧ lowN (w >>> (6 &&& 31)) 25 = u := ⟨_, lowN_lt _ (by omega), rfl⟩
    refine topE (congrArg nI ezu219) ?_
    refine lv_bipush (v := 12) hx hb dL_act_222 (by decide) ?_
    refine lv_isub hx hb dL_act_224 ?_
    refine lv_istore (lv' := [(5, .int ((nI zu219) - 12)), (4, .int (S 4 (4 * (zu3 % 4) + zu204) + 100)), (3, .int (nI zu3)), (0, .ref x0), (1, .int v), (2, .int w)]) hx hb dL_act_225 hl (by decide) rfl (fun ls hl => ?_)
    refine lv_aload_n hx hb dL_act_227 rfl (lv_at hl 3 rfl) ?_
    refine lv_iload_n hx hb dL_act_228 rfl (lv_at hl 2 rfl) ?_
    refine lv_iconst (v := 4) hx hb dL_act_229 (by decide) ?_
    refine lv_irem hx hb dL_act_230 (by decide) ?_
    refine topE (pk_rem (a := zu3) (d := 4) (by omega) (by omega) (by omega)) ?_
    refine lv_iload_n hx hb dL_act_231 rfl (lv_at hl 5 rfl) ?_
    refine lv_iconst (v := 4) hx hb dL_act_232 (by decide) ?_
    refine lv_ishr hx hb dL_act_233 ?_
    refine lv_iconst (v := 4) hx hb dL_act_234 (by decide) ?_
    refine rdS (rest := [.int (nI (zu3 % 4)), .ref x0]) zS hK hP (m_L_low l g (w >>> (4 &&& 31)) 4 (by omega) (by omega)) cw_L_low q489 [] rfl ⟨Nat.le_of_ble_eq_true rfl, Nat.le_of_ble_eq_true rfl, rfl, rfl⟩ rfl rfl (Nat.le_of_ble_eq_true rfl) hl.1 dL_act_235 ⟨Nat.le_of_ble_eq_true rfl, Nat.le_of_ble_eq_true rfl⟩ ?_
    refine topE (congrArg nI ezu204) ?_
    refine lv_iload hx hb dL_act_238 (lv_at hl 0 rfl) ?_
    refine obV0 (x0 := x0) (rest := []) zS hK hX hO hO.recv hP hW_nil hS fp_nw (ob_base l g x0 S T n cs F Y Z hG.gsh nl hG.gls (zu3 % 4) (by omega) zu204 (by omega) (nI zu219 - 12) (bs_b zu219 hzu219).1 (bs_b zu219 hzu219).2) cw_X4_base q547 rfl ⟨Nat.le_of_ble_eq_true rfl, Nat.le_of_ble_eq_true rfl, rfl, rfl⟩ rfl rfl (Nat.le_of_ble_eq_true rfl) hl.1 dL_act_240 ⟨Nat.le_of_ble_eq_true rfl, Nat.le_of_ble_eq_true rfl⟩ (fun H locs hO hP hS => ?_)
    obtain ⟨np2, hG2⟩ := gk_base hG (x := (4 * (zu3 % 4) + zu204)) (y := (nI zu219 - 12)) (bs_b zu219 hzu219).1 (bs_b zu219 hzu219).2
    refine lv_iload hx hb dL_act_243 (lv_at hl 1 rfl) ?_
    refine lv_icmp_ne (tgt := 275) hx hb dL_act_245 (by decide) (fun c_245 => ?_) (fun c_245 => ?_)
    · skip
      exact absurd rfl c_245
    · skip
      refine lv_aload_n hx hb dL_act_248 rfl (lv_at hl 3 rfl) ?_
      refine lv_iload_n hx hb dL_act_249 rfl (lv_at hl 2 rfl) ?_
      refine lv_iconst (v := 4) hx hb dL_act_250 (by decide) ?_
      refine lv_irem hx hb dL_act_251 (by decide) ?_
      refine topE (pk_rem (a := zu3) (d := 4) (by omega) (by omega) (by omega)) ?_
      refine lv_iload_n hx hb dL_act_252 rfl (lv_at hl 5 rfl) ?_
      refine lv_iconst (v := 4) hx hb dL_act_253 (by decide) ?_
      refine lv_ishr hx hb dL_act_254 ?_
      refine lv_iconst (v := 4) hx hb dL_act_255 (by decide) ?_
      refine rdS (rest := [.int (nI (zu3 % 4)), .ref x0]) zS hK hP (m_L_low l g (w >>> (4 &&& 31)) 4 (by omega) (by omega)) cw_L_low q489 [] rfl ⟨Nat.le_of_ble_eq_true rfl, Nat.le_of_ble_eq_true rfl, rfl, rfl⟩ rfl rfl (Nat.le_of_ble_eq_true rfl) hl.1 dL_act_256 ⟨Nat.le_of_ble_eq_true rfl, Nat.le_of_ble_eq_true rfl⟩ ?_
      refine topE (congrArg nI ezu204) ?_
      refine lv_iconst (v := 1) hx hb dL_act_259 (by decide) ?_
      refine obV0 (x0 := x0) (rest := []) zS hK hX hO hO.recv hP hW_nil hS fp_nw (ob_shapesOf l g x0 (agS (baS1 S (4 * (zu3 % 4) + zu204) (nI zu219 - 12))) (laT (baS1 S (4 * (zu3 % 4) + zu204) (nI zu219 - 12)) T (-1) nl) n cs F Y Z hG2.gsh np2 hG2.glp (zu3 % 4) (by omega) zu204 (by omega) 1 (by decide)) cw_X4_shapesOf q428 rfl ⟨Nat.le_of_ble_eq_true rfl, Nat.le_of_ble_eq_true rfl, rfl, rfl⟩ rfl rfl (Nat.le_of_ble_eq_true rfl) hl.1 dL_act_260 ⟨Nat.le_of_ble_eq_true rfl, Nat.le_of_ble_eq_true rfl⟩ (fun H locs hO hP hS => ?_)
      refine topE (y := (nI zu219 - 12) + 100) (by show upd (S 4) (4 * (zu3 % 4) + zu204) (nI zu219 - 12) (4 * (zu3 % 4) + zu204) + 100 = _; rw [upd_s]) ?_
      refine lv_iload hx hb dL_act_263 (lv_at hl 0 rfl) ?_
      refine lv_bipush (v := 100) hx hb dL_act_265 (by decide) ?_
      refine lv_iadd hx hb dL_act_267 ?_
      refine lv_icmp_ne (tgt := 275) hx hb dL_act_268 (by decide) (fun c_268 => ?_) (fun c_268 => ?_)
      · skip
        exact absurd rfl c_268
      · skip
        refine lv_iconst (v := 1) hx hb dL_act_271 (by decide) ?_
        refine lv_goto (tgt := 276) hx hb dL_act_272 (by decide) ?_
        refine W.widen (k := 4) (n := 200) (Nat.le_of_ble_eq_true rfl) (Nat.le_of_ble_eq_true rfl) ?_
        exact o_z hx hb hr hlk hS dL_act_276 (by decide) (IV_mk hG2 (hF.same rfl) hn hO) (rfl)
  · skip
    refine lv_tableIn (tgt := 277) hx hb dL_act_13 (by decide) (by decide) rfl (by decide) ?_
    refine lv_iload_n hx hb dL_act_277 rfl (lv_at hl 3 rfl) ?_
    refine lv_iconst (v := 4) hx hb dL_act_278 (by decide) ?_
    refine rdS (rest := []) zS hK hP (m_L_low l g w 4 (by omega) (by omega)) cw_L_low q489 [] rfl ⟨Nat.le_of_ble_eq_true rfl, Nat.le_of_ble_eq_true rfl, rfl, rfl⟩ rfl rfl (Nat.le_of_ble_eq_true rfl) hl.1 dL_act_279 ⟨Nat.le_of_ble_eq_true rfl, Nat.le_of_ble_eq_true rfl⟩ ?_
    obtain ⟨zu279, hzu279, ezu279⟩ : ∃ u, u < 4 ∧ lowN w 4 = u := ⟨_, lowN_lt _ (by omega), rfl⟩
    refine topE (congrArg nI ezu279) ?_
    refine lv_istore (lv' := [(4, .int (nI zu279)), (3, .int (nI zu3)), (0, .ref x0), (1, .int v), (2, .int w)]) hx hb dL_act_282 hl (by decide) rfl (fun ls hl => ?_)
    refine lv_iload hx hb dL_act_284 (lv_at hl 0 rfl) ?_
    refine lv_if_ne (tgt := 302) hx hb dL_act_286 (by decide) (fun c_286 => ?_) (fun c_286 => ?_)
    · skip
      have c_286 : zu279 ≠ 0 := fun z => c_286 ((nI_eq (a := zu279) (b := 0) (by omega) (by omega)).mpr z)
      refine lv_iload hx hb dL_act_302 (lv_at hl 0 rfl) ?_
      refine lv_iconst (v := 1) hx hb dL_act_304 (by decide) ?_
      refine lv_icmp_ne (tgt := 320) hx hb dL_act_305 (by decide) (fun c_305 => ?_) (fun c_305 => ?_)
      · skip
        have c_305 : zu279 ≠ 1 := fun z => c_305 ((nI_eq (a := zu279) (b := 1) (by omega) (by omega)).mpr z)
        refine lv_iload hx hb dL_act_320 (lv_at hl 0 rfl) ?_
        refine lv_iconst (v := 2) hx hb dL_act_322 (by decide) ?_
        refine lv_icmp_ne (tgt := 339) hx hb dL_act_323 (by decide) (fun c_323 => ?_) (fun c_323 => ?_)
        · skip
          have c_323 : zu279 ≠ 2 := fun z => c_323 ((nI_eq (a := zu279) (b := 2) (by omega) (by omega)).mpr z)
          refine lv_bipush (v := 40) hx hb dL_act_339 (by decide) ?_
          refine lv_iload_n hx hb dL_act_341 rfl (lv_at hl 4 rfl) ?_
          refine lv_iconst (v := 2) hx hb dL_act_342 (by decide) ?_
          refine lv_ishr hx hb dL_act_343 ?_
          refine lv_sipush (v := 561) hx hb dL_act_344 (by decide) ?_
          refine rdS (rest := [.int 40]) zS hK hP (m_L_low l g (w >>> (2 &&& 31)) 561 (by omega) (by omega)) cw_L_low q489 [] rfl ⟨Nat.le_of_ble_eq_true rfl, Nat.le_of_ble_eq_true rfl, rfl, rfl⟩ rfl rfl (Nat.le_of_ble_eq_true rfl) hl.1 dL_act_347 ⟨Nat.le_of_ble_eq_true rfl, Nat.le_of_ble_eq_true rfl⟩ ?_
          obtain ⟨zu347, hzu347, ezu347⟩ : ∃ u, u < 561 ∧ lowN (w >>> (2 &&& 31)) 561 = u := ⟨_, lowN_lt _ (by omega), rfl⟩
          refine topE (congrArg nI ezu347) ?_
          refine lv_iadd hx hb dL_act_350 ?_
          refine topE (nI_add 40 zu347) ?_
          refine lv_istore (lv' := [(5, .int (nI (40 + zu347))), (4, .int (nI zu279)), (3, .int (nI zu3)), (0, .ref x0), (1, .int v), (2, .int w)]) hx hb dL_act_351 hl (by decide) rfl (fun ls hl => ?_)
          refine lv_aload_n hx hb dL_act_353 rfl (lv_at hl 3 rfl) ?_
          refine lv_iload hx hb dL_act_354 (lv_at hl 1 rfl) ?_
          refine obV0 (x0 := x0) (rest := []) zS hK hX hO hO.recv hP hW_nil hS fp_nw (ob_setting l g x0 S T n cs F Y Z zu279 (by omega)) cw_X4_setting q441 rfl ⟨Nat.le_of_ble_eq_true rfl, Nat.le_of_ble_eq_true rfl, rfl, rfl⟩ rfl rfl (Nat.le_of_ble_eq_true rfl) hl.1 dL_act_356 ⟨Nat.le_of_ble_eq_true rfl, Nat.le_of_ble_eq_true rfl⟩ (fun H locs hO hP hS => ?_)
          refine lv_istore (lv' := [(6, .int (S 5 zu279)), (5, .int (nI (40 + zu347))), (4, .int (nI zu279)), (3, .int (nI zu3)), (0, .ref x0), (1, .int v), (2, .int w)]) hx hb dL_act_359 hl (by decide) rfl (fun ls hl => ?_)
          refine lv_aload_n hx hb dL_act_361 rfl (lv_at hl 4 rfl) ?_
          refine lv_iload hx hb dL_act_362 (lv_at hl 2 rfl) ?_
          refine lv_iload hx hb dL_act_364 (lv_at hl 1 rfl) ?_
          refine obV0 (x0 := x0) (rest := []) zS hK hX hO hO.recv hP hW_nil hS fp_nw (ob_set l g x0 S T n cs F Y Z hG.gsh nl hG.gls zu279 (by omega) (nI (40 + zu347)) (fit_3 (k := zu279) (by omega) hzu347)) cw_X4_set q551 rfl ⟨Nat.le_of_ble_eq_true rfl, Nat.le_of_ble_eq_true rfl, rfl, rfl⟩ rfl rfl (Nat.le_of_ble_eq_true rfl) hl.1 dL_act_366 ⟨Nat.le_of_ble_eq_true rfl, Nat.le_of_ble_eq_true rfl⟩ (fun H locs hO hP hS => ?_)
          obtain ⟨np2, hG2⟩ := gk_set hG hzu279 (fit_3 (k := zu279) (by omega) hzu347)
          refine lv_iload hx hb dL_act_369 (lv_at hl 0 rfl) ?_
          refine lv_icmp_ne (tgt := 389) hx hb dL_act_371 (by decide) (fun c_371 => ?_) (fun c_371 => ?_)
          · skip
            exact absurd rfl c_371
          · skip
            refine lv_aload_n hx hb dL_act_374 rfl (lv_at hl 4 rfl) ?_
            refine lv_iload hx hb dL_act_375 (lv_at hl 2 rfl) ?_
            refine obV0 (x0 := x0) (rest := []) zS hK hX hO hO.recv hP hW_nil hS fp_nw (ob_setting l g x0 (stS S zu279 (nI (40 + zu347))) (stT S T nl zu279 (nI (40 + zu347))) n cs F Y Z zu279 (by omega)) cw_X4_setting q441 rfl ⟨Nat.le_of_ble_eq_true rfl, Nat.le_of_ble_eq_true rfl, rfl, rfl⟩ rfl rfl (Nat.le_of_ble_eq_true rfl) hl.1 dL_act_377 ⟨Nat.le_of_ble_eq_true rfl, Nat.le_of_ble_eq_true rfl⟩ (fun H locs hO hP hS => ?_)
            refine topE (y := nI (40 + zu347)) (stS_5k _ _ _) ?_
            refine lv_iload hx hb dL_act_380 (lv_at hl 1 rfl) ?_
            refine lv_icmp_ne (tgt := 389) hx hb dL_act_382 (by decide) (fun c_382 => ?_) (fun c_382 => ?_)
            · skip
              have c_382 : 40 + zu347 ≠ 40 + zu347 := fun z => c_382 ((nI_eq (a := 40 + zu347) (b := 40 + zu347) (by omega) (by omega)).mpr z)
              exact absurd rfl c_382
            · skip
              have c_382 : 40 + zu347 = 40 + zu347 := (nI_eq (a := 40 + zu347) (b := 40 + zu347) (by omega) (by omega)).mp c_382
              refine lv_iconst (v := 1) hx hb dL_act_385 (by decide) ?_
              refine lv_goto (tgt := 390) hx hb dL_act_386 (by decide) ?_
              refine W.widen (k := 4) (n := 200) (Nat.le_of_ble_eq_true rfl) (Nat.le_of_ble_eq_true rfl) ?_
              exact o_z hx hb hr hlk hS dL_act_390 (by decide) (IV_mk hG2 (hF.set (fit_3 (k := zu279) (by omega) hzu347)) hn hO) (rfl)
        · skip
          have c_323 : zu279 = 2 := (nI_eq (a := zu279) (b := 2) (by omega) (by omega)).mp c_323
          refine lv_iconst (v := 1) hx hb dL_act_326 (by decide) ?_
          refine lv_iload_n hx hb dL_act_327 rfl (lv_at hl 4 rfl) ?_
          refine lv_iconst (v := 2) hx hb dL_act_328 (by decide) ?_
          refine lv_ishr hx hb dL_act_329 ?_
          refine lv_bipush (v := 20) hx hb dL_act_330 (by decide) ?_
          refine rdS (rest := [.int 1]) zS hK hP (m_L_low l g (w >>> (2 &&& 31)) 20 (by omega) (by omega)) cw_L_low q489 [] rfl ⟨Nat.le_of_ble_eq_true rfl, Nat.le_of_ble_eq_true rfl, rfl, rfl⟩ rfl rfl (Nat.le_of_ble_eq_true rfl) hl.1 dL_act_332 ⟨Nat.le_of_ble_eq_true rfl, Nat.le_of_ble_eq_true rfl⟩ ?_
          obtain ⟨zu332, hzu332, ezu332⟩ : ∃ u, u < 20 ∧ lowN (w >>> (2 &&& 31)) 20 = u := ⟨_, lowN_lt _ (by omega), rfl⟩
          refine topE (congrArg nI ezu332) ?_
          refine lv_iadd hx hb dL_act_335 ?_
          refine topE (nI_add 1 zu332) ?_
          refine lv_goto (tgt := 351) hx hb dL_act_336 (by decide) ?_
          refine lv_istore (lv' := [(5, .int (nI (1 + zu332))), (4, .int (nI zu279)), (3, .int (nI zu3)), (0, .ref x0), (1, .int v), (2, .int w)]) hx hb dL_act_351 hl (by decide) rfl (fun ls hl => ?_)
          refine lv_aload_n hx hb dL_act_353 rfl (lv_at hl 3 rfl) ?_
          refine lv_iload hx hb dL_act_354 (lv_at hl 1 rfl) ?_
          refine obV0 (x0 := x0) (rest := []) zS hK hX hO hO.recv hP hW_nil hS fp_nw (ob_setting l g x0 S T n cs F Y Z zu279 (by omega)) cw_X4_setting q441 rfl ⟨Nat.le_of_ble_eq_true rfl, Nat.le_of_ble_eq_true rfl, rfl, rfl⟩ rfl rfl (Nat.le_of_ble_eq_true rfl) hl.1 dL_act_356 ⟨Nat.le_of_ble_eq_true rfl, Nat.le_of_ble_eq_true rfl⟩ (fun H locs hO hP hS => ?_)
          refine lv_istore (lv' := [(6, .int (S 5 zu279)), (5, .int (nI (1 + zu332))), (4, .int (nI zu279)), (3, .int (nI zu3)), (0, .ref x0), (1, .int v), (2, .int w)]) hx hb dL_act_359 hl (by decide) rfl (fun ls hl => ?_)
          refine lv_aload_n hx hb dL_act_361 rfl (lv_at hl 4 rfl) ?_
          refine lv_iload hx hb dL_act_362 (lv_at hl 2 rfl) ?_
          refine lv_iload hx hb dL_act_364 (lv_at hl 1 rfl) ?_
          refine obV0 (x0 := x0) (rest := []) zS hK hX hO hO.recv hP hW_nil hS fp_nw (ob_set l g x0 S T n cs F Y Z hG.gsh nl hG.gls zu279 (by omega) (nI (1 + zu332)) (fit_2 c_323 hzu332)) cw_X4_set q551 rfl ⟨Nat.le_of_ble_eq_true rfl, Nat.le_of_ble_eq_true rfl, rfl, rfl⟩ rfl rfl (Nat.le_of_ble_eq_true rfl) hl.1 dL_act_366 ⟨Nat.le_of_ble_eq_true rfl, Nat.le_of_ble_eq_true rfl⟩ (fun H locs hO hP hS => ?_)
          obtain ⟨np2, hG2⟩ := gk_set hG hzu279 (fit_2 c_323 hzu332)
          refine lv_iload hx hb dL_act_369 (lv_at hl 0 rfl) ?_
          refine lv_icmp_ne (tgt := 389) hx hb dL_act_371 (by decide) (fun c_371 => ?_) (fun c_371 => ?_)
          · skip
            exact absurd rfl c_371
          · skip
            refine lv_aload_n hx hb dL_act_374 rfl (lv_at hl 4 rfl) ?_
            refine lv_iload hx hb dL_act_375 (lv_at hl 2 rfl) ?_
            refine obV0 (x0 := x0) (rest := []) zS hK hX hO hO.recv hP hW_nil hS fp_nw (ob_setting l g x0 (stS S zu279 (nI (1 + zu332))) (stT S T nl zu279 (nI (1 + zu332))) n cs F Y Z zu279 (by omega)) cw_X4_setting q441 rfl ⟨Nat.le_of_ble_eq_true rfl, Nat.le_of_ble_eq_true rfl, rfl, rfl⟩ rfl rfl (Nat.le_of_ble_eq_true rfl) hl.1 dL_act_377 ⟨Nat.le_of_ble_eq_true rfl, Nat.le_of_ble_eq_true rfl⟩ (fun H locs hO hP hS => ?_)
            refine topE (y := nI (1 + zu332)) (stS_5k _ _ _) ?_
            refine lv_iload hx hb dL_act_380 (lv_at hl 1 rfl) ?_
            refine lv_icmp_ne (tgt := 389) hx hb dL_act_382 (by decide) (fun c_382 => ?_) (fun c_382 => ?_)
            · skip
              have c_382 : 1 + zu332 ≠ 1 + zu332 := fun z => c_382 ((nI_eq (a := 1 + zu332) (b := 1 + zu332) (by omega) (by omega)).mpr z)
              exact absurd rfl c_382
            · skip
              have c_382 : 1 + zu332 = 1 + zu332 := (nI_eq (a := 1 + zu332) (b := 1 + zu332) (by omega) (by omega)).mp c_382
              refine lv_iconst (v := 1) hx hb dL_act_385 (by decide) ?_
              refine lv_goto (tgt := 390) hx hb dL_act_386 (by decide) ?_
              refine W.widen (k := 4) (n := 200) (Nat.le_of_ble_eq_true rfl) (Nat.le_of_ble_eq_true rfl) ?_
              exact o_z hx hb hr hlk hS dL_act_390 (by decide) (IV_mk hG2 (hF.set (fit_2 c_323 hzu332)) hn hO) (rfl)
      · skip
        have c_305 : zu279 = 1 := (nI_eq (a := zu279) (b := 1) (by omega) (by omega)).mp c_305
        refine lv_iconst (v := 2) hx hb dL_act_308 (by decide) ?_
        refine lv_iload_n hx hb dL_act_309 rfl (lv_at hl 4 rfl) ?_
        refine lv_iconst (v := 2) hx hb dL_act_310 (by decide) ?_
        refine lv_ishr hx hb dL_act_311 ?_
        refine lv_iconst (v := 4) hx hb dL_act_312 (by decide) ?_
        refine rdS (rest := [.int 2]) zS hK hP (m_L_low l g (w >>> (2 &&& 31)) 4 (by omega) (by omega)) cw_L_low q489 [] rfl ⟨Nat.le_of_ble_eq_true rfl, Nat.le_of_ble_eq_true rfl, rfl, rfl⟩ rfl rfl (Nat.le_of_ble_eq_true rfl) hl.1 dL_act_313 ⟨Nat.le_of_ble_eq_true rfl, Nat.le_of_ble_eq_true rfl⟩ ?_
        obtain ⟨zu313, hzu313, ezu313⟩ : ∃ u, u < 4 ∧ lowN (w >>> (2 &&& 31)) 4 = u := ⟨_, lowN_lt _ (by omega), rfl⟩
        refine topE (congrArg nI ezu313) ?_
        refine lv_iadd hx hb dL_act_316 ?_
        refine topE (nI_add 2 zu313) ?_
        refine lv_goto (tgt := 351) hx hb dL_act_317 (by decide) ?_
        refine lv_istore (lv' := [(5, .int (nI (2 + zu313))), (4, .int (nI zu279)), (3, .int (nI zu3)), (0, .ref x0), (1, .int v), (2, .int w)]) hx hb dL_act_351 hl (by decide) rfl (fun ls hl => ?_)
        refine lv_aload_n hx hb dL_act_353 rfl (lv_at hl 3 rfl) ?_
        refine lv_iload hx hb dL_act_354 (lv_at hl 1 rfl) ?_
        refine obV0 (x0 := x0) (rest := []) zS hK hX hO hO.recv hP hW_nil hS fp_nw (ob_setting l g x0 S T n cs F Y Z zu279 (by omega)) cw_X4_setting q441 rfl ⟨Nat.le_of_ble_eq_true rfl, Nat.le_of_ble_eq_true rfl, rfl, rfl⟩ rfl rfl (Nat.le_of_ble_eq_true rfl) hl.1 dL_act_356 ⟨Nat.le_of_ble_eq_true rfl, Nat.le_of_ble_eq_true rfl⟩ (fun H locs hO hP hS => ?_)
        refine lv_istore (lv' := [(6, .int (S 5 zu279)), (5, .int (nI (2 + zu313))), (4, .int (nI zu279)), (3, .int (nI zu3)), (0, .ref x0), (1, .int v), (2, .int w)]) hx hb dL_act_359 hl (by decide) rfl (fun ls hl => ?_)
        refine lv_aload_n hx hb dL_act_361 rfl (lv_at hl 4 rfl) ?_
        refine lv_iload hx hb dL_act_362 (lv_at hl 2 rfl) ?_
        refine lv_iload hx hb dL_act_364 (lv_at hl 1 rfl) ?_
        refine obV0 (x0 := x0) (rest := []) zS hK hX hO hO.recv hP hW_nil hS fp_nw (ob_set l g x0 S T n cs F Y Z hG.gsh nl hG.gls zu279 (by omega) (nI (2 + zu313)) (fit_1 c_305 hzu313)) cw_X4_set q551 rfl ⟨Nat.le_of_ble_eq_true rfl, Nat.le_of_ble_eq_true rfl, rfl, rfl⟩ rfl rfl (Nat.le_of_ble_eq_true rfl) hl.1 dL_act_366 ⟨Nat.le_of_ble_eq_true rfl, Nat.le_of_ble_eq_true rfl⟩ (fun H locs hO hP hS => ?_)
        obtain ⟨np2, hG2⟩ := gk_set hG hzu279 (fit_1 c_305 hzu313)
        refine lv_iload hx hb dL_act_369 (lv_at hl 0 rfl) ?_
        refine lv_icmp_ne (tgt := 389) hx hb dL_act_371 (by decide) (fun c_371 => ?_) (fun c_371 => ?_)
        · skip
          exact absurd rfl c_371
        · skip
          refine lv_aload_n hx hb dL_act_374 rfl (lv_at hl 4 rfl) ?_
          refine lv_iload hx hb dL_act_375 (lv_at hl 2 rfl) ?_
          refine obV0 (x0 := x0) (rest := []) zS hK hX hO hO.recv hP hW_nil hS fp_nw (ob_setting l g x0 (stS S zu279 (nI (2 + zu313))) (stT S T nl zu279 (nI (2 + zu313))) n cs F Y Z zu279 (by omega)) cw_X4_setting q441 rfl ⟨Nat.le_of_ble_eq_true rfl, Nat.le_of_ble_eq_true rfl, rfl, rfl⟩ rfl rfl (Nat.le_of_ble_eq_true rfl) hl.1 dL_act_377 ⟨Nat.le_of_ble_eq_true rfl, Nat.le_of_ble_eq_true rfl⟩ (fun H locs hO hP hS => ?_)
          refine topE (y := nI (2 + zu313)) (stS_5k _ _ _) ?_
          refine lv_iload hx hb dL_act_380 (lv_at hl 1 rfl) ?_
          refine lv_icmp_ne (tgt := 389) hx hb dL_act_382 (by decide) (fun c_382 => ?_) (fun c_382 => ?_)
          · skip
            have c_382 : 2 + zu313 ≠ 2 + zu313 := fun z => c_382 ((nI_eq (a := 2 + zu313) (b := 2 + zu313) (by omega) (by omega)).mpr z)
            exact absurd rfl c_382
          · skip
            have c_382 : 2 + zu313 = 2 + zu313 := (nI_eq (a := 2 + zu313) (b := 2 + zu313) (by omega) (by omega)).mp c_382
            refine lv_iconst (v := 1) hx hb dL_act_385 (by decide) ?_
            refine lv_goto (tgt := 390) hx hb dL_act_386 (by decide) ?_
            refine W.widen (k := 4) (n := 200) (Nat.le_of_ble_eq_true rfl) (Nat.le_of_ble_eq_true rfl) ?_
            exact o_z hx hb hr hlk hS dL_act_390 (by decide) (IV_mk hG2 (hF.set (fit_1 c_305 hzu313)) hn hO) (rfl)
    · skip
      have c_286 : zu279 = 0 := (nI_eq (a := zu279) (b := 0) (by omega) (by omega)).mp c_286
      refine lv_iconst (v := 1) hx hb dL_act_289 (by decide) ?_
      refine lv_iload_n hx hb dL_act_290 rfl (lv_at hl 4 rfl) ?_
      refine lv_iconst (v := 2) hx hb dL_act_291 (by decide) ?_
      refine lv_ishr hx hb dL_act_292 ?_
      refine lv_bipush (v := 6) hx hb dL_act_293 (by decide) ?_
      refine rdS (rest := [.int 1]) zS hK hP (m_L_low l g (w >>> (2 &&& 31)) 6 (by omega) (by omega)) cw_L_low q489 [] rfl ⟨Nat.le_of_ble_eq_true rfl, Nat.le_of_ble_eq_true rfl, rfl, rfl⟩ rfl rfl (Nat.le_of_ble_eq_true rfl) hl.1 dL_act_295 ⟨Nat.le_of_ble_eq_true rfl, Nat.le_of_ble_eq_true rfl⟩ ?_
      obtain ⟨zu295, hzu295, ezu295⟩ : ∃ u, u < 6 ∧ lowN (w >>> (2 &&& 31)) 6 = u := ⟨_, lowN_lt _ (by omega), rfl⟩
      refine topE (congrArg nI ezu295) ?_
      refine lv_iadd hx hb dL_act_298 ?_
      refine topE (nI_add 1 zu295) ?_
      refine lv_goto (tgt := 351) hx hb dL_act_299 (by decide) ?_
      refine lv_istore (lv' := [(5, .int (nI (1 + zu295))), (4, .int (nI zu279)), (3, .int (nI zu3)), (0, .ref x0), (1, .int v), (2, .int w)]) hx hb dL_act_351 hl (by decide) rfl (fun ls hl => ?_)
      refine lv_aload_n hx hb dL_act_353 rfl (lv_at hl 3 rfl) ?_
      refine lv_iload hx hb dL_act_354 (lv_at hl 1 rfl) ?_
      refine obV0 (x0 := x0) (rest := []) zS hK hX hO hO.recv hP hW_nil hS fp_nw (ob_setting l g x0 S T n cs F Y Z zu279 (by omega)) cw_X4_setting q441 rfl ⟨Nat.le_of_ble_eq_true rfl, Nat.le_of_ble_eq_true rfl, rfl, rfl⟩ rfl rfl (Nat.le_of_ble_eq_true rfl) hl.1 dL_act_356 ⟨Nat.le_of_ble_eq_true rfl, Nat.le_of_ble_eq_true rfl⟩ (fun H locs hO hP hS => ?_)
      refine lv_istore (lv' := [(6, .int (S 5 zu279)), (5, .int (nI (1 + zu295))), (4, .int (nI zu279)), (3, .int (nI zu3)), (0, .ref x0), (1, .int v), (2, .int w)]) hx hb dL_act_359 hl (by decide) rfl (fun ls hl => ?_)
      refine lv_aload_n hx hb dL_act_361 rfl (lv_at hl 4 rfl) ?_
      refine lv_iload hx hb dL_act_362 (lv_at hl 2 rfl) ?_
      refine lv_iload hx hb dL_act_364 (lv_at hl 1 rfl) ?_
      refine obV0 (x0 := x0) (rest := []) zS hK hX hO hO.recv hP hW_nil hS fp_nw (ob_set l g x0 S T n cs F Y Z hG.gsh nl hG.gls zu279 (by omega) (nI (1 + zu295)) (fit_0 c_286 hzu295)) cw_X4_set q551 rfl ⟨Nat.le_of_ble_eq_true rfl, Nat.le_of_ble_eq_true rfl, rfl, rfl⟩ rfl rfl (Nat.le_of_ble_eq_true rfl) hl.1 dL_act_366 ⟨Nat.le_of_ble_eq_true rfl, Nat.le_of_ble_eq_true rfl⟩ (fun H locs hO hP hS => ?_)
      obtain ⟨np2, hG2⟩ := gk_set hG hzu279 (fit_0 c_286 hzu295)
      refine lv_iload hx hb dL_act_369 (lv_at hl 0 rfl) ?_
      refine lv_icmp_ne (tgt := 389) hx hb dL_act_371 (by decide) (fun c_371 => ?_) (fun c_371 => ?_)
      · skip
        exact absurd rfl c_371
      · skip
        refine lv_aload_n hx hb dL_act_374 rfl (lv_at hl 4 rfl) ?_
        refine lv_iload hx hb dL_act_375 (lv_at hl 2 rfl) ?_
        refine obV0 (x0 := x0) (rest := []) zS hK hX hO hO.recv hP hW_nil hS fp_nw (ob_setting l g x0 (stS S zu279 (nI (1 + zu295))) (stT S T nl zu279 (nI (1 + zu295))) n cs F Y Z zu279 (by omega)) cw_X4_setting q441 rfl ⟨Nat.le_of_ble_eq_true rfl, Nat.le_of_ble_eq_true rfl, rfl, rfl⟩ rfl rfl (Nat.le_of_ble_eq_true rfl) hl.1 dL_act_377 ⟨Nat.le_of_ble_eq_true rfl, Nat.le_of_ble_eq_true rfl⟩ (fun H locs hO hP hS => ?_)
        refine topE (y := nI (1 + zu295)) (stS_5k _ _ _) ?_
        refine lv_iload hx hb dL_act_380 (lv_at hl 1 rfl) ?_
        refine lv_icmp_ne (tgt := 389) hx hb dL_act_382 (by decide) (fun c_382 => ?_) (fun c_382 => ?_)
        · skip
          have c_382 : 1 + zu295 ≠ 1 + zu295 := fun z => c_382 ((nI_eq (a := 1 + zu295) (b := 1 + zu295) (by omega) (by omega)).mpr z)
          exact absurd rfl c_382
        · skip
          have c_382 : 1 + zu295 = 1 + zu295 := (nI_eq (a := 1 + zu295) (b := 1 + zu295) (by omega) (by omega)).mp c_382
          refine lv_iconst (v := 1) hx hb dL_act_385 (by decide) ?_
          refine lv_goto (tgt := 390) hx hb dL_act_386 (by decide) ?_
          refine W.widen (k := 4) (n := 200) (Nat.le_of_ble_eq_true rfl) (Nat.le_of_ble_eq_true rfl) ?_
          exact o_z hx hb hr hlk hS dL_act_390 (by decide) (IV_mk hG2 (hF.set (fit_0 c_286 hzu295)) hn hO) (rfl)
  · skip
    refine lv_tableIn (tgt := 391) hx hb dL_act_13 (by decide) (by decide) rfl (by decide) ?_
    refine lv_aload_n hx hb dL_act_391 rfl (lv_at hl 1 rfl) ?_
    refine obS0 (rest := []) zS hK hX hO hP hW_nil hS fp_nw (m_L_tale l g x0 S T n cs F Y Z nl np hG) cw_L_tale q559 ⟨Nat.le_of_ble_eq_true rfl, Nat.le_of_ble_eq_true rfl, rfl, rfl⟩ rfl rfl (Nat.le_of_ble_eq_true rfl) hl.1 dL_act_392 ⟨Nat.le_of_ble_eq_true rfl, Nat.le_of_ble_eq_true rfl⟩ (fun H locs hO hP hS => ?_)
    refine lv_lstore (lv' := [(4, .long (tlV S T nl np)), (3, .int (nI zu3)), (0, .ref x0), (1, .int v), (2, .int w)]) hx hb dL_act_395 hl (by decide) rfl (fun ls hl => ?_)
    refine lv_aload_n hx hb dL_act_397 rfl (lv_at hl 2 rfl) ?_
    refine lv_bipush (v := 6) hx hb dL_act_398 (by decide) ?_
    refine obV0 (x0 := x0) (rest := []) zS hK hX hO hO.recv hP hW_nil hS fp_nw (ob_count l g x0 S T n cs F Y Z nl hG.gls np hG.glp 6 (by omega)) cw_X4_count q445 rfl ⟨Nat.le_of_ble_eq_true rfl, Nat.le_of_ble_eq_true rfl, rfl, rfl⟩ rfl rfl (Nat.le_of_ble_eq_true rfl) hl.1 dL_act_400 ⟨Nat.le_of_ble_eq_true rfl, Nat.le_of_ble_eq_true rfl⟩ (fun H locs hO hP hS => ?_)
    refine topE (y := S 0 11) (rfl) ?_
    refine lv_istore (lv' := [(6, .int (S 0 11)), (4, .long (tlV S T nl np)), (3, .int (nI zu3)), (0, .ref x0), (1, .int v), (2, .int w)]) hx hb dL_act_403 hl (by decide) rfl (fun ls hl => ?_)
    refine lv_iload_n hx hb dL_act_405 rfl (lv_at hl 5 rfl) ?_
    refine lv_iconst (v := 4) hx hb dL_act_406 (by decide) ?_
    refine rdS (rest := []) zS hK hP (m_L_low l g w 4 (by omega) (by omega)) cw_L_low q489 [] rfl ⟨Nat.le_of_ble_eq_true rfl, Nat.le_of_ble_eq_true rfl, rfl, rfl⟩ rfl rfl (Nat.le_of_ble_eq_true rfl) hl.1 dL_act_407 ⟨Nat.le_of_ble_eq_true rfl, Nat.le_of_ble_eq_true rfl⟩ ?_
    obtain ⟨zu407, hzu407, ezu407⟩ : ∃ u, u < 4 ∧ lowN w 4 = u := ⟨_, lowN_lt _ (by omega), rfl⟩
    refine topE (congrArg nI ezu407) ?_
    refine lv_istore (lv' := [(7, .int (nI zu407)), (6, .int (S 0 11)), (4, .long (tlV S T nl np)), (3, .int (nI zu3)), (0, .ref x0), (1, .int v), (2, .int w)]) hx hb dL_act_410 hl (by decide) rfl (fun ls hl => ?_)
    refine lv_iload_n hx hb dL_act_412 rfl (lv_at hl 6 rfl) ?_
    refine lv_iconst (v := 2) hx hb dL_act_413 (by decide) ?_
    refine lv_ishr hx hb dL_act_414 ?_
    refine lv_iconst (v := 4) hx hb dL_act_415 (by decide) ?_
    refine rdS (rest := []) zS hK hP (m_L_low l g (w >>> (2 &&& 31)) 4 (by omega) (by omega)) cw_L_low q489 [] rfl ⟨Nat.le_of_ble_eq_true rfl, Nat.le_of_ble_eq_true rfl, rfl, rfl⟩ rfl rfl (Nat.le_of_ble_eq_true rfl) hl.1 dL_act_416 ⟨Nat.le_of_ble_eq_true rfl, Nat.le_of_ble_eq_true rfl⟩ ?_
    obtain ⟨zu416, hzu416, ezu416⟩ : ∃ u, u < 4 ∧ lowN (w >>> (2 &&& 31)) 4 = u := ⟨_, lowN_lt _ (by omega), rfl⟩
    refine topE (congrArg nI ezu416) ?_
    refine lv_istore (lv' := [(8, .int (nI zu416)), (7, .int (nI zu407)), (6, .int (S 0 11)), (4, .long (tlV S T nl np)), (3, .int (nI zu3)), (0, .ref x0), (1, .int v), (2, .int w)]) hx hb dL_act_419 hl (by decide) rfl (fun ls hl => ?_)
    refine lv_aload_n hx hb dL_act_421 rfl (lv_at hl 5 rfl) ?_
    refine lv_iload_n hx hb dL_act_422 rfl (lv_at hl 4 rfl) ?_
    refine lv_aload_n hx hb dL_act_423 rfl (lv_at hl 5 rfl) ?_
    refine lv_iload_n hx hb dL_act_424 rfl (lv_at hl 4 rfl) ?_
    refine lv_iconst (v := 1) hx hb dL_act_425 (by decide) ?_
    refine obV0 (x0 := x0) (rest := [.int (nI zu3), .ref x0]) zS hK hX hO hO.recv hP hW_nil hS fp_nw (ob_letterOf l g x0 S T n cs F Y Z nl hG.gls zu3 (by omega) 1 (by decide)) cw_X4_letterOf q420 rfl ⟨Nat.le_of_ble_eq_true rfl, Nat.le_of_ble_eq_true rfl, rfl, rfl⟩ rfl rfl (Nat.le_of_ble_eq_true rfl) hl.1 dL_act_426 ⟨Nat.le_of_ble_eq_true rfl, Nat.le_of_ble_eq_true rfl⟩ (fun H locs hO hP hS => ?_)
    refine topE (y := nI (nn (S 2 zu3))) ((hG.gsh zu3 (by omega)).1.1) ?_
    have hs2a := (hG.gsh zu3 hzu3).1.2
    have hs3a := (hG.gsh zu3 hzu3).2.2
    refine lv_aload_n hx hb dL_act_429 rfl (lv_at hl 5 rfl) ?_
    refine lv_iload_n hx hb dL_act_430 rfl (lv_at hl 4 rfl) ?_
    refine lv_iconst (v := 2) hx hb dL_act_431 (by decide) ?_
    refine obV0 (x0 := x0) (rest := [.int (nI (nn (S 2 zu3))), .int (nI zu3), .ref x0]) zS hK hX hO hO.recv hP hW_nil hS fp_nw (ob_letterOf l g x0 S T n cs F Y Z nl hG.gls zu3 (by omega) 2 (by decide)) cw_X4_letterOf q420 rfl ⟨Nat.le_of_ble_eq_true rfl, Nat.le_of_ble_eq_true rfl, rfl, rfl⟩ rfl rfl (Nat.le_of_ble_eq_true rfl) hl.1 dL_act_432 ⟨Nat.le_of_ble_eq_true rfl, Nat.le_of_ble_eq_true rfl⟩ (fun H locs hO hP hS => ?_)
    refine topE (y := nI (nn (S 3 zu3))) ((hG.gsh zu3 (by omega)).2.1) ?_
    refine obV0 (x0 := x0) (rest := []) zS hK hX hO hO.recv hP hW_nil hS fp_nw (ob_shape l g x0 S T n cs F Y Z hG.gsh nl hG.gls zu3 (by omega) (nn (S 2 zu3)) hs2a (nn (S 3 zu3)) hs3a) cw_X4_shape q538 rfl ⟨Nat.le_of_ble_eq_true rfl, Nat.le_of_ble_eq_true rfl, rfl, rfl⟩ rfl rfl (Nat.le_of_ble_eq_true rfl) hl.1 dL_act_435 ⟨Nat.le_of_ble_eq_true rfl, Nat.le_of_ble_eq_true rfl⟩ (fun H locs hO hP hS => ?_)
    refine topE (y := nI ((4 * nn (S 2 zu3)) + nn (S 3 zu3))) (sh_had (hG.gsh zu3 hzu3).1.1 (hG.gsh zu3 hzu3).2.1) ?_
    obtain ⟨S1, T1, np1, eS1, eT1, hG1, hs1, hc1⟩ := gk_ag hG T
    have hsm : rw_ (rw_ S 2 (upd (S 2) zu3 (nI (nn (S 2 zu3))))) 3 (upd (S 3) zu3 (nI (nn (S 3 zu3)))) = S := sh_same (hG.gsh zu3 hzu3).1.1 (hG.gsh zu3 hzu3).2.1
    rw [hsm] at hO
    rw [← eS1, ← eT1] at hO
    refine lv_if_lt (tgt := 506) hx hb dL_act_438 (by decide) (fun c_438 => ?_) (fun c_438 => ?_)
    · skip
      exact absurd c_438 (nI_pos (n := (4 * nn (S 2 zu3)) + nn (S 3 zu3)) (by omega))
    · skip
      refine lv_aload_n hx hb dL_act_441 rfl (lv_at hl 5 rfl) ?_
      refine lv_iload hx hb dL_act_442 (lv_at hl 1 rfl) ?_
      refine lv_iload hx hb dL_act_444 (lv_at hl 0 rfl) ?_
      refine lv_aload_n hx hb dL_act_446 rfl (lv_at hl 5 rfl) ?_
      refine lv_iload hx hb dL_act_447 (lv_at hl 1 rfl) ?_
      refine lv_iload hx hb dL_act_449 (lv_at hl 0 rfl) ?_
      refine lv_iconst (v := 1) hx hb dL_act_451 (by decide) ?_
      refine obV0 (x0 := x0) (rest := [.int (nI zu416), .int (nI zu407), .ref x0]) zS hK hX hO hO.recv hP hW_nil hS fp_nw (ob_shapesOf l g x0 S1 T1 n cs F Y Z hG1.gsh np1 hG1.glp zu407 (by omega) zu416 (by omega) 1 (by decide)) cw_X4_shapesOf q428 rfl ⟨Nat.le_of_ble_eq_true rfl, Nat.le_of_ble_eq_true rfl, rfl, rfl⟩ rfl rfl (Nat.le_of_ble_eq_true rfl) hl.1 dL_act_452 ⟨Nat.le_of_ble_eq_true rfl, Nat.le_of_ble_eq_true rfl⟩ (fun H locs hO hP hS => ?_)
      refine topE (y := S1 4 (4 * zu407 + zu416) + 100) (by rw [show 4 * zu407 + zu416 = (4 * zu407 + zu416) by omega]; rfl) ?_
      refine lv_bipush (v := 100) hx hb dL_act_455 (by decide) ?_
      refine lv_isub hx hb dL_act_457 ?_
      refine obV0 (x0 := x0) (rest := []) zS hK hX hO hO.recv hP hW_nil hS fp_nw (ob_base l g x0 S1 T1 n cs F Y Z hG1.gsh nl hG1.gls zu407 (by omega) zu416 (by omega) (S1 4 (4 * zu407 + zu416) + 100 - 100) (bk_y (hG1.1.2.2.1 (4 * zu407 + zu416) (by omega))).1 (bk_y (hG1.1.2.2.1 (4 * zu407 + zu416) (by omega))).2) cw_X4_base q547 rfl ⟨Nat.le_of_ble_eq_true rfl, Nat.le_of_ble_eq_true rfl, rfl, rfl⟩ rfl rfl (Nat.le_of_ble_eq_true rfl) hl.1 dL_act_458 ⟨Nat.le_of_ble_eq_true rfl, Nat.le_of_ble_eq_true rfl⟩ (fun H locs hO hP hS => ?_)
      obtain ⟨S2, T2, np2, eS2, eT2, hG2, hs2, hc2⟩ := gk_ag hG1 T1
      have hbm : rw_ S1 4 (upd (S1 4) (4 * zu407 + zu416) (S1 4 (4 * zu407 + zu416) + 100 - 100)) = S1 := ba_same S1 (4 * zu407 + zu416)
      rw [hbm] at hO
      rw [← eS2, ← eT2] at hO
      refine lv_bipush (v := 88) hx hb dL_act_461 (by decide) ?_
      refine lv_icmp_lt (tgt := 506) hx hb dL_act_463 (by decide) (fun c_463 => ?_) (fun c_463 => ?_)
      · skip
        exact absurd c_463 (hG1.1.2.2.1 (4 * zu407 + zu416) (by omega)).all.1
      · skip
        refine lv_aload_n hx hb dL_act_466 rfl (lv_at hl 5 rfl) ?_
        refine lv_iconst (v := 0) hx hb dL_act_467 (by decide) ?_
        refine lv_aload_n hx hb dL_act_468 rfl (lv_at hl 5 rfl) ?_
        refine lv_iconst (v := 0) hx hb dL_act_469 (by decide) ?_
        refine obV0 (x0 := x0) (rest := [.int 0, .ref x0]) zS hK hX hO hO.recv hP hW_nil hS fp_nw (ob_setting l g x0 S2 T2 n cs F Y Z 0 (by omega)) cw_X4_setting q441 rfl ⟨Nat.le_of_ble_eq_true rfl, Nat.le_of_ble_eq_true rfl, rfl, rfl⟩ rfl rfl (Nat.le_of_ble_eq_true rfl) hl.1 dL_act_470 ⟨Nat.le_of_ble_eq_true rfl, Nat.le_of_ble_eq_true rfl⟩ (fun H locs hO hP hS => ?_)
        refine obV0 (x0 := x0) (rest := []) zS hK hX hO hO.recv hP hW_nil hS fp_nw (ob_set l g x0 S2 T2 n cs F Y Z hG2.gsh nl hG2.gls 0 (by decide) (S2 5 0) (hF.same (by rw [hs2.1 5 (by omega), hs1.1 5 (by omega)])).1) cw_X4_set q551 rfl ⟨Nat.le_of_ble_eq_true rfl, Nat.le_of_ble_eq_true rfl, rfl, rfl⟩ rfl rfl (Nat.le_of_ble_eq_true rfl) hl.1 dL_act_473 ⟨Nat.le_of_ble_eq_true rfl, Nat.le_of_ble_eq_true rfl⟩ (fun H locs hO hP hS => ?_)
        obtain ⟨S3, T3, np3, eS3, eT3, hG3, hs3, hc3⟩ := gk_ag hG2 T2
        rw [(st_same S2 T2 nl (k := 0) (by decide)).1, (st_same S2 T2 nl (k := 0) (by decide)).2] at hO
        rw [← eS3, ← eT3] at hO
        refine lv_aload_n hx hb dL_act_476 rfl (lv_at hl 5 rfl) ?_
        refine lv_iconst (v := 0) hx hb dL_act_477 (by decide) ?_
        refine obV0 (x0 := x0) (rest := [.int (S2 5 0)]) zS hK hX hO hO.recv hP hW_nil hS fp_nw (ob_setting l g x0 S3 T3 n cs F Y Z 0 (by omega)) cw_X4_setting q441 rfl ⟨Nat.le_of_ble_eq_true rfl, Nat.le_of_ble_eq_true rfl, rfl, rfl⟩ rfl rfl (Nat.le_of_ble_eq_true rfl) hl.1 dL_act_478 ⟨Nat.le_of_ble_eq_true rfl, Nat.le_of_ble_eq_true rfl⟩ (fun H locs hO hP hS => ?_)
        refine lv_icmp_ne (tgt := 506) hx hb dL_act_481 (by decide) (fun c_481 => ?_) (fun c_481 => ?_)
        · skip
          exact absurd (by rw [hs3.1 5 (by omega)]) c_481
        · skip
          refine lv_aload_n hx hb dL_act_484 rfl (lv_at hl 5 rfl) ?_
          refine lv_iconst (v := 1) hx hb dL_act_485 (by decide) ?_
          refine lv_aload_n hx hb dL_act_486 rfl (lv_at hl 5 rfl) ?_
          refine lv_iconst (v := 1) hx hb dL_act_487 (by decide) ?_
          refine obV0 (x0 := x0) (rest := [.int 1, .ref x0]) zS hK hX hO hO.recv hP hW_nil hS fp_nw (ob_setting l g x0 S3 T3 n cs F Y Z 1 (by omega)) cw_X4_setting q441 rfl ⟨Nat.le_of_ble_eq_true rfl, Nat.le_of_ble_eq_true rfl, rfl, rfl⟩ rfl rfl (Nat.le_of_ble_eq_true rfl) hl.1 dL_act_488 ⟨Nat.le_of_ble_eq_true rfl, Nat.le_of_ble_eq_true rfl⟩ (fun H locs hO hP hS => ?_)
          refine obV0 (x0 := x0) (rest := []) zS hK hX hO hO.recv hP hW_nil hS fp_nw (ob_set l g x0 S3 T3 n cs F Y Z hG3.gsh nl hG3.gls 1 (by decide) (S3 5 1) (hF.same (by rw [hs3.1 5 (by omega), hs2.1 5 (by omega), hs1.1 5 (by omega)])).2) cw_X4_set q551 rfl ⟨Nat.le_of_ble_eq_true rfl, Nat.le_of_ble_eq_true rfl, rfl, rfl⟩ rfl rfl (Nat.le_of_ble_eq_true rfl) hl.1 dL_act_491 ⟨Nat.le_of_ble_eq_true rfl, Nat.le_of_ble_eq_true rfl⟩ (fun H locs hO hP hS => ?_)
          obtain ⟨S4, T4, np4, eS4, eT4, hG4, hs4, hc4⟩ := gk_ag hG3 T3
          rw [(st_same S3 T3 nl (k := 1) (by decide)).1, (st_same S3 T3 nl (k := 1) (by decide)).2] at hO
          rw [← eS4, ← eT4] at hO
          refine lv_aload_n hx hb dL_act_494 rfl (lv_at hl 5 rfl) ?_
          refine lv_iconst (v := 1) hx hb dL_act_495 (by decide) ?_
          refine obV0 (x0 := x0) (rest := [.int (S3 5 1)]) zS hK hX hO hO.recv hP hW_nil hS fp_nw (ob_setting l g x0 S4 T4 n cs F Y Z 1 (by omega)) cw_X4_setting q441 rfl ⟨Nat.le_of_ble_eq_true rfl, Nat.le_of_ble_eq_true rfl, rfl, rfl⟩ rfl rfl (Nat.le_of_ble_eq_true rfl) hl.1 dL_act_496 ⟨Nat.le_of_ble_eq_true rfl, Nat.le_of_ble_eq_true rfl⟩ (fun H locs hO hP hS => ?_)
          refine lv_icmp_ne (tgt := 506) hx hb dL_act_499 (by decide) (fun c_499 => ?_) (fun c_499 => ?_)
          · skip
            exact absurd (by rw [hs4.1 5 (by omega)]) c_499
          · skip
            refine lv_iconst (v := 1) hx hb dL_act_502 (by decide) ?_
            refine lv_goto (tgt := 507) hx hb dL_act_503 (by decide) ?_
            refine lv_istore (lv' := [(9, .int 1), (8, .int (nI zu416)), (7, .int (nI zu407)), (6, .int (S 0 11)), (4, .long (tlV S T nl np)), (3, .int (nI zu3)), (0, .ref x0), (1, .int v), (2, .int w)]) hx hb dL_act_507 hl (by decide) rfl (fun ls hl => ?_)
            refine lv_iload hx hb dL_act_509 (lv_at hl 0 rfl) ?_
            refine lv_if_eq (tgt := 541) hx hb dL_act_511 (by decide) (fun c_511 => ?_) (fun c_511 => ?_)
            · skip
              exact absurd c_511 (by decide)
            · skip
              refine lv_aload_n hx hb dL_act_514 rfl (lv_at hl 6 rfl) ?_
              refine obS0 (rest := []) zS hK hX hO hP hW_nil hS fp_nw (m_L_tale l g x0 S4 T4 n cs F Y Z nl np4 hG4) cw_L_tale q559 ⟨Nat.le_of_ble_eq_true rfl, Nat.le_of_ble_eq_true rfl, rfl, rfl⟩ rfl rfl (Nat.le_of_ble_eq_true rfl) hl.1 dL_act_515 ⟨Nat.le_of_ble_eq_true rfl, Nat.le_of_ble_eq_true rfl⟩ (fun H locs hO hP hS => ?_)
              refine lv_lload hx hb dL_act_518 (lv_at hl 4 rfl) ?_
              refine W.lcmp hx hb dL_act_520 ?_
              refine lv_if_ne (tgt := 541) hx hb dL_act_521 (by decide) (fun c_521 => ?_) (fun c_521 => ?_)
              · skip
                exact absurd (by rw [tlV_sm hG hG4 (((hs1.tr hs2).tr hs3).tr hs4)]; exact lgc _) c_521
              · skip
                refine lv_aload_n hx hb dL_act_524 rfl (lv_at hl 6 rfl) ?_
                refine lv_bipush (v := 6) hx hb dL_act_525 (by decide) ?_
                refine obV0 (x0 := x0) (rest := []) zS hK hX hO hO.recv hP hW_nil hS fp_nw (ob_count l g x0 S4 T4 n cs F Y Z nl hG4.gls np4 hG4.glp 6 (by omega)) cw_X4_count q445 rfl ⟨Nat.le_of_ble_eq_true rfl, Nat.le_of_ble_eq_true rfl, rfl, rfl⟩ rfl rfl (Nat.le_of_ble_eq_true rfl) hl.1 dL_act_527 ⟨Nat.le_of_ble_eq_true rfl, Nat.le_of_ble_eq_true rfl⟩ (fun H locs hO hP hS => ?_)
                refine topE (y := S4 0 11) (rfl) ?_
                refine lv_iload hx hb dL_act_530 (lv_at hl 3 rfl) ?_
                refine lv_iconst (v := 4) hx hb dL_act_532 (by decide) ?_
                refine lv_iadd hx hb dL_act_533 ?_
                refine lv_icmp_ne (tgt := 541) hx hb dL_act_534 (by decide) (fun c_534 => ?_) (fun c_534 => ?_)
                · skip
                  exact absurd (by rw [hc4, hc3, hc2, hc1]; grind) c_534
                · skip
                  refine lv_iconst (v := 1) hx hb dL_act_537 (by decide) ?_
                  refine lv_goto (tgt := 542) hx hb dL_act_538 (by decide) ?_
                  refine W.widen (k := 4) (n := 200) (Nat.le_of_ble_eq_true rfl) (Nat.le_of_ble_eq_true rfl) ?_
                  exact o_z hx hb hr hlk hS dL_act_542 (by decide) (IV_mk hG4 (hF.same (by rw [hs4.1 5 (by omega), hs3.1 5 (by omega), hs2.1 5 (by omega), hs1.1 5 (by omega)])) hn hO) (rfl)
  · skip
    refine lv_tableIn (tgt := 543) hx hb dL_act_13 (by decide) (by decide) rfl (by decide) ?_
    refine lv_aload_n hx hb dL_act_543 rfl (lv_at hl 1 rfl) ?_
    refine lv_iconst (v := 0) hx hb dL_act_544 (by decide) ?_
    refine obV0 (x0 := x0) (rest := []) zS hK hX hO hO.recv hP hW_nil hS fp_nw (ob_count l g x0 S T n cs F Y Z nl hG.gls np hG.glp 0 (by omega)) cw_X4_count q445 rfl ⟨Nat.le_of_ble_eq_true rfl, Nat.le_of_ble_eq_true rfl, rfl, rfl⟩ rfl rfl (Nat.le_of_ble_eq_true rfl) hl.1 dL_act_545 ⟨Nat.le_of_ble_eq_true rfl, Nat.le_of_ble_eq_true rfl⟩ (fun H locs hO hP hS => ?_)
    refine topE (y := nI nl) (rfl) ?_
    refine lv_if_eq (tgt := 567) hx hb dL_act_548 (by decide) (fun c_548 => ?_) (fun c_548 => ?_)
    · skip
      have c_548 : nl = 0 := (nI_eq (a := nl) (b := 0) (by omega) (by omega)).mp c_548
      refine lv_iconst (v := 1) hx hb dL_act_567 (by decide) ?_
      refine lv_goto (tgt := 572) hx hb dL_act_568 (by decide) ?_
      refine W.widen (k := 4) (n := 200) (Nat.le_of_ble_eq_true rfl) (Nat.le_of_ble_eq_true rfl) ?_
      exact o_z hx hb hr hlk hS dL_act_572 (by decide) (IV_mk hG hF hn hO) (rfl)
    · skip
      have c_548 : nl ≠ 0 := fun z => c_548 ((nI_eq (a := nl) (b := 0) (by omega) (by omega)).mpr z)
      refine lv_aload_n hx hb dL_act_551 rfl (lv_at hl 1 rfl) ?_
      refine lv_iload_n hx hb dL_act_552 rfl (lv_at hl 3 rfl) ?_
      refine lv_aload_n hx hb dL_act_553 rfl (lv_at hl 1 rfl) ?_
      refine lv_iconst (v := 0) hx hb dL_act_554 (by decide) ?_
      refine obV0 (x0 := x0) (rest := [.int w, .ref x0]) zS hK hX hO hO.recv hP hW_nil hS fp_nw (ob_count l g x0 S T n cs F Y Z nl hG.gls np hG.glp 0 (by omega)) cw_X4_count q445 rfl ⟨Nat.le_of_ble_eq_true rfl, Nat.le_of_ble_eq_true rfl, rfl, rfl⟩ rfl rfl (Nat.le_of_ble_eq_true rfl) hl.1 dL_act_555 ⟨Nat.le_of_ble_eq_true rfl, Nat.le_of_ble_eq_true rfl⟩ (fun H locs hO hP hS => ?_)
      refine topE (y := nI nl) (rfl) ?_
      refine rdS (rest := [.ref x0]) zS hK hP (m_L_low l g w nl (by omega) (by omega)) cw_L_low q489 [] rfl ⟨Nat.le_of_ble_eq_true rfl, Nat.le_of_ble_eq_true rfl, rfl, rfl⟩ rfl rfl (Nat.le_of_ble_eq_true rfl) hl.1 dL_act_558 ⟨Nat.le_of_ble_eq_true rfl, Nat.le_of_ble_eq_true rfl⟩ ?_
      obtain ⟨zu558, hzu558, ezu558⟩ : ∃ u, u < nl ∧ lowN w nl = u := ⟨_, lowN_lt _ (by omega), rfl⟩
      refine topE (congrArg nI ezu558) ?_
      refine obS (rest := []) zS hK hX hO hP hW_nil hS (fun _ h => h) (m_L_forgets l g x0 S T n cs F Y Z nl np hG zu558 (by omega)) cw_L_forgets q568 ⟨Nat.le_of_ble_eq_true rfl, Nat.le_of_ble_eq_true rfl⟩ rfl rfl (Nat.le_of_ble_eq_true rfl) hl.1 dL_act_561 ⟨Nat.le_of_ble_eq_true rfl, Nat.le_of_ble_eq_true rfl⟩ (fun H locs hO hP hS hzq => ?_)
      obtain ⟨np2, hG2⟩ := gk_forget hG hzu558
      refine lv_if_eq (tgt := 571) hx hb dL_act_564 (by decide) (fun c_564 => ?_) (fun c_564 => ?_)
      · skip
        exact absurd c_564 (by decide)
      · skip
        refine lv_iconst (v := 1) hx hb dL_act_567 (by decide) ?_
        refine lv_goto (tgt := 572) hx hb dL_act_568 (by decide) ?_
        refine W.widen (k := 4) (n := 200) (Nat.le_of_ble_eq_true rfl) (Nat.le_of_ble_eq_true rfl) ?_
        exact o_z hx hb hr hlk hS dL_act_572 (by decide) (IV_mk hG2 (hF.same rfl) hn hO) (rfl)
  · skip
    refine lv_tableIn (tgt := 573) hx hb dL_act_13 (by decide) (by decide) rfl (by decide) ?_
    refine lv_aload_n hx hb dL_act_573 rfl (lv_at hl 1 rfl) ?_
    refine lv_iload_n hx hb dL_act_574 rfl (lv_at hl 2 rfl) ?_
    refine lv_iconst (v := 4) hx hb dL_act_575 (by decide) ?_
    refine lv_ishr hx hb dL_act_576 ?_
    refine lv_iload_n hx hb dL_act_577 rfl (lv_at hl 3 rfl) ?_
    refine obS0 (rest := []) zS hK hX hO hP hW_nil hS fp_nw (m_L_isWidth l g x0 S T n cs F Y Z nl np hG (v >>> (4 &&& 31)) (w) hn) cw_L_isWidth q482 ⟨Nat.le_of_ble_eq_true rfl, Nat.le_of_ble_eq_true rfl, rfl, rfl⟩ rfl rfl (Nat.le_of_ble_eq_true rfl) hl.1 dL_act_578 ⟨Nat.le_of_ble_eq_true rfl, Nat.le_of_ble_eq_true rfl⟩ (fun H locs hO hP hS => ?_)
    obtain ⟨fz, -, hO⟩ := hO
    refine W.widen (k := 4) (n := 200) (Nat.le_of_ble_eq_true rfl) (Nat.le_of_ble_eq_true rfl) ?_
    exact o_z hx hb hr hlk hS dL_act_581 (by decide) (IV_mk hG hF (by decide) hO) (rfl)
  · skip
    refine lv_tableIn (tgt := 582) hx hb dL_act_13 (by decide) (by decide) rfl (by decide) ?_
    refine lv_aload_n hx hb dL_act_582 rfl (lv_at hl 1 rfl) ?_
    refine lv_iload_n hx hb dL_act_583 rfl (lv_at hl 3 rfl) ?_
    refine lv_iconst (v := 2) hx hb dL_act_584 (by decide) ?_
    refine rdS (rest := [.ref x0]) zS hK hP (m_L_low l g w 2 (by omega) (by omega)) cw_L_low q489 [] rfl ⟨Nat.le_of_ble_eq_true rfl, Nat.le_of_ble_eq_true rfl, rfl, rfl⟩ rfl rfl (Nat.le_of_ble_eq_true rfl) hl.1 dL_act_585 ⟨Nat.le_of_ble_eq_true rfl, Nat.le_of_ble_eq_true rfl⟩ ?_
    obtain ⟨zu585, hzu585, ezu585⟩ : ∃ u, u < 2 ∧ lowN w 2 = u := ⟨_, lowN_lt _ (by omega), rfl⟩
    refine topE (congrArg nI ezu585) ?_
    rcases (show zu585 = 0 ∨ zu585 = 1 from by omega) with rfl | rfl
    · skip
      refine obV0 (x0 := x0) (rest := []) zS hK hX hO hO.recv hP hW_nil hS fp_nw (ob_keep_0 l g x0 S T n cs F Y Z nl hG.gls.1) cw_X4_keep q583 rfl ⟨Nat.le_of_ble_eq_true rfl, Nat.le_of_ble_eq_true rfl, rfl, rfl⟩ rfl rfl (Nat.le_of_ble_eq_true rfl) hl.1 dL_act_588 ⟨Nat.le_of_ble_eq_true rfl, Nat.le_of_ble_eq_true rfl⟩ (fun H locs hO hP hS => ?_)
      refine topE (y := nI nl) (hG.gls.1) ?_
      refine lv_istore (lv' := [(4, .int (nI nl)), (3, .int (nI zu3)), (0, .ref x0), (1, .int v), (2, .int w)]) hx hb dL_act_591 hl (by decide) rfl (fun ls hl => ?_)
      refine lv_aload_n hx hb dL_act_593 rfl (lv_at hl 2 rfl) ?_
      refine obS0 (rest := []) zS hK hX hO hP hW_nil hS fp_nw (m_L_tale l g x0 S T n cs (upd F 0 1) (u20 Y S) (u20 Z T) nl np hG) cw_L_tale q559 ⟨Nat.le_of_ble_eq_true rfl, Nat.le_of_ble_eq_true rfl, rfl, rfl⟩ rfl rfl (Nat.le_of_ble_eq_true rfl) hl.1 dL_act_594 ⟨Nat.le_of_ble_eq_true rfl, Nat.le_of_ble_eq_true rfl⟩ (fun H locs hO hP hS => ?_)
      refine lv_lstore (lv' := [(5, .long (tlV S T nl np)), (4, .int (nI nl)), (3, .int (nI zu3)), (0, .ref x0), (1, .int v), (2, .int w)]) hx hb dL_act_597 hl (by decide) rfl (fun ls hl => ?_)
      refine lv_iload hx hb dL_act_599 (lv_at hl 1 rfl) ?_
      refine lv_aload_n hx hb dL_act_601 rfl (lv_at hl 3 rfl) ?_
      refine lv_iconst (v := 0) hx hb dL_act_602 (by decide) ?_
      refine obV0 (x0 := x0) (rest := [.int (nI nl)]) zS hK hX hO hO.recv hP hW_nil hS fp_nw (ob_count l g x0 S T n cs (upd F 0 1) (u20 Y S) (u20 Z T) nl hG.gls np hG.glp 0 (by omega)) cw_X4_count q445 rfl ⟨Nat.le_of_ble_eq_true rfl, Nat.le_of_ble_eq_true rfl, rfl, rfl⟩ rfl rfl (Nat.le_of_ble_eq_true rfl) hl.1 dL_act_603 ⟨Nat.le_of_ble_eq_true rfl, Nat.le_of_ble_eq_true rfl⟩ (fun H locs hO hP hS => ?_)
      refine topE (y := nI nl) (rfl) ?_
      refine lv_icmp_ne (tgt := 670) hx hb dL_act_606 (by decide) (fun c_606 => ?_) (fun c_606 => ?_)
      · skip
        have c_606 : nl ≠ nl := fun z => c_606 ((nI_eq (a := nl) (b := nl) (by omega) (by omega)).mpr z)
        exact absurd rfl c_606
      · skip
        have c_606 : nl = nl := (nI_eq (a := nl) (b := nl) (by omega) (by omega)).mp c_606
        refine lv_aload_n hx hb dL_act_609 rfl (lv_at hl 3 rfl) ?_
        refine lv_iload_n hx hb dL_act_610 rfl (lv_at hl 5 rfl) ?_
        refine lv_iconst (v := 1) hx hb dL_act_611 (by decide) ?_
        refine lv_ishr hx hb dL_act_612 ?_
        refine lv_bipush (v := 100) hx hb dL_act_613 (by decide) ?_
        refine rdS (rest := [.ref x0]) zS hK hP (m_L_low l g (w >>> (1 &&& 31)) 100 (by omega) (by omega)) cw_L_low q489 [] rfl ⟨Nat.le_of_ble_eq_true rfl, Nat.le_of_ble_eq_true rfl, rfl, rfl⟩ rfl rfl (Nat.le_of_ble_eq_true rfl) hl.1 dL_act_615 ⟨Nat.le_of_ble_eq_true rfl, Nat.le_of_ble_eq_true rfl⟩ ?_
        obtain ⟨zu615, hzu615, ezu615⟩ : ∃ u, u < 100 ∧ lowN (w >>> (1 &&& 31)) 100 = u := ⟨_, lowN_lt _ (by omega), rfl⟩
        refine topE (congrArg nI ezu615) ?_
        refine lv_iconst (v := 1) hx hb dL_act_618 (by decide) ?_
        refine obS (rest := []) zS hK hX hO hP hW_nil hS (fun _ h => h) (m_L_circles l g x0 S T n cs (upd F 0 1) (u20 Y S) (u20 Z T) nl np hG zu615 (by omega) 1 (Or.inl rfl)) cw_L_circles q587 ⟨Nat.le_of_ble_eq_true rfl, Nat.le_of_ble_eq_true rfl⟩ rfl rfl (Nat.le_of_ble_eq_true rfl) hl.1 dL_act_619 ⟨Nat.le_of_ble_eq_true rfl, Nat.le_of_ble_eq_true rfl⟩ (fun H locs hO hP hS hzq => ?_)
        obtain ⟨nl2, np2, hG2⟩ := gk_circle hG (p := zu615) (by omega) (w := 1) (Or.inl rfl)
        refine lv_if_eq (tgt := 670) hx hb dL_act_622 (by decide) (fun c_622 => ?_) (fun c_622 => ?_)
        · skip
          exact absurd c_622 (by decide)
        · skip
          refine lv_aload_n hx hb dL_act_625 rfl (lv_at hl 3 rfl) ?_
          refine lv_iload_n hx hb dL_act_626 rfl (lv_at hl 5 rfl) ?_
          refine lv_bipush (v := 8) hx hb dL_act_627 (by decide) ?_
          refine lv_ishr hx hb dL_act_629 ?_
          refine lv_bipush (v := 100) hx hb dL_act_630 (by decide) ?_
          refine rdS (rest := [.ref x0]) zS hK hP (m_L_low l g (w >>> (8 &&& 31)) 100 (by omega) (by omega)) cw_L_low q489 [] rfl ⟨Nat.le_of_ble_eq_true rfl, Nat.le_of_ble_eq_true rfl, rfl, rfl⟩ rfl rfl (Nat.le_of_ble_eq_true rfl) hl.1 dL_act_632 ⟨Nat.le_of_ble_eq_true rfl, Nat.le_of_ble_eq_true rfl⟩ ?_
          obtain ⟨zu632, hzu632, ezu632⟩ : ∃ u, u < 100 ∧ lowN (w >>> (8 &&& 31)) 100 = u := ⟨_, lowN_lt _ (by omega), rfl⟩
          refine topE (congrArg nI ezu632) ?_
          refine lv_iconst (v := (-1)) hx hb dL_act_635 (by decide) ?_
          refine obS (rest := []) zS hK hX hO hP hW_nil hS (fun _ h => h) (m_L_circles l g x0 (lcS S T nl zu615 1) (lcT S T nl np zu615 1) n cs (upd F 0 1) (u20 Y S) (u20 Z T) nl2 np2 hG2 zu632 (by omega) (-1) (Or.inr rfl)) cw_L_circles q587 ⟨Nat.le_of_ble_eq_true rfl, Nat.le_of_ble_eq_true rfl⟩ rfl rfl (Nat.le_of_ble_eq_true rfl) hl.1 dL_act_636 ⟨Nat.le_of_ble_eq_true rfl, Nat.le_of_ble_eq_true rfl⟩ (fun H locs hO hP hS hzq => ?_)
          obtain ⟨nl3, np3, hG3⟩ := gk_circle hG2 (p := zu632) (by omega) (w := -1) (Or.inr rfl)
          refine lv_if_eq (tgt := 670) hx hb dL_act_639 (by decide) (fun c_639 => ?_) (fun c_639 => ?_)
          · skip
            exact absurd c_639 (by decide)
          · skip
            refine lv_aload_n hx hb dL_act_642 rfl (lv_at hl 3 rfl) ?_
            refine lv_iload_n hx hb dL_act_643 rfl (lv_at hl 5 rfl) ?_
            refine lv_iconst (v := 2) hx hb dL_act_644 (by decide) ?_
            refine rdS (rest := [.ref x0]) zS hK hP (m_L_low l g w 2 (by omega) (by omega)) cw_L_low q489 [] rfl ⟨Nat.le_of_ble_eq_true rfl, Nat.le_of_ble_eq_true rfl, rfl, rfl⟩ rfl rfl (Nat.le_of_ble_eq_true rfl) hl.1 dL_act_645 ⟨Nat.le_of_ble_eq_true rfl, Nat.le_of_ble_eq_true rfl⟩ ?_
            refine topE (congrArg nI ezu585) ?_
            refine obV0 (x0 := x0) (rest := []) zS hK hX hO hO.recv hP hW_nil hS fp_nw (ob_goBack_0 l g x0 (lcS (lcS S T nl zu615 1) (lcT S T nl np zu615 1) nl2 zu632 (-1)) (lcT (lcS S T nl zu615 1) (lcT S T nl np zu615 1) nl2 np2 zu632 (-1)) n cs (upd F 0 1) (u20 Y S) (u20 Z T) (by rw [upd_s]; decide)) cw_X4_goBack q612 rfl ⟨Nat.le_of_ble_eq_true rfl, Nat.le_of_ble_eq_true rfl, rfl, rfl⟩ rfl rfl (Nat.le_of_ble_eq_true rfl) hl.1 dL_act_648 ⟨Nat.le_of_ble_eq_true rfl, Nat.le_of_ble_eq_true rfl⟩ (fun H locs hO hP hS => ?_)
            refine topE (y := nI nl) ((hG.gls.1 : S 0 7 = _)) ?_
            have hO : OB g x0 S T n cs (upd F 0 1) (u20 Y S) (u20 Z T) H := hO
            refine lv_iload hx hb dL_act_651 (lv_at hl 1 rfl) ?_
            refine lv_icmp_ne (tgt := 670) hx hb dL_act_653 (by decide) (fun c_653 => ?_) (fun c_653 => ?_)
            · skip
              have c_653 : nl ≠ nl := fun z => c_653 ((nI_eq (a := nl) (b := nl) (by omega) (by omega)).mpr z)
              exact absurd rfl c_653
            · skip
              have c_653 : nl = nl := (nI_eq (a := nl) (b := nl) (by omega) (by omega)).mp c_653
              refine lv_aload_n hx hb dL_act_656 rfl (lv_at hl 3 rfl) ?_
              refine obS0 (rest := []) zS hK hX hO hP hW_nil hS fp_nw (m_L_tale l g x0 S T n cs (upd F 0 1) (u20 Y S) (u20 Z T) nl np hG) cw_L_tale q559 ⟨Nat.le_of_ble_eq_true rfl, Nat.le_of_ble_eq_true rfl, rfl, rfl⟩ rfl rfl (Nat.le_of_ble_eq_true rfl) hl.1 dL_act_657 ⟨Nat.le_of_ble_eq_true rfl, Nat.le_of_ble_eq_true rfl⟩ (fun H locs hO hP hS => ?_)
              refine lv_lload hx hb dL_act_660 (lv_at hl 0 rfl) ?_
              refine W.lcmp hx hb dL_act_662 ?_
              refine lv_if_ne (tgt := 670) hx hb dL_act_663 (by decide) (fun c_663 => ?_) (fun c_663 => ?_)
              · skip
                exact absurd (lgc _) c_663
              · skip
                refine lv_iconst (v := 1) hx hb dL_act_666 (by decide) ?_
                refine lv_goto (tgt := 671) hx hb dL_act_667 (by decide) ?_
                refine W.widen (k := 4) (n := 200) (Nat.le_of_ble_eq_true rfl) (Nat.le_of_ble_eq_true rfl) ?_
                exact o_z hx hb hr hlk hS dL_act_671 (by decide) (IV_mk hG hF hn hO) (rfl)
    · skip
      refine obV0 (x0 := x0) (rest := []) zS hK hX hO hO.recv hP hW_nil hS fp_nw (ob_keep_1 l g x0 S T n cs F Y Z nl hG.gls.1) cw_X4_keep q583 rfl ⟨Nat.le_of_ble_eq_true rfl, Nat.le_of_ble_eq_true rfl, rfl, rfl⟩ rfl rfl (Nat.le_of_ble_eq_true rfl) hl.1 dL_act_588 ⟨Nat.le_of_ble_eq_true rfl, Nat.le_of_ble_eq_true rfl⟩ (fun H locs hO hP hS => ?_)
      refine topE (y := nI nl) (hG.gls.1) ?_
      refine lv_istore (lv' := [(4, .int (nI nl)), (3, .int (nI zu3)), (0, .ref x0), (1, .int v), (2, .int w)]) hx hb dL_act_591 hl (by decide) rfl (fun ls hl => ?_)
      refine lv_aload_n hx hb dL_act_593 rfl (lv_at hl 2 rfl) ?_
      refine obS0 (rest := []) zS hK hX hO hP hW_nil hS fp_nw (m_L_tale l g x0 S T n cs (upd F 1 1) (u21 Y S) (u21 Z T) nl np hG) cw_L_tale q559 ⟨Nat.le_of_ble_eq_true rfl, Nat.le_of_ble_eq_true rfl, rfl, rfl⟩ rfl rfl (Nat.le_of_ble_eq_true rfl) hl.1 dL_act_594 ⟨Nat.le_of_ble_eq_true rfl, Nat.le_of_ble_eq_true rfl⟩ (fun H locs hO hP hS => ?_)
      refine lv_lstore (lv' := [(5, .long (tlV S T nl np)), (4, .int (nI nl)), (3, .int (nI zu3)), (0, .ref x0), (1, .int v), (2, .int w)]) hx hb dL_act_597 hl (by decide) rfl (fun ls hl => ?_)
      refine lv_iload hx hb dL_act_599 (lv_at hl 1 rfl) ?_
      refine lv_aload_n hx hb dL_act_601 rfl (lv_at hl 3 rfl) ?_
      refine lv_iconst (v := 0) hx hb dL_act_602 (by decide) ?_
      refine obV0 (x0 := x0) (rest := [.int (nI nl)]) zS hK hX hO hO.recv hP hW_nil hS fp_nw (ob_count l g x0 S T n cs (upd F 1 1) (u21 Y S) (u21 Z T) nl hG.gls np hG.glp 0 (by omega)) cw_X4_count q445 rfl ⟨Nat.le_of_ble_eq_true rfl, Nat.le_of_ble_eq_true rfl, rfl, rfl⟩ rfl rfl (Nat.le_of_ble_eq_true rfl) hl.1 dL_act_603 ⟨Nat.le_of_ble_eq_true rfl, Nat.le_of_ble_eq_true rfl⟩ (fun H locs hO hP hS => ?_)
      refine topE (y := nI nl) (rfl) ?_
      refine lv_icmp_ne (tgt := 670) hx hb dL_act_606 (by decide) (fun c_606 => ?_) (fun c_606 => ?_)
      · skip
        have c_606 : nl ≠ nl := fun z => c_606 ((nI_eq (a := nl) (b := nl) (by omega) (by omega)).mpr z)
        exact absurd rfl c_606
      · skip
        have c_606 : nl = nl := (nI_eq (a := nl) (b := nl) (by omega) (by omega)).mp c_606
        refine lv_aload_n hx hb dL_act_609 rfl (lv_at hl 3 rfl) ?_
        refine lv_iload_n hx hb dL_act_610 rfl (lv_at hl 5 rfl) ?_
        refine lv_iconst (v := 1) hx hb dL_act_611 (by decide) ?_
        refine lv_ishr hx hb dL_act_612 ?_
        refine lv_bipush (v := 100) hx hb dL_act_613 (by decide) ?_
        refine rdS (rest := [.ref x0]) zS hK hP (m_L_low l g (w >>> (1 &&& 31)) 100 (by omega) (by omega)) cw_L_low q489 [] rfl ⟨Nat.le_of_ble_eq_true rfl, Nat.le_of_ble_eq_true rfl, rfl, rfl⟩ rfl rfl (Nat.le_of_ble_eq_true rfl) hl.1 dL_act_615 ⟨Nat.le_of_ble_eq_true rfl, Nat.le_of_ble_eq_true rfl⟩ ?_
        obtain ⟨zu615, hzu615, ezu615⟩ : ∃ u, u < 100 ∧ lowN (w >>> (1 &&& 31)) 100 = u := ⟨_, lowN_lt _ (by omega), rfl⟩
        refine topE (congrArg nI ezu615) ?_
        refine lv_iconst (v := 1) hx hb dL_act_618 (by decide) ?_
        refine obS (rest := []) zS hK hX hO hP hW_nil hS (fun _ h => h) (m_L_circles l g x0 S T n cs (upd F 1 1) (u21 Y S) (u21 Z T) nl np hG zu615 (by omega) 1 (Or.inl rfl)) cw_L_circles q587 ⟨Nat.le_of_ble_eq_true rfl, Nat.le_of_ble_eq_true rfl⟩ rfl rfl (Nat.le_of_ble_eq_true rfl) hl.1 dL_act_619 ⟨Nat.le_of_ble_eq_true rfl, Nat.le_of_ble_eq_true rfl⟩ (fun H locs hO hP hS hzq => ?_)
        obtain ⟨nl2, np2, hG2⟩ := gk_circle hG (p := zu615) (by omega) (w := 1) (Or.inl rfl)
        refine lv_if_eq (tgt := 670) hx hb dL_act_622 (by decide) (fun c_622 => ?_) (fun c_622 => ?_)
        · skip
          exact absurd c_622 (by decide)
        · skip
          refine lv_aload_n hx hb dL_act_625 rfl (lv_at hl 3 rfl) ?_
          refine lv_iload_n hx hb dL_act_626 rfl (lv_at hl 5 rfl) ?_
          refine lv_bipush (v := 8) hx hb dL_act_627 (by decide) ?_
          refine lv_ishr hx hb dL_act_629 ?_
          refine lv_bipush (v := 100) hx hb dL_act_630 (by decide) ?_
          refine rdS (rest := [.ref x0]) zS hK hP (m_L_low l g (w >>> (8 &&& 31)) 100 (by omega) (by omega)) cw_L_low q489 [] rfl ⟨Nat.le_of_ble_eq_true rfl, Nat.le_of_ble_eq_true rfl, rfl, rfl⟩ rfl rfl (Nat.le_of_ble_eq_true rfl) hl.1 dL_act_632 ⟨Nat.le_of_ble_eq_true rfl, Nat.le_of_ble_eq_true rfl⟩ ?_
          obtain ⟨zu632, hzu632, ezu632⟩ : ∃ u, u < 100 ∧ lowN (w >>> (8 &&& 31)) 100 = u := ⟨_, lowN_lt _ (by omega), rfl⟩
          refine topE (congrArg nI ezu632) ?_
          refine lv_iconst (v := (-1)) hx hb dL_act_635 (by decide) ?_
          refine obS (rest := []) zS hK hX hO hP hW_nil hS (fun _ h => h) (m_L_circles l g x0 (lcS S T nl zu615 1) (lcT S T nl np zu615 1) n cs (upd F 1 1) (u21 Y S) (u21 Z T) nl2 np2 hG2 zu632 (by omega) (-1) (Or.inr rfl)) cw_L_circles q587 ⟨Nat.le_of_ble_eq_true rfl, Nat.le_of_ble_eq_true rfl⟩ rfl rfl (Nat.le_of_ble_eq_true rfl) hl.1 dL_act_636 ⟨Nat.le_of_ble_eq_true rfl, Nat.le_of_ble_eq_true rfl⟩ (fun H locs hO hP hS hzq => ?_)
          obtain ⟨nl3, np3, hG3⟩ := gk_circle hG2 (p := zu632) (by omega) (w := -1) (Or.inr rfl)
          refine lv_if_eq (tgt := 670) hx hb dL_act_639 (by decide) (fun c_639 => ?_) (fun c_639 => ?_)
          · skip
            exact absurd c_639 (by decide)
          · skip
            refine lv_aload_n hx hb dL_act_642 rfl (lv_at hl 3 rfl) ?_
            refine lv_iload_n hx hb dL_act_643 rfl (lv_at hl 5 rfl) ?_
            refine lv_iconst (v := 2) hx hb dL_act_644 (by decide) ?_
            refine rdS (rest := [.ref x0]) zS hK hP (m_L_low l g w 2 (by omega) (by omega)) cw_L_low q489 [] rfl ⟨Nat.le_of_ble_eq_true rfl, Nat.le_of_ble_eq_true rfl, rfl, rfl⟩ rfl rfl (Nat.le_of_ble_eq_true rfl) hl.1 dL_act_645 ⟨Nat.le_of_ble_eq_true rfl, Nat.le_of_ble_eq_true rfl⟩ ?_
            refine topE (congrArg nI ezu585) ?_
            refine obV0 (x0 := x0) (rest := []) zS hK hX hO hO.recv hP hW_nil hS fp_nw (ob_goBack_1 l g x0 (lcS (lcS S T nl zu615 1) (lcT S T nl np zu615 1) nl2 zu632 (-1)) (lcT (lcS S T nl zu615 1) (lcT S T nl np zu615 1) nl2 np2 zu632 (-1)) n cs (upd F 1 1) (u21 Y S) (u21 Z T) (by rw [upd_s]; decide)) cw_X4_goBack q612 rfl ⟨Nat.le_of_ble_eq_true rfl, Nat.le_of_ble_eq_true rfl, rfl, rfl⟩ rfl rfl (Nat.le_of_ble_eq_true rfl) hl.1 dL_act_648 ⟨Nat.le_of_ble_eq_true rfl, Nat.le_of_ble_eq_true rfl⟩ (fun H locs hO hP hS => ?_)
            refine topE (y := nI nl) ((hG.gls.1 : S 0 7 = _)) ?_
            have hO : OB g x0 S T n cs (upd F 1 1) (u21 Y S) (u21 Z T) H := hO
            refine lv_iload hx hb dL_act_651 (lv_at hl 1 rfl) ?_
            refine lv_icmp_ne (tgt := 670) hx hb dL_act_653 (by decide) (fun c_653 => ?_) (fun c_653 => ?_)
            · skip
              have c_653 : nl ≠ nl := fun z => c_653 ((nI_eq (a := nl) (b := nl) (by omega) (by omega)).mpr z)
              exact absurd rfl c_653
            · skip
              have c_653 : nl = nl := (nI_eq (a := nl) (b := nl) (by omega) (by omega)).mp c_653
              refine lv_aload_n hx hb dL_act_656 rfl (lv_at hl 3 rfl) ?_
              refine obS0 (rest := []) zS hK hX hO hP hW_nil hS fp_nw (m_L_tale l g x0 S T n cs (upd F 1 1) (u21 Y S) (u21 Z T) nl np hG) cw_L_tale q559 ⟨Nat.le_of_ble_eq_true rfl, Nat.le_of_ble_eq_true rfl, rfl, rfl⟩ rfl rfl (Nat.le_of_ble_eq_true rfl) hl.1 dL_act_657 ⟨Nat.le_of_ble_eq_true rfl, Nat.le_of_ble_eq_true rfl⟩ (fun H locs hO hP hS => ?_)
              refine lv_lload hx hb dL_act_660 (lv_at hl 0 rfl) ?_
              refine W.lcmp hx hb dL_act_662 ?_
              refine lv_if_ne (tgt := 670) hx hb dL_act_663 (by decide) (fun c_663 => ?_) (fun c_663 => ?_)
              · skip
                exact absurd (lgc _) c_663
              · skip
                refine lv_iconst (v := 1) hx hb dL_act_666 (by decide) ?_
                refine lv_goto (tgt := 671) hx hb dL_act_667 (by decide) ?_
                refine W.widen (k := 4) (n := 200) (Nat.le_of_ble_eq_true rfl) (Nat.le_of_ble_eq_true rfl) ?_
                exact o_z hx hb hr hlk hS dL_act_671 (by decide) (IV_mk hG hF hn hO) (rfl)
  · skip
    refine lv_tableOut (tgt := 672) hx hb dL_act_13 (Or.inr (by rw [nI_toInt (by omega)]; omega)) (by decide) ?_
    refine lv_aload_n hx hb dL_act_672 rfl (lv_at hl 1 rfl) ?_
    refine lv_iload_n hx hb dL_act_673 rfl (lv_at hl 3 rfl) ?_
    refine lv_iconst (v := 3) hx hb dL_act_674 (by decide) ?_
    refine rdS (rest := [.ref x0]) zS hK hP (m_L_low l g w 3 (by omega) (by omega)) cw_L_low q489 [] rfl ⟨Nat.le_of_ble_eq_true rfl, Nat.le_of_ble_eq_true rfl, rfl, rfl⟩ rfl rfl (Nat.le_of_ble_eq_true rfl) hl.1 dL_act_675 ⟨Nat.le_of_ble_eq_true rfl, Nat.le_of_ble_eq_true rfl⟩ ?_
    obtain ⟨zu675, hzu675, ezu675⟩ : ∃ u, u < 3 ∧ lowN w 3 = u := ⟨_, lowN_lt _ (by omega), rfl⟩
    refine topE (congrArg nI ezu675) ?_
    refine lv_if_ne (tgt := 692) hx hb dL_act_678 (by decide) (fun c_678 => ?_) (fun c_678 => ?_)
    · skip
      have c_678 : zu675 ≠ 0 := fun z => c_678 ((nI_eq (a := zu675) (b := 0) (by omega) (by omega)).mpr z)
      refine lv_bipush (v := 40) hx hb dL_act_692 (by decide) ?_
      refine lv_iload_n hx hb dL_act_694 rfl (lv_at hl 3 rfl) ?_
      refine lv_iconst (v := 2) hx hb dL_act_695 (by decide) ?_
      refine lv_ishr hx hb dL_act_696 ?_
      refine lv_iconst (v := 2) hx hb dL_act_697 (by decide) ?_
      refine rdS (rest := [.int 40, .ref x0]) zS hK hP (m_L_low l g (w >>> (2 &&& 31)) 2 (by omega) (by omega)) cw_L_low q489 [] rfl ⟨Nat.le_of_ble_eq_true rfl, Nat.le_of_ble_eq_true rfl, rfl, rfl⟩ rfl rfl (Nat.le_of_ble_eq_true rfl) hl.1 dL_act_698 ⟨Nat.le_of_ble_eq_true rfl, Nat.le_of_ble_eq_true rfl⟩ ?_
      obtain ⟨zu698, hzu698, ezu698⟩ : ∃ u, u < 2 ∧ lowN (w >>> (2 &&& 31)) 2 = u := ⟨_, lowN_lt _ (by omega), rfl⟩
      refine topE (congrArg nI ezu698) ?_
      refine lv_imul hx hb dL_act_701 ?_
      refine topE (pk_mul 40 zu698) ?_
      refine lv_iconst (v := 4) hx hb dL_act_702 (by decide) ?_
      refine lv_iload_n hx hb dL_act_703 rfl (lv_at hl 3 rfl) ?_
      refine lv_iconst (v := 3) hx hb dL_act_704 (by decide) ?_
      refine lv_ishr hx hb dL_act_705 ?_
      refine lv_iconst (v := 2) hx hb dL_act_706 (by decide) ?_
      refine rdS (rest := [.int 4, .int (nI (40 * zu698)), .ref x0]) zS hK hP (m_L_low l g (w >>> (3 &&& 31)) 2 (by omega) (by omega)) cw_L_low q489 [] rfl ⟨Nat.le_of_ble_eq_true rfl, Nat.le_of_ble_eq_true rfl, rfl, rfl⟩ rfl rfl (Nat.le_of_ble_eq_true rfl) hl.1 dL_act_707 ⟨Nat.le_of_ble_eq_true rfl, Nat.le_of_ble_eq_true rfl⟩ ?_
      obtain ⟨zu707, hzu707, ezu707⟩ : ∃ u, u < 2 ∧ lowN (w >>> (3 &&& 31)) 2 = u := ⟨_, lowN_lt _ (by omega), rfl⟩
      refine topE (congrArg nI ezu707) ?_
      refine lv_imul hx hb dL_act_710 ?_
      refine topE (pk_mul 4 zu707) ?_
      refine lv_iadd hx hb dL_act_711 ?_
      refine topE (nI_add (40 * zu698) (4 * zu707)) ?_
      refine lv_iload_n hx hb dL_act_712 rfl (lv_at hl 3 rfl) ?_
      refine lv_iconst (v := 4) hx hb dL_act_713 (by decide) ?_
      refine lv_ishr hx hb dL_act_714 ?_
      refine lv_iconst (v := 2) hx hb dL_act_715 (by decide) ?_
      refine rdS (rest := [.int (nI ((40 * zu698) + (4 * zu707))), .ref x0]) zS hK hP (m_L_low l g (w >>> (4 &&& 31)) 2 (by omega) (by omega)) cw_L_low q489 [] rfl ⟨Nat.le_of_ble_eq_true rfl, Nat.le_of_ble_eq_true rfl, rfl, rfl⟩ rfl rfl (Nat.le_of_ble_eq_true rfl) hl.1 dL_act_716 ⟨Nat.le_of_ble_eq_true rfl, Nat.le_of_ble_eq_true rfl⟩ ?_
      obtain ⟨zu716, hzu716, ezu716⟩ : ∃ u, u < 2 ∧ lowN (w >>> (4 &&& 31)) 2 = u := ⟨_, lowN_lt _ (by omega), rfl⟩
      refine topE (congrArg nI ezu716) ?_
      refine lv_iadd hx hb dL_act_719 ?_
      refine topE (nI_add ((40 * zu698) + (4 * zu707)) zu716) ?_
      refine lv_iload_n hx hb dL_act_720 rfl (lv_at hl 3 rfl) ?_
      refine lv_bipush (v := 6) hx hb dL_act_721 (by decide) ?_
      refine lv_ishr hx hb dL_act_723 ?_
      refine lv_iconst (v := 3) hx hb dL_act_724 (by decide) ?_
      refine rdS (rest := [.int (nI (((40 * zu698) + (4 * zu707)) + zu716)), .ref x0]) zS hK hP (m_L_low l g (w >>> (6 &&& 31)) 3 (by omega) (by omega)) cw_L_low q489 [] rfl ⟨Nat.le_of_ble_eq_true rfl, Nat.le_of_ble_eq_true rfl, rfl, rfl⟩ rfl rfl (Nat.le_of_ble_eq_true rfl) hl.1 dL_act_725 ⟨Nat.le_of_ble_eq_true rfl, Nat.le_of_ble_eq_true rfl⟩ ?_
      obtain ⟨zu725, hzu725, ezu725⟩ : ∃ u, u < 3 ∧ lowN (w >>> (6 &&& 31)) 3 = u := ⟨_, lowN_lt _ (by omega), rfl⟩
      refine topE (congrArg nI ezu725) ?_
      refine lv_if_ne (tgt := 735) hx hb dL_act_728 (by decide) (fun c_728 => ?_) (fun c_728 => ?_)
      · skip
        have c_728 : zu725 ≠ 0 := fun z => c_728 ((nI_eq (a := zu725) (b := 0) (by omega) (by omega)).mpr z)
        refine lv_iconst (v := 1) hx hb dL_act_735 (by decide) ?_
        refine obS (rest := []) zS hK hX hO hP hW_nil hS (fun _ h => h) (m_L_circles l g x0 S T n cs F Y Z nl np hG (((40 * zu698) + (4 * zu707)) + zu716) (by omega) 1 (Or.inl rfl)) cw_L_circles q587 ⟨Nat.le_of_ble_eq_true rfl, Nat.le_of_ble_eq_true rfl⟩ rfl rfl (Nat.le_of_ble_eq_true rfl) hl.1 dL_act_736 ⟨Nat.le_of_ble_eq_true rfl, Nat.le_of_ble_eq_true rfl⟩ (fun H locs hO hP hS hzq => ?_)
        obtain ⟨nl2, np2, hG2⟩ := gk_circle hG (p := (((40 * zu698) + (4 * zu707)) + zu716)) (by omega) (w := 1) (Or.inl rfl)
        refine W.widen (k := 4) (n := 200) (Nat.le_of_ble_eq_true rfl) (Nat.le_of_ble_eq_true rfl) ?_
        exact o_z hx hb hr hlk hS dL_act_739 (by decide) (IV_mk hG2 (hF.same (lcS_5 _ _ _ _ _)) hn hO) (rfl)
      · skip
        have c_728 : zu725 = 0 := (nI_eq (a := zu725) (b := 0) (by omega) (by omega)).mp c_728
        refine lv_iconst (v := (-1)) hx hb dL_act_731 (by decide) ?_
        refine lv_goto (tgt := 736) hx hb dL_act_732 (by decide) ?_
        refine obS (rest := []) zS hK hX hO hP hW_nil hS (fun _ h => h) (m_L_circles l g x0 S T n cs F Y Z nl np hG (((40 * zu698) + (4 * zu707)) + zu716) (by omega) (-1) (Or.inr rfl)) cw_L_circles q587 ⟨Nat.le_of_ble_eq_true rfl, Nat.le_of_ble_eq_true rfl⟩ rfl rfl (Nat.le_of_ble_eq_true rfl) hl.1 dL_act_736 ⟨Nat.le_of_ble_eq_true rfl, Nat.le_of_ble_eq_true rfl⟩ (fun H locs hO hP hS hzq => ?_)
        obtain ⟨nl2, np2, hG2⟩ := gk_circle hG (p := (((40 * zu698) + (4 * zu707)) + zu716)) (by omega) (w := (-1)) (Or.inr rfl)
        refine W.widen (k := 4) (n := 200) (Nat.le_of_ble_eq_true rfl) (Nat.le_of_ble_eq_true rfl) ?_
        exact o_z hx hb hr hlk hS dL_act_739 (by decide) (IV_mk hG2 (hF.same (lcS_5 _ _ _ _ _)) hn hO) (rfl)
    · skip
      have c_678 : zu675 = 0 := (nI_eq (a := zu675) (b := 0) (by omega) (by omega)).mp c_678
      refine lv_iload_n hx hb dL_act_681 rfl (lv_at hl 3 rfl) ?_
      refine lv_iconst (v := 2) hx hb dL_act_682 (by decide) ?_
      refine lv_ishr hx hb dL_act_683 ?_
      refine lv_bipush (v := 100) hx hb dL_act_684 (by decide) ?_
      refine rdS (rest := [.ref x0]) zS hK hP (m_L_low l g (w >>> (2 &&& 31)) 100 (by omega) (by omega)) cw_L_low q489 [] rfl ⟨Nat.le_of_ble_eq_true rfl, Nat.le_of_ble_eq_true rfl, rfl, rfl⟩ rfl rfl (Nat.le_of_ble_eq_true rfl) hl.1 dL_act_686 ⟨Nat.le_of_ble_eq_true rfl, Nat.le_of_ble_eq_true rfl⟩ ?_
      obtain ⟨zu686, hzu686, ezu686⟩ : ∃ u, u < 100 ∧ lowN (w >>> (2 &&& 31)) 100 = u := ⟨_, lowN_lt _ (by omega), rfl⟩
      refine topE (congrArg nI ezu686) ?_
      refine lv_goto (tgt := 720) hx hb dL_act_689 (by decide) ?_
      refine lv_iload_n hx hb dL_act_720 rfl (lv_at hl 3 rfl) ?_
      refine lv_bipush (v := 6) hx hb dL_act_721 (by decide) ?_
      refine lv_ishr hx hb dL_act_723 ?_
      refine lv_iconst (v := 3) hx hb dL_act_724 (by decide) ?_
      refine rdS (rest := [.int (nI zu686), .ref x0]) zS hK hP (m_L_low l g (w >>> (6 &&& 31)) 3 (by omega) (by omega)) cw_L_low q489 [] rfl ⟨Nat.le_of_ble_eq_true rfl, Nat.le_of_ble_eq_true rfl, rfl, rfl⟩ rfl rfl (Nat.le_of_ble_eq_true rfl) hl.1 dL_act_725 ⟨Nat.le_of_ble_eq_true rfl, Nat.le_of_ble_eq_true rfl⟩ ?_
      obtain ⟨zu725, hzu725, ezu725⟩ : ∃ u, u < 3 ∧ lowN (w >>> (6 &&& 31)) 3 = u := ⟨_, lowN_lt _ (by omega), rfl⟩
      refine topE (congrArg nI ezu725) ?_
      refine lv_if_ne (tgt := 735) hx hb dL_act_728 (by decide) (fun c_728 => ?_) (fun c_728 => ?_)
      · skip
        have c_728 : zu725 ≠ 0 := fun z => c_728 ((nI_eq (a := zu725) (b := 0) (by omega) (by omega)).mpr z)
        refine lv_iconst (v := 1) hx hb dL_act_735 (by decide) ?_
        refine obS (rest := []) zS hK hX hO hP hW_nil hS (fun _ h => h) (m_L_circles l g x0 S T n cs F Y Z nl np hG zu686 (by omega) 1 (Or.inl rfl)) cw_L_circles q587 ⟨Nat.le_of_ble_eq_true rfl, Nat.le_of_ble_eq_true rfl⟩ rfl rfl (Nat.le_of_ble_eq_true rfl) hl.1 dL_act_736 ⟨Nat.le_of_ble_eq_true rfl, Nat.le_of_ble_eq_true rfl⟩ (fun H locs hO hP hS hzq => ?_)
        obtain ⟨nl2, np2, hG2⟩ := gk_circle hG (p := zu686) (by omega) (w := 1) (Or.inl rfl)
        refine W.widen (k := 4) (n := 200) (Nat.le_of_ble_eq_true rfl) (Nat.le_of_ble_eq_true rfl) ?_
        exact o_z hx hb hr hlk hS dL_act_739 (by decide) (IV_mk hG2 (hF.same (lcS_5 _ _ _ _ _)) hn hO) (rfl)
      · skip
        have c_728 : zu725 = 0 := (nI_eq (a := zu725) (b := 0) (by omega) (by omega)).mp c_728
        refine lv_iconst (v := (-1)) hx hb dL_act_731 (by decide) ?_
        refine lv_goto (tgt := 736) hx hb dL_act_732 (by decide) ?_
        refine obS (rest := []) zS hK hX hO hP hW_nil hS (fun _ h => h) (m_L_circles l g x0 S T n cs F Y Z nl np hG zu686 (by omega) (-1) (Or.inr rfl)) cw_L_circles q587 ⟨Nat.le_of_ble_eq_true rfl, Nat.le_of_ble_eq_true rfl⟩ rfl rfl (Nat.le_of_ble_eq_true rfl) hl.1 dL_act_736 ⟨Nat.le_of_ble_eq_true rfl, Nat.le_of_ble_eq_true rfl⟩ (fun H locs hO hP hS hzq => ?_)
        obtain ⟨nl2, np2, hG2⟩ := gk_circle hG (p := zu686) (by omega) (w := (-1)) (Or.inr rfl)
        refine W.widen (k := 4) (n := 200) (Nat.le_of_ble_eq_true rfl) (Nat.le_of_ble_eq_true rfl) ?_
        exact o_z hx hb hr hlk hS dL_act_739 (by decide) (IV_mk hG2 (hF.same (lcS_5 _ _ _ _ _)) hn hO) (rfl)
theorem cw_L_act : CWS yL_act cL_act 10 (some .boolean) 3 := ⟨⟨q520, q9, by decide +kernel, by decide +kernel, by decide +kernel⟩, q519⟩
