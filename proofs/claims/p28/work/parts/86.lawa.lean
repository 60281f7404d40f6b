/-! the law's own methods: what they ask of the object between the acts -/
/-- v without its sign, by n -/
def lowN (v : Int32) (n : Nat) : Nat := v.toBitVec.toNat % 2 ^ 31 % n
theorem lowN_lt (v : Int32) {n : Nat} (h : 0 < n) : lowN v n < n := Nat.mod_lt _ h
theorem dcm : ∀ k, k < 101 → Op.cmpValue (FP.dcmp (shr k) (shr k)) .l = 0 := by decide +kernel
theorem nI_nm1 {m : Nat} (h : m < 2 ^ 31) : ¬ nI m = -1 := fun z => by
  have := congrArg Int32.toInt z
  rw [nI_toInt h, show (-1 : Int32).toInt = -1 from by decide] at this
  omega

set_option maxHeartbeats 4000000 in
set_option maxRecDepth 100000 in
theorem m_L_low (l : Launch) (g : GG) (v : Int32) (n : Nat) (h0 : 0 < n) (hn : n < 2 ^ 31) : MR l g yL_low cL_low 2 (some .int) ({ frames := 0, cells := 0, slots := 0, locals := 0 } : Room) [.int v, .int (nI n)] [] (some (.int (nI (lowN v n)))) := by
  refine MR.of rfl (Nat.le_of_ble_eq_true rfl) ?_
  intro zp ze zs zm zbelow zmeth zc ls zS hr hlk hK hP hl
  obtain ⟨hx, hb, hml, hown, hts⟩ := id zS
  have hl : lv_has ls 2 [(0, .int v), (1, .int (nI n))] := hl
  refine lv_iload_n hx hb dL_low_0 rfl (lv_at hl 0 rfl) ?_
  refine lv_ldc (v := 2147483647) hx hb hown (hts _ q492) dL_low_1 ?_
  refine lv_iand hx hb dL_low_3 ?_
  refine topE (pk_and v 31 rfl) ?_
  refine lv_iload_n hx hb dL_low_4 rfl (lv_at hl 1 rfl) ?_
  have hnz : ¬ nI n = 0 := nI_ne0 h0 hn
  have hm : v.toBitVec.toNat % 2 ^ 31 < 2 ^ 31 := Nat.mod_lt _ (by decide)
  refine lv_irem hx hb dL_low_5 hnz ?_
  refine topE (pk_rem hm h0 hn) ?_
  exact r_i hx hb hr hlk dL_low_6 rfl
theorem cw_L_low : CWS yL_low cL_low 2 (some .int) 2 := ⟨⟨q491, q9, by decide +kernel, by decide +kernel, by decide +kernel⟩, q490⟩
set_option maxHeartbeats 4000000 in
set_option maxRecDepth 100000 in
theorem m_L_kerning (l : Launch) (g : GG) (x0 : Nat) (S T : Nat → Nat → Int32) (n : Nat) (cs F : Nat → Int32) (Y Z : Nat → Nat → Nat → Int32) (nl np : Nat) (hG : GK S T nl np) (p : Nat) (hp : p < 100) : MO l g yL_kerning cL_kerning 2 (some .int) ({ frames := 5, cells := 0, slots := 0, locals := 121 } : Room) [.ref x0, .int (nI p)] (fpx x0) (OB g x0 S T n cs F Y Z) (OB g x0 S T n cs F Y Z) (some (.int (kp S T p + 100))) := by
  refine MO.of rfl (Nat.le_of_ble_eq_true rfl) ?_
  intro zp ze zs zm zbelow zmeth zc ls zS hr hlk hK hO hX hS hl
  obtain ⟨hx, hb, hml, hown, hts⟩ := id zS
  have hl : lv_has ls 2 [(0, .ref x0), (1, .int (nI p))] := hl
  have hP : PP g [] zs.heap := PP_nil
  refine lv_aload_n hx hb dL_kerning_0 rfl (lv_at hl 0 rfl) ?_
  refine lv_iload_n hx hb dL_kerning_1 rfl (lv_at hl 1 rfl) ?_
  refine lv_bipush (v := 10) hx hb dL_kerning_2 (by decide) ?_
  refine lv_idiv hx hb dL_kerning_4 (by decide) ?_
  refine topE (pk_div (a := p) (d := 10) (by omega) (by omega) (by omega)) ?_
  refine lv_iload_n hx hb dL_kerning_5 rfl (lv_at hl 1 rfl) ?_
  refine lv_bipush (v := 10) hx hb dL_kerning_6 (by decide) ?_
  refine lv_irem hx hb dL_kerning_8 (by decide) ?_
  refine topE (pk_rem (a := p) (d := 10) (by omega) (by omega) (by omega)) ?_
  refine lv_iconst (v := 0) hx hb dL_kerning_9 (by decide) ?_
  refine obV0 (x0 := x0) (rest := []) zS hK hX hO hO.recv hP hW_nil hS (fun _ h => h) (ob_pairOf l g x0 S T n cs F Y Z hG.gsh nl hG.gls (p / 10) (by omega) (p % 10) (by omega) 0 (by decide) (kp S T p + 100) (hG.gop0 (by omega) (by omega))) cw_X4_pairOf q367 rfl ⟨Nat.le_of_ble_eq_true rfl, Nat.le_of_ble_eq_true rfl, rfl, rfl⟩ rfl rfl (Nat.le_of_ble_eq_true rfl) hl.1 dL_kerning_10 ⟨Nat.le_of_ble_eq_true rfl, Nat.le_of_ble_eq_true rfl⟩ (fun H locs hO hP hS => ?_)
  exact o_i hx hb hr hlk hS dL_kerning_13 (hO) (rfl)
theorem cw_L_kerning : CWS yL_kerning cL_kerning 2 (some .int) 2 := ⟨⟨q366, q9, by decide +kernel, by decide +kernel, by decide +kernel⟩, q365⟩
set_option maxHeartbeats 4000000 in
set_option maxRecDepth 100000 in
theorem m_L_where (l : Launch) (g : GG) (x0 : Nat) (S T : Nat → Nat → Int32) (n : Nat) (cs F : Nat → Int32) (Y Z : Nat → Nat → Nat → Int32) (nl np : Nat) (hG : GK S T nl np) (p : Nat) (hp : p < 100) : MO l g yL_where cL_where 2 (some .int) ({ frames := 3, cells := 0, slots := 0, locals := 63 } : Room) [.ref x0, .int (nI p)] (fpx x0) (OB g x0 S T n cs F Y Z) (OB g x0 S T n cs F Y Z) (some (.int (nI (sh S p)))) := by
  refine MO.of rfl (Nat.le_of_ble_eq_true rfl) ?_
  intro zp ze zs zm zbelow zmeth zc ls zS hr hlk hK hO hX hS hl
  obtain ⟨hx, hb, hml, hown, hts⟩ := id zS
  have hl : lv_has ls 2 [(0, .ref x0), (1, .int (nI p))] := hl
  have hP : PP g [] zs.heap := PP_nil
  refine lv_iconst (v := 4) hx hb dL_where_0 (by decide) ?_
  refine lv_aload_n hx hb dL_where_1 rfl (lv_at hl 0 rfl) ?_
  refine lv_iload_n hx hb dL_where_2 rfl (lv_at hl 1 rfl) ?_
  refine lv_bipush (v := 10) hx hb dL_where_3 (by decide) ?_
  refine lv_idiv hx hb dL_where_5 (by decide) ?_
  refine topE (pk_div (a := p) (d := 10) (by omega) (by omega) (by omega)) ?_
  refine lv_iconst (v := 2) hx hb dL_where_6 (by decide) ?_
  refine obV0 (x0 := x0) (rest := [.int 4]) zS hK hX hO hO.recv hP hW_nil hS (fun _ h => h) (ob_letterOf l g x0 S T n cs F Y Z nl hG.gls (p / 10) (by omega) 2 (by decide)) cw_X4_letterOf q420 rfl ⟨Nat.le_of_ble_eq_true rfl, Nat.le_of_ble_eq_true rfl, rfl, rfl⟩ rfl rfl (Nat.le_of_ble_eq_true rfl) hl.1 dL_where_7 ⟨Nat.le_of_ble_eq_true rfl, Nat.le_of_ble_eq_true rfl⟩ (fun H locs hO hP hS => ?_)
  refine topE (y := nI (nn (S 3 (p / 10)))) ((hG.gsh (p / 10) (by omega)).2.1) ?_
  refine lv_imul hx hb dL_where_10 ?_
  refine topE (pk_mul 4 (nn (S 3 (p / 10)))) ?_
  refine lv_aload_n hx hb dL_where_11 rfl (lv_at hl 0 rfl) ?_
  refine lv_iload_n hx hb dL_where_12 rfl (lv_at hl 1 rfl) ?_
  refine lv_bipush (v := 10) hx hb dL_where_13 (by decide) ?_
  refine lv_irem hx hb dL_where_15 (by decide) ?_
  refine topE (pk_rem (a := p) (d := 10) (by omega) (by omega) (by omega)) ?_
  refine lv_iconst (v := 1) hx hb dL_where_16 (by decide) ?_
  refine obV0 (x0 := x0) (rest := [.int (nI (4 * (nn (S 3 (p / 10)))))]) zS hK hX hO hO.recv hP hW_nil hS (fun _ h => h) (ob_letterOf l g x0 S T n cs F Y Z nl hG.gls (p % 10) (by omega) 1 (by decide)) cw_X4_letterOf q420 rfl ⟨Nat.le_of_ble_eq_true rfl, Nat.le_of_ble_eq_true rfl, rfl, rfl⟩ rfl rfl (Nat.le_of_ble_eq_true rfl) hl.1 dL_where_17 ⟨Nat.le_of_ble_eq_true rfl, Nat.le_of_ble_eq_true rfl⟩ (fun H locs hO hP hS => ?_)
  refine topE (y := nI (nn (S 2 (p % 10)))) ((hG.gsh (p % 10) (by omega)).1.1) ?_
  refine lv_iadd hx hb dL_where_20 ?_
  refine topE (nI_add (4 * (nn (S 3 (p / 10)))) (nn (S 2 (p % 10)))) ?_
  exact o_i hx hb hr hlk hS dL_where_21 (hO) (rfl)
theorem cw_L_where : CWS yL_where cL_where 2 (some .int) 2 := ⟨⟨q419, q9, by decide +kernel, by decide +kernel, by decide +kernel⟩, q418⟩
