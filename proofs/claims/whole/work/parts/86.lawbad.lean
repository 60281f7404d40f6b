/-! the law's own methods, where the class throws -/
set_option maxHeartbeats 4000000 in
set_option maxRecDepth 100000 in
theorem m_L_width_x1 (l : Launch) (hst : l.stackTraces = false) (g : GG) (x a sv q sl sf b tr po d o : Nat) (S T : Nat → Nat → Int32) (fq fs : Nat → Option Nat) (F cs : Nat → Int32) (n : Nat) (R : Nat → Nat → Int32) (P : Nat → Int32) (V : Nat → Nat → Int32) (v0 : Nat) (B0 C0 : Nat → Nat → Int32) (v1 : Nat) (B1 C1 : Nat → Nat → Int32) (v2 : Nat) (B2 C2 : Nat → Nat → Int32) (v3 : Nat) (B3 C3 : Nat → Nat → Int32) (v4 : Nat) (B4 C4 : Nat → Nat → Int32) (v5 : Nat) (B5 C5 : Nat → Nat → Int32) (y0 : Nat) (Y0 Z0 : Nat → Nat → Int32) (y1 : Nat) (Y1 Z1 : Nat → Nat → Int32) (f0 : Nat → Int64) (k : Int32) (y : Int32) (h : inb k 0 9 = false) : MG l g yL_width cL_width 5 [(0, 10, 13, 13), (0, 10, 17, 15)] ({ frames := 9, cells := 1, slots := 6, locals := 146 } : Room) [.ref x, .int k, .int y, .ref o] (XW g x a sv q sl sf b tr po d o S T fq fs F cs n R P V v0 B0 C0 v1 B1 C1 v2 B2 C2 v3 B3 C3 v4 B4 C4 v5 B5 C5 y0 Y0 Z0 y1 Y1 Z1 f0) (some (.int 1)) := by
  refine MG.of rfl (Nat.le_of_ble_eq_true rfl) ?_
  intro zp ze zs zm zbelow zmeth zc ls zS hr hlk htab hK hP hXL hl
  obtain ⟨hx, hb, hml, hown, hts⟩ := id zS
  have hl : lv_has ls 5 [(0, .ref x), (1, .int k), (2, .int y), (3, .ref o)] := hl
  refine lv_aload_n hx hb dL_width_0 rfl (lv_at hl 3 rfl) ?_
  refine lv_iconst (v := 0) hx hb dL_width_1 (by decide) ?_
  refine lv_aload_n hx hb dL_width_2 rfl (lv_at hl 0 rfl) ?_
  refine lv_iload_n hx hb dL_width_3 rfl (lv_at hl 1 rfl) ?_
  refine lv_iload_n hx hb dL_width_4 rfl (lv_at hl 2 rfl) ?_
  refine xcV (rest := [.int 0, .ref o]) zS hK hP hXL (MXt.ofX (m_X4_width_x1 l hst g x a sv q sl sf b tr po d k y h)) cw_X4_width q565 [0] rfl 0 rfl rfl ⟨Nat.le_of_ble_eq_true rfl, Nat.le_of_ble_eq_true rfl, rfl, rfl⟩ rfl rfl (Nat.le_of_ble_eq_true rfl) hl.1 dL_width_5 ⟨Nat.le_of_ble_eq_true rfl, Nat.le_of_ble_eq_true rfl⟩ (fun H q9 ce hz hk1 hce hcv hcl => ?_)
  refine vx_catch (E := xIO) hown [] (⟨0, 10, 13, 13⟩ : ExceptionTableEntry) [(⟨0, 10, 17, 15⟩ : ExceptionTableEntry)] (by rw [htab]; rfl) (fun z hz => absurd hz List.not_mem_nil) rfl (by decide) (hts _ q563) (hXL.cast cIO) hce hcv hcl ?_
  refine lv_astore (lv' := [(4, .ref q9), (0, .ref x), (1, .int k), (2, .int y), (3, .ref o)]) hx hb dL_width_13 hl (by decide) rfl (fun ls hl => ?_)
  refine lv_iconst (v := 1) hx hb dL_width_15 (by decide) ?_
  exact g_i hx hb hr hlk hz hk1 dL_width_16
set_option maxHeartbeats 4000000 in
set_option maxRecDepth 100000 in
theorem m_L_width_x2 (l : Launch) (hst : l.stackTraces = false) (g : GG) (x a sv q sl sf b tr po d o : Nat) (S T : Nat → Nat → Int32) (fq fs : Nat → Option Nat) (F cs : Nat → Int32) (n : Nat) (R : Nat → Nat → Int32) (P : Nat → Int32) (V : Nat → Nat → Int32) (v0 : Nat) (B0 C0 : Nat → Nat → Int32) (v1 : Nat) (B1 C1 : Nat → Nat → Int32) (v2 : Nat) (B2 C2 : Nat → Nat → Int32) (v3 : Nat) (B3 C3 : Nat → Nat → Int32) (v4 : Nat) (B4 C4 : Nat → Nat → Int32) (v5 : Nat) (B5 C5 : Nat → Nat → Int32) (y0 : Nat) (Y0 Z0 : Nat → Nat → Int32) (y1 : Nat) (Y1 Z1 : Nat → Nat → Int32) (f0 : Nat → Int64) (k : Nat) (hk_k : k < 10) (y : Int32) (h : inb y 13 30 = false) : MG l g yL_width cL_width 5 [(0, 10, 13, 13), (0, 10, 17, 15)] ({ frames := 8, cells := 1, slots := 6, locals := 127 } : Room) [.ref x, .int (nI k), .int y, .ref o] (XW g x a sv q sl sf b tr po d o S T fq fs F cs n R P V v0 B0 C0 v1 B1 C1 v2 B2 C2 v3 B3 C3 v4 B4 C4 v5 B5 C5 y0 Y0 Z0 y1 Y1 Z1 f0) (some (.int 2)) := by
  refine MG.of rfl (Nat.le_of_ble_eq_true rfl) ?_
  intro zp ze zs zm zbelow zmeth zc ls zS hr hlk htab hK hP hXL hl
  obtain ⟨hx, hb, hml, hown, hts⟩ := id zS
  have hl : lv_has ls 5 [(0, .ref x), (1, .int (nI k)), (2, .int y), (3, .ref o)] := hl
  refine lv_aload_n hx hb dL_width_0 rfl (lv_at hl 3 rfl) ?_
  refine lv_iconst (v := 0) hx hb dL_width_1 (by decide) ?_
  refine lv_aload_n hx hb dL_width_2 rfl (lv_at hl 0 rfl) ?_
  refine lv_iload_n hx hb dL_width_3 rfl (lv_at hl 1 rfl) ?_
  refine lv_iload_n hx hb dL_width_4 rfl (lv_at hl 2 rfl) ?_
  refine xcV (rest := [.int 0, .ref o]) zS hK hP hXL (MXt.ofX (m_X4_width_x2 l hst g x a sv q sl sf b tr po d k hk_k y h)) cw_X4_width q565 [0] rfl 0 rfl rfl ⟨Nat.le_of_ble_eq_true rfl, Nat.le_of_ble_eq_true rfl, rfl, rfl⟩ rfl rfl (Nat.le_of_ble_eq_true rfl) hl.1 dL_width_5 ⟨Nat.le_of_ble_eq_true rfl, Nat.le_of_ble_eq_true rfl⟩ (fun H q9 ce hz hk1 hce hcv hcl => ?_)
  refine vx_catch (E := xIA) hown [(⟨0, 10, 13, 13⟩ : ExceptionTableEntry)] (⟨0, 10, 17, 15⟩ : ExceptionTableEntry) [] (by rw [htab]; rfl) (fun z hz => (List.mem_cons.mp hz).elim (fun e => Or.inr (by subst e; exact ⟨by decide, _, hts _ q563, hXL.2.2.2.2.1⟩)) (fun hz => (fun z hz => absurd hz List.not_mem_nil) z hz)) rfl (by decide) (hts _ q564) (hXL.cast cIA) hce hcv hcl ?_
  refine lv_astore (lv' := [(4, .ref q9), (0, .ref x), (1, .int (nI k)), (2, .int y), (3, .ref o)]) hx hb dL_width_17 hl (by decide) rfl (fun ls hl => ?_)
  refine lv_iconst (v := 2) hx hb dL_width_19 (by decide) ?_
  exact g_i hx hb hr hlk hz hk1 dL_width_20
set_option maxHeartbeats 4000000 in
set_option maxRecDepth 100000 in
theorem m_L_shape_x1 (l : Launch) (hst : l.stackTraces = false) (g : GG) (x a sv q sl sf b tr po d o : Nat) (S T : Nat → Nat → Int32) (fq fs : Nat → Option Nat) (F cs : Nat → Int32) (n : Nat) (R : Nat → Nat → Int32) (P : Nat → Int32) (V : Nat → Nat → Int32) (v0 : Nat) (B0 C0 : Nat → Nat → Int32) (v1 : Nat) (B1 C1 : Nat → Nat → Int32) (v2 : Nat) (B2 C2 : Nat → Nat → Int32) (v3 : Nat) (B3 C3 : Nat → Nat → Int32) (v4 : Nat) (B4 C4 : Nat → Nat → Int32) (v5 : Nat) (B5 C5 : Nat → Nat → Int32) (y0 : Nat) (Y0 Z0 : Nat → Nat → Int32) (y1 : Nat) (Y1 Z1 : Nat → Nat → Int32) (f0 : Nat → Int64) (k : Int32) (u : Int32) (z : Int32) (h : inb k 0 9 = false) : MG l g yL_shape cL_shape 6 [(0, 12, 15, 13), (0, 12, 19, 15)] ({ frames := 9, cells := 1, slots := 6, locals := 147 } : Room) [.ref x, .int k, .int u, .int z, .ref o] (XW g x a sv q sl sf b tr po d o S T fq fs F cs n R P V v0 B0 C0 v1 B1 C1 v2 B2 C2 v3 B3 C3 v4 B4 C4 v5 B5 C5 y0 Y0 Z0 y1 Y1 Z1 f0) (some (.int 1)) := by
  refine MG.of rfl (Nat.le_of_ble_eq_true rfl) ?_
  intro zp ze zs zm zbelow zmeth zc ls zS hr hlk htab hK hP hXL hl
  obtain ⟨hx, hb, hml, hown, hts⟩ := id zS
  have hl : lv_has ls 6 [(0, .ref x), (1, .int k), (2, .int u), (3, .int z), (4, .ref o)] := hl
  refine lv_aload hx hb dL_shape_0 (lv_at hl 4 rfl) ?_
  refine lv_iconst (v := 0) hx hb dL_shape_2 (by decide) ?_
  refine lv_aload_n hx hb dL_shape_3 rfl (lv_at hl 0 rfl) ?_
  refine lv_iload_n hx hb dL_shape_4 rfl (lv_at hl 1 rfl) ?_
  refine lv_iload_n hx hb dL_shape_5 rfl (lv_at hl 2 rfl) ?_
  refine lv_iload_n hx hb dL_shape_6 rfl (lv_at hl 3 rfl) ?_
  refine xcV (rest := [.int 0, .ref o]) zS hK hP hXL (MXt.ofX (m_X4_shape_x1 l hst g x a sv q sl sf b tr po d k u z h)) cw_X4_shape q585 [0] rfl 0 rfl rfl ⟨Nat.le_of_ble_eq_true rfl, Nat.le_of_ble_eq_true rfl, rfl, rfl⟩ rfl rfl (Nat.le_of_ble_eq_true rfl) hl.1 dL_shape_7 ⟨Nat.le_of_ble_eq_true rfl, Nat.le_of_ble_eq_true rfl⟩ (fun H q9 ce hz hk1 hce hcv hcl => ?_)
  refine vx_catch (E := xIO) hown [] (⟨0, 12, 15, 13⟩ : ExceptionTableEntry) [(⟨0, 12, 19, 15⟩ : ExceptionTableEntry)] (by rw [htab]; rfl) (fun z hz => absurd hz List.not_mem_nil) rfl (by decide) (hts _ q563) (hXL.cast cIO) hce hcv hcl ?_
  refine lv_astore (lv' := [(5, .ref q9), (0, .ref x), (1, .int k), (2, .int u), (3, .int z), (4, .ref o)]) hx hb dL_shape_15 hl (by decide) rfl (fun ls hl => ?_)
  refine lv_iconst (v := 1) hx hb dL_shape_17 (by decide) ?_
  exact g_i hx hb hr hlk hz hk1 dL_shape_18
set_option maxHeartbeats 4000000 in
set_option maxRecDepth 100000 in
theorem m_L_shape_x2 (l : Launch) (hst : l.stackTraces = false) (g : GG) (x a sv q sl sf b tr po d o : Nat) (S T : Nat → Nat → Int32) (fq fs : Nat → Option Nat) (F cs : Nat → Int32) (n : Nat) (R : Nat → Nat → Int32) (P : Nat → Int32) (V : Nat → Nat → Int32) (v0 : Nat) (B0 C0 : Nat → Nat → Int32) (v1 : Nat) (B1 C1 : Nat → Nat → Int32) (v2 : Nat) (B2 C2 : Nat → Nat → Int32) (v3 : Nat) (B3 C3 : Nat → Nat → Int32) (v4 : Nat) (B4 C4 : Nat → Nat → Int32) (v5 : Nat) (B5 C5 : Nat → Nat → Int32) (y0 : Nat) (Y0 Z0 : Nat → Nat → Int32) (y1 : Nat) (Y1 Z1 : Nat → Nat → Int32) (f0 : Nat → Int64) (k : Nat) (hk_k : k < 10) (u : Int32) (z : Int32) (h : inb u 0 3 = false) : MG l g yL_shape cL_shape 6 [(0, 12, 15, 13), (0, 12, 19, 15)] ({ frames := 8, cells := 1, slots := 6, locals := 128 } : Room) [.ref x, .int (nI k), .int u, .int z, .ref o] (XW g x a sv q sl sf b tr po d o S T fq fs F cs n R P V v0 B0 C0 v1 B1 C1 v2 B2 C2 v3 B3 C3 v4 B4 C4 v5 B5 C5 y0 Y0 Z0 y1 Y1 Z1 f0) (some (.int 2)) := by
  refine MG.of rfl (Nat.le_of_ble_eq_true rfl) ?_
  intro zp ze zs zm zbelow zmeth zc ls zS hr hlk htab hK hP hXL hl
  obtain ⟨hx, hb, hml, hown, hts⟩ := id zS
  have hl : lv_has ls 6 [(0, .ref x), (1, .int (nI k)), (2, .int u), (3, .int z), (4, .ref o)] := hl
  refine lv_aload hx hb dL_shape_0 (lv_at hl 4 rfl) ?_
  refine lv_iconst (v := 0) hx hb dL_shape_2 (by decide) ?_
  refine lv_aload_n hx hb dL_shape_3 rfl (lv_at hl 0 rfl) ?_
  refine lv_iload_n hx hb dL_shape_4 rfl (lv_at hl 1 rfl) ?_
  refine lv_iload_n hx hb dL_shape_5 rfl (lv_at hl 2 rfl) ?_
  refine lv_iload_n hx hb dL_shape_6 rfl (lv_at hl 3 rfl) ?_
  refine xcV (rest := [.int 0, .ref o]) zS hK hP hXL (MXt.ofX (m_X4_shape_x2 l hst g x a sv q sl sf b tr po d k hk_k u z h)) cw_X4_shape q585 [0] rfl 0 rfl rfl ⟨Nat.le_of_ble_eq_true rfl, Nat.le_of_ble_eq_true rfl, rfl, rfl⟩ rfl rfl (Nat.le_of_ble_eq_true rfl) hl.1 dL_shape_7 ⟨Nat.le_of_ble_eq_true rfl, Nat.le_of_ble_eq_true rfl⟩ (fun H q9 ce hz hk1 hce hcv hcl => ?_)
  refine vx_catch (E := xIA) hown [(⟨0, 12, 15, 13⟩ : ExceptionTableEntry)] (⟨0, 12, 19, 15⟩ : ExceptionTableEntry) [] (by rw [htab]; rfl) (fun z hz => (List.mem_cons.mp hz).elim (fun e => Or.inr (by subst e; exact ⟨by decide, _, hts _ q563, hXL.2.2.2.2.1⟩)) (fun hz => (fun z hz => absurd hz List.not_mem_nil) z hz)) rfl (by decide) (hts _ q564) (hXL.cast cIA) hce hcv hcl ?_
  refine lv_astore (lv' := [(5, .ref q9), (0, .ref x), (1, .int (nI k)), (2, .int u), (3, .int z), (4, .ref o)]) hx hb dL_shape_19 hl (by decide) rfl (fun ls hl => ?_)
  refine lv_iconst (v := 2) hx hb dL_shape_21 (by decide) ?_
  exact g_i hx hb hr hlk hz hk1 dL_shape_22
set_option maxHeartbeats 4000000 in
set_option maxRecDepth 100000 in
theorem m_L_shape_x3 (l : Launch) (hst : l.stackTraces = false) (g : GG) (x a sv q sl sf b tr po d o : Nat) (S T : Nat → Nat → Int32) (fq fs : Nat → Option Nat) (F cs : Nat → Int32) (n : Nat) (R : Nat → Nat → Int32) (P : Nat → Int32) (V : Nat → Nat → Int32) (v0 : Nat) (B0 C0 : Nat → Nat → Int32) (v1 : Nat) (B1 C1 : Nat → Nat → Int32) (v2 : Nat) (B2 C2 : Nat → Nat → Int32) (v3 : Nat) (B3 C3 : Nat → Nat → Int32) (v4 : Nat) (B4 C4 : Nat → Nat → Int32) (v5 : Nat) (B5 C5 : Nat → Nat → Int32) (y0 : Nat) (Y0 Z0 : Nat → Nat → Int32) (y1 : Nat) (Y1 Z1 : Nat → Nat → Int32) (f0 : Nat → Int64) (k : Nat) (hk_k : k < 10) (u : Nat) (hk_u : u < 4) (z : Int32) (h : inb z 0 3 = false) : MG l g yL_shape cL_shape 6 [(0, 12, 15, 13), (0, 12, 19, 15)] ({ frames := 8, cells := 1, slots := 6, locals := 128 } : Room) [.ref x, .int (nI k), .int (nI u), .int z, .ref o] (XW g x a sv q sl sf b tr po d o S T fq fs F cs n R P V v0 B0 C0 v1 B1 C1 v2 B2 C2 v3 B3 C3 v4 B4 C4 v5 B5 C5 y0 Y0 Z0 y1 Y1 Z1 f0) (some (.int 2)) := by
  refine MG.of rfl (Nat.le_of_ble_eq_true rfl) ?_
  intro zp ze zs zm zbelow zmeth zc ls zS hr hlk htab hK hP hXL hl
  obtain ⟨hx, hb, hml, hown, hts⟩ := id zS
  have hl : lv_has ls 6 [(0, .ref x), (1, .int (nI k)), (2, .int (nI u)), (3, .int z), (4, .ref o)] := hl
  refine lv_aload hx hb dL_shape_0 (lv_at hl 4 rfl) ?_
  refine lv_iconst (v := 0) hx hb dL_shape_2 (by decide) ?_
  refine lv_aload_n hx hb dL_shape_3 rfl (lv_at hl 0 rfl) ?_
  refine lv_iload_n hx hb dL_shape_4 rfl (lv_at hl 1 rfl) ?_
  refine lv_iload_n hx hb dL_shape_5 rfl (lv_at hl 2 rfl) ?_
  refine lv_iload_n hx hb dL_shape_6 rfl (lv_at hl 3 rfl) ?_
  refine xcV (rest := [.int 0, .ref o]) zS hK hP hXL (MXt.ofX (m_X4_shape_x3 l hst g x a sv q sl sf b tr po d k hk_k u hk_u z h)) cw_X4_shape q585 [0] rfl 0 rfl rfl ⟨Nat.le_of_ble_eq_true rfl, Nat.le_of_ble_eq_true rfl, rfl, rfl⟩ rfl rfl (Nat.le_of_ble_eq_true rfl) hl.1 dL_shape_7 ⟨Nat.le_of_ble_eq_true rfl, Nat.le_of_ble_eq_true rfl⟩ (fun H q9 ce hz hk1 hce hcv hcl => ?_)
  refine vx_catch (E := xIA) hown [(⟨0, 12, 15, 13⟩ : ExceptionTableEntry)] (⟨0, 12, 19, 15⟩ : ExceptionTableEntry) [] (by rw [htab]; rfl) (fun z hz => (List.mem_cons.mp hz).elim (fun e => Or.inr (by subst e; exact ⟨by decide, _, hts _ q563, hXL.2.2.2.2.1⟩)) (fun hz => (fun z hz => absurd hz List.not_mem_nil) z hz)) rfl (by decide) (hts _ q564) (hXL.cast cIA) hce hcv hcl ?_
  refine lv_astore (lv' := [(5, .ref q9), (0, .ref x), (1, .int (nI k)), (2, .int (nI u)), (3, .int z), (4, .ref o)]) hx hb dL_shape_19 hl (by decide) rfl (fun ls hl => ?_)
  refine lv_iconst (v := 2) hx hb dL_shape_21 (by decide) ?_
  exact g_i hx hb hr hlk hz hk1 dL_shape_22
set_option maxHeartbeats 4000000 in
set_option maxRecDepth 100000 in
theorem m_L_base_x1 (l : Launch) (hst : l.stackTraces = false) (g : GG) (x a sv q sl sf b tr po d o : Nat) (S T : Nat → Nat → Int32) (fq fs : Nat → Option Nat) (F cs : Nat → Int32) (n : Nat) (R : Nat → Nat → Int32) (P : Nat → Int32) (V : Nat → Nat → Int32) (v0 : Nat) (B0 C0 : Nat → Nat → Int32) (v1 : Nat) (B1 C1 : Nat → Nat → Int32) (v2 : Nat) (B2 C2 : Nat → Nat → Int32) (v3 : Nat) (B3 C3 : Nat → Nat → Int32) (v4 : Nat) (B4 C4 : Nat → Nat → Int32) (v5 : Nat) (B5 C5 : Nat → Nat → Int32) (y0 : Nat) (Y0 Z0 : Nat → Nat → Int32) (y1 : Nat) (Y1 Z1 : Nat → Nat → Int32) (f0 : Nat → Int64) (r : Int32) (j : Int32) (y : Int32) (h : inb r 0 3 = false) : MG l g yL_base cL_base 6 [(0, 12, 15, 13), (0, 12, 19, 15)] ({ frames := 8, cells := 1, slots := 6, locals := 128 } : Room) [.ref x, .int r, .int j, .int y, .ref o] (XW g x a sv q sl sf b tr po d o S T fq fs F cs n R P V v0 B0 C0 v1 B1 C1 v2 B2 C2 v3 B3 C3 v4 B4 C4 v5 B5 C5 y0 Y0 Z0 y1 Y1 Z1 f0) (some (.int 1)) := by
  refine MG.of rfl (Nat.le_of_ble_eq_true rfl) ?_
  intro zp ze zs zm zbelow zmeth zc ls zS hr hlk htab hK hP hXL hl
  obtain ⟨hx, hb, hml, hown, hts⟩ := id zS
  have hl : lv_has ls 6 [(0, .ref x), (1, .int r), (2, .int j), (3, .int y), (4, .ref o)] := hl
  refine lv_aload hx hb dL_base_0 (lv_at hl 4 rfl) ?_
  refine lv_iconst (v := 0) hx hb dL_base_2 (by decide) ?_
  refine lv_aload_n hx hb dL_base_3 rfl (lv_at hl 0 rfl) ?_
  refine lv_iload_n hx hb dL_base_4 rfl (lv_at hl 1 rfl) ?_
  refine lv_iload_n hx hb dL_base_5 rfl (lv_at hl 2 rfl) ?_
  refine lv_iload_n hx hb dL_base_6 rfl (lv_at hl 3 rfl) ?_
  refine xcV (rest := [.int 0, .ref o]) zS hK hP hXL (MXt.ofX (m_X4_base_x1 l hst g x a sv q sl sf b tr po d r j y h)) cw_X4_base q597 [0] rfl 0 rfl rfl ⟨Nat.le_of_ble_eq_true rfl, Nat.le_of_ble_eq_true rfl, rfl, rfl⟩ rfl rfl (Nat.le_of_ble_eq_true rfl) hl.1 dL_base_7 ⟨Nat.le_of_ble_eq_true rfl, Nat.le_of_ble_eq_true rfl⟩ (fun H q9 ce hz hk1 hce hcv hcl => ?_)
  refine vx_catch (E := xIO) hown [] (⟨0, 12, 15, 13⟩ : ExceptionTableEntry) [(⟨0, 12, 19, 15⟩ : ExceptionTableEntry)] (by rw [htab]; rfl) (fun z hz => absurd hz List.not_mem_nil) rfl (by decide) (hts _ q563) (hXL.cast cIO) hce hcv hcl ?_
  refine lv_astore (lv' := [(5, .ref q9), (0, .ref x), (1, .int r), (2, .int j), (3, .int y), (4, .ref o)]) hx hb dL_base_15 hl (by decide) rfl (fun ls hl => ?_)
  refine lv_iconst (v := 1) hx hb dL_base_17 (by decide) ?_
  exact g_i hx hb hr hlk hz hk1 dL_base_18
set_option maxHeartbeats 4000000 in
set_option maxRecDepth 100000 in
theorem m_L_base_x2 (l : Launch) (hst : l.stackTraces = false) (g : GG) (x a sv q sl sf b tr po d o : Nat) (S T : Nat → Nat → Int32) (fq fs : Nat → Option Nat) (F cs : Nat → Int32) (n : Nat) (R : Nat → Nat → Int32) (P : Nat → Int32) (V : Nat → Nat → Int32) (v0 : Nat) (B0 C0 : Nat → Nat → Int32) (v1 : Nat) (B1 C1 : Nat → Nat → Int32) (v2 : Nat) (B2 C2 : Nat → Nat → Int32) (v3 : Nat) (B3 C3 : Nat → Nat → Int32) (v4 : Nat) (B4 C4 : Nat → Nat → Int32) (v5 : Nat) (B5 C5 : Nat → Nat → Int32) (y0 : Nat) (Y0 Z0 : Nat → Nat → Int32) (y1 : Nat) (Y1 Z1 : Nat → Nat → Int32) (f0 : Nat → Int64) (r : Nat) (hk_r : r < 4) (j : Int32) (y : Int32) (h : inb j 0 3 = false) : MG l g yL_base cL_base 6 [(0, 12, 15, 13), (0, 12, 19, 15)] ({ frames := 8, cells := 1, slots := 6, locals := 128 } : Room) [.ref x, .int (nI r), .int j, .int y, .ref o] (XW g x a sv q sl sf b tr po d o S T fq fs F cs n R P V v0 B0 C0 v1 B1 C1 v2 B2 C2 v3 B3 C3 v4 B4 C4 v5 B5 C5 y0 Y0 Z0 y1 Y1 Z1 f0) (some (.int 1)) := by
  refine MG.of rfl (Nat.le_of_ble_eq_true rfl) ?_
  intro zp ze zs zm zbelow zmeth zc ls zS hr hlk htab hK hP hXL hl
  obtain ⟨hx, hb, hml, hown, hts⟩ := id zS
  have hl : lv_has ls 6 [(0, .ref x), (1, .int (nI r)), (2, .int j), (3, .int y), (4, .ref o)] := hl
  refine lv_aload hx hb dL_base_0 (lv_at hl 4 rfl) ?_
  refine lv_iconst (v := 0) hx hb dL_base_2 (by decide) ?_
  refine lv_aload_n hx hb dL_base_3 rfl (lv_at hl 0 rfl) ?_
  refine lv_iload_n hx hb dL_base_4 rfl (lv_at hl 1 rfl) ?_
  refine lv_iload_n hx hb dL_base_5 rfl (lv_at hl 2 rfl) ?_
  refine lv_iload_n hx hb dL_base_6 rfl (lv_at hl 3 rfl) ?_
  refine xcV (rest := [.int 0, .ref o]) zS hK hP hXL (MXt.ofX (m_X4_base_x2 l hst g x a sv q sl sf b tr po d r hk_r j y h)) cw_X4_base q597 [0] rfl 0 rfl rfl ⟨Nat.le_of_ble_eq_true rfl, Nat.le_of_ble_eq_true rfl, rfl, rfl⟩ rfl rfl (Nat.le_of_ble_eq_true rfl) hl.1 dL_base_7 ⟨Nat.le_of_ble_eq_true rfl, Nat.le_of_ble_eq_true rfl⟩ (fun H q9 ce hz hk1 hce hcv hcl => ?_)
  refine vx_catch (E := xIO) hown [] (⟨0, 12, 15, 13⟩ : ExceptionTableEntry) [(⟨0, 12, 19, 15⟩ : ExceptionTableEntry)] (by rw [htab]; rfl) (fun z hz => absurd hz List.not_mem_nil) rfl (by decide) (hts _ q563) (hXL.cast cIO) hce hcv hcl ?_
  refine lv_astore (lv' := [(5, .ref q9), (0, .ref x), (1, .int (nI r)), (2, .int j), (3, .int y), (4, .ref o)]) hx hb dL_base_15 hl (by decide) rfl (fun ls hl => ?_)
  refine lv_iconst (v := 1) hx hb dL_base_17 (by decide) ?_
  exact g_i hx hb hr hlk hz hk1 dL_base_18
set_option maxHeartbeats 4000000 in
set_option maxRecDepth 100000 in
theorem m_L_base_x3 (l : Launch) (hst : l.stackTraces = false) (g : GG) (x a sv q sl sf b tr po d o : Nat) (S T : Nat → Nat → Int32) (fq fs : Nat → Option Nat) (F cs : Nat → Int32) (n : Nat) (R : Nat → Nat → Int32) (P : Nat → Int32) (V : Nat → Nat → Int32) (v0 : Nat) (B0 C0 : Nat → Nat → Int32) (v1 : Nat) (B1 C1 : Nat → Nat → Int32) (v2 : Nat) (B2 C2 : Nat → Nat → Int32) (v3 : Nat) (B3 C3 : Nat → Nat → Int32) (v4 : Nat) (B4 C4 : Nat → Nat → Int32) (v5 : Nat) (B5 C5 : Nat → Nat → Int32) (y0 : Nat) (Y0 Z0 : Nat → Nat → Int32) (y1 : Nat) (Y1 Z1 : Nat → Nat → Int32) (f0 : Nat → Int64) (r : Nat) (hk_r : r < 4) (j : Nat) (hk_j : j < 4) (y : Int32) (h : inb y (-12) 12 = false) : MG l g yL_base cL_base 6 [(0, 12, 15, 13), (0, 12, 19, 15)] ({ frames := 8, cells := 1, slots := 6, locals := 129 } : Room) [.ref x, .int (nI r), .int (nI j), .int y, .ref o] (XW g x a sv q sl sf b tr po d o S T fq fs F cs n R P V v0 B0 C0 v1 B1 C1 v2 B2 C2 v3 B3 C3 v4 B4 C4 v5 B5 C5 y0 Y0 Z0 y1 Y1 Z1 f0) (some (.int 2)) := by
  refine MG.of rfl (Nat.le_of_ble_eq_true rfl) ?_
  intro zp ze zs zm zbelow zmeth zc ls zS hr hlk htab hK hP hXL hl
  obtain ⟨hx, hb, hml, hown, hts⟩ := id zS
  have hl : lv_has ls 6 [(0, .ref x), (1, .int (nI r)), (2, .int (nI j)), (3, .int y), (4, .ref o)] := hl
  refine lv_aload hx hb dL_base_0 (lv_at hl 4 rfl) ?_
  refine lv_iconst (v := 0) hx hb dL_base_2 (by decide) ?_
  refine lv_aload_n hx hb dL_base_3 rfl (lv_at hl 0 rfl) ?_
  refine lv_iload_n hx hb dL_base_4 rfl (lv_at hl 1 rfl) ?_
  refine lv_iload_n hx hb dL_base_5 rfl (lv_at hl 2 rfl) ?_
  refine lv_iload_n hx hb dL_base_6 rfl (lv_at hl 3 rfl) ?_
  refine xcV (rest := [.int 0, .ref o]) zS hK hP hXL (MXt.ofX (m_X4_base_x3 l hst g x a sv q sl sf b tr po d r hk_r j hk_j y h)) cw_X4_base q597 [0] rfl 0 rfl rfl ⟨Nat.le_of_ble_eq_true rfl, Nat.le_of_ble_eq_true rfl, rfl, rfl⟩ rfl rfl (Nat.le_of_ble_eq_true rfl) hl.1 dL_base_7 ⟨Nat.le_of_ble_eq_true rfl, Nat.le_of_ble_eq_true rfl⟩ (fun H q9 ce hz hk1 hce hcv hcl => ?_)
  refine vx_catch (E := xIA) hown [(⟨0, 12, 15, 13⟩ : ExceptionTableEntry)] (⟨0, 12, 19, 15⟩ : ExceptionTableEntry) [] (by rw [htab]; rfl) (fun z hz => (List.mem_cons.mp hz).elim (fun e => Or.inr (by subst e; exact ⟨by decide, _, hts _ q563, hXL.2.2.2.2.1⟩)) (fun hz => (fun z hz => absurd hz List.not_mem_nil) z hz)) rfl (by decide) (hts _ q564) (hXL.cast cIA) hce hcv hcl ?_
  refine lv_astore (lv' := [(5, .ref q9), (0, .ref x), (1, .int (nI r)), (2, .int (nI j)), (3, .int y), (4, .ref o)]) hx hb dL_base_19 hl (by decide) rfl (fun ls hl => ?_)
  refine lv_iconst (v := 2) hx hb dL_base_21 (by decide) ?_
  exact g_i hx hb hr hlk hz hk1 dL_base_22
set_option maxHeartbeats 4000000 in
set_option maxRecDepth 100000 in
theorem m_L_set_x1 (l : Launch) (hst : l.stackTraces = false) (g : GG) (x a sv q sl sf b tr po d o : Nat) (S T : Nat → Nat → Int32) (fq fs : Nat → Option Nat) (F cs : Nat → Int32) (n : Nat) (R : Nat → Nat → Int32) (P : Nat → Int32) (V : Nat → Nat → Int32) (v0 : Nat) (B0 C0 : Nat → Nat → Int32) (v1 : Nat) (B1 C1 : Nat → Nat → Int32) (v2 : Nat) (B2 C2 : Nat → Nat → Int32) (v3 : Nat) (B3 C3 : Nat → Nat → Int32) (v4 : Nat) (B4 C4 : Nat → Nat → Int32) (v5 : Nat) (B5 C5 : Nat → Nat → Int32) (y0 : Nat) (Y0 Z0 : Nat → Nat → Int32) (y1 : Nat) (Y1 Z1 : Nat → Nat → Int32) (f0 : Nat → Int64) (k : Int32) (y : Int32) (h : inb k 0 3 = false) : MG l g yL_set cL_set 5 [(0, 10, 13, 13), (0, 10, 17, 15)] ({ frames := 8, cells := 1, slots := 6, locals := 126 } : Room) [.ref x, .int k, .int y, .ref o] (XW g x a sv q sl sf b tr po d o S T fq fs F cs n R P V v0 B0 C0 v1 B1 C1 v2 B2 C2 v3 B3 C3 v4 B4 C4 v5 B5 C5 y0 Y0 Z0 y1 Y1 Z1 f0) (some (.int 1)) := by
  refine MG.of rfl (Nat.le_of_ble_eq_true rfl) ?_
  intro zp ze zs zm zbelow zmeth zc ls zS hr hlk htab hK hP hXL hl
  obtain ⟨hx, hb, hml, hown, hts⟩ := id zS
  have hl : lv_has ls 5 [(0, .ref x), (1, .int k), (2, .int y), (3, .ref o)] := hl
  refine lv_aload_n hx hb dL_set_0 rfl (lv_at hl 3 rfl) ?_
  refine lv_iconst (v := 0) hx hb dL_set_1 (by decide) ?_
  refine lv_aload_n hx hb dL_set_2 rfl (lv_at hl 0 rfl) ?_
  refine lv_iload_n hx hb dL_set_3 rfl (lv_at hl 1 rfl) ?_
  refine lv_iload_n hx hb dL_set_4 rfl (lv_at hl 2 rfl) ?_
  refine xcV (rest := [.int 0, .ref o]) zS hK hP hXL (MXt.ofX (m_X4_set_x1 l hst g x a sv q sl sf b tr po d k y h)) cw_X4_set q604 [0] rfl 0 rfl rfl ⟨Nat.le_of_ble_eq_true rfl, Nat.le_of_ble_eq_true rfl, rfl, rfl⟩ rfl rfl (Nat.le_of_ble_eq_true rfl) hl.1 dL_set_5 ⟨Nat.le_of_ble_eq_true rfl, Nat.le_of_ble_eq_true rfl⟩ (fun H q9 ce hz hk1 hce hcv hcl => ?_)
  refine vx_catch (E := xIO) hown [] (⟨0, 10, 13, 13⟩ : ExceptionTableEntry) [(⟨0, 10, 17, 15⟩ : ExceptionTableEntry)] (by rw [htab]; rfl) (fun z hz => absurd hz List.not_mem_nil) rfl (by decide) (hts _ q563) (hXL.cast cIO) hce hcv hcl ?_
  refine lv_astore (lv' := [(4, .ref q9), (0, .ref x), (1, .int k), (2, .int y), (3, .ref o)]) hx hb dL_set_13 hl (by decide) rfl (fun ls hl => ?_)
  refine lv_iconst (v := 1) hx hb dL_set_15 (by decide) ?_
  exact g_i hx hb hr hlk hz hk1 dL_set_16
set_option maxHeartbeats 4000000 in
set_option maxRecDepth 100000 in
theorem m_L_circle_x1 (l : Launch) (hst : l.stackTraces = false) (g : GG) (x a sv q sl sf b tr po d o : Nat) (S T : Nat → Nat → Int32) (fq fs : Nat → Option Nat) (F cs : Nat → Int32) (n : Nat) (R : Nat → Nat → Int32) (P : Nat → Int32) (V : Nat → Nat → Int32) (v0 : Nat) (B0 C0 : Nat → Nat → Int32) (v1 : Nat) (B1 C1 : Nat → Nat → Int32) (v2 : Nat) (B2 C2 : Nat → Nat → Int32) (v3 : Nat) (B3 C3 : Nat → Nat → Int32) (v4 : Nat) (B4 C4 : Nat → Nat → Int32) (v5 : Nat) (B5 C5 : Nat → Nat → Int32) (y0 : Nat) (Y0 Z0 : Nat → Nat → Int32) (y1 : Nat) (Y1 Z1 : Nat → Nat → Int32) (f0 : Nat → Int64) (k : Int32) (j : Int32) (t : Int32) (h : inb k 0 9 = false) : MG l g yL_circle cL_circle 6 [(0, 12, 15, 13), (0, 12, 19, 15)] ({ frames := 9, cells := 1, slots := 6, locals := 146 } : Room) [.ref x, .int k, .int j, .int t, .ref o] (XW g x a sv q sl sf b tr po d o S T fq fs F cs n R P V v0 B0 C0 v1 B1 C1 v2 B2 C2 v3 B3 C3 v4 B4 C4 v5 B5 C5 y0 Y0 Z0 y1 Y1 Z1 f0) (some (.int 1)) := by
  refine MG.of rfl (Nat.le_of_ble_eq_true rfl) ?_
  intro zp ze zs zm zbelow zmeth zc ls zS hr hlk htab hK hP hXL hl
  obtain ⟨hx, hb, hml, hown, hts⟩ := id zS
  have hl : lv_has ls 6 [(0, .ref x), (1, .int k), (2, .int j), (3, .int t), (4, .ref o)] := hl
  refine lv_aload hx hb dL_circle_0 (lv_at hl 4 rfl) ?_
  refine lv_iconst (v := 0) hx hb dL_circle_2 (by decide) ?_
  refine lv_aload_n hx hb dL_circle_3 rfl (lv_at hl 0 rfl) ?_
  refine lv_iload_n hx hb dL_circle_4 rfl (lv_at hl 1 rfl) ?_
  refine lv_iload_n hx hb dL_circle_5 rfl (lv_at hl 2 rfl) ?_
  refine lv_iload_n hx hb dL_circle_6 rfl (lv_at hl 3 rfl) ?_
  refine xcV (rest := [.int 0, .ref o]) zS hK hP hXL (MXt.ofX (m_X4_circle_x1 l hst g x a sv q sl sf b tr po d k j t h)) cw_X4_circle q615 [0] rfl 0 rfl rfl ⟨Nat.le_of_ble_eq_true rfl, Nat.le_of_ble_eq_true rfl, rfl, rfl⟩ rfl rfl (Nat.le_of_ble_eq_true rfl) hl.1 dL_circle_7 ⟨Nat.le_of_ble_eq_true rfl, Nat.le_of_ble_eq_true rfl⟩ (fun H q9 ce hz hk1 hce hcv hcl => ?_)
  refine vx_catch (E := xIO) hown [] (⟨0, 12, 15, 13⟩ : ExceptionTableEntry) [(⟨0, 12, 19, 15⟩ : ExceptionTableEntry)] (by rw [htab]; rfl) (fun z hz => absurd hz List.not_mem_nil) rfl (by decide) (hts _ q563) (hXL.cast cIO) hce hcv hcl ?_
  refine lv_astore (lv' := [(5, .ref q9), (0, .ref x), (1, .int k), (2, .int j), (3, .int t), (4, .ref o)]) hx hb dL_circle_15 hl (by decide) rfl (fun ls hl => ?_)
  refine lv_iconst (v := 1) hx hb dL_circle_17 (by decide) ?_
  exact g_i hx hb hr hlk hz hk1 dL_circle_18
set_option maxHeartbeats 4000000 in
set_option maxRecDepth 100000 in
theorem m_L_circle_x2 (l : Launch) (hst : l.stackTraces = false) (g : GG) (x a sv q sl sf b tr po d o : Nat) (S T : Nat → Nat → Int32) (fq fs : Nat → Option Nat) (F cs : Nat → Int32) (n : Nat) (R : Nat → Nat → Int32) (P : Nat → Int32) (V : Nat → Nat → Int32) (v0 : Nat) (B0 C0 : Nat → Nat → Int32) (v1 : Nat) (B1 C1 : Nat → Nat → Int32) (v2 : Nat) (B2 C2 : Nat → Nat → Int32) (v3 : Nat) (B3 C3 : Nat → Nat → Int32) (v4 : Nat) (B4 C4 : Nat → Nat → Int32) (v5 : Nat) (B5 C5 : Nat → Nat → Int32) (y0 : Nat) (Y0 Z0 : Nat → Nat → Int32) (y1 : Nat) (Y1 Z1 : Nat → Nat → Int32) (f0 : Nat → Int64) (k : Nat) (hk_k : k < 10) (j : Int32) (t : Int32) (h : inb j 0 9 = false) : MG l g yL_circle cL_circle 6 [(0, 12, 15, 13), (0, 12, 19, 15)] ({ frames := 9, cells := 1, slots := 6, locals := 146 } : Room) [.ref x, .int (nI k), .int j, .int t, .ref o] (XW g x a sv q sl sf b tr po d o S T fq fs F cs n R P V v0 B0 C0 v1 B1 C1 v2 B2 C2 v3 B3 C3 v4 B4 C4 v5 B5 C5 y0 Y0 Z0 y1 Y1 Z1 f0) (some (.int 1)) := by
  refine MG.of rfl (Nat.le_of_ble_eq_true rfl) ?_
  intro zp ze zs zm zbelow zmeth zc ls zS hr hlk htab hK hP hXL hl
  obtain ⟨hx, hb, hml, hown, hts⟩ := id zS
  have hl : lv_has ls 6 [(0, .ref x), (1, .int (nI k)), (2, .int j), (3, .int t), (4, .ref o)] := hl
  refine lv_aload hx hb dL_circle_0 (lv_at hl 4 rfl) ?_
  refine lv_iconst (v := 0) hx hb dL_circle_2 (by decide) ?_
  refine lv_aload_n hx hb dL_circle_3 rfl (lv_at hl 0 rfl) ?_
  refine lv_iload_n hx hb dL_circle_4 rfl (lv_at hl 1 rfl) ?_
  refine lv_iload_n hx hb dL_circle_5 rfl (lv_at hl 2 rfl) ?_
  refine lv_iload_n hx hb dL_circle_6 rfl (lv_at hl 3 rfl) ?_
  refine xcV (rest := [.int 0, .ref o]) zS hK hP hXL (MXt.ofX (m_X4_circle_x2 l hst g x a sv q sl sf b tr po d k hk_k j t h)) cw_X4_circle q615 [0] rfl 0 rfl rfl ⟨Nat.le_of_ble_eq_true rfl, Nat.le_of_ble_eq_true rfl, rfl, rfl⟩ rfl rfl (Nat.le_of_ble_eq_true rfl) hl.1 dL_circle_7 ⟨Nat.le_of_ble_eq_true rfl, Nat.le_of_ble_eq_true rfl⟩ (fun H q9 ce hz hk1 hce hcv hcl => ?_)
  refine vx_catch (E := xIO) hown [] (⟨0, 12, 15, 13⟩ : ExceptionTableEntry) [(⟨0, 12, 19, 15⟩ : ExceptionTableEntry)] (by rw [htab]; rfl) (fun z hz => absurd hz List.not_mem_nil) rfl (by decide) (hts _ q563) (hXL.cast cIO) hce hcv hcl ?_
  refine lv_astore (lv' := [(5, .ref q9), (0, .ref x), (1, .int (nI k)), (2, .int j), (3, .int t), (4, .ref o)]) hx hb dL_circle_15 hl (by decide) rfl (fun ls hl => ?_)
  refine lv_iconst (v := 1) hx hb dL_circle_17 (by decide) ?_
  exact g_i hx hb hr hlk hz hk1 dL_circle_18
set_option maxHeartbeats 4000000 in
set_option maxRecDepth 100000 in
theorem m_L_circle_x3 (l : Launch) (hst : l.stackTraces = false) (g : GG) (x a sv q sl sf b tr po d o : Nat) (S T : Nat → Nat → Int32) (fq fs : Nat → Option Nat) (F cs : Nat → Int32) (n : Nat) (R : Nat → Nat → Int32) (P : Nat → Int32) (V : Nat → Nat → Int32) (v0 : Nat) (B0 C0 : Nat → Nat → Int32) (v1 : Nat) (B1 C1 : Nat → Nat → Int32) (v2 : Nat) (B2 C2 : Nat → Nat → Int32) (v3 : Nat) (B3 C3 : Nat → Nat → Int32) (v4 : Nat) (B4 C4 : Nat → Nat → Int32) (v5 : Nat) (B5 C5 : Nat → Nat → Int32) (y0 : Nat) (Y0 Z0 : Nat → Nat → Int32) (y1 : Nat) (Y1 Z1 : Nat → Nat → Int32) (f0 : Nat → Int64) (k : Nat) (hk_k : k < 10) (j : Nat) (hk_j : j < 10) (t : Int32) (h : tld t = false) : MG l g yL_circle cL_circle 6 [(0, 12, 15, 13), (0, 12, 19, 15)] ({ frames := 8, cells := 1, slots := 6, locals := 125 } : Room) [.ref x, .int (nI k), .int (nI j), .int t, .ref o] (XW g x a sv q sl sf b tr po d o S T fq fs F cs n R P V v0 B0 C0 v1 B1 C1 v2 B2 C2 v3 B3 C3 v4 B4 C4 v5 B5 C5 y0 Y0 Z0 y1 Y1 Z1 f0) (some (.int 2)) := by
  refine MG.of rfl (Nat.le_of_ble_eq_true rfl) ?_
  intro zp ze zs zm zbelow zmeth zc ls zS hr hlk htab hK hP hXL hl
  obtain ⟨hx, hb, hml, hown, hts⟩ := id zS
  have hl : lv_has ls 6 [(0, .ref x), (1, .int (nI k)), (2, .int (nI j)), (3, .int t), (4, .ref o)] := hl
  refine lv_aload hx hb dL_circle_0 (lv_at hl 4 rfl) ?_
  refine lv_iconst (v := 0) hx hb dL_circle_2 (by decide) ?_
  refine lv_aload_n hx hb dL_circle_3 rfl (lv_at hl 0 rfl) ?_
  refine lv_iload_n hx hb dL_circle_4 rfl (lv_at hl 1 rfl) ?_
  refine lv_iload_n hx hb dL_circle_5 rfl (lv_at hl 2 rfl) ?_
  refine lv_iload_n hx hb dL_circle_6 rfl (lv_at hl 3 rfl) ?_
  refine xcV (rest := [.int 0, .ref o]) zS hK hP hXL (MXt.ofX (m_X4_circle_x3 l hst g x a sv q sl sf b tr po d k hk_k j hk_j t h)) cw_X4_circle q615 [0] rfl 0 rfl rfl ⟨Nat.le_of_ble_eq_true rfl, Nat.le_of_ble_eq_true rfl, rfl, rfl⟩ rfl rfl (Nat.le_of_ble_eq_true rfl) hl.1 dL_circle_7 ⟨Nat.le_of_ble_eq_true rfl, Nat.le_of_ble_eq_true rfl⟩ (fun H q9 ce hz hk1 hce hcv hcl => ?_)
  refine vx_catch (E := xIA) hown [(⟨0, 12, 15, 13⟩ : ExceptionTableEntry)] (⟨0, 12, 19, 15⟩ : ExceptionTableEntry) [] (by rw [htab]; rfl) (fun z hz => (List.mem_cons.mp hz).elim (fun e => Or.inr (by subst e; exact ⟨by decide, _, hts _ q563, hXL.2.2.2.2.1⟩)) (fun hz => (fun z hz => absurd hz List.not_mem_nil) z hz)) rfl (by decide) (hts _ q564) (hXL.cast cIA) hce hcv hcl ?_
  refine lv_astore (lv' := [(5, .ref q9), (0, .ref x), (1, .int (nI k)), (2, .int (nI j)), (3, .int t), (4, .ref o)]) hx hb dL_circle_19 hl (by decide) rfl (fun ls hl => ?_)
  refine lv_iconst (v := 2) hx hb dL_circle_21 (by decide) ?_
  exact g_i hx hb hr hlk hz hk1 dL_circle_22
set_option maxHeartbeats 4000000 in
set_option maxRecDepth 100000 in
theorem m_L_forget_x1 (l : Launch) (hst : l.stackTraces = false) (g : GG) (x a sv q sl sf b tr po d o : Nat) (S T : Nat → Nat → Int32) (fq fs : Nat → Option Nat) (F cs : Nat → Int32) (n : Nat) (R : Nat → Nat → Int32) (P : Nat → Int32) (V : Nat → Nat → Int32) (v0 : Nat) (B0 C0 : Nat → Nat → Int32) (v1 : Nat) (B1 C1 : Nat → Nat → Int32) (v2 : Nat) (B2 C2 : Nat → Nat → Int32) (v3 : Nat) (B3 C3 : Nat → Nat → Int32) (v4 : Nat) (B4 C4 : Nat → Nat → Int32) (v5 : Nat) (B5 C5 : Nat → Nat → Int32) (y0 : Nat) (Y0 Z0 : Nat → Nat → Int32) (y1 : Nat) (Y1 Z1 : Nat → Nat → Int32) (f0 : Nat → Int64)  (nl : Nat) (hL : LsOk S nl) (k : Int32) (h : inb k 0 (nI nl - 1) = false) : MG l g yL_forget cL_forget 4 [(0, 9, 12, 13)] ({ frames := 8, cells := 1, slots := 6, locals := 125 } : Room) [.ref x, .int k, .ref o] (XW g x a sv q sl sf b tr po d o S T fq fs F cs n R P V v0 B0 C0 v1 B1 C1 v2 B2 C2 v3 B3 C3 v4 B4 C4 v5 B5 C5 y0 Y0 Z0 y1 Y1 Z1 f0) (some (.int 1)) := by
  refine MG.of rfl (Nat.le_of_ble_eq_true rfl) ?_
  intro zp ze zs zm zbelow zmeth zc ls zS hr hlk htab hK hP hXL hl
  obtain ⟨hx, hb, hml, hown, hts⟩ := id zS
  have hl : lv_has ls 4 [(0, .ref x), (1, .int k), (2, .ref o)] := hl
  refine lv_aload_n hx hb dL_forget_0 rfl (lv_at hl 2 rfl) ?_
  refine lv_iconst (v := 0) hx hb dL_forget_1 (by decide) ?_
  refine lv_aload_n hx hb dL_forget_2 rfl (lv_at hl 0 rfl) ?_
  refine lv_iload_n hx hb dL_forget_3 rfl (lv_at hl 1 rfl) ?_
  refine xcV (rest := [.int 0, .ref o]) zS hK hP hXL (MXt.ofX (m_X4_forget_x1 l hst g x a sv q sl sf b tr po d S nl hL k h)) cw_X4_forget q635 [0, 1, 2, 3, 4, 5, 6, 7, 8] rfl 0 rfl rfl ⟨Nat.le_of_ble_eq_true rfl, Nat.le_of_ble_eq_true rfl, rfl, rfl⟩ rfl rfl (Nat.le_of_ble_eq_true rfl) hl.1 dL_forget_4 ⟨Nat.le_of_ble_eq_true rfl, Nat.le_of_ble_eq_true rfl⟩ (fun H q9 ce hz hk1 hce hcv hcl => ?_)
  refine vx_catch (E := xIO) hown [] (⟨0, 9, 12, 13⟩ : ExceptionTableEntry) [] (by rw [htab]; rfl) (fun z hz => absurd hz List.not_mem_nil) rfl (by decide) (hts _ q563) (hXL.cast cIO) hce hcv hcl ?_
  refine lv_astore_n (lv' := [(3, .ref q9), (0, .ref x), (1, .int k), (2, .ref o)]) hx hb dL_forget_12 rfl hl (by decide) rfl (fun ls hl => ?_)
  refine lv_iconst (v := 1) hx hb dL_forget_13 (by decide) ?_
  exact g_i hx hb hr hlk hz hk1 dL_forget_14
set_option maxHeartbeats 4000000 in
set_option maxRecDepth 100000 in
theorem m_L_append_x1 (l : Launch) (hst : l.stackTraces = false) (g : GG) (x a sv q sl sf b tr po d o : Nat) (S T : Nat → Nat → Int32) (fq fs : Nat → Option Nat) (F cs : Nat → Int32) (n : Nat) (R : Nat → Nat → Int32) (P : Nat → Int32) (V : Nat → Nat → Int32) (v0 : Nat) (B0 C0 : Nat → Nat → Int32) (v1 : Nat) (B1 C1 : Nat → Nat → Int32) (v2 : Nat) (B2 C2 : Nat → Nat → Int32) (v3 : Nat) (B3 C3 : Nat → Nat → Int32) (v4 : Nat) (B4 C4 : Nat → Nat → Int32) (v5 : Nat) (B5 C5 : Nat → Nat → Int32) (y0 : Nat) (Y0 Z0 : Nat → Nat → Int32) (y1 : Nat) (Y1 Z1 : Nat → Nat → Int32) (f0 : Nat → Int64) (v : Int32) (h : inb v 33 126 = false) : MG l g yL_append cL_append 4 [(0, 9, 12, 15), (0, 9, 15, 37)] ({ frames := 8, cells := 1, slots := 6, locals := 125 } : Room) [.ref x, .int v, .ref o] (XW g x a sv q sl sf b tr po d o S T fq fs F cs n R P V v0 B0 C0 v1 B1 C1 v2 B2 C2 v3 B3 C3 v4 B4 C4 v5 B5 C5 y0 Y0 Z0 y1 Y1 Z1 f0) (some (.int 1)) := by
  refine MG.of rfl (Nat.le_of_ble_eq_true rfl) ?_
  intro zp ze zs zm zbelow zmeth zc ls zS hr hlk htab hK hP hXL hl
  obtain ⟨hx, hb, hml, hown, hts⟩ := id zS
  have hl : lv_has ls 4 [(0, .ref x), (1, .int v), (2, .ref o)] := hl
  refine lv_aload_n hx hb dL_append_0 rfl (lv_at hl 2 rfl) ?_
  refine lv_iconst (v := 0) hx hb dL_append_1 (by decide) ?_
  refine lv_aload_n hx hb dL_append_2 rfl (lv_at hl 0 rfl) ?_
  refine lv_iload_n hx hb dL_append_3 rfl (lv_at hl 1 rfl) ?_
  refine xcV (rest := [.int 0, .ref o]) zS hK hP hXL (MXt.ofX (m_X4_append_x1 l hst g x a sv q sl sf b tr po d v h)) cw_X4_append q647 [0] rfl 0 rfl rfl ⟨Nat.le_of_ble_eq_true rfl, Nat.le_of_ble_eq_true rfl, rfl, rfl⟩ rfl rfl (Nat.le_of_ble_eq_true rfl) hl.1 dL_append_4 ⟨Nat.le_of_ble_eq_true rfl, Nat.le_of_ble_eq_true rfl⟩ (fun H q9 ce hz hk1 hce hcv hcl => ?_)
  refine vx_catch (E := xIA) hown [] (⟨0, 9, 12, 15⟩ : ExceptionTableEntry) [(⟨0, 9, 15, 37⟩ : ExceptionTableEntry)] (by rw [htab]; rfl) (fun z hz => absurd hz List.not_mem_nil) rfl (by decide) (hts _ q564) (hXL.cast cIA) hce hcv hcl ?_
  refine lv_astore_n (lv' := [(3, .ref q9), (0, .ref x), (1, .int v), (2, .ref o)]) hx hb dL_append_12 rfl hl (by decide) rfl (fun ls hl => ?_)
  refine lv_iconst (v := 1) hx hb dL_append_13 (by decide) ?_
  exact g_i hx hb hr hlk hz hk1 dL_append_14
set_option maxHeartbeats 4000000 in
set_option maxRecDepth 100000 in
theorem m_L_append_x2 (l : Launch) (hst : l.stackTraces = false) (g : GG) (x a sv q sl sf b tr po d o : Nat) (S T : Nat → Nat → Int32) (fq fs : Nat → Option Nat) (F cs : Nat → Int32) (n : Nat) (R : Nat → Nat → Int32) (P : Nat → Int32) (V : Nat → Nat → Int32) (v0 : Nat) (B0 C0 : Nat → Nat → Int32) (v1 : Nat) (B1 C1 : Nat → Nat → Int32) (v2 : Nat) (B2 C2 : Nat → Nat → Int32) (v3 : Nat) (B3 C3 : Nat → Nat → Int32) (v4 : Nat) (B4 C4 : Nat → Nat → Int32) (v5 : Nat) (B5 C5 : Nat → Nat → Int32) (y0 : Nat) (Y0 Z0 : Nat → Nat → Int32) (y1 : Nat) (Y1 Z1 : Nat → Nat → Int32) (f0 : Nat → Int64)  (hn : n = 60) (v : Int32) (h1 : ¬ v < 33) (h2 : ¬ 126 < v) : MG l g yL_append cL_append 4 [(0, 9, 12, 15), (0, 9, 15, 37)] ({ frames := 7, cells := 1, slots := 6, locals := 103 } : Room) [.ref x, .int v, .ref o] (XW g x a sv q sl sf b tr po d o S T fq fs F cs n R P V v0 B0 C0 v1 B1 C1 v2 B2 C2 v3 B3 C3 v4 B4 C4 v5 B5 C5 y0 Y0 Z0 y1 Y1 Z1 f0) (some (.int 2)) := by
  refine MG.of rfl (Nat.le_of_ble_eq_true rfl) ?_
  intro zp ze zs zm zbelow zmeth zc ls zS hr hlk htab hK hP hXL hl
  obtain ⟨hx, hb, hml, hown, hts⟩ := id zS
  have hl : lv_has ls 4 [(0, .ref x), (1, .int v), (2, .ref o)] := hl
  refine lv_aload_n hx hb dL_append_0 rfl (lv_at hl 2 rfl) ?_
  refine lv_iconst (v := 0) hx hb dL_append_1 (by decide) ?_
  refine lv_aload_n hx hb dL_append_2 rfl (lv_at hl 0 rfl) ?_
  refine lv_iload_n hx hb dL_append_3 rfl (lv_at hl 1 rfl) ?_
  refine xcV (rest := [.int 0, .ref o]) zS hK hP hXL (MXt.ofX (m_X4_append_x2 l hst g x a sv q sl sf b tr po d cs n hn v h1 h2)) cw_X4_append q647 [0, 20, 21] rfl 0 rfl rfl ⟨Nat.le_of_ble_eq_true rfl, Nat.le_of_ble_eq_true rfl, rfl, rfl⟩ rfl rfl (Nat.le_of_ble_eq_true rfl) hl.1 dL_append_4 ⟨Nat.le_of_ble_eq_true rfl, Nat.le_of_ble_eq_true rfl⟩ (fun H q9 ce hz hk1 hce hcv hcl => ?_)
  refine vx_catch (E := xIS) hown [(⟨0, 9, 12, 15⟩ : ExceptionTableEntry)] (⟨0, 9, 15, 37⟩ : ExceptionTableEntry) [] (by rw [htab]; rfl) (fun z hz => (List.mem_cons.mp hz).elim (fun e => Or.inr (by subst e; exact ⟨by decide, _, hts _ q564, hXL.2.2.2.2.2.2.2⟩)) (fun hz => (fun z hz => absurd hz List.not_mem_nil) z hz)) rfl (by decide) (hts _ q646) (hXL.cast cIS) hce hcv hcl ?_
  refine lv_astore_n (lv' := [(3, .ref q9), (0, .ref x), (1, .int v), (2, .ref o)]) hx hb dL_append_15 rfl hl (by decide) rfl (fun ls hl => ?_)
  refine lv_iconst (v := 2) hx hb dL_append_16 (by decide) ?_
  exact g_i hx hb hr hlk hz hk1 dL_append_17
set_option maxHeartbeats 4000000 in
set_option maxRecDepth 100000 in
theorem m_L_circleAt_x1 (l : Launch) (hst : l.stackTraces = false) (g : GG) (x a sv q sl sf b tr po d o : Nat) (S T : Nat → Nat → Int32) (fq fs : Nat → Option Nat) (F cs : Nat → Int32) (n : Nat) (R : Nat → Nat → Int32) (P : Nat → Int32) (V : Nat → Nat → Int32) (v0 : Nat) (B0 C0 : Nat → Nat → Int32) (v1 : Nat) (B1 C1 : Nat → Nat → Int32) (v2 : Nat) (B2 C2 : Nat → Nat → Int32) (v3 : Nat) (B3 C3 : Nat → Nat → Int32) (v4 : Nat) (B4 C4 : Nat → Nat → Int32) (v5 : Nat) (B5 C5 : Nat → Nat → Int32) (y0 : Nat) (Y0 Z0 : Nat → Nat → Int32) (y1 : Nat) (Y1 Z1 : Nat → Nat → Int32) (f0 : Nat → Int64)  (hn : n ≤ 60) (k : Int32) (t : Int32) (h : ttx cs n = false) : MG l g yL_circleAt cL_circleAt 5 [(0, 10, 13, 37), (0, 10, 17, 13), (0, 10, 21, 15)] ({ frames := 7, cells := 1, slots := 6, locals := 104 } : Room) [.ref x, .int k, .int t, .ref o] (XW g x a sv q sl sf b tr po d o S T fq fs F cs n R P V v0 B0 C0 v1 B1 C1 v2 B2 C2 v3 B3 C3 v4 B4 C4 v5 B5 C5 y0 Y0 Z0 y1 Y1 Z1 f0) (some (.int 1)) := by
  refine MG.of rfl (Nat.le_of_ble_eq_true rfl) ?_
  intro zp ze zs zm zbelow zmeth zc ls zS hr hlk htab hK hP hXL hl
  obtain ⟨hx, hb, hml, hown, hts⟩ := id zS
  have hl : lv_has ls 5 [(0, .ref x), (1, .int k), (2, .int t), (3, .ref o)] := hl
  refine lv_aload_n hx hb dL_circleAt_0 rfl (lv_at hl 3 rfl) ?_
  refine lv_iconst (v := 0) hx hb dL_circleAt_1 (by decide) ?_
  refine lv_aload_n hx hb dL_circleAt_2 rfl (lv_at hl 0 rfl) ?_
  refine lv_iload_n hx hb dL_circleAt_3 rfl (lv_at hl 1 rfl) ?_
  refine lv_iload_n hx hb dL_circleAt_4 rfl (lv_at hl 2 rfl) ?_
  refine xcV (rest := [.int 0, .ref o]) zS hK hP hXL (MXt.ofX (m_X4_circleAt_x1 l hst g x a sv q sl sf b tr po d cs n hn k t h)) cw_X4_circleAt q670 [0, 20, 21] rfl 0 rfl rfl ⟨Nat.le_of_ble_eq_true rfl, Nat.le_of_ble_eq_true rfl, rfl, rfl⟩ rfl rfl (Nat.le_of_ble_eq_true rfl) hl.1 dL_circleAt_5 ⟨Nat.le_of_ble_eq_true rfl, Nat.le_of_ble_eq_true rfl⟩ (fun H q9 ce hz hk1 hce hcv hcl => ?_)
  refine vx_catch (E := xIS) hown [] (⟨0, 10, 13, 37⟩ : ExceptionTableEntry) [(⟨0, 10, 17, 13⟩ : ExceptionTableEntry), (⟨0, 10, 21, 15⟩ : ExceptionTableEntry)] (by rw [htab]; rfl) (fun z hz => absurd hz List.not_mem_nil) rfl (by decide) (hts _ q646) (hXL.cast cIS) hce hcv hcl ?_
  refine lv_astore (lv' := [(4, .ref q9), (0, .ref x), (1, .int k), (2, .int t), (3, .ref o)]) hx hb dL_circleAt_13 hl (by decide) rfl (fun ls hl => ?_)
  refine lv_iconst (v := 1) hx hb dL_circleAt_15 (by decide) ?_
  exact g_i hx hb hr hlk hz hk1 dL_circleAt_16
set_option maxHeartbeats 4000000 in
set_option maxRecDepth 100000 in
theorem m_L_circleAt_x2 (l : Launch) (hst : l.stackTraces = false) (g : GG) (x a sv q sl sf b tr po d o : Nat) (S T : Nat → Nat → Int32) (fq fs : Nat → Option Nat) (F cs : Nat → Int32) (n : Nat) (R : Nat → Nat → Int32) (P : Nat → Int32) (V : Nat → Nat → Int32) (v0 : Nat) (B0 C0 : Nat → Nat → Int32) (v1 : Nat) (B1 C1 : Nat → Nat → Int32) (v2 : Nat) (B2 C2 : Nat → Nat → Int32) (v3 : Nat) (B3 C3 : Nat → Nat → Int32) (v4 : Nat) (B4 C4 : Nat → Nat → Int32) (v5 : Nat) (B5 C5 : Nat → Nat → Int32) (y0 : Nat) (Y0 Z0 : Nat → Nat → Int32) (y1 : Nat) (Y1 Z1 : Nat → Nat → Int32) (f0 : Nat → Int64)  (hn : n ≤ 60) (k : Int32) (t : Int32) (h1 : ttx cs n = true) (h : hpA cs n k = false) : MG l g yL_circleAt cL_circleAt 5 [(0, 10, 13, 37), (0, 10, 17, 13), (0, 10, 21, 15)] ({ frames := 7, cells := 1, slots := 6, locals := 104 } : Room) [.ref x, .int k, .int t, .ref o] (XW g x a sv q sl sf b tr po d o S T fq fs F cs n R P V v0 B0 C0 v1 B1 C1 v2 B2 C2 v3 B3 C3 v4 B4 C4 v5 B5 C5 y0 Y0 Z0 y1 Y1 Z1 f0) (some (.int 2)) := by
  refine MG.of rfl (Nat.le_of_ble_eq_true rfl) ?_
  intro zp ze zs zm zbelow zmeth zc ls zS hr hlk htab hK hP hXL hl
  obtain ⟨hx, hb, hml, hown, hts⟩ := id zS
  have hl : lv_has ls 5 [(0, .ref x), (1, .int k), (2, .int t), (3, .ref o)] := hl
  refine lv_aload_n hx hb dL_circleAt_0 rfl (lv_at hl 3 rfl) ?_
  refine lv_iconst (v := 0) hx hb dL_circleAt_1 (by decide) ?_
  refine lv_aload_n hx hb dL_circleAt_2 rfl (lv_at hl 0 rfl) ?_
  refine lv_iload_n hx hb dL_circleAt_3 rfl (lv_at hl 1 rfl) ?_
  refine lv_iload_n hx hb dL_circleAt_4 rfl (lv_at hl 2 rfl) ?_
  refine xcV (rest := [.int 0, .ref o]) zS hK hP hXL (MXt.ofX (m_X4_circleAt_x2 l hst g x a sv q sl sf b tr po d cs n hn k t h1 h)) cw_X4_circleAt q670 [0, 20, 21] rfl 0 rfl rfl ⟨Nat.le_of_ble_eq_true rfl, Nat.le_of_ble_eq_true rfl, rfl, rfl⟩ rfl rfl (Nat.le_of_ble_eq_true rfl) hl.1 dL_circleAt_5 ⟨Nat.le_of_ble_eq_true rfl, Nat.le_of_ble_eq_true rfl⟩ (fun H q9 ce hz hk1 hce hcv hcl => ?_)
  refine vx_catch (E := xIO) hown [(⟨0, 10, 13, 37⟩ : ExceptionTableEntry)] (⟨0, 10, 17, 13⟩ : ExceptionTableEntry) [(⟨0, 10, 21, 15⟩ : ExceptionTableEntry)] (by rw [htab]; rfl) (fun z hz => (List.mem_cons.mp hz).elim (fun e => Or.inr (by subst e; exact ⟨by decide, _, hts _ q646, hXL.2.2.2.1⟩)) (fun hz => (fun z hz => absurd hz List.not_mem_nil) z hz)) rfl (by decide) (hts _ q563) (hXL.cast cIO) hce hcv hcl ?_
  refine lv_astore (lv' := [(4, .ref q9), (0, .ref x), (1, .int k), (2, .int t), (3, .ref o)]) hx hb dL_circleAt_17 hl (by decide) rfl (fun ls hl => ?_)
  refine lv_iconst (v := 2) hx hb dL_circleAt_19 (by decide) ?_
  exact g_i hx hb hr hlk hz hk1 dL_circleAt_20
set_option maxHeartbeats 4000000 in
set_option maxRecDepth 100000 in
theorem m_L_circleAt_x3 (l : Launch) (hst : l.stackTraces = false) (g : GG) (x a sv q sl sf b tr po d o : Nat) (S T : Nat → Nat → Int32) (fq fs : Nat → Option Nat) (F cs : Nat → Int32) (n : Nat) (R : Nat → Nat → Int32) (P : Nat → Int32) (V : Nat → Nat → Int32) (v0 : Nat) (B0 C0 : Nat → Nat → Int32) (v1 : Nat) (B1 C1 : Nat → Nat → Int32) (v2 : Nat) (B2 C2 : Nat → Nat → Int32) (v3 : Nat) (B3 C3 : Nat → Nat → Int32) (v4 : Nat) (B4 C4 : Nat → Nat → Int32) (v5 : Nat) (B5 C5 : Nat → Nat → Int32) (y0 : Nat) (Y0 Z0 : Nat → Nat → Int32) (y1 : Nat) (Y1 Z1 : Nat → Nat → Int32) (f0 : Nat → Int64)  (hn : n ≤ 60) (k : Int32) (t : Int32) (h1 : ttx cs n = true) (h2 : hpA cs n k = true) (h : tld t = false) : MG l g yL_circleAt cL_circleAt 5 [(0, 10, 13, 37), (0, 10, 17, 13), (0, 10, 21, 15)] ({ frames := 8, cells := 1, slots := 6, locals := 124 } : Room) [.ref x, .int k, .int t, .ref o] (XW g x a sv q sl sf b tr po d o S T fq fs F cs n R P V v0 B0 C0 v1 B1 C1 v2 B2 C2 v3 B3 C3 v4 B4 C4 v5 B5 C5 y0 Y0 Z0 y1 Y1 Z1 f0) (some (.int 3)) := by
  refine MG.of rfl (Nat.le_of_ble_eq_true rfl) ?_
  intro zp ze zs zm zbelow zmeth zc ls zS hr hlk htab hK hP hXL hl
  obtain ⟨hx, hb, hml, hown, hts⟩ := id zS
  have hl : lv_has ls 5 [(0, .ref x), (1, .int k), (2, .int t), (3, .ref o)] := hl
  refine lv_aload_n hx hb dL_circleAt_0 rfl (lv_at hl 3 rfl) ?_
  refine lv_iconst (v := 0) hx hb dL_circleAt_1 (by decide) ?_
  refine lv_aload_n hx hb dL_circleAt_2 rfl (lv_at hl 0 rfl) ?_
  refine lv_iload_n hx hb dL_circleAt_3 rfl (lv_at hl 1 rfl) ?_
  refine lv_iload_n hx hb dL_circleAt_4 rfl (lv_at hl 2 rfl) ?_
  refine xcV (rest := [.int 0, .ref o]) zS hK hP hXL (MXt.ofX (m_X4_circleAt_x3 l hst g x a sv q sl sf b tr po d cs n hn k t h1 h2 h)) cw_X4_circleAt q670 [0, 20, 21] rfl 0 rfl rfl ⟨Nat.le_of_ble_eq_true rfl, Nat.le_of_ble_eq_true rfl, rfl, rfl⟩ rfl rfl (Nat.le_of_ble_eq_true rfl) hl.1 dL_circleAt_5 ⟨Nat.le_of_ble_eq_true rfl, Nat.le_of_ble_eq_true rfl⟩ (fun H q9 ce hz hk1 hce hcv hcl => ?_)
  refine vx_catch (E := xIA) hown [(⟨0, 10, 13, 37⟩ : ExceptionTableEntry), (⟨0, 10, 17, 13⟩ : ExceptionTableEntry)] (⟨0, 10, 21, 15⟩ : ExceptionTableEntry) [] (by rw [htab]; rfl) (fun z hz => (List.mem_cons.mp hz).elim (fun e => Or.inr (by subst e; exact ⟨by decide, _, hts _ q646, hXL.2.2.2.2.2.1⟩)) (fun hz => (fun z hz => (List.mem_cons.mp hz).elim (fun e => Or.inr (by subst e; exact ⟨by decide, _, hts _ q563, hXL.2.2.2.2.1⟩)) (fun hz => (fun z hz => absurd hz List.not_mem_nil) z hz)) z hz)) rfl (by decide) (hts _ q564) (hXL.cast cIA) hce hcv hcl ?_
  refine lv_astore (lv' := [(4, .ref q9), (0, .ref x), (1, .int k), (2, .int t), (3, .ref o)]) hx hb dL_circleAt_21 hl (by decide) rfl (fun ls hl => ?_)
  refine lv_iconst (v := 3) hx hb dL_circleAt_23 (by decide) ?_
  exact g_i hx hb hr hlk hz hk1 dL_circleAt_24
set_option maxHeartbeats 4000000 in
set_option maxRecDepth 100000 in
theorem m_L_keep_x1 (l : Launch) (hst : l.stackTraces = false) (g : GG) (x a sv q sl sf b tr po d o : Nat) (S T : Nat → Nat → Int32) (fq fs : Nat → Option Nat) (F cs : Nat → Int32) (n : Nat) (R : Nat → Nat → Int32) (P : Nat → Int32) (V : Nat → Nat → Int32) (v0 : Nat) (B0 C0 : Nat → Nat → Int32) (v1 : Nat) (B1 C1 : Nat → Nat → Int32) (v2 : Nat) (B2 C2 : Nat → Nat → Int32) (v3 : Nat) (B3 C3 : Nat → Nat → Int32) (v4 : Nat) (B4 C4 : Nat → Nat → Int32) (v5 : Nat) (B5 C5 : Nat → Nat → Int32) (y0 : Nat) (Y0 Z0 : Nat → Nat → Int32) (y1 : Nat) (Y1 Z1 : Nat → Nat → Int32) (f0 : Nat → Int64) (k : Int32) (h : inb k 0 1 = false) : MG l g yL_keep cL_keep 4 [(0, 9, 12, 15)] ({ frames := 8, cells := 1, slots := 6, locals := 125 } : Room) [.ref x, .int k, .ref o] (XW g x a sv q sl sf b tr po d o S T fq fs F cs n R P V v0 B0 C0 v1 B1 C1 v2 B2 C2 v3 B3 C3 v4 B4 C4 v5 B5 C5 y0 Y0 Z0 y1 Y1 Z1 f0) (some (.int 1)) := by
  refine MG.of rfl (Nat.le_of_ble_eq_true rfl) ?_
  intro zp ze zs zm zbelow zmeth zc ls zS hr hlk htab hK hP hXL hl
  obtain ⟨hx, hb, hml, hown, hts⟩ := id zS
  have hl : lv_has ls 4 [(0, .ref x), (1, .int k), (2, .ref o)] := hl
  refine lv_aload_n hx hb dL_keep_0 rfl (lv_at hl 2 rfl) ?_
  refine lv_iconst (v := 0) hx hb dL_keep_1 (by decide) ?_
  refine lv_aload_n hx hb dL_keep_2 rfl (lv_at hl 0 rfl) ?_
  refine lv_iload_n hx hb dL_keep_3 rfl (lv_at hl 1 rfl) ?_
  refine xcV (rest := [.int 0, .ref o]) zS hK hP hXL (MXt.ofX (m_X4_keep_x1 l hst g x a sv q sl sf b tr po d k h)) cw_X4_keep q681 [0] rfl 0 rfl rfl ⟨Nat.le_of_ble_eq_true rfl, Nat.le_of_ble_eq_true rfl, rfl, rfl⟩ rfl rfl (Nat.le_of_ble_eq_true rfl) hl.1 dL_keep_4 ⟨Nat.le_of_ble_eq_true rfl, Nat.le_of_ble_eq_true rfl⟩ (fun H q9 ce hz hk1 hce hcv hcl => ?_)
  refine vx_catch (E := xIA) hown [] (⟨0, 9, 12, 15⟩ : ExceptionTableEntry) [] (by rw [htab]; rfl) (fun z hz => absurd hz List.not_mem_nil) rfl (by decide) (hts _ q564) (hXL.cast cIA) hce hcv hcl ?_
  refine lv_astore_n (lv' := [(3, .ref q9), (0, .ref x), (1, .int k), (2, .ref o)]) hx hb dL_keep_12 rfl hl (by decide) rfl (fun ls hl => ?_)
  refine lv_iconst (v := 1) hx hb dL_keep_13 (by decide) ?_
  exact g_i hx hb hr hlk hz hk1 dL_keep_14
set_option maxHeartbeats 4000000 in
set_option maxRecDepth 100000 in
theorem m_L_goBack_x1 (l : Launch) (hst : l.stackTraces = false) (g : GG) (x a sv q sl sf b tr po d o : Nat) (S T : Nat → Nat → Int32) (fq fs : Nat → Option Nat) (F cs : Nat → Int32) (n : Nat) (R : Nat → Nat → Int32) (P : Nat → Int32) (V : Nat → Nat → Int32) (v0 : Nat) (B0 C0 : Nat → Nat → Int32) (v1 : Nat) (B1 C1 : Nat → Nat → Int32) (v2 : Nat) (B2 C2 : Nat → Nat → Int32) (v3 : Nat) (B3 C3 : Nat → Nat → Int32) (v4 : Nat) (B4 C4 : Nat → Nat → Int32) (v5 : Nat) (B5 C5 : Nat → Nat → Int32) (y0 : Nat) (Y0 Z0 : Nat → Nat → Int32) (y1 : Nat) (Y1 Z1 : Nat → Nat → Int32) (f0 : Nat → Int64) (k : Int32) (h : inb k 0 1 = false) : MG l g yL_goBack cL_goBack 4 [(0, 9, 12, 15), (0, 9, 15, 37)] ({ frames := 8, cells := 1, slots := 6, locals := 125 } : Room) [.ref x, .int k, .ref o] (XW g x a sv q sl sf b tr po d o S T fq fs F cs n R P V v0 B0 C0 v1 B1 C1 v2 B2 C2 v3 B3 C3 v4 B4 C4 v5 B5 C5 y0 Y0 Z0 y1 Y1 Z1 f0) (some (.int 1)) := by
  refine MG.of rfl (Nat.le_of_ble_eq_true rfl) ?_
  intro zp ze zs zm zbelow zmeth zc ls zS hr hlk htab hK hP hXL hl
  obtain ⟨hx, hb, hml, hown, hts⟩ := id zS
  have hl : lv_has ls 4 [(0, .ref x), (1, .int k), (2, .ref o)] := hl
  refine lv_aload_n hx hb dL_goBack_0 rfl (lv_at hl 2 rfl) ?_
  refine lv_iconst (v := 0) hx hb dL_goBack_1 (by decide) ?_
  refine lv_aload_n hx hb dL_goBack_2 rfl (lv_at hl 0 rfl) ?_
  refine lv_iload_n hx hb dL_goBack_3 rfl (lv_at hl 1 rfl) ?_
  refine xcV (rest := [.int 0, .ref o]) zS hK hP hXL (MXt.ofX (m_X4_goBack_x1 l hst g x a sv q sl sf b tr po d k h)) cw_X4_goBack q688 [0] rfl 0 rfl rfl ⟨Nat.le_of_ble_eq_true rfl, Nat.le_of_ble_eq_true rfl, rfl, rfl⟩ rfl rfl (Nat.le_of_ble_eq_true rfl) hl.1 dL_goBack_4 ⟨Nat.le_of_ble_eq_true rfl, Nat.le_of_ble_eq_true rfl⟩ (fun H q9 ce hz hk1 hce hcv hcl => ?_)
  refine vx_catch (E := xIA) hown [] (⟨0, 9, 12, 15⟩ : ExceptionTableEntry) [(⟨0, 9, 15, 37⟩ : ExceptionTableEntry)] (by rw [htab]; rfl) (fun z hz => absurd hz List.not_mem_nil) rfl (by decide) (hts _ q564) (hXL.cast cIA) hce hcv hcl ?_
  refine lv_astore_n (lv' := [(3, .ref q9), (0, .ref x), (1, .int k), (2, .ref o)]) hx hb dL_goBack_12 rfl hl (by decide) rfl (fun ls hl => ?_)
  refine lv_iconst (v := 1) hx hb dL_goBack_13 (by decide) ?_
  exact g_i hx hb hr hlk hz hk1 dL_goBack_14
set_option maxHeartbeats 4000000 in
set_option maxRecDepth 100000 in
theorem m_L_goBack_x2 (l : Launch) (hst : l.stackTraces = false) (g : GG) (x a sv q sl sf b tr po d o : Nat) (S T : Nat → Nat → Int32) (fq fs : Nat → Option Nat) (F cs : Nat → Int32) (n : Nat) (R : Nat → Nat → Int32) (P : Nat → Int32) (V : Nat → Nat → Int32) (v0 : Nat) (B0 C0 : Nat → Nat → Int32) (v1 : Nat) (B1 C1 : Nat → Nat → Int32) (v2 : Nat) (B2 C2 : Nat → Nat → Int32) (v3 : Nat) (B3 C3 : Nat → Nat → Int32) (v4 : Nat) (B4 C4 : Nat → Nat → Int32) (v5 : Nat) (B5 C5 : Nat → Nat → Int32) (y0 : Nat) (Y0 Z0 : Nat → Nat → Int32) (y1 : Nat) (Y1 Z1 : Nat → Nat → Int32) (f0 : Nat → Int64) (k : Nat) (hk_k : k < 2)  (h : F k = 0) : MG l g yL_goBack cL_goBack 4 [(0, 9, 12, 15), (0, 9, 15, 37)] ({ frames := 7, cells := 1, slots := 6, locals := 103 } : Room) [.ref x, .int (nI k), .ref o] (XW g x a sv q sl sf b tr po d o S T fq fs F cs n R P V v0 B0 C0 v1 B1 C1 v2 B2 C2 v3 B3 C3 v4 B4 C4 v5 B5 C5 y0 Y0 Z0 y1 Y1 Z1 f0) (some (.int 2)) := by
  refine MG.of rfl (Nat.le_of_ble_eq_true rfl) ?_
  intro zp ze zs zm zbelow zmeth zc ls zS hr hlk htab hK hP hXL hl
  obtain ⟨hx, hb, hml, hown, hts⟩ := id zS
  have hl : lv_has ls 4 [(0, .ref x), (1, .int (nI k)), (2, .ref o)] := hl
  refine lv_aload_n hx hb dL_goBack_0 rfl (lv_at hl 2 rfl) ?_
  refine lv_iconst (v := 0) hx hb dL_goBack_1 (by decide) ?_
  refine lv_aload_n hx hb dL_goBack_2 rfl (lv_at hl 0 rfl) ?_
  refine lv_iload_n hx hb dL_goBack_3 rfl (lv_at hl 1 rfl) ?_
  refine xcV (rest := [.int 0, .ref o]) zS hK hP hXL (MXt.ofX (m_X4_goBack_x2 l hst g x a sv q sl sf b tr po d k hk_k F h)) cw_X4_goBack q688 [0, 19] rfl 0 rfl rfl ⟨Nat.le_of_ble_eq_true rfl, Nat.le_of_ble_eq_true rfl, rfl, rfl⟩ rfl rfl (Nat.le_of_ble_eq_true rfl) hl.1 dL_goBack_4 ⟨Nat.le_of_ble_eq_true rfl, Nat.le_of_ble_eq_true rfl⟩ (fun H q9 ce hz hk1 hce hcv hcl => ?_)
  refine vx_catch (E := xIS) hown [(⟨0, 9, 12, 15⟩ : ExceptionTableEntry)] (⟨0, 9, 15, 37⟩ : ExceptionTableEntry) [] (by rw [htab]; rfl) (fun z hz => (List.mem_cons.mp hz).elim (fun e => Or.inr (by subst e; exact ⟨by decide, _, hts _ q564, hXL.2.2.2.2.2.2.2⟩)) (fun hz => (fun z hz => absurd hz List.not_mem_nil) z hz)) rfl (by decide) (hts _ q646) (hXL.cast cIS) hce hcv hcl ?_
  refine lv_astore_n (lv' := [(3, .ref q9), (0, .ref x), (1, .int (nI k)), (2, .ref o)]) hx hb dL_goBack_15 rfl hl (by decide) rfl (fun ls hl => ?_)
  refine lv_iconst (v := 2) hx hb dL_goBack_16 (by decide) ?_
  exact g_i hx hb hr hlk hz hk1 dL_goBack_17
set_option maxHeartbeats 4000000 in
set_option maxRecDepth 100000 in
theorem m_L_undo_x1 (l : Launch) (hst : l.stackTraces = false) (g : GG) (x a sv q sl sf b tr po d o : Nat) (S T : Nat → Nat → Int32) (fq fs : Nat → Option Nat) (F cs : Nat → Int32) (n : Nat) (R : Nat → Nat → Int32) (P : Nat → Int32) (V : Nat → Nat → Int32) (v0 : Nat) (B0 C0 : Nat → Nat → Int32) (v1 : Nat) (B1 C1 : Nat → Nat → Int32) (v2 : Nat) (B2 C2 : Nat → Nat → Int32) (v3 : Nat) (B3 C3 : Nat → Nat → Int32) (v4 : Nat) (B4 C4 : Nat → Nat → Int32) (v5 : Nat) (B5 C5 : Nat → Nat → Int32) (y0 : Nat) (Y0 Z0 : Nat → Nat → Int32) (y1 : Nat) (Y1 Z1 : Nat → Nat → Int32) (f0 : Nat → Int64) (hq0 : q = 0) : MG l g yL_undo cL_undo 3 [(0, 8, 11, 37)] ({ frames := 7, cells := 1, slots := 6, locals := 102 } : Room) [.ref x, .ref o] (XW g x a sv q sl sf b tr po d o S T fq fs F cs n R P V v0 B0 C0 v1 B1 C1 v2 B2 C2 v3 B3 C3 v4 B4 C4 v5 B5 C5 y0 Y0 Z0 y1 Y1 Z1 f0) (some (.int 1)) := by
  refine MG.of rfl (Nat.le_of_ble_eq_true rfl) ?_
  intro zp ze zs zm zbelow zmeth zc ls zS hr hlk htab hK hP hXL hl
  obtain ⟨hx, hb, hml, hown, hts⟩ := id zS
  have hl : lv_has ls 3 [(0, .ref x), (1, .ref o)] := hl
  refine lv_aload_n hx hb dL_undo_0 rfl (lv_at hl 1 rfl) ?_
  refine lv_iconst (v := 0) hx hb dL_undo_1 (by decide) ?_
  refine lv_aload_n hx hb dL_undo_2 rfl (lv_at hl 0 rfl) ?_
  refine xcV (rest := [.int 0, .ref o]) zS hK hP hXL (MXt.ofX (m_X4_undo_x1 l hst g x a sv q sl sf b tr po d hq0)) cw_X4_undo q696 [0] rfl 0 rfl rfl ⟨Nat.le_of_ble_eq_true rfl, Nat.le_of_ble_eq_true rfl, rfl, rfl⟩ rfl rfl (Nat.le_of_ble_eq_true rfl) hl.1 dL_undo_3 ⟨Nat.le_of_ble_eq_true rfl, Nat.le_of_ble_eq_true rfl⟩ (fun H q9 ce hz hk1 hce hcv hcl => ?_)
  refine vx_catch (E := xIS) hown [] (⟨0, 8, 11, 37⟩ : ExceptionTableEntry) [] (by rw [htab]; rfl) (fun z hz => absurd hz List.not_mem_nil) rfl (by decide) (hts _ q646) (hXL.cast cIS) hce hcv hcl ?_
  refine lv_astore_n (lv' := [(2, .ref q9), (0, .ref x), (1, .ref o)]) hx hb dL_undo_11 rfl hl (by decide) rfl (fun ls hl => ?_)
  refine lv_iconst (v := 1) hx hb dL_undo_12 (by decide) ?_
  exact g_i hx hb hr hlk hz hk1 dL_undo_13
set_option maxHeartbeats 4000000 in
set_option maxRecDepth 100000 in
theorem m_L_letterOf_x1 (l : Launch) (hst : l.stackTraces = false) (g : GG) (x a sv q sl sf b tr po d o : Nat) (S T : Nat → Nat → Int32) (fq fs : Nat → Option Nat) (F cs : Nat → Int32) (n : Nat) (R : Nat → Nat → Int32) (P : Nat → Int32) (V : Nat → Nat → Int32) (v0 : Nat) (B0 C0 : Nat → Nat → Int32) (v1 : Nat) (B1 C1 : Nat → Nat → Int32) (v2 : Nat) (B2 C2 : Nat → Nat → Int32) (v3 : Nat) (B3 C3 : Nat → Nat → Int32) (v4 : Nat) (B4 C4 : Nat → Nat → Int32) (v5 : Nat) (B5 C5 : Nat → Nat → Int32) (y0 : Nat) (Y0 Z0 : Nat → Nat → Int32) (y1 : Nat) (Y1 Z1 : Nat → Nat → Int32) (f0 : Nat → Int64) (k : Int32) (y : Int32) (h : inb k 0 9 = false) : MG l g yL_letterOf cL_letterOf 5 [(0, 10, 13, 13), (0, 10, 17, 15)] ({ frames := 9, cells := 1, slots := 6, locals := 145 } : Room) [.ref x, .int k, .int y, .ref o] (XW g x a sv q sl sf b tr po d o S T fq fs F cs n R P V v0 B0 C0 v1 B1 C1 v2 B2 C2 v3 B3 C3 v4 B4 C4 v5 B5 C5 y0 Y0 Z0 y1 Y1 Z1 f0) (some (.int 1)) := by
  refine MG.of rfl (Nat.le_of_ble_eq_true rfl) ?_
  intro zp ze zs zm zbelow zmeth zc ls zS hr hlk htab hK hP hXL hl
  obtain ⟨hx, hb, hml, hown, hts⟩ := id zS
  have hl : lv_has ls 5 [(0, .ref x), (1, .int k), (2, .int y), (3, .ref o)] := hl
  refine lv_aload_n hx hb dL_letterOf_0 rfl (lv_at hl 3 rfl) ?_
  refine lv_iconst (v := 0) hx hb dL_letterOf_1 (by decide) ?_
  refine lv_aload_n hx hb dL_letterOf_2 rfl (lv_at hl 0 rfl) ?_
  refine lv_iload_n hx hb dL_letterOf_3 rfl (lv_at hl 1 rfl) ?_
  refine lv_iload_n hx hb dL_letterOf_4 rfl (lv_at hl 2 rfl) ?_
  refine xcV (rest := [.int 0, .ref o]) zS hK hP hXL (MXt.ofX (m_X4_letterOf_x1 l hst g x a sv q sl sf b tr po d k y h)) cw_X4_letterOf q704 [0] rfl 0 rfl rfl ⟨Nat.le_of_ble_eq_true rfl, Nat.le_of_ble_eq_true rfl, rfl, rfl⟩ rfl rfl (Nat.le_of_ble_eq_true rfl) hl.1 dL_letterOf_5 ⟨Nat.le_of_ble_eq_true rfl, Nat.le_of_ble_eq_true rfl⟩ (fun H q9 ce hz hk1 hce hcv hcl => ?_)
  refine vx_catch (E := xIO) hown [] (⟨0, 10, 13, 13⟩ : ExceptionTableEntry) [(⟨0, 10, 17, 15⟩ : ExceptionTableEntry)] (by rw [htab]; rfl) (fun z hz => absurd hz List.not_mem_nil) rfl (by decide) (hts _ q563) (hXL.cast cIO) hce hcv hcl ?_
  refine lv_astore (lv' := [(4, .ref q9), (0, .ref x), (1, .int k), (2, .int y), (3, .ref o)]) hx hb dL_letterOf_13 hl (by decide) rfl (fun ls hl => ?_)
  refine lv_iconst (v := 1) hx hb dL_letterOf_15 (by decide) ?_
  exact g_i hx hb hr hlk hz hk1 dL_letterOf_16
set_option maxHeartbeats 4000000 in
set_option maxRecDepth 100000 in
theorem m_L_letterOf_x2 (l : Launch) (hst : l.stackTraces = false) (g : GG) (x a sv q sl sf b tr po d o : Nat) (S T : Nat → Nat → Int32) (fq fs : Nat → Option Nat) (F cs : Nat → Int32) (n : Nat) (R : Nat → Nat → Int32) (P : Nat → Int32) (V : Nat → Nat → Int32) (v0 : Nat) (B0 C0 : Nat → Nat → Int32) (v1 : Nat) (B1 C1 : Nat → Nat → Int32) (v2 : Nat) (B2 C2 : Nat → Nat → Int32) (v3 : Nat) (B3 C3 : Nat → Nat → Int32) (v4 : Nat) (B4 C4 : Nat → Nat → Int32) (v5 : Nat) (B5 C5 : Nat → Nat → Int32) (y0 : Nat) (Y0 Z0 : Nat → Nat → Int32) (y1 : Nat) (Y1 Z1 : Nat → Nat → Int32) (f0 : Nat → Int64) (k : Nat) (hk_k : k < 10) (y : Int32) (h : inb y 0 3 = false) : MG l g yL_letterOf cL_letterOf 5 [(0, 10, 13, 13), (0, 10, 17, 15)] ({ frames := 8, cells := 1, slots := 6, locals := 126 } : Room) [.ref x, .int (nI k), .int y, .ref o] (XW g x a sv q sl sf b tr po d o S T fq fs F cs n R P V v0 B0 C0 v1 B1 C1 v2 B2 C2 v3 B3 C3 v4 B4 C4 v5 B5 C5 y0 Y0 Z0 y1 Y1 Z1 f0) (some (.int 2)) := by
  refine MG.of rfl (Nat.le_of_ble_eq_true rfl) ?_
  intro zp ze zs zm zbelow zmeth zc ls zS hr hlk htab hK hP hXL hl
  obtain ⟨hx, hb, hml, hown, hts⟩ := id zS
  have hl : lv_has ls 5 [(0, .ref x), (1, .int (nI k)), (2, .int y), (3, .ref o)] := hl
  refine lv_aload_n hx hb dL_letterOf_0 rfl (lv_at hl 3 rfl) ?_
  refine lv_iconst (v := 0) hx hb dL_letterOf_1 (by decide) ?_
  refine lv_aload_n hx hb dL_letterOf_2 rfl (lv_at hl 0 rfl) ?_
  refine lv_iload_n hx hb dL_letterOf_3 rfl (lv_at hl 1 rfl) ?_
  refine lv_iload_n hx hb dL_letterOf_4 rfl (lv_at hl 2 rfl) ?_
  refine xcV (rest := [.int 0, .ref o]) zS hK hP hXL (MXt.ofX (m_X4_letterOf_x2 l hst g x a sv q sl sf b tr po d k hk_k y h)) cw_X4_letterOf q704 [0] rfl 0 rfl rfl ⟨Nat.le_of_ble_eq_true rfl, Nat.le_of_ble_eq_true rfl, rfl, rfl⟩ rfl rfl (Nat.le_of_ble_eq_true rfl) hl.1 dL_letterOf_5 ⟨Nat.le_of_ble_eq_true rfl, Nat.le_of_ble_eq_true rfl⟩ (fun H q9 ce hz hk1 hce hcv hcl => ?_)
  refine vx_catch (E := xIA) hown [(⟨0, 10, 13, 13⟩ : ExceptionTableEntry)] (⟨0, 10, 17, 15⟩ : ExceptionTableEntry) [] (by rw [htab]; rfl) (fun z hz => (List.mem_cons.mp hz).elim (fun e => Or.inr (by subst e; exact ⟨by decide, _, hts _ q563, hXL.2.2.2.2.1⟩)) (fun hz => (fun z hz => absurd hz List.not_mem_nil) z hz)) rfl (by decide) (hts _ q564) (hXL.cast cIA) hce hcv hcl ?_
  refine lv_astore (lv' := [(4, .ref q9), (0, .ref x), (1, .int (nI k)), (2, .int y), (3, .ref o)]) hx hb dL_letterOf_17 hl (by decide) rfl (fun ls hl => ?_)
  refine lv_iconst (v := 2) hx hb dL_letterOf_19 (by decide) ?_
  exact g_i hx hb hr hlk hz hk1 dL_letterOf_20
set_option maxHeartbeats 4000000 in
set_option maxRecDepth 100000 in
theorem m_L_pairOf_x1 (l : Launch) (hst : l.stackTraces = false) (g : GG) (x a sv q sl sf b tr po d o : Nat) (S T : Nat → Nat → Int32) (fq fs : Nat → Option Nat) (F cs : Nat → Int32) (n : Nat) (R : Nat → Nat → Int32) (P : Nat → Int32) (V : Nat → Nat → Int32) (v0 : Nat) (B0 C0 : Nat → Nat → Int32) (v1 : Nat) (B1 C1 : Nat → Nat → Int32) (v2 : Nat) (B2 C2 : Nat → Nat → Int32) (v3 : Nat) (B3 C3 : Nat → Nat → Int32) (v4 : Nat) (B4 C4 : Nat → Nat → Int32) (v5 : Nat) (B5 C5 : Nat → Nat → Int32) (y0 : Nat) (Y0 Z0 : Nat → Nat → Int32) (y1 : Nat) (Y1 Z1 : Nat → Nat → Int32) (f0 : Nat → Int64) (k : Int32) (j : Int32) (y : Int32) (h : inb k 0 9 = false) : MG l g yL_pairOf cL_pairOf 6 [(0, 12, 15, 13), (0, 12, 19, 15)] ({ frames := 9, cells := 1, slots := 6, locals := 147 } : Room) [.ref x, .int k, .int j, .int y, .ref o] (XW g x a sv q sl sf b tr po d o S T fq fs F cs n R P V v0 B0 C0 v1 B1 C1 v2 B2 C2 v3 B3 C3 v4 B4 C4 v5 B5 C5 y0 Y0 Z0 y1 Y1 Z1 f0) (some (.int 1)) := by
  refine MG.of rfl (Nat.le_of_ble_eq_true rfl) ?_
  intro zp ze zs zm zbelow zmeth zc ls zS hr hlk htab hK hP hXL hl
  obtain ⟨hx, hb, hml, hown, hts⟩ := id zS
  have hl : lv_has ls 6 [(0, .ref x), (1, .int k), (2, .int j), (3, .int y), (4, .ref o)] := hl
  refine lv_aload hx hb dL_pairOf_0 (lv_at hl 4 rfl) ?_
  refine lv_iconst (v := 0) hx hb dL_pairOf_2 (by decide) ?_
  refine lv_aload_n hx hb dL_pairOf_3 rfl (lv_at hl 0 rfl) ?_
  refine lv_iload_n hx hb dL_pairOf_4 rfl (lv_at hl 1 rfl) ?_
  refine lv_iload_n hx hb dL_pairOf_5 rfl (lv_at hl 2 rfl) ?_
  refine lv_iload_n hx hb dL_pairOf_6 rfl (lv_at hl 3 rfl) ?_
  refine xcV (rest := [.int 0, .ref o]) zS hK hP hXL (MXt.ofX (m_X4_pairOf_x1 l hst g x a sv q sl sf b tr po d k j y h)) cw_X4_pairOf q708 [0] rfl 0 rfl rfl ⟨Nat.le_of_ble_eq_true rfl, Nat.le_of_ble_eq_true rfl, rfl, rfl⟩ rfl rfl (Nat.le_of_ble_eq_true rfl) hl.1 dL_pairOf_7 ⟨Nat.le_of_ble_eq_true rfl, Nat.le_of_ble_eq_true rfl⟩ (fun H q9 ce hz hk1 hce hcv hcl => ?_)
  refine vx_catch (E := xIO) hown [] (⟨0, 12, 15, 13⟩ : ExceptionTableEntry) [(⟨0, 12, 19, 15⟩ : ExceptionTableEntry)] (by rw [htab]; rfl) (fun z hz => absurd hz List.not_mem_nil) rfl (by decide) (hts _ q563) (hXL.cast cIO) hce hcv hcl ?_
  refine lv_astore (lv' := [(5, .ref q9), (0, .ref x), (1, .int k), (2, .int j), (3, .int y), (4, .ref o)]) hx hb dL_pairOf_15 hl (by decide) rfl (fun ls hl => ?_)
  refine lv_iconst (v := 1) hx hb dL_pairOf_17 (by decide) ?_
  exact g_i hx hb hr hlk hz hk1 dL_pairOf_18
set_option maxHeartbeats 4000000 in
set_option maxRecDepth 100000 in
theorem m_L_pairOf_x2 (l : Launch) (hst : l.stackTraces = false) (g : GG) (x a sv q sl sf b tr po d o : Nat) (S T : Nat → Nat → Int32) (fq fs : Nat → Option Nat) (F cs : Nat → Int32) (n : Nat) (R : Nat → Nat → Int32) (P : Nat → Int32) (V : Nat → Nat → Int32) (v0 : Nat) (B0 C0 : Nat → Nat → Int32) (v1 : Nat) (B1 C1 : Nat → Nat → Int32) (v2 : Nat) (B2 C2 : Nat → Nat → Int32) (v3 : Nat) (B3 C3 : Nat → Nat → Int32) (v4 : Nat) (B4 C4 : Nat → Nat → Int32) (v5 : Nat) (B5 C5 : Nat → Nat → Int32) (y0 : Nat) (Y0 Z0 : Nat → Nat → Int32) (y1 : Nat) (Y1 Z1 : Nat → Nat → Int32) (f0 : Nat → Int64) (k : Nat) (hk_k : k < 10) (j : Int32) (y : Int32) (h : inb j 0 9 = false) : MG l g yL_pairOf cL_pairOf 6 [(0, 12, 15, 13), (0, 12, 19, 15)] ({ frames := 9, cells := 1, slots := 6, locals := 147 } : Room) [.ref x, .int (nI k), .int j, .int y, .ref o] (XW g x a sv q sl sf b tr po d o S T fq fs F cs n R P V v0 B0 C0 v1 B1 C1 v2 B2 C2 v3 B3 C3 v4 B4 C4 v5 B5 C5 y0 Y0 Z0 y1 Y1 Z1 f0) (some (.int 1)) := by
  refine MG.of rfl (Nat.le_of_ble_eq_true rfl) ?_
  intro zp ze zs zm zbelow zmeth zc ls zS hr hlk htab hK hP hXL hl
  obtain ⟨hx, hb, hml, hown, hts⟩ := id zS
  have hl : lv_has ls 6 [(0, .ref x), (1, .int (nI k)), (2, .int j), (3, .int y), (4, .ref o)] := hl
  refine lv_aload hx hb dL_pairOf_0 (lv_at hl 4 rfl) ?_
  refine lv_iconst (v := 0) hx hb dL_pairOf_2 (by decide) ?_
  refine lv_aload_n hx hb dL_pairOf_3 rfl (lv_at hl 0 rfl) ?_
  refine lv_iload_n hx hb dL_pairOf_4 rfl (lv_at hl 1 rfl) ?_
  refine lv_iload_n hx hb dL_pairOf_5 rfl (lv_at hl 2 rfl) ?_
  refine lv_iload_n hx hb dL_pairOf_6 rfl (lv_at hl 3 rfl) ?_
  refine xcV (rest := [.int 0, .ref o]) zS hK hP hXL (MXt.ofX (m_X4_pairOf_x2 l hst g x a sv q sl sf b tr po d k hk_k j y h)) cw_X4_pairOf q708 [0] rfl 0 rfl rfl ⟨Nat.le_of_ble_eq_true rfl, Nat.le_of_ble_eq_true rfl, rfl, rfl⟩ rfl rfl (Nat.le_of_ble_eq_true rfl) hl.1 dL_pairOf_7 ⟨Nat.le_of_ble_eq_true rfl, Nat.le_of_ble_eq_true rfl⟩ (fun H q9 ce hz hk1 hce hcv hcl => ?_)
  refine vx_catch (E := xIO) hown [] (⟨0, 12, 15, 13⟩ : ExceptionTableEntry) [(⟨0, 12, 19, 15⟩ : ExceptionTableEntry)] (by rw [htab]; rfl) (fun z hz => absurd hz List.not_mem_nil) rfl (by decide) (hts _ q563) (hXL.cast cIO) hce hcv hcl ?_
  refine lv_astore (lv' := [(5, .ref q9), (0, .ref x), (1, .int (nI k)), (2, .int j), (3, .int y), (4, .ref o)]) hx hb dL_pairOf_15 hl (by decide) rfl (fun ls hl => ?_)
  refine lv_iconst (v := 1) hx hb dL_pairOf_17 (by decide) ?_
  exact g_i hx hb hr hlk hz hk1 dL_pairOf_18
set_option maxHeartbeats 4000000 in
set_option maxRecDepth 100000 in
theorem m_L_pairOf_x3 (l : Launch) (hst : l.stackTraces = false) (g : GG) (x a sv q sl sf b tr po d o : Nat) (S T : Nat → Nat → Int32) (fq fs : Nat → Option Nat) (F cs : Nat → Int32) (n : Nat) (R : Nat → Nat → Int32) (P : Nat → Int32) (V : Nat → Nat → Int32) (v0 : Nat) (B0 C0 : Nat → Nat → Int32) (v1 : Nat) (B1 C1 : Nat → Nat → Int32) (v2 : Nat) (B2 C2 : Nat → Nat → Int32) (v3 : Nat) (B3 C3 : Nat → Nat → Int32) (v4 : Nat) (B4 C4 : Nat → Nat → Int32) (v5 : Nat) (B5 C5 : Nat → Nat → Int32) (y0 : Nat) (Y0 Z0 : Nat → Nat → Int32) (y1 : Nat) (Y1 Z1 : Nat → Nat → Int32) (f0 : Nat → Int64) (k : Nat) (hk_k : k < 10) (j : Nat) (hk_j : j < 10) (y : Int32) (h : inb y 0 4 = false) : MG l g yL_pairOf cL_pairOf 6 [(0, 12, 15, 13), (0, 12, 19, 15)] ({ frames := 8, cells := 1, slots := 6, locals := 128 } : Room) [.ref x, .int (nI k), .int (nI j), .int y, .ref o] (XW g x a sv q sl sf b tr po d o S T fq fs F cs n R P V v0 B0 C0 v1 B1 C1 v2 B2 C2 v3 B3 C3 v4 B4 C4 v5 B5 C5 y0 Y0 Z0 y1 Y1 Z1 f0) (some (.int 2)) := by
  refine MG.of rfl (Nat.le_of_ble_eq_true rfl) ?_
  intro zp ze zs zm zbelow zmeth zc ls zS hr hlk htab hK hP hXL hl
  obtain ⟨hx, hb, hml, hown, hts⟩ := id zS
  have hl : lv_has ls 6 [(0, .ref x), (1, .int (nI k)), (2, .int (nI j)), (3, .int y), (4, .ref o)] := hl
  refine lv_aload hx hb dL_pairOf_0 (lv_at hl 4 rfl) ?_
  refine lv_iconst (v := 0) hx hb dL_pairOf_2 (by decide) ?_
  refine lv_aload_n hx hb dL_pairOf_3 rfl (lv_at hl 0 rfl) ?_
  refine lv_iload_n hx hb dL_pairOf_4 rfl (lv_at hl 1 rfl) ?_
  refine lv_iload_n hx hb dL_pairOf_5 rfl (lv_at hl 2 rfl) ?_
  refine lv_iload_n hx hb dL_pairOf_6 rfl (lv_at hl 3 rfl) ?_
  refine xcV (rest := [.int 0, .ref o]) zS hK hP hXL (MXt.ofX (m_X4_pairOf_x3 l hst g x a sv q sl sf b tr po d k hk_k j hk_j y h)) cw_X4_pairOf q708 [0] rfl 0 rfl rfl ⟨Nat.le_of_ble_eq_true rfl, Nat.le_of_ble_eq_true rfl, rfl, rfl⟩ rfl rfl (Nat.le_of_ble_eq_true rfl) hl.1 dL_pairOf_7 ⟨Nat.le_of_ble_eq_true rfl, Nat.le_of_ble_eq_true rfl⟩ (fun H q9 ce hz hk1 hce hcv hcl => ?_)
  refine vx_catch (E := xIA) hown [(⟨0, 12, 15, 13⟩ : ExceptionTableEntry)] (⟨0, 12, 19, 15⟩ : ExceptionTableEntry) [] (by rw [htab]; rfl) (fun z hz => (List.mem_cons.mp hz).elim (fun e => Or.inr (by subst e; exact ⟨by decide, _, hts _ q563, hXL.2.2.2.2.1⟩)) (fun hz => (fun z hz => absurd hz List.not_mem_nil) z hz)) rfl (by decide) (hts _ q564) (hXL.cast cIA) hce hcv hcl ?_
  refine lv_astore (lv' := [(5, .ref q9), (0, .ref x), (1, .int (nI k)), (2, .int (nI j)), (3, .int y), (4, .ref o)]) hx hb dL_pairOf_19 hl (by decide) rfl (fun ls hl => ?_)
  refine lv_iconst (v := 2) hx hb dL_pairOf_21 (by decide) ?_
  exact g_i hx hb hr hlk hz hk1 dL_pairOf_22
set_option maxHeartbeats 4000000 in
set_option maxRecDepth 100000 in
theorem m_L_shapesOf_x1 (l : Launch) (hst : l.stackTraces = false) (g : GG) (x a sv q sl sf b tr po d o : Nat) (S T : Nat → Nat → Int32) (fq fs : Nat → Option Nat) (F cs : Nat → Int32) (n : Nat) (R : Nat → Nat → Int32) (P : Nat → Int32) (V : Nat → Nat → Int32) (v0 : Nat) (B0 C0 : Nat → Nat → Int32) (v1 : Nat) (B1 C1 : Nat → Nat → Int32) (v2 : Nat) (B2 C2 : Nat → Nat → Int32) (v3 : Nat) (B3 C3 : Nat → Nat → Int32) (v4 : Nat) (B4 C4 : Nat → Nat → Int32) (v5 : Nat) (B5 C5 : Nat → Nat → Int32) (y0 : Nat) (Y0 Z0 : Nat → Nat → Int32) (y1 : Nat) (Y1 Z1 : Nat → Nat → Int32) (f0 : Nat → Int64) (k : Int32) (j : Int32) (y : Int32) (h : inb k 0 3 = false) : MG l g yL_shapesOf cL_shapesOf 6 [(0, 12, 15, 13), (0, 12, 19, 15)] ({ frames := 8, cells := 1, slots := 6, locals := 127 } : Room) [.ref x, .int k, .int j, .int y, .ref o] (XW g x a sv q sl sf b tr po d o S T fq fs F cs n R P V v0 B0 C0 v1 B1 C1 v2 B2 C2 v3 B3 C3 v4 B4 C4 v5 B5 C5 y0 Y0 Z0 y1 Y1 Z1 f0) (some (.int 1)) := by
  refine MG.of rfl (Nat.le_of_ble_eq_true rfl) ?_
  intro zp ze zs zm zbelow zmeth zc ls zS hr hlk htab hK hP hXL hl
  obtain ⟨hx, hb, hml, hown, hts⟩ := id zS
  have hl : lv_has ls 6 [(0, .ref x), (1, .int k), (2, .int j), (3, .int y), (4, .ref o)] := hl
  refine lv_aload hx hb dL_shapesOf_0 (lv_at hl 4 rfl) ?_
  refine lv_iconst (v := 0) hx hb dL_shapesOf_2 (by decide) ?_
  refine lv_aload_n hx hb dL_shapesOf_3 rfl (lv_at hl 0 rfl) ?_
  refine lv_iload_n hx hb dL_shapesOf_4 rfl (lv_at hl 1 rfl) ?_
  refine lv_iload_n hx hb dL_shapesOf_5 rfl (lv_at hl 2 rfl) ?_
  refine lv_iload_n hx hb dL_shapesOf_6 rfl (lv_at hl 3 rfl) ?_
  refine xcV (rest := [.int 0, .ref o]) zS hK hP hXL (MXt.ofX (m_X4_shapesOf_x1 l hst g x a sv q sl sf b tr po d k j y h)) cw_X4_shapesOf q712 [0] rfl 0 rfl rfl ⟨Nat.le_of_ble_eq_true rfl, Nat.le_of_ble_eq_true rfl, rfl, rfl⟩ rfl rfl (Nat.le_of_ble_eq_true rfl) hl.1 dL_shapesOf_7 ⟨Nat.le_of_ble_eq_true rfl, Nat.le_of_ble_eq_true rfl⟩ (fun H q9 ce hz hk1 hce hcv hcl => ?_)
  refine vx_catch (E := xIO) hown [] (⟨0, 12, 15, 13⟩ : ExceptionTableEntry) [(⟨0, 12, 19, 15⟩ : ExceptionTableEntry)] (by rw [htab]; rfl) (fun z hz => absurd hz List.not_mem_nil) rfl (by decide) (hts _ q563) (hXL.cast cIO) hce hcv hcl ?_
  refine lv_astore (lv' := [(5, .ref q9), (0, .ref x), (1, .int k), (2, .int j), (3, .int y), (4, .ref o)]) hx hb dL_shapesOf_15 hl (by decide) rfl (fun ls hl => ?_)
  refine lv_iconst (v := 1) hx hb dL_shapesOf_17 (by decide) ?_
  exact g_i hx hb hr hlk hz hk1 dL_shapesOf_18
set_option maxHeartbeats 4000000 in
set_option maxRecDepth 100000 in
theorem m_L_shapesOf_x2 (l : Launch) (hst : l.stackTraces = false) (g : GG) (x a sv q sl sf b tr po d o : Nat) (S T : Nat → Nat → Int32) (fq fs : Nat → Option Nat) (F cs : Nat → Int32) (n : Nat) (R : Nat → Nat → Int32) (P : Nat → Int32) (V : Nat → Nat → Int32) (v0 : Nat) (B0 C0 : Nat → Nat → Int32) (v1 : Nat) (B1 C1 : Nat → Nat → Int32) (v2 : Nat) (B2 C2 : Nat → Nat → Int32) (v3 : Nat) (B3 C3 : Nat → Nat → Int32) (v4 : Nat) (B4 C4 : Nat → Nat → Int32) (v5 : Nat) (B5 C5 : Nat → Nat → Int32) (y0 : Nat) (Y0 Z0 : Nat → Nat → Int32) (y1 : Nat) (Y1 Z1 : Nat → Nat → Int32) (f0 : Nat → Int64) (k : Nat) (hk_k : k < 4) (j : Int32) (y : Int32) (h : inb j 0 3 = false) : MG l g yL_shapesOf cL_shapesOf 6 [(0, 12, 15, 13), (0, 12, 19, 15)] ({ frames := 8, cells := 1, slots := 6, locals := 127 } : Room) [.ref x, .int (nI k), .int j, .int y, .ref o] (XW g x a sv q sl sf b tr po d o S T fq fs F cs n R P V v0 B0 C0 v1 B1 C1 v2 B2 C2 v3 B3 C3 v4 B4 C4 v5 B5 C5 y0 Y0 Z0 y1 Y1 Z1 f0) (some (.int 1)) := by
  refine MG.of rfl (Nat.le_of_ble_eq_true rfl) ?_
  intro zp ze zs zm zbelow zmeth zc ls zS hr hlk htab hK hP hXL hl
  obtain ⟨hx, hb, hml, hown, hts⟩ := id zS
  have hl : lv_has ls 6 [(0, .ref x), (1, .int (nI k)), (2, .int j), (3, .int y), (4, .ref o)] := hl
  refine lv_aload hx hb dL_shapesOf_0 (lv_at hl 4 rfl) ?_
  refine lv_iconst (v := 0) hx hb dL_shapesOf_2 (by decide) ?_
  refine lv_aload_n hx hb dL_shapesOf_3 rfl (lv_at hl 0 rfl) ?_
  refine lv_iload_n hx hb dL_shapesOf_4 rfl (lv_at hl 1 rfl) ?_
  refine lv_iload_n hx hb dL_shapesOf_5 rfl (lv_at hl 2 rfl) ?_
  refine lv_iload_n hx hb dL_shapesOf_6 rfl (lv_at hl 3 rfl) ?_
  refine xcV (rest := [.int 0, .ref o]) zS hK hP hXL (MXt.ofX (m_X4_shapesOf_x2 l hst g x a sv q sl sf b tr po d k hk_k j y h)) cw_X4_shapesOf q712 [0] rfl 0 rfl rfl ⟨Nat.le_of_ble_eq_true rfl, Nat.le_of_ble_eq_true rfl, rfl, rfl⟩ rfl rfl (Nat.le_of_ble_eq_true rfl) hl.1 dL_shapesOf_7 ⟨Nat.le_of_ble_eq_true rfl, Nat.le_of_ble_eq_true rfl⟩ (fun H q9 ce hz hk1 hce hcv hcl => ?_)
  refine vx_catch (E := xIO) hown [] (⟨0, 12, 15, 13⟩ : ExceptionTableEntry) [(⟨0, 12, 19, 15⟩ : ExceptionTableEntry)] (by rw [htab]; rfl) (fun z hz => absurd hz List.not_mem_nil) rfl (by decide) (hts _ q563) (hXL.cast cIO) hce hcv hcl ?_
  refine lv_astore (lv' := [(5, .ref q9), (0, .ref x), (1, .int (nI k)), (2, .int j), (3, .int y), (4, .ref o)]) hx hb dL_shapesOf_15 hl (by decide) rfl (fun ls hl => ?_)
  refine lv_iconst (v := 1) hx hb dL_shapesOf_17 (by decide) ?_
  exact g_i hx hb hr hlk hz hk1 dL_shapesOf_18
set_option maxHeartbeats 4000000 in
set_option maxRecDepth 100000 in
theorem m_L_shapesOf_x3 (l : Launch) (hst : l.stackTraces = false) (g : GG) (x a sv q sl sf b tr po d o : Nat) (S T : Nat → Nat → Int32) (fq fs : Nat → Option Nat) (F cs : Nat → Int32) (n : Nat) (R : Nat → Nat → Int32) (P : Nat → Int32) (V : Nat → Nat → Int32) (v0 : Nat) (B0 C0 : Nat → Nat → Int32) (v1 : Nat) (B1 C1 : Nat → Nat → Int32) (v2 : Nat) (B2 C2 : Nat → Nat → Int32) (v3 : Nat) (B3 C3 : Nat → Nat → Int32) (v4 : Nat) (B4 C4 : Nat → Nat → Int32) (v5 : Nat) (B5 C5 : Nat → Nat → Int32) (y0 : Nat) (Y0 Z0 : Nat → Nat → Int32) (y1 : Nat) (Y1 Z1 : Nat → Nat → Int32) (f0 : Nat → Int64) (k : Nat) (hk_k : k < 4) (j : Nat) (hk_j : j < 4) (y : Int32) (h : inb y 0 3 = false) : MG l g yL_shapesOf cL_shapesOf 6 [(0, 12, 15, 13), (0, 12, 19, 15)] ({ frames := 8, cells := 1, slots := 6, locals := 128 } : Room) [.ref x, .int (nI k), .int (nI j), .int y, .ref o] (XW g x a sv q sl sf b tr po d o S T fq fs F cs n R P V v0 B0 C0 v1 B1 C1 v2 B2 C2 v3 B3 C3 v4 B4 C4 v5 B5 C5 y0 Y0 Z0 y1 Y1 Z1 f0) (some (.int 2)) := by
  refine MG.of rfl (Nat.le_of_ble_eq_true rfl) ?_
  intro zp ze zs zm zbelow zmeth zc ls zS hr hlk htab hK hP hXL hl
  obtain ⟨hx, hb, hml, hown, hts⟩ := id zS
  have hl : lv_has ls 6 [(0, .ref x), (1, .int (nI k)), (2, .int (nI j)), (3, .int y), (4, .ref o)] := hl
  refine lv_aload hx hb dL_shapesOf_0 (lv_at hl 4 rfl) ?_
  refine lv_iconst (v := 0) hx hb dL_shapesOf_2 (by decide) ?_
  refine lv_aload_n hx hb dL_shapesOf_3 rfl (lv_at hl 0 rfl) ?_
  refine lv_iload_n hx hb dL_shapesOf_4 rfl (lv_at hl 1 rfl) ?_
  refine lv_iload_n hx hb dL_shapesOf_5 rfl (lv_at hl 2 rfl) ?_
  refine lv_iload_n hx hb dL_shapesOf_6 rfl (lv_at hl 3 rfl) ?_
  refine xcV (rest := [.int 0, .ref o]) zS hK hP hXL (MXt.ofX (m_X4_shapesOf_x3 l hst g x a sv q sl sf b tr po d k hk_k j hk_j y h)) cw_X4_shapesOf q712 [0] rfl 0 rfl rfl ⟨Nat.le_of_ble_eq_true rfl, Nat.le_of_ble_eq_true rfl, rfl, rfl⟩ rfl rfl (Nat.le_of_ble_eq_true rfl) hl.1 dL_shapesOf_7 ⟨Nat.le_of_ble_eq_true rfl, Nat.le_of_ble_eq_true rfl⟩ (fun H q9 ce hz hk1 hce hcv hcl => ?_)
  refine vx_catch (E := xIA) hown [(⟨0, 12, 15, 13⟩ : ExceptionTableEntry)] (⟨0, 12, 19, 15⟩ : ExceptionTableEntry) [] (by rw [htab]; rfl) (fun z hz => (List.mem_cons.mp hz).elim (fun e => Or.inr (by subst e; exact ⟨by decide, _, hts _ q563, hXL.2.2.2.2.1⟩)) (fun hz => (fun z hz => absurd hz List.not_mem_nil) z hz)) rfl (by decide) (hts _ q564) (hXL.cast cIA) hce hcv hcl ?_
  refine lv_astore (lv' := [(5, .ref q9), (0, .ref x), (1, .int (nI k)), (2, .int (nI j)), (3, .int y), (4, .ref o)]) hx hb dL_shapesOf_19 hl (by decide) rfl (fun ls hl => ?_)
  refine lv_iconst (v := 2) hx hb dL_shapesOf_21 (by decide) ?_
  exact g_i hx hb hr hlk hz hk1 dL_shapesOf_22
set_option maxHeartbeats 4000000 in
set_option maxRecDepth 100000 in
theorem m_L_lessonOf_x1 (l : Launch) (hst : l.stackTraces = false) (g : GG) (x a sv q sl sf b tr po d o : Nat) (S T : Nat → Nat → Int32) (fq fs : Nat → Option Nat) (F cs : Nat → Int32) (n : Nat) (R : Nat → Nat → Int32) (P : Nat → Int32) (V : Nat → Nat → Int32) (v0 : Nat) (B0 C0 : Nat → Nat → Int32) (v1 : Nat) (B1 C1 : Nat → Nat → Int32) (v2 : Nat) (B2 C2 : Nat → Nat → Int32) (v3 : Nat) (B3 C3 : Nat → Nat → Int32) (v4 : Nat) (B4 C4 : Nat → Nat → Int32) (v5 : Nat) (B5 C5 : Nat → Nat → Int32) (y0 : Nat) (Y0 Z0 : Nat → Nat → Int32) (y1 : Nat) (Y1 Z1 : Nat → Nat → Int32) (f0 : Nat → Int64)  (nl : Nat) (hL : LsOk S nl) (k : Int32) (y : Int32) (h : inb k 0 (nI nl - 1) = false) : MG l g yL_lessonOf cL_lessonOf 5 [(0, 10, 13, 13), (0, 10, 17, 15)] ({ frames := 8, cells := 1, slots := 6, locals := 125 } : Room) [.ref x, .int k, .int y, .ref o] (XW g x a sv q sl sf b tr po d o S T fq fs F cs n R P V v0 B0 C0 v1 B1 C1 v2 B2 C2 v3 B3 C3 v4 B4 C4 v5 B5 C5 y0 Y0 Z0 y1 Y1 Z1 f0) (some (.int 1)) := by
  refine MG.of rfl (Nat.le_of_ble_eq_true rfl) ?_
  intro zp ze zs zm zbelow zmeth zc ls zS hr hlk htab hK hP hXL hl
  obtain ⟨hx, hb, hml, hown, hts⟩ := id zS
  have hl : lv_has ls 5 [(0, .ref x), (1, .int k), (2, .int y), (3, .ref o)] := hl
  refine lv_aload_n hx hb dL_lessonOf_0 rfl (lv_at hl 3 rfl) ?_
  refine lv_iconst (v := 0) hx hb dL_lessonOf_1 (by decide) ?_
  refine lv_aload_n hx hb dL_lessonOf_2 rfl (lv_at hl 0 rfl) ?_
  refine lv_iload_n hx hb dL_lessonOf_3 rfl (lv_at hl 1 rfl) ?_
  refine lv_iload_n hx hb dL_lessonOf_4 rfl (lv_at hl 2 rfl) ?_
  refine xcV (rest := [.int 0, .ref o]) zS hK hP hXL (MXt.ofX (m_X4_lessonOf_x1 l hst g x a sv q sl sf b tr po d S nl hL k y h)) cw_X4_lessonOf q716 [0, 1, 2, 3, 4, 5, 6, 7, 8] rfl 0 rfl rfl ⟨Nat.le_of_ble_eq_true rfl, Nat.le_of_ble_eq_true rfl, rfl, rfl⟩ rfl rfl (Nat.le_of_ble_eq_true rfl) hl.1 dL_lessonOf_5 ⟨Nat.le_of_ble_eq_true rfl, Nat.le_of_ble_eq_true rfl⟩ (fun H q9 ce hz hk1 hce hcv hcl => ?_)
  refine vx_catch (E := xIO) hown [] (⟨0, 10, 13, 13⟩ : ExceptionTableEntry) [(⟨0, 10, 17, 15⟩ : ExceptionTableEntry)] (by rw [htab]; rfl) (fun z hz => absurd hz List.not_mem_nil) rfl (by decide) (hts _ q563) (hXL.cast cIO) hce hcv hcl ?_
  refine lv_astore (lv' := [(4, .ref q9), (0, .ref x), (1, .int k), (2, .int y), (3, .ref o)]) hx hb dL_lessonOf_13 hl (by decide) rfl (fun ls hl => ?_)
  refine lv_iconst (v := 1) hx hb dL_lessonOf_15 (by decide) ?_
  exact g_i hx hb hr hlk hz hk1 dL_lessonOf_16
set_option maxHeartbeats 4000000 in
set_option maxRecDepth 100000 in
theorem m_L_lessonOf_x2 (l : Launch) (hst : l.stackTraces = false) (g : GG) (x a sv q sl sf b tr po d o : Nat) (S T : Nat → Nat → Int32) (fq fs : Nat → Option Nat) (F cs : Nat → Int32) (n : Nat) (R : Nat → Nat → Int32) (P : Nat → Int32) (V : Nat → Nat → Int32) (v0 : Nat) (B0 C0 : Nat → Nat → Int32) (v1 : Nat) (B1 C1 : Nat → Nat → Int32) (v2 : Nat) (B2 C2 : Nat → Nat → Int32) (v3 : Nat) (B3 C3 : Nat → Nat → Int32) (v4 : Nat) (B4 C4 : Nat → Nat → Int32) (v5 : Nat) (B5 C5 : Nat → Nat → Int32) (y0 : Nat) (Y0 Z0 : Nat → Nat → Int32) (y1 : Nat) (Y1 Z1 : Nat → Nat → Int32) (f0 : Nat → Int64)  (nl : Nat) (hL : LsOk S nl) (k : Nat) (hk_k : k < nl) (y : Int32) (h : inb y 0 3 = false) : MG l g yL_lessonOf cL_lessonOf 5 [(0, 10, 13, 13), (0, 10, 17, 15)] ({ frames := 8, cells := 1, slots := 6, locals := 126 } : Room) [.ref x, .int (nI k), .int y, .ref o] (XW g x a sv q sl sf b tr po d o S T fq fs F cs n R P V v0 B0 C0 v1 B1 C1 v2 B2 C2 v3 B3 C3 v4 B4 C4 v5 B5 C5 y0 Y0 Z0 y1 Y1 Z1 f0) (some (.int 2)) := by
  refine MG.of rfl (Nat.le_of_ble_eq_true rfl) ?_
  intro zp ze zs zm zbelow zmeth zc ls zS hr hlk htab hK hP hXL hl
  obtain ⟨hx, hb, hml, hown, hts⟩ := id zS
  have hl : lv_has ls 5 [(0, .ref x), (1, .int (nI k)), (2, .int y), (3, .ref o)] := hl
  refine lv_aload_n hx hb dL_lessonOf_0 rfl (lv_at hl 3 rfl) ?_
  refine lv_iconst (v := 0) hx hb dL_lessonOf_1 (by decide) ?_
  refine lv_aload_n hx hb dL_lessonOf_2 rfl (lv_at hl 0 rfl) ?_
  refine lv_iload_n hx hb dL_lessonOf_3 rfl (lv_at hl 1 rfl) ?_
  refine lv_iload_n hx hb dL_lessonOf_4 rfl (lv_at hl 2 rfl) ?_
  refine xcV (rest := [.int 0, .ref o]) zS hK hP hXL (MXt.ofX (m_X4_lessonOf_x2 l hst g x a sv q sl sf b tr po d S nl hL k hk_k y h)) cw_X4_lessonOf q716 [0, 1, 2, 3, 4, 5, 6, 7, 8] rfl 0 rfl rfl ⟨Nat.le_of_ble_eq_true rfl, Nat.le_of_ble_eq_true rfl, rfl, rfl⟩ rfl rfl (Nat.le_of_ble_eq_true rfl) hl.1 dL_lessonOf_5 ⟨Nat.le_of_ble_eq_true rfl, Nat.le_of_ble_eq_true rfl⟩ (fun H q9 ce hz hk1 hce hcv hcl => ?_)
  refine vx_catch (E := xIA) hown [(⟨0, 10, 13, 13⟩ : ExceptionTableEntry)] (⟨0, 10, 17, 15⟩ : ExceptionTableEntry) [] (by rw [htab]; rfl) (fun z hz => (List.mem_cons.mp hz).elim (fun e => Or.inr (by subst e; exact ⟨by decide, _, hts _ q563, hXL.2.2.2.2.1⟩)) (fun hz => (fun z hz => absurd hz List.not_mem_nil) z hz)) rfl (by decide) (hts _ q564) (hXL.cast cIA) hce hcv hcl ?_
  refine lv_astore (lv' := [(4, .ref q9), (0, .ref x), (1, .int (nI k)), (2, .int y), (3, .ref o)]) hx hb dL_lessonOf_17 hl (by decide) rfl (fun ls hl => ?_)
  refine lv_iconst (v := 2) hx hb dL_lessonOf_19 (by decide) ?_
  exact g_i hx hb hr hlk hz hk1 dL_lessonOf_20
set_option maxHeartbeats 4000000 in
set_option maxRecDepth 100000 in
theorem m_L_count_x1 (l : Launch) (hst : l.stackTraces = false) (g : GG) (x a sv q sl sf b tr po d o : Nat) (S T : Nat → Nat → Int32) (fq fs : Nat → Option Nat) (F cs : Nat → Int32) (n : Nat) (R : Nat → Nat → Int32) (P : Nat → Int32) (V : Nat → Nat → Int32) (v0 : Nat) (B0 C0 : Nat → Nat → Int32) (v1 : Nat) (B1 C1 : Nat → Nat → Int32) (v2 : Nat) (B2 C2 : Nat → Nat → Int32) (v3 : Nat) (B3 C3 : Nat → Nat → Int32) (v4 : Nat) (B4 C4 : Nat → Nat → Int32) (v5 : Nat) (B5 C5 : Nat → Nat → Int32) (y0 : Nat) (Y0 Z0 : Nat → Nat → Int32) (y1 : Nat) (Y1 Z1 : Nat → Nat → Int32) (f0 : Nat → Int64) (y : Int32) (h : inb y 0 7 = false) : MG l g yL_count cL_count 4 [(0, 9, 12, 15)] ({ frames := 8, cells := 1, slots := 6, locals := 125 } : Room) [.ref x, .int y, .ref o] (XW g x a sv q sl sf b tr po d o S T fq fs F cs n R P V v0 B0 C0 v1 B1 C1 v2 B2 C2 v3 B3 C3 v4 B4 C4 v5 B5 C5 y0 Y0 Z0 y1 Y1 Z1 f0) (some (.int 1)) := by
  refine MG.of rfl (Nat.le_of_ble_eq_true rfl) ?_
  intro zp ze zs zm zbelow zmeth zc ls zS hr hlk htab hK hP hXL hl
  obtain ⟨hx, hb, hml, hown, hts⟩ := id zS
  have hl : lv_has ls 4 [(0, .ref x), (1, .int y), (2, .ref o)] := hl
  refine lv_aload_n hx hb dL_count_0 rfl (lv_at hl 2 rfl) ?_
  refine lv_iconst (v := 0) hx hb dL_count_1 (by decide) ?_
  refine lv_aload_n hx hb dL_count_2 rfl (lv_at hl 0 rfl) ?_
  refine lv_iload_n hx hb dL_count_3 rfl (lv_at hl 1 rfl) ?_
  refine xcV (rest := [.int 0, .ref o]) zS hK hP hXL (MXt.ofX (m_X4_count_x1 l hst g x a sv q sl sf b tr po d y h)) cw_X4_count q720 [0] rfl 0 rfl rfl ⟨Nat.le_of_ble_eq_true rfl, Nat.le_of_ble_eq_true rfl, rfl, rfl⟩ rfl rfl (Nat.le_of_ble_eq_true rfl) hl.1 dL_count_4 ⟨Nat.le_of_ble_eq_true rfl, Nat.le_of_ble_eq_true rfl⟩ (fun H q9 ce hz hk1 hce hcv hcl => ?_)
  refine vx_catch (E := xIA) hown [] (⟨0, 9, 12, 15⟩ : ExceptionTableEntry) [] (by rw [htab]; rfl) (fun z hz => absurd hz List.not_mem_nil) rfl (by decide) (hts _ q564) (hXL.cast cIA) hce hcv hcl ?_
  refine lv_astore_n (lv' := [(3, .ref q9), (0, .ref x), (1, .int y), (2, .ref o)]) hx hb dL_count_12 rfl hl (by decide) rfl (fun ls hl => ?_)
  refine lv_iconst (v := 1) hx hb dL_count_13 (by decide) ?_
  exact g_i hx hb hr hlk hz hk1 dL_count_14
set_option maxHeartbeats 4000000 in
set_option maxRecDepth 100000 in
theorem m_L_setting_x1 (l : Launch) (hst : l.stackTraces = false) (g : GG) (x a sv q sl sf b tr po d o : Nat) (S T : Nat → Nat → Int32) (fq fs : Nat → Option Nat) (F cs : Nat → Int32) (n : Nat) (R : Nat → Nat → Int32) (P : Nat → Int32) (V : Nat → Nat → Int32) (v0 : Nat) (B0 C0 : Nat → Nat → Int32) (v1 : Nat) (B1 C1 : Nat → Nat → Int32) (v2 : Nat) (B2 C2 : Nat → Nat → Int32) (v3 : Nat) (B3 C3 : Nat → Nat → Int32) (v4 : Nat) (B4 C4 : Nat → Nat → Int32) (v5 : Nat) (B5 C5 : Nat → Nat → Int32) (y0 : Nat) (Y0 Z0 : Nat → Nat → Int32) (y1 : Nat) (Y1 Z1 : Nat → Nat → Int32) (f0 : Nat → Int64) (k : Int32) (h : inb k 0 3 = false) : MG l g yL_setting cL_setting 4 [(0, 9, 12, 13)] ({ frames := 8, cells := 1, slots := 6, locals := 124 } : Room) [.ref x, .int k, .ref o] (XW g x a sv q sl sf b tr po d o S T fq fs F cs n R P V v0 B0 C0 v1 B1 C1 v2 B2 C2 v3 B3 C3 v4 B4 C4 v5 B5 C5 y0 Y0 Z0 y1 Y1 Z1 f0) (some (.int 1)) := by
  refine MG.of rfl (Nat.le_of_ble_eq_true rfl) ?_
  intro zp ze zs zm zbelow zmeth zc ls zS hr hlk htab hK hP hXL hl
  obtain ⟨hx, hb, hml, hown, hts⟩ := id zS
  have hl : lv_has ls 4 [(0, .ref x), (1, .int k), (2, .ref o)] := hl
  refine lv_aload_n hx hb dL_setting_0 rfl (lv_at hl 2 rfl) ?_
  refine lv_iconst (v := 0) hx hb dL_setting_1 (by decide) ?_
  refine lv_aload_n hx hb dL_setting_2 rfl (lv_at hl 0 rfl) ?_
  refine lv_iload_n hx hb dL_setting_3 rfl (lv_at hl 1 rfl) ?_
  refine xcV (rest := [.int 0, .ref o]) zS hK hP hXL (MXt.ofX (m_X4_setting_x1 l hst g x a sv q sl sf b tr po d k h)) cw_X4_setting q724 [0] rfl 0 rfl rfl ⟨Nat.le_of_ble_eq_true rfl, Nat.le_of_ble_eq_true rfl, rfl, rfl⟩ rfl rfl (Nat.le_of_ble_eq_true rfl) hl.1 dL_setting_4 ⟨Nat.le_of_ble_eq_true rfl, Nat.le_of_ble_eq_true rfl⟩ (fun H q9 ce hz hk1 hce hcv hcl => ?_)
  refine vx_catch (E := xIO) hown [] (⟨0, 9, 12, 13⟩ : ExceptionTableEntry) [] (by rw [htab]; rfl) (fun z hz => absurd hz List.not_mem_nil) rfl (by decide) (hts _ q563) (hXL.cast cIO) hce hcv hcl ?_
  refine lv_astore_n (lv' := [(3, .ref q9), (0, .ref x), (1, .int k), (2, .ref o)]) hx hb dL_setting_12 rfl hl (by decide) rfl (fun ls hl => ?_)
  refine lv_iconst (v := 1) hx hb dL_setting_13 (by decide) ?_
  exact g_i hx hb hr hlk hz hk1 dL_setting_14
set_option maxHeartbeats 4000000 in
set_option maxRecDepth 100000 in
theorem m_L_text_x1 (l : Launch) (hst : l.stackTraces = false) (g : GG) (x a sv q sl sf b tr po d o : Nat) (S T : Nat → Nat → Int32) (fq fs : Nat → Option Nat) (F cs : Nat → Int32) (n : Nat) (R : Nat → Nat → Int32) (P : Nat → Int32) (V : Nat → Nat → Int32) (v0 : Nat) (B0 C0 : Nat → Nat → Int32) (v1 : Nat) (B1 C1 : Nat → Nat → Int32) (v2 : Nat) (B2 C2 : Nat → Nat → Int32) (v3 : Nat) (B3 C3 : Nat → Nat → Int32) (v4 : Nat) (B4 C4 : Nat → Nat → Int32) (v5 : Nat) (B5 C5 : Nat → Nat → Int32) (y0 : Nat) (Y0 Z0 : Nat → Nat → Int32) (y1 : Nat) (Y1 Z1 : Nat → Nat → Int32) (f0 : Nat → Int64) (y : Int32) (h : inb y 0 5 = false) : MG l g yL_text cL_text 4 [(0, 9, 12, 15)] ({ frames := 8, cells := 1, slots := 6, locals := 125 } : Room) [.ref x, .int y, .ref o] (XW g x a sv q sl sf b tr po d o S T fq fs F cs n R P V v0 B0 C0 v1 B1 C1 v2 B2 C2 v3 B3 C3 v4 B4 C4 v5 B5 C5 y0 Y0 Z0 y1 Y1 Z1 f0) (some (.int 1)) := by
  refine MG.of rfl (Nat.le_of_ble_eq_true rfl) ?_
  intro zp ze zs zm zbelow zmeth zc ls zS hr hlk htab hK hP hXL hl
  obtain ⟨hx, hb, hml, hown, hts⟩ := id zS
  have hl : lv_has ls 4 [(0, .ref x), (1, .int y), (2, .ref o)] := hl
  refine lv_aload_n hx hb dL_text_0 rfl (lv_at hl 2 rfl) ?_
  refine lv_iconst (v := 0) hx hb dL_text_1 (by decide) ?_
  refine lv_aload_n hx hb dL_text_2 rfl (lv_at hl 0 rfl) ?_
  refine lv_iload_n hx hb dL_text_3 rfl (lv_at hl 1 rfl) ?_
  refine xcV (rest := [.int 0, .ref o]) zS hK hP hXL (MXt.ofX (m_X4_text_x1 l hst g x a sv q sl sf b tr po d y h)) cw_X4_text q731 [0] rfl 0 rfl rfl ⟨Nat.le_of_ble_eq_true rfl, Nat.le_of_ble_eq_true rfl, rfl, rfl⟩ rfl rfl (Nat.le_of_ble_eq_true rfl) hl.1 dL_text_4 ⟨Nat.le_of_ble_eq_true rfl, Nat.le_of_ble_eq_true rfl⟩ (fun H q9 ce hz hk1 hce hcv hcl => ?_)
  refine vx_catch (E := xIA) hown [] (⟨0, 9, 12, 15⟩ : ExceptionTableEntry) [] (by rw [htab]; rfl) (fun z hz => absurd hz List.not_mem_nil) rfl (by decide) (hts _ q564) (hXL.cast cIA) hce hcv hcl ?_
  refine lv_astore_n (lv' := [(3, .ref q9), (0, .ref x), (1, .int y), (2, .ref o)]) hx hb dL_text_12 rfl hl (by decide) rfl (fun ls hl => ?_)
  refine lv_iconst (v := 1) hx hb dL_text_13 (by decide) ?_
  exact g_i hx hb hr hlk hz hk1 dL_text_14
set_option maxHeartbeats 4000000 in
set_option maxRecDepth 100000 in
theorem m_L_ifCircled_x1 (l : Launch) (hst : l.stackTraces = false) (g : GG) (x a sv q sl sf b tr po d o : Nat) (S T : Nat → Nat → Int32) (fq fs : Nat → Option Nat) (F cs : Nat → Int32) (n : Nat) (R : Nat → Nat → Int32) (P : Nat → Int32) (V : Nat → Nat → Int32) (v0 : Nat) (B0 C0 : Nat → Nat → Int32) (v1 : Nat) (B1 C1 : Nat → Nat → Int32) (v2 : Nat) (B2 C2 : Nat → Nat → Int32) (v3 : Nat) (B3 C3 : Nat → Nat → Int32) (v4 : Nat) (B4 C4 : Nat → Nat → Int32) (v5 : Nat) (B5 C5 : Nat → Nat → Int32) (y0 : Nat) (Y0 Z0 : Nat → Nat → Int32) (y1 : Nat) (Y1 Z1 : Nat → Nat → Int32) (f0 : Nat → Int64) (k : Int32) (j : Int32) (t : Int32) (h : inb k 0 9 = false) : MG l g yL_ifCircled cL_ifCircled 6 [(0, 12, 15, 13), (0, 12, 19, 15)] ({ frames := 9, cells := 1, slots := 6, locals := 148 } : Room) [.ref x, .int k, .int j, .int t, .ref o] (XW g x a sv q sl sf b tr po d o S T fq fs F cs n R P V v0 B0 C0 v1 B1 C1 v2 B2 C2 v3 B3 C3 v4 B4 C4 v5 B5 C5 y0 Y0 Z0 y1 Y1 Z1 f0) (some (.int 1)) := by
  refine MG.of rfl (Nat.le_of_ble_eq_true rfl) ?_
  intro zp ze zs zm zbelow zmeth zc ls zS hr hlk htab hK hP hXL hl
  obtain ⟨hx, hb, hml, hown, hts⟩ := id zS
  have hl : lv_has ls 6 [(0, .ref x), (1, .int k), (2, .int j), (3, .int t), (4, .ref o)] := hl
  refine lv_aload hx hb dL_ifCircled_0 (lv_at hl 4 rfl) ?_
  refine lv_iconst (v := 0) hx hb dL_ifCircled_2 (by decide) ?_
  refine lv_aload_n hx hb dL_ifCircled_3 rfl (lv_at hl 0 rfl) ?_
  refine lv_iload_n hx hb dL_ifCircled_4 rfl (lv_at hl 1 rfl) ?_
  refine lv_iload_n hx hb dL_ifCircled_5 rfl (lv_at hl 2 rfl) ?_
  refine lv_iload_n hx hb dL_ifCircled_6 rfl (lv_at hl 3 rfl) ?_
  refine xcV (rest := [.int 0, .ref o]) zS hK hP hXL (MXt.ofX (m_X4_ifCircled_x1 l hst g x a sv q sl sf b tr po d k j t h)) cw_X4_ifCircled q735 [0] rfl 0 rfl rfl ⟨Nat.le_of_ble_eq_true rfl, Nat.le_of_ble_eq_true rfl, rfl, rfl⟩ rfl rfl (Nat.le_of_ble_eq_true rfl) hl.1 dL_ifCircled_7 ⟨Nat.le_of_ble_eq_true rfl, Nat.le_of_ble_eq_true rfl⟩ (fun H q9 ce hz hk1 hce hcv hcl => ?_)
  refine vx_catch (E := xIO) hown [] (⟨0, 12, 15, 13⟩ : ExceptionTableEntry) [(⟨0, 12, 19, 15⟩ : ExceptionTableEntry)] (by rw [htab]; rfl) (fun z hz => absurd hz List.not_mem_nil) rfl (by decide) (hts _ q563) (hXL.cast cIO) hce hcv hcl ?_
  refine lv_astore (lv' := [(5, .ref q9), (0, .ref x), (1, .int k), (2, .int j), (3, .int t), (4, .ref o)]) hx hb dL_ifCircled_15 hl (by decide) rfl (fun ls hl => ?_)
  refine lv_iconst (v := 1) hx hb dL_ifCircled_17 (by decide) ?_
  exact g_i hx hb hr hlk hz hk1 dL_ifCircled_18
set_option maxHeartbeats 4000000 in
set_option maxRecDepth 100000 in
theorem m_L_ifCircled_x2 (l : Launch) (hst : l.stackTraces = false) (g : GG) (x a sv q sl sf b tr po d o : Nat) (S T : Nat → Nat → Int32) (fq fs : Nat → Option Nat) (F cs : Nat → Int32) (n : Nat) (R : Nat → Nat → Int32) (P : Nat → Int32) (V : Nat → Nat → Int32) (v0 : Nat) (B0 C0 : Nat → Nat → Int32) (v1 : Nat) (B1 C1 : Nat → Nat → Int32) (v2 : Nat) (B2 C2 : Nat → Nat → Int32) (v3 : Nat) (B3 C3 : Nat → Nat → Int32) (v4 : Nat) (B4 C4 : Nat → Nat → Int32) (v5 : Nat) (B5 C5 : Nat → Nat → Int32) (y0 : Nat) (Y0 Z0 : Nat → Nat → Int32) (y1 : Nat) (Y1 Z1 : Nat → Nat → Int32) (f0 : Nat → Int64) (k : Nat) (hk_k : k < 10) (j : Int32) (t : Int32) (h : inb j 0 9 = false) : MG l g yL_ifCircled cL_ifCircled 6 [(0, 12, 15, 13), (0, 12, 19, 15)] ({ frames := 9, cells := 1, slots := 6, locals := 148 } : Room) [.ref x, .int (nI k), .int j, .int t, .ref o] (XW g x a sv q sl sf b tr po d o S T fq fs F cs n R P V v0 B0 C0 v1 B1 C1 v2 B2 C2 v3 B3 C3 v4 B4 C4 v5 B5 C5 y0 Y0 Z0 y1 Y1 Z1 f0) (some (.int 1)) := by
  refine MG.of rfl (Nat.le_of_ble_eq_true rfl) ?_
  intro zp ze zs zm zbelow zmeth zc ls zS hr hlk htab hK hP hXL hl
  obtain ⟨hx, hb, hml, hown, hts⟩ := id zS
  have hl : lv_has ls 6 [(0, .ref x), (1, .int (nI k)), (2, .int j), (3, .int t), (4, .ref o)] := hl
  refine lv_aload hx hb dL_ifCircled_0 (lv_at hl 4 rfl) ?_
  refine lv_iconst (v := 0) hx hb dL_ifCircled_2 (by decide) ?_
  refine lv_aload_n hx hb dL_ifCircled_3 rfl (lv_at hl 0 rfl) ?_
  refine lv_iload_n hx hb dL_ifCircled_4 rfl (lv_at hl 1 rfl) ?_
  refine lv_iload_n hx hb dL_ifCircled_5 rfl (lv_at hl 2 rfl) ?_
  refine lv_iload_n hx hb dL_ifCircled_6 rfl (lv_at hl 3 rfl) ?_
  refine xcV (rest := [.int 0, .ref o]) zS hK hP hXL (MXt.ofX (m_X4_ifCircled_x2 l hst g x a sv q sl sf b tr po d k hk_k j t h)) cw_X4_ifCircled q735 [0] rfl 0 rfl rfl ⟨Nat.le_of_ble_eq_true rfl, Nat.le_of_ble_eq_true rfl, rfl, rfl⟩ rfl rfl (Nat.le_of_ble_eq_true rfl) hl.1 dL_ifCircled_7 ⟨Nat.le_of_ble_eq_true rfl, Nat.le_of_ble_eq_true rfl⟩ (fun H q9 ce hz hk1 hce hcv hcl => ?_)
  refine vx_catch (E := xIO) hown [] (⟨0, 12, 15, 13⟩ : ExceptionTableEntry) [(⟨0, 12, 19, 15⟩ : ExceptionTableEntry)] (by rw [htab]; rfl) (fun z hz => absurd hz List.not_mem_nil) rfl (by decide) (hts _ q563) (hXL.cast cIO) hce hcv hcl ?_
  refine lv_astore (lv' := [(5, .ref q9), (0, .ref x), (1, .int (nI k)), (2, .int j), (3, .int t), (4, .ref o)]) hx hb dL_ifCircled_15 hl (by decide) rfl (fun ls hl => ?_)
  refine lv_iconst (v := 1) hx hb dL_ifCircled_17 (by decide) ?_
  exact g_i hx hb hr hlk hz hk1 dL_ifCircled_18
set_option maxHeartbeats 4000000 in
set_option maxRecDepth 100000 in
theorem m_L_ifCircled_x3 (l : Launch) (hst : l.stackTraces = false) (g : GG) (x a sv q sl sf b tr po d o : Nat) (S T : Nat → Nat → Int32) (fq fs : Nat → Option Nat) (F cs : Nat → Int32) (n : Nat) (R : Nat → Nat → Int32) (P : Nat → Int32) (V : Nat → Nat → Int32) (v0 : Nat) (B0 C0 : Nat → Nat → Int32) (v1 : Nat) (B1 C1 : Nat → Nat → Int32) (v2 : Nat) (B2 C2 : Nat → Nat → Int32) (v3 : Nat) (B3 C3 : Nat → Nat → Int32) (v4 : Nat) (B4 C4 : Nat → Nat → Int32) (v5 : Nat) (B5 C5 : Nat → Nat → Int32) (y0 : Nat) (Y0 Z0 : Nat → Nat → Int32) (y1 : Nat) (Y1 Z1 : Nat → Nat → Int32) (f0 : Nat → Int64) (k : Nat) (hk_k : k < 10) (j : Nat) (hk_j : j < 10) (t : Int32) (h : tld t = false) : MG l g yL_ifCircled cL_ifCircled 6 [(0, 12, 15, 13), (0, 12, 19, 15)] ({ frames := 8, cells := 1, slots := 6, locals := 127 } : Room) [.ref x, .int (nI k), .int (nI j), .int t, .ref o] (XW g x a sv q sl sf b tr po d o S T fq fs F cs n R P V v0 B0 C0 v1 B1 C1 v2 B2 C2 v3 B3 C3 v4 B4 C4 v5 B5 C5 y0 Y0 Z0 y1 Y1 Z1 f0) (some (.int 2)) := by
  refine MG.of rfl (Nat.le_of_ble_eq_true rfl) ?_
  intro zp ze zs zm zbelow zmeth zc ls zS hr hlk htab hK hP hXL hl
  obtain ⟨hx, hb, hml, hown, hts⟩ := id zS
  have hl : lv_has ls 6 [(0, .ref x), (1, .int (nI k)), (2, .int (nI j)), (3, .int t), (4, .ref o)] := hl
  refine lv_aload hx hb dL_ifCircled_0 (lv_at hl 4 rfl) ?_
  refine lv_iconst (v := 0) hx hb dL_ifCircled_2 (by decide) ?_
  refine lv_aload_n hx hb dL_ifCircled_3 rfl (lv_at hl 0 rfl) ?_
  refine lv_iload_n hx hb dL_ifCircled_4 rfl (lv_at hl 1 rfl) ?_
  refine lv_iload_n hx hb dL_ifCircled_5 rfl (lv_at hl 2 rfl) ?_
  refine lv_iload_n hx hb dL_ifCircled_6 rfl (lv_at hl 3 rfl) ?_
  refine xcV (rest := [.int 0, .ref o]) zS hK hP hXL (MXt.ofX (m_X4_ifCircled_x3 l hst g x a sv q sl sf b tr po d k hk_k j hk_j t h)) cw_X4_ifCircled q735 [0] rfl 0 rfl rfl ⟨Nat.le_of_ble_eq_true rfl, Nat.le_of_ble_eq_true rfl, rfl, rfl⟩ rfl rfl (Nat.le_of_ble_eq_true rfl) hl.1 dL_ifCircled_7 ⟨Nat.le_of_ble_eq_true rfl, Nat.le_of_ble_eq_true rfl⟩ (fun H q9 ce hz hk1 hce hcv hcl => ?_)
  refine vx_catch (E := xIA) hown [(⟨0, 12, 15, 13⟩ : ExceptionTableEntry)] (⟨0, 12, 19, 15⟩ : ExceptionTableEntry) [] (by rw [htab]; rfl) (fun z hz => (List.mem_cons.mp hz).elim (fun e => Or.inr (by subst e; exact ⟨by decide, _, hts _ q563, hXL.2.2.2.2.1⟩)) (fun hz => (fun z hz => absurd hz List.not_mem_nil) z hz)) rfl (by decide) (hts _ q564) (hXL.cast cIA) hce hcv hcl ?_
  refine lv_astore (lv' := [(5, .ref q9), (0, .ref x), (1, .int (nI k)), (2, .int (nI j)), (3, .int t), (4, .ref o)]) hx hb dL_ifCircled_19 hl (by decide) rfl (fun ls hl => ?_)
  refine lv_iconst (v := 2) hx hb dL_ifCircled_21 (by decide) ?_
  exact g_i hx hb hr hlk hz hk1 dL_ifCircled_22
set_option maxHeartbeats 4000000 in
set_option maxRecDepth 100000 in
theorem m_L_ifForgotten_x1 (l : Launch) (hst : l.stackTraces = false) (g : GG) (x a sv q sl sf b tr po d o : Nat) (S T : Nat → Nat → Int32) (fq fs : Nat → Option Nat) (F cs : Nat → Int32) (n : Nat) (R : Nat → Nat → Int32) (P : Nat → Int32) (V : Nat → Nat → Int32) (v0 : Nat) (B0 C0 : Nat → Nat → Int32) (v1 : Nat) (B1 C1 : Nat → Nat → Int32) (v2 : Nat) (B2 C2 : Nat → Nat → Int32) (v3 : Nat) (B3 C3 : Nat → Nat → Int32) (v4 : Nat) (B4 C4 : Nat → Nat → Int32) (v5 : Nat) (B5 C5 : Nat → Nat → Int32) (y0 : Nat) (Y0 Z0 : Nat → Nat → Int32) (y1 : Nat) (Y1 Z1 : Nat → Nat → Int32) (f0 : Nat → Int64)  (nl : Nat) (hL : LsOk S nl) (k : Int32) (h : inb k 0 (nI nl - 1) = false) : MG l g yL_ifForgotten cL_ifForgotten 4 [(0, 9, 12, 13)] ({ frames := 8, cells := 1, slots := 6, locals := 124 } : Room) [.ref x, .int k, .ref o] (XW g x a sv q sl sf b tr po d o S T fq fs F cs n R P V v0 B0 C0 v1 B1 C1 v2 B2 C2 v3 B3 C3 v4 B4 C4 v5 B5 C5 y0 Y0 Z0 y1 Y1 Z1 f0) (some (.int 1)) := by
  refine MG.of rfl (Nat.le_of_ble_eq_true rfl) ?_
  intro zp ze zs zm zbelow zmeth zc ls zS hr hlk htab hK hP hXL hl
  obtain ⟨hx, hb, hml, hown, hts⟩ := id zS
  have hl : lv_has ls 4 [(0, .ref x), (1, .int k), (2, .ref o)] := hl
  refine lv_aload_n hx hb dL_ifForgotten_0 rfl (lv_at hl 2 rfl) ?_
  refine lv_iconst (v := 0) hx hb dL_ifForgotten_1 (by decide) ?_
  refine lv_aload_n hx hb dL_ifForgotten_2 rfl (lv_at hl 0 rfl) ?_
  refine lv_iload_n hx hb dL_ifForgotten_3 rfl (lv_at hl 1 rfl) ?_
  refine xcV (rest := [.int 0, .ref o]) zS hK hP hXL (MXt.ofX (m_X4_ifForgotten_x1 l hst g x a sv q sl sf b tr po d S nl hL k h)) cw_X4_ifForgotten q743 [0, 1, 2, 3, 4, 5, 6, 7, 8] rfl 0 rfl rfl ⟨Nat.le_of_ble_eq_true rfl, Nat.le_of_ble_eq_true rfl, rfl, rfl⟩ rfl rfl (Nat.le_of_ble_eq_true rfl) hl.1 dL_ifForgotten_4 ⟨Nat.le_of_ble_eq_true rfl, Nat.le_of_ble_eq_true rfl⟩ (fun H q9 ce hz hk1 hce hcv hcl => ?_)
  refine vx_catch (E := xIO) hown [] (⟨0, 9, 12, 13⟩ : ExceptionTableEntry) [] (by rw [htab]; rfl) (fun z hz => absurd hz List.not_mem_nil) rfl (by decide) (hts _ q563) (hXL.cast cIO) hce hcv hcl ?_
  refine lv_astore_n (lv' := [(3, .ref q9), (0, .ref x), (1, .int k), (2, .ref o)]) hx hb dL_ifForgotten_12 rfl hl (by decide) rfl (fun ls hl => ?_)
  refine lv_iconst (v := 1) hx hb dL_ifForgotten_13 (by decide) ?_
  exact g_i hx hb hr hlk hz hk1 dL_ifForgotten_14
set_option maxHeartbeats 4000000 in
set_option maxRecDepth 100000 in
theorem m_L_set_x2 (l : Launch) (hst : l.stackTraces = false) (g : GG) (x a sv q sl sf b tr po d o : Nat) (S T : Nat → Nat → Int32) (fq fs : Nat → Option Nat) (F cs : Nat → Int32) (n : Nat) (R : Nat → Nat → Int32) (P : Nat → Int32) (V : Nat → Nat → Int32) (v0 : Nat) (B0 C0 : Nat → Nat → Int32) (v1 : Nat) (B1 C1 : Nat → Nat → Int32) (v2 : Nat) (B2 C2 : Nat → Nat → Int32) (v3 : Nat) (B3 C3 : Nat → Nat → Int32) (v4 : Nat) (B4 C4 : Nat → Nat → Int32) (v5 : Nat) (B5 C5 : Nat → Nat → Int32) (y0 : Nat) (Y0 Z0 : Nat → Nat → Int32) (y1 : Nat) (Y1 Z1 : Nat → Nat → Int32) (f0 : Nat → Int64) (k : Nat) (hk_k : k < 4) (y : Int32) (h : fitb k y = false) : MG l g yL_set cL_set 5 [(0, 10, 13, 13), (0, 10, 17, 15)] ({ frames := 8, cells := 1, slots := 6, locals := 127 } : Room) [.ref x, .int (nI k), .int y, .ref o] (XW g x a sv q sl sf b tr po d o S T fq fs F cs n R P V v0 B0 C0 v1 B1 C1 v2 B2 C2 v3 B3 C3 v4 B4 C4 v5 B5 C5 y0 Y0 Z0 y1 Y1 Z1 f0) (some (.int 2)) := by
  refine MG.of rfl (Nat.le_of_ble_eq_true rfl) ?_
  intro zp ze zs zm zbelow zmeth zc ls zS hr hlk htab hK hP hXL hl
  obtain ⟨hx, hb, hml, hown, hts⟩ := id zS
  have hl : lv_has ls 5 [(0, .ref x), (1, .int (nI k)), (2, .int y), (3, .ref o)] := hl
  refine lv_aload_n hx hb dL_set_0 rfl (lv_at hl 3 rfl) ?_
  refine lv_iconst (v := 0) hx hb dL_set_1 (by decide) ?_
  refine lv_aload_n hx hb dL_set_2 rfl (lv_at hl 0 rfl) ?_
  refine lv_iload_n hx hb dL_set_3 rfl (lv_at hl 1 rfl) ?_
  refine lv_iload_n hx hb dL_set_4 rfl (lv_at hl 2 rfl) ?_
  refine xcV (rest := [.int 0, .ref o]) zS hK hP hXL (m_X4_set_x2 l hst g x a sv q sl sf b tr po d k hk_k y h) cw_X4_set q604 [0] rfl 0 rfl rfl ⟨Nat.le_of_ble_eq_true rfl, Nat.le_of_ble_eq_true rfl, rfl, rfl⟩ rfl rfl (Nat.le_of_ble_eq_true rfl) hl.1 dL_set_5 ⟨Nat.le_of_ble_eq_true rfl, Nat.le_of_ble_eq_true rfl⟩ (fun H q9 ce hz hk1 hce hcv hcl => ?_)
  refine vx_catch (E := xIA) hown [(⟨0, 10, 13, 13⟩ : ExceptionTableEntry)] (⟨0, 10, 17, 15⟩ : ExceptionTableEntry) [] (by rw [htab]; rfl) (fun z hz => (List.mem_cons.mp hz).elim (fun e => Or.inr (by subst e; exact ⟨by decide, _, hts _ q563, hXL.2.2.2.2.1⟩)) (fun hz => (fun z hz => absurd hz List.not_mem_nil) z hz)) rfl (by decide) (hts _ q564) (hXL.cast cIA) hce hcv hcl ?_
  refine lv_astore (lv' := [(4, .ref q9), (0, .ref x), (1, .int (nI k)), (2, .int y), (3, .ref o)]) hx hb dL_set_17 hl (by decide) rfl (fun ls hl => ?_)
  refine lv_iconst (v := 2) hx hb dL_set_19 (by decide) ?_
  exact g_i hx hb hr hlk hz hk1 dL_set_20
