/-! the law's body -/
def celV (L : Nat) (xs : Nat → Int32) (k : Nat) : Int32 := if k < L then xs k else 865720293 * nI (k + 5) + 730317299

/-- a reader of the script -/
def MRx (l : Launch) (g : GG) (y : MethodName) (cb : ByteArray) (n : Nat) (r : Option FieldType) (rm : Room) (as : List Value) (b L : Nat) (xs : Nat → Int32) (V : Option Value) : Prop :=
  Met l y (Cond.code y cb n r :: G) rm (va_Pc as (fun U => va_X b L xs U U.heap ∧ b < U.heap.size ∧ KK g U)) (QR V) 0 0 (fun _ => False)
theorem blind_x {g : GG} {as : List Value} {b L : Nat} {xs : Nat → Int32} : FrameBlind (va_Pc as (fun U => va_X b L xs U U.heap ∧ b < U.heap.size ∧ KK g U)) := fun a U gg mk q => by
  obtain ⟨q0, qX, qb, qK⟩ := q
  exact ⟨q0, va_X.moved (u := U) (U := U.calling gg mk a) (Vm.Alike.refl U.vm) qX, qb, va_K.moved (u := U) (U := U.calling gg mk a) (Vm.Alike.refl U.vm) qK⟩
section OWNX
variable {p : Program} {l : Launch} {e : Env} {R : Room} {s : State} {m : MethodId} {args : Array Value} {below : List Frame} {meth : Method} {c : Code} {H : Heap} {locs : List Loc} {cells slots : Nat} {Q : State → Prop}
variable {cc : ByteArray} {nL pc : Nat} {own : String} {g : GG} {ls : Array Slot} {rest st0 : List Value} {A : Nat → Prop}
theorem rdSx {y : MethodName} {cb : ByteArray} {n k idx b L : Nat} {xs : Nat → Int32} {r : Option FieldType} {rm : Room} {as : List Value} {V : Option Value}
    (S : CallFix p m c cc nL s args G own) (hK : KK g s) (hXs : va_X b L xs s s.heap) (hbl : b < s.heap.size) (hS : va_S A s.heap H locs) (hbA : ¬ A b) (hM : MRx l g y cb n r rm as b L xs V) (cw : CWS y cb n r k) (hl : Cond.methodLink own idx y ∈ G)
    (hR : RM rm R n) (hk : as.length = k) (hst : st0 = as.reverse ++ rest) (hrest : (rest.map fun v => v.category).sum ≤ 8) (hsz : ls.size = nL) (d : decode cc pc = .ok (.invokestatic idx, 3))
    (hf : cells ≤ R.cells ∧ slots ≤ R.slots)
    (kk : W p l e R s m args below meth c H locs cells slots Q (F0 m (pc + 3) ls (V.toList ++ rest))) : W p l e R s m args below meth c H locs cells slots Q (F0 m pc ls st0) := by
  have hrun := va_runS (H := H) (locs := locs) (cells := cells) (slots := slots) (below := below) (meth := meth) (e := e) (mc := 0) (ms := 0) (rest := rest) (g := F0 m pc ls st0) S hM ⟨cb_of S cw.1 hl hR, S.2.2.2.2 _ cw.2⟩
    ⟨blind_x, fun U hU hW => ⟨rfl, by rw [hU]; exact (hXs.kept (hS.2.1 b hbl hbA)).moved hW.alike, by rw [hU]; exact Nat.lt_of_lt_of_le hbl hS.1, va_K.moved hW.alike hK⟩⟩ rfl hk hsz hst (lv_room (ls := ls) (pc := pc) (m := m) (rest := st0) hrest) d ⟨hf.1, hf.2⟩
  intro T1 hT X
  obtain ⟨v, st₀, t, T', L, h0, X', hL, e1, e2, ⟨hv, hh⟩, st⟩ := hrun T1 hT X
  cases hv
  obtain ⟨t2, a1, b1⟩ := kk T' (by rw [e1, hh, h0]) (Stand.forget X' (fun q h => (hL q h).elim))
  exact ⟨t2, st t2 a1, b1⟩
end OWNX
set_option maxHeartbeats 4000000 in
set_option maxRecDepth 100000 in
theorem m_L_cell (l : Launch) (g : GG) (b L : Nat) (xs : Nat → Int32) (hLL : L ≤ 260) (k : Nat) (hk : k < 1000) : MRx l g yL_cell cL_cell 2 (some .int) ({ frames := 0, cells := 0, slots := 0, locals := 0 } : Room) [.ref b, .int (nI k)] b L xs (some (.int (celV L xs k))) := by
  refine Met.ofW (cc := cL_cell) (maxL := 2) (ret := some .int) rfl rfl ?_
  intro zp ze zs zm args zbelow zmeth zc s₁ B hml hv
  obtain ⟨rfl, hXs, hbl, hK⟩ := hv
  have hts0 := atoms_spec (ws := Cond.code yL_cell cL_cell 2 (some .int) :: G) B.pre
  have hl := lv_entry [.ref b, .int (nI k)] (n := 2) (Nat.le_of_ble_eq_true rfl)
  rw [lg_entry_eq]
  have hts : ∀ w ∈ G, w.before [Value.ref b, .int (nI k)].toArray zs = true := fun w hw => hts0 w (List.mem_cons_of_mem _ hw)
  have hx := B.exec
  have hb := B.bytes
  have hr := B.returns
  have hlk := B.notSynchronized
  have hown := findClass_of_methodNamed B.named
  have hS : va_S (fun _ => False) zs.heap zs.heap [] := va_S.rf
  have hl : lv_has _ 2 [(0, .ref b), (1, .int (nI k))] := hl
  refine lv_iload_n hx hb dL_cell_0 rfl (lv_at hl 1 rfl) ?_
  refine lv_aload_n hx hb dL_cell_1 rfl (lv_at hl 0 rfl) ?_
  refine va_slen hx hb hXs hbl (fun z => z) hS dL_cell_2 ?_
  refine lv_icmp_ge (tgt := 12) hx hb dL_cell_3 (by decide) (fun c_3 => ?_) (fun c_3 => ?_)
  · have c_3 : L ≤ k := (nI_leI (a := L) (b := k) (by omega) (by omega)).mp c_3
    refine lv_ldc (v := 865720293) hx hb hown (hts _ q359) dL_cell_12 ?_
    refine lv_iload_n hx hb dL_cell_14 rfl (lv_at hl 1 rfl) ?_
    refine lv_iconst (v := 5) hx hb dL_cell_15 (by decide) ?_
    refine lv_iadd hx hb dL_cell_16 ?_
    refine topE (nI_add k 5) ?_
    refine lv_imul hx hb dL_cell_17 ?_
    refine lv_ldc (v := 730317299) hx hb hown (hts _ q360) dL_cell_18 ?_
    refine lv_iadd hx hb dL_cell_20 ?_
    exact r_i hx hb hr hlk dL_cell_21 (by unfold celV; rw [if_neg (by omega)])
  · have c_3 : k < L := Nat.lt_of_not_le (fun z => c_3 ((nI_leI (a := L) (b := k) (by omega) (by omega)).mpr z))
    refine lv_aload_n hx hb dL_cell_6 rfl (lv_at hl 0 rfl) ?_
    refine lv_iload_n hx hb dL_cell_7 rfl (lv_at hl 1 rfl) ?_
    refine va_sld hx hb hXs hbl (fun z => z) hS (i := nI k) (vp_in_nI c_3 (by omega)) dL_cell_8 ?_
    refine lv_goto (tgt := 21) hx hb dL_cell_9 (by decide) ?_
    exact r_i hx hb hr hlk dL_cell_21 (by unfold celV; rw [if_pos c_3, nI_clamp (by omega)])

theorem cw_L_cell : CWS yL_cell cL_cell 2 (some .int) 2 := ⟨⟨q358, q9, by decide +kernel, by decide +kernel, by decide +kernel⟩, q357⟩
set_option maxHeartbeats 4000000 in
set_option maxRecDepth 100000 in
theorem lw_body (l : Launch) {zp : Program} {ze : Env} {zs : State} {zm : MethodId} {zbelow : List Frame} {zmeth : Method} {zc : Code} {Q : State → Prop} {g : GG} {b L : Nat} {xs : Nat → Int32} {x0 : Nat} (zS : CallFix zp zm zc cL_law 3 zs #[Value.ref b] G RL) (hK : KK g zs) (hX : XT (nwF x0) zs zs.heap) (hXs : va_X b L xs zs zs.heap) (hbl : b < zs.heap.size) (hb0 : b < x0) (hLL : L ≤ 260) {H : Heap} {locs : List Loc} {ls : Array Slot} (hl : lv_has ls 3 [(1, .ref x0), (0, .ref b)]) (hS : va_S (nwF x0) zs.heap H locs) (hO : OB g x0 S0 ZZ 0 z0 z0 (fun _ => S0) (fun _ => ZZ) H) (hP : PP g [] H)
    (K : ∀ (H : Heap) (locs : List Loc) (ls : Array Slot), va_S (nwF x0) zs.heap H locs → W zp l ze room_1 zs zm #[Value.ref b] zbelow zmeth zc H locs 600130 7301080 Q (F0 zm 118 ls [.int 1])) : W zp l ze room_1 zs zm #[Value.ref b] zbelow zmeth zc H locs 164 7277 Q (F0 zm 8 ls []) := by
  obtain ⟨hx, hb, hml, hown, hts⟩ := id zS
  refine lv_aload_n hx hb dL_law_8 rfl (lv_at hl 0 rfl) ?_
  refine obS0 (rest := []) zS hK hX hO hP hW_nil hS fp_nw (m_L_arePairs l g x0 S0 ZZ 0 z0 z0 (fun _ => S0) (fun _ => ZZ) 0 0 gk_0) cw_L_arePairs q361 ⟨Nat.le_of_ble_eq_true rfl, Nat.le_of_ble_eq_true rfl, rfl, rfl⟩ rfl rfl (Nat.le_of_ble_eq_true rfl) hl.1 dL_law_9 ⟨Nat.le_of_ble_eq_true rfl, Nat.le_of_ble_eq_true rfl⟩ (fun H locs hO hP hS => ?_)
  refine lv_if_eq (tgt := 47) hx hb dL_law_12 (by decide) (fun c_12 => ?_) (fun c_12 => ?_)
  · skip
    exact absurd c_12 (by decide)
  · skip
    refine lv_aload_n hx hb dL_law_15 rfl (lv_at hl 0 rfl) ?_
    refine obS0 (rest := []) zS hK hX hO hP hW_nil hS fp_nw (m_L_areShapes l g x0 S0 ZZ 0 z0 z0 (fun _ => S0) (fun _ => ZZ) 0 0 gk_0) cw_L_areShapes q463 ⟨Nat.le_of_ble_eq_true rfl, Nat.le_of_ble_eq_true rfl, rfl, rfl⟩ rfl rfl (Nat.le_of_ble_eq_true rfl) hl.1 dL_law_16 ⟨Nat.le_of_ble_eq_true rfl, Nat.le_of_ble_eq_true rfl⟩ (fun H locs hO hP hS => ?_)
    refine lv_if_eq (tgt := 47) hx hb dL_law_19 (by decide) (fun c_19 => ?_) (fun c_19 => ?_)
    · skip
      exact absurd c_19 (by decide)
    · skip
      refine lv_aload_n hx hb dL_law_22 rfl (lv_at hl 0 rfl) ?_
      refine lv_aload_n hx hb dL_law_23 rfl (lv_at hl 1 rfl) ?_
      refine lv_iconst (v := 0) hx hb dL_law_24 (by decide) ?_
      refine rdSx (rest := [.ref x0]) zS hK hXs hbl hS (Nat.not_le.mpr hb0) (m_L_cell l g b L xs hLL 0 (by omega)) cw_L_cell q356 ⟨Nat.le_of_ble_eq_true rfl, Nat.le_of_ble_eq_true rfl, rfl, rfl⟩ rfl rfl (Nat.le_of_ble_eq_true rfl) hl.1 dL_law_25 ⟨Nat.le_of_ble_eq_true rfl, Nat.le_of_ble_eq_true rfl⟩ ?_
      refine lv_aload_n hx hb dL_law_28 rfl (lv_at hl 1 rfl) ?_
      refine lv_iconst (v := 1) hx hb dL_law_29 (by decide) ?_
      refine rdSx (rest := [.int (celV L xs 0), .ref x0]) zS hK hXs hbl hS (Nat.not_le.mpr hb0) (m_L_cell l g b L xs hLL 1 (by omega)) cw_L_cell q356 ⟨Nat.le_of_ble_eq_true rfl, Nat.le_of_ble_eq_true rfl, rfl, rfl⟩ rfl rfl (Nat.le_of_ble_eq_true rfl) hl.1 dL_law_30 ⟨Nat.le_of_ble_eq_true rfl, Nat.le_of_ble_eq_true rfl⟩ ?_
      refine obS0 (rest := []) zS hK hX hO hP hW_nil hS fp_nw (m_L_isWidth l g x0 S0 ZZ 0 z0 z0 (fun _ => S0) (fun _ => ZZ) 0 0 gk_0 (celV L xs 0) (celV L xs 1) (by decide)) cw_L_isWidth q482 ⟨Nat.le_of_ble_eq_true rfl, Nat.le_of_ble_eq_true rfl, rfl, rfl⟩ rfl rfl (Nat.le_of_ble_eq_true rfl) hl.1 dL_law_33 ⟨Nat.le_of_ble_eq_true rfl, Nat.le_of_ble_eq_true rfl⟩ (fun H locs hO hP hS => ?_)
      obtain ⟨fz, ⟨ez, hez, htz⟩, hO⟩ := hO
      refine lv_if_eq (tgt := 47) hx hb dL_law_36 (by decide) (fun c_36 => ?_) (fun c_36 => ?_)
      · skip
        exact absurd c_36 (by decide)
      · skip
        refine lv_aload_n hx hb dL_law_39 rfl (lv_at hl 0 rfl) ?_
        refine lv_iconst (v := 0) hx hb dL_law_40 (by decide) ?_
        refine obV0 (x0 := x0) (rest := []) zS hK hX hO hO.recv hP hW_nil hS fp_nw (ob_text l g x0 S0 ZZ 30 fz z0 (fun _ => S0) (fun _ => ZZ) (by decide) gk_0.gsh 0 (by decide) ez htz) cw_X4_text q210 rfl ⟨Nat.le_of_ble_eq_true rfl, Nat.le_of_ble_eq_true rfl, rfl, rfl⟩ rfl rfl (Nat.le_of_ble_eq_true rfl) hl.1 dL_law_41 ⟨Nat.le_of_ble_eq_true rfl, Nat.le_of_ble_eq_true rfl⟩ (fun H locs hO hP hS => ?_)
        refine lv_if_ge (tgt := 49) hx hb dL_law_44 (by decide) (fun c_44 => ?_) (fun c_44 => ?_)
        · skip
          have hO : IV g x0 H := IV_mk gk_0 fs_0 (by decide) hO
          refine lv_iconst (v := 0) hx hb dL_law_49 (by decide) ?_
          refine lv_istore_n (lv' := [(2, .int 0), (1, .ref x0), (0, .ref b)]) hx hb dL_law_50 rfl hl (by decide) rfl (fun ls hl => ?_)
          have loop_51 : ∀ (r_ : Nat) (i : Nat) (h_m : 40 - i < r_) (hi : i ≤ 40), ∀ (H : Heap) (locs : List Loc), IV g x0 H → PP g [] H → va_S (nwF x0) zs.heap H locs → ∀ ls : Array Slot, lv_has ls 3 [(0, .ref b), (1, .ref x0), (2, .int (nI i))] → W zp l ze room_1 zs zm #[Value.ref b] zbelow zmeth zc H locs (164 + 4 * i) (7277 + 200 * i) Q (F0 zm 51 ls []) := by
            intro r_
            induction r_ with
            | zero => intro i h_m hi; exact absurd h_m (by omega)
            | succ r_ ih_51 =>
              intro i h_m hi H locs hO hP hS ls hl
              obtain ⟨S, T, nl, np, n, cs, F, Y, Z, hG, hF, hn, hO⟩ := hO
              refine lv_iload_n hx hb dL_law_51 rfl (lv_at hl 2 rfl) ?_
              refine lv_bipush (v := 40) hx hb dL_law_52 (by decide) ?_
              refine lv_icmp_ge (tgt := 102) hx hb dL_law_54 (by decide) (fun c_54 => ?_) (fun c_54 => ?_)
              · skip
                have c_54 : 40 ≤ i := (nI_leI (a := 40) (b := i) (by omega) (by omega)).mp c_54
                refine lv_aload_n hx hb dL_law_102 rfl (lv_at hl 1 rfl) ?_
                refine lv_aload_n hx hb dL_law_103 rfl (lv_at hl 0 rfl) ?_
                refine lv_bipush (v := 80) hx hb dL_law_104 (by decide) ?_
                refine rdSx (rest := [.ref x0]) zS hK hXs hbl hS (Nat.not_le.mpr hb0) (m_L_cell l g b L xs hLL 80 (by omega)) cw_L_cell q356 ⟨Nat.le_of_ble_eq_true rfl, Nat.le_of_ble_eq_true rfl, rfl, rfl⟩ rfl rfl (Nat.le_of_ble_eq_true rfl) hl.1 dL_law_106 ⟨(by show 164 + 4 * i ≤ 600130; omega), (by show 7277 + 200 * i ≤ 7301080; omega)⟩ ?_
                refine lv_aload_n hx hb dL_law_109 rfl (lv_at hl 0 rfl) ?_
                refine lv_bipush (v := 81) hx hb dL_law_110 (by decide) ?_
                refine rdSx (rest := [.int (celV L xs 80), .ref x0]) zS hK hXs hbl hS (Nat.not_le.mpr hb0) (m_L_cell l g b L xs hLL 81 (by omega)) cw_L_cell q356 ⟨Nat.le_of_ble_eq_true rfl, Nat.le_of_ble_eq_true rfl, rfl, rfl⟩ rfl rfl (Nat.le_of_ble_eq_true rfl) hl.1 dL_law_112 ⟨(by show 164 + 4 * i ≤ 600130; omega), (by show 7277 + 200 * i ≤ 7301080; omega)⟩ ?_
                refine obS0 (rest := []) zS hK hX hO hP hW_nil hS fp_nw (m_L_isWidth l g x0 S T n cs F Y Z nl np hG (celV L xs 80) (celV L xs 81) hn) cw_L_isWidth q482 ⟨Nat.le_of_ble_eq_true rfl, Nat.le_of_ble_eq_true rfl, rfl, rfl⟩ rfl rfl (Nat.le_of_ble_eq_true rfl) hl.1 dL_law_115 ⟨(by show 164 + 4 * i ≤ 600130; omega), (by show 7277 + 200 * i ≤ 7301080; omega)⟩ (fun H locs hO hP hS => ?_)
                refine W.widen (k := 600130) (n := 7301080) (by show 164 + 4 * i ≤ _; omega) (by show 7277 + 200 * i ≤ _; omega) ?_
                exact K _ _ _ hS
              · skip
                have c_54 : i < 40 := Nat.lt_of_not_le (fun z => c_54 ((nI_leI (a := 40) (b := i) (by omega) (by omega)).mpr z))
                refine lv_aload_n hx hb dL_law_57 rfl (lv_at hl 1 rfl) ?_
                refine lv_aload_n hx hb dL_law_58 rfl (lv_at hl 0 rfl) ?_
                refine lv_iconst (v := 2) hx hb dL_law_59 (by decide) ?_
                refine lv_iload_n hx hb dL_law_60 rfl (lv_at hl 2 rfl) ?_
                refine lv_imul hx hb dL_law_61 ?_
                refine topE (pk_mul 2 i) ?_
                refine rdSx (rest := [.ref x0]) zS hK hXs hbl hS (Nat.not_le.mpr hb0) (m_L_cell l g b L xs hLL (2 * i) (by omega)) cw_L_cell q356 ⟨Nat.le_of_ble_eq_true rfl, Nat.le_of_ble_eq_true rfl, rfl, rfl⟩ rfl rfl (Nat.le_of_ble_eq_true rfl) hl.1 dL_law_62 ⟨(by show 164 + 4 * i ≤ 600130; omega), (by show 7277 + 200 * i ≤ 7301080; omega)⟩ ?_
                refine lv_aload_n hx hb dL_law_65 rfl (lv_at hl 0 rfl) ?_
                refine lv_iconst (v := 2) hx hb dL_law_66 (by decide) ?_
                refine lv_iload_n hx hb dL_law_67 rfl (lv_at hl 2 rfl) ?_
                refine lv_imul hx hb dL_law_68 ?_
                refine topE (pk_mul 2 i) ?_
                refine lv_iconst (v := 1) hx hb dL_law_69 (by decide) ?_
                refine lv_iadd hx hb dL_law_70 ?_
                refine topE (nI_add (2 * i) 1) ?_
                refine rdSx (rest := [.int (celV L xs (2 * i)), .ref x0]) zS hK hXs hbl hS (Nat.not_le.mpr hb0) (m_L_cell l g b L xs hLL ((2 * i) + 1) (by omega)) cw_L_cell q356 ⟨Nat.le_of_ble_eq_true rfl, Nat.le_of_ble_eq_true rfl, rfl, rfl⟩ rfl rfl (Nat.le_of_ble_eq_true rfl) hl.1 dL_law_71 ⟨(by show 164 + 4 * i ≤ 600130; omega), (by show 7277 + 200 * i ≤ 7301080; omega)⟩ ?_
                refine obS (rest := []) zS hK hX hO hP hW_nil hS (fun _ h => h) (m_L_act l g x0 S T n cs F Y Z nl np hG hF hn (celV L xs (2 * i)) (celV L xs ((2 * i) + 1))) cw_L_act q518 ⟨Nat.le_of_ble_eq_true rfl, Nat.le_of_ble_eq_true rfl⟩ rfl rfl (Nat.le_of_ble_eq_true rfl) hl.1 dL_law_74 ⟨(by show 164 + 4 * i + 4 ≤ 600130; omega), (by show 7277 + 200 * i + 200 ≤ 7301080; omega)⟩ (fun H locs hO hP hS hzq => ?_)
                refine W.widen (k := 164 + 4 * (i + 1)) (n := 7277 + 200 * (i + 1)) (by show 164 + 4 * i + 4 ≤ _; omega) (by show 7277 + 200 * i + 200 ≤ _; omega) ?_
                obtain ⟨S2, T2, nl2, np2, n2, cs2, F2, Y2, Z2, hG2, hF2, hn2, hO⟩ := hO
                refine lv_if_eq (tgt := 94) hx hb dL_law_77 (by decide) (fun c_77 => ?_) (fun c_77 => ?_)
                · skip
                  exact absurd c_77 (by decide)
                · skip
                  refine lv_aload_n hx hb dL_law_80 rfl (lv_at hl 1 rfl) ?_
                  refine obS0 (rest := []) zS hK hX hO hP hW_nil hS fp_nw (m_L_arePairs l g x0 S2 T2 n2 cs2 F2 Y2 Z2 nl2 np2 hG2) cw_L_arePairs q361 ⟨Nat.le_of_ble_eq_true rfl, Nat.le_of_ble_eq_true rfl, rfl, rfl⟩ rfl rfl (Nat.le_of_ble_eq_true rfl) hl.1 dL_law_81 ⟨(by show 164 + 4 * (i + 1) ≤ 600130; omega), (by show 7277 + 200 * (i + 1) ≤ 7301080; omega)⟩ (fun H locs hO hP hS => ?_)
                  refine lv_if_eq (tgt := 94) hx hb dL_law_84 (by decide) (fun c_84 => ?_) (fun c_84 => ?_)
                  · skip
                    exact absurd c_84 (by decide)
                  · skip
                    refine lv_aload_n hx hb dL_law_87 rfl (lv_at hl 1 rfl) ?_
                    refine obS0 (rest := []) zS hK hX hO hP hW_nil hS fp_nw (m_L_areShapes l g x0 S2 T2 n2 cs2 F2 Y2 Z2 nl2 np2 hG2) cw_L_areShapes q463 ⟨Nat.le_of_ble_eq_true rfl, Nat.le_of_ble_eq_true rfl, rfl, rfl⟩ rfl rfl (Nat.le_of_ble_eq_true rfl) hl.1 dL_law_88 ⟨(by show 164 + 4 * (i + 1) ≤ 600130; omega), (by show 7277 + 200 * (i + 1) ≤ 7301080; omega)⟩ (fun H locs hO hP hS => ?_)
                    have hO : IV g x0 H := IV_mk hG2 hF2 hn2 hO
                    refine lv_if_ne (tgt := 96) hx hb dL_law_91 (by decide) (fun c_91 => ?_) (fun c_91 => ?_)
                    · skip
                      refine lv_iinc (v := nI (i + 1)) (lv' := [(2, .int (nI (i + 1))), (0, .ref b), (1, .ref x0)]) hx hb dL_law_96 hl (k := 2) rfl (by first | exact nI_add _ 1 | exact nI_1 _) (by decide) rfl (fun ls hl => ?_)
                      refine lv_goto (tgt := 51) hx hb dL_law_99 (by decide) ?_
                      exact ih_51 (i + 1) (by omega) (by omega) _ _ hO hP hS _ (lv_sub hl [1, 2, 0] rfl)
                    · skip
                      exact absurd c_91 (by decide)
          exact loop_51 41 0 (by omega) (by omega) _ _ hO hP hS _ (lv_sub hl [2, 1, 0] rfl)
        · skip
          exact absurd (Int32.not_lt.mp hez) c_44
