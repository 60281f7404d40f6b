/-! KernLessonsModel: tightShare and digest -/
section OWND
variable {p : Program} {l : Launch} {e : Env} {R : Room} {s : State} {m : MethodId} {args : Array Value} {below : List Frame} {meth : Method} {c : Code} {H : Heap} {locs : List Loc} {cells slots : Nat} {Q : State → Prop}
variable {cc : ByteArray} {pc : Nat} {g : GG} {ls : Array Slot} {rest : List Value}
theorem topD {x y : UInt64} (h : x = y) (k : W p l e R s m args below meth c H locs cells slots Q (F0 m pc ls (.double y :: rest))) : W p l e R s m args below meth c H locs cells slots Q (F0 m pc ls (.double x :: rest)) := by rw [h]; exact k
theorem r_d {v v' : UInt64} (hx : p.tables.exec = Jvm.exec) (hb : c.code = cc) (hr : meth.sig.returnType = some .double) (hlk : meth.locks = false) (d : decode cc pc = .ok (.dreturn, 1)) (hv : v = v') :
    W p l e R s m args below meth c s.heap [] 0 0 (MQ below (QR (some (.double v'))) args s 0 0 (fun _ => False)) (F0 m pc ls [.double v]) :=
  W.dret hx hb hr (fun t ht _ => ⟨by rw [hv], ht⟩) (fun _ h => absurd h List.not_mem_nil) d hlk
theorem w_d {w w' : va_W} {v v' : UInt64} (hx : p.tables.exec = Jvm.exec) (hb : c.code = cc) (hr : meth.sig.returnType = some .double) (hlk : meth.locks = false) (hS : va_S (inW w) s.heap H locs) (d : decode cc pc = .ok (.dreturn, 1)) (hP : PP g w' H) (hv : v = v') :
    W p l e R s m args below meth c H locs cells slots (MQ below (QW g w w' (some (.double v'))) args s cells slots (inW w)) (F0 m pc ls [.double v]) :=
  W.dret hx hb hr (fun t ht _ => QW_of (by rw [hv]) hS hP ht) hS.2.2 d hlk
end OWND
/-- a share of 100, and it doubled j times -/
def shr (k : Nat) : UInt64 := FP.ddiv (FP.i2d (nI k)) 4636737291354636288
def orb (k : Nat) : Nat → UInt64
  | 0 => shr k
  | j + 1 => FP.dmul (orb k j) 4611686018427387904
theorem shr_n : ∀ k, k < 101 → vf_n64 (FP.ddiv (FP.i2d (nI k)) 4636737291354636288) := by unfold vf_n64; decide +kernel
theorem orb_n : ∀ k, k < 101 → ∀ j, j < 8 → vf_n64 (FP.dmul (orb k j) 4611686018427387904) := by unfold vf_n64; decide +kernel
theorem orb_n2 : ∀ k, k < 101 → ∀ j, j < 8 → vf_n64 (FP.dsub (orb k j) FP.dconst1) ∧ vf_n64 (FP.dmul (FP.dsub (orb k j) FP.dconst1) 4841369599423283200) := by unfold vf_n64; decide +kernel
/-- the bits, as far as the number is still doubled -/
def boN (k : Nat) : Nat → Nat → Int64 → Int64
  | 0, j, w => w * 4503599627370496 + FP.d2l (FP.dmul (FP.dsub (orb k j) FP.dconst1) 4841369599423283200)
  | d + 1, j, w => if Op.cmpValue (FP.dcmp (orb k j) FP.dconst1) .g < 0 then boN k d (j + 1) (w - 1) else w * 4503599627370496 + FP.d2l (FP.dmul (FP.dsub (orb k j) FP.dconst1) 4841369599423283200)
def bof (k : Nat) : Int64 := if Op.cmpValue (FP.dcmp (shr k) FP.dconst0) .l = 0 then 0 else boN k 7 0 1023
theorem orb_7 : ∀ k, k < 101 → ¬ Op.cmpValue (FP.dcmp (shr k) FP.dconst0) .l = 0 → ¬ Op.cmpValue (FP.dcmp (orb k 7) FP.dconst1) .g < 0 := by decide +kernel

set_option maxHeartbeats 4000000 in
set_option maxRecDepth 100000 in
theorem m_X5_bitsOf (l : Launch) (g : GG) (k : Nat) (hk : k < 101) : MR l g yX5_bitsOf cX5_bitsOf 6 (some .long) ({ frames := 0, cells := 0, slots := 0, locals := 0 } : Room) [.double (shr k)] [] (some (.long (bof k))) := by
  refine MR.of rfl (Nat.le_of_ble_eq_true rfl) ?_
  intro zp ze zs zm zbelow zmeth zc ls zS hr hlk hK hP hl
  obtain ⟨hx, hb, hml, hown, hts⟩ := id zS
  have hl : lv_has ls 6 [(0, .double (shr k))] := hl
  refine lv_dload_n hx hb dX5_bitsOf_0 rfl (lv_at hl 0 rfl) ?_
  refine lv_dconst0 hx hb dX5_bitsOf_1 ?_
  refine lv_dcmp hx hb dX5_bitsOf_2 ?_
  refine lv_if_ne (tgt := 8) hx hb dX5_bitsOf_3 (by decide) (fun c_3 => ?_) (fun c_3 => ?_)
  · skip
    refine lv_ldc2 (v := 1023) hx hb hown (hts _ q1119) dX5_bitsOf_8 ?_
    refine lv_lstore_n (lv' := [(2, .long 1023), (0, .double (shr k))]) hx hb dX5_bitsOf_11 rfl hl (by decide) rfl (fun ls hl => ?_)
    refine lv_dload_n hx hb dX5_bitsOf_12 rfl (lv_at hl 1 rfl) ?_
    refine lv_dstore (lv' := [(4, .double (shr k)), (2, .long 1023), (0, .double (shr k))]) hx hb dX5_bitsOf_13 hl (by decide) rfl (fun ls hl => ?_)
    have loop_15 : ∀ (r_ : Nat) (j : Nat) (v : Int64) (h_m : 8 - j < r_) (hj : j < 8) (hw : boN k 7 0 1023 = boN k (7 - j) j v), ∀ ls : Array Slot, lv_has ls 6 [(0, .double (shr k)), (2, .long v), (4, .double (orb k j))] → W zp l ze ({ frames := 0, cells := 0, slots := 0, locals := 0 } : Room) zs zm ([.double (shr k)] : List Value).toArray zbelow zmeth zc zs.heap [] 0 0 (MQ zbelow (QR (some (.long (bof k)))) ([.double (shr k)] : List Value).toArray zs 0 0 (fun _ => False)) (F0 zm 15 ls []) := by
      intro r_
      induction r_ with
      | zero => intro j v h_m hj hw; exact absurd h_m (by omega)
      | succ r_ ih_15 =>
        intro j v h_m hj hw ls hl
        refine lv_dload hx hb dX5_bitsOf_15 (lv_at hl 2 rfl) ?_
        refine lv_dconst1 hx hb dX5_bitsOf_17 ?_
        refine lv_dcmp hx hb dX5_bitsOf_18 ?_
        refine lv_if_ge (tgt := 37) hx hb dX5_bitsOf_19 (by decide) (fun c_19 => ?_) (fun c_19 => ?_)
        · skip
          have hge : ¬ Op.cmpValue (FP.dcmp (orb k j) FP.dconst1) .g < 0 := Int32.not_lt.mpr c_19
          refine lv_lload_n hx hb dX5_bitsOf_37 rfl (lv_at hl 1 rfl) ?_
          refine lv_ldc2 (v := 4503599627370496) hx hb hown (hts _ q1121) dX5_bitsOf_38 ?_
          refine lv_lmul hx hb dX5_bitsOf_41 ?_
          refine lv_dload hx hb dX5_bitsOf_42 (lv_at hl 2 rfl) ?_
          refine lv_dconst1 hx hb dX5_bitsOf_44 ?_
          refine lv_dsub hx hb dX5_bitsOf_45 (orb_n2 k hk j hj).1 ?_
          refine lv_ldc2d (v := 4841369599423283200) hx hb hown (hts _ q1122) dX5_bitsOf_46 ?_
          refine lv_dmul hx hb dX5_bitsOf_49 (orb_n2 k hk j hj).2 ?_
          refine lv_d2l hx hb dX5_bitsOf_50 ?_
          refine lv_ladd hx hb dX5_bitsOf_51 ?_
          refine r_l hx hb hr hlk dX5_bitsOf_52 ?_
          rw [bof, if_neg c_3, hw]; rcases Nat.lt_or_ge j 7 with z | z
          · rw [show 7 - j = (7 - (j + 1)) + 1 by omega, boN, if_neg hge]
          · rw [show 7 - j = 0 by omega, boN]
        · skip
          have hlt : Op.cmpValue (FP.dcmp (orb k j) FP.dconst1) .g < 0 := Int32.not_le.mp c_19
          have hj7 : j < 7 := by
            rcases Nat.lt_or_ge j 7 with z | z
            · exact z
            · obtain rfl : j = 7 := by omega
              exact absurd hlt (orb_7 k hk c_3)
          refine lv_dload hx hb dX5_bitsOf_22 (lv_at hl 2 rfl) ?_
          refine lv_ldc2d (v := 4611686018427387904) hx hb hown (hts _ q1120) dX5_bitsOf_24 ?_
          refine lv_dmul hx hb dX5_bitsOf_27 (orb_n k hk j hj) ?_
          refine topD (rfl : _ = orb k (j + 1)) ?_
          refine lv_dstore (lv' := [(4, .double (orb k (j + 1))), (0, .double (shr k)), (2, .long v)]) hx hb dX5_bitsOf_28 hl (by decide) rfl (fun ls hl => ?_)
          refine lv_lload_n hx hb dX5_bitsOf_30 rfl (lv_at hl 2 rfl) ?_
          refine lv_lconst (v := 1) hx hb dX5_bitsOf_31 (by decide) ?_
          refine lv_lsub hx hb dX5_bitsOf_32 ?_
          refine lv_lstore_n (lv' := [(2, .long (v - 1)), (4, .double (orb k (j + 1))), (0, .double (shr k))]) hx hb dX5_bitsOf_33 rfl hl (by decide) rfl (fun ls hl => ?_)
          refine lv_goto (tgt := 15) hx hb dX5_bitsOf_34 (by decide) ?_
          exact ih_15 (j + 1) (v - 1) (by omega) (by omega) (by rw [hw, show 7 - j = (7 - (j + 1)) + 1 by omega, boN, if_pos hlt]) _ (lv_sub hl [2, 0, 1] rfl)
    exact loop_15 9 0 1023 (by omega) (by omega) rfl _ (lv_sub hl [2, 1, 0] rfl)
  · skip
    refine lv_lconst (v := 0) hx hb dX5_bitsOf_6 (by decide) ?_
    refine r_l hx hb hr hlk dX5_bitsOf_7 ?_
    rw [bof, if_pos c_3]
theorem cw_X5_bitsOf : CWS yX5_bitsOf cX5_bitsOf 6 (some .long) 1 := ⟨⟨q1118, q65, by decide +kernel, by decide +kernel, by decide +kernel⟩, q1117⟩
