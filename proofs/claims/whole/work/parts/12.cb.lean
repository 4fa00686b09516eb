theorem iw_X0_leafEffect_X0 : ∀ w ∈ wsX00, w ∈ wsX0_leafEffect := by decide +kernel
set_option maxHeartbeats 4000000 in
set_option maxRecDepth 100000 in
theorem c_X0_leafEffect (l : Launch) (D : va_G) (cI cB cZ : ClassId) (ta : Nat → Nat) (aB : Nat) (aBb : Nat) (aBs : Nat) (aP : Nat) (aPp : Nat) (aPf : Nat) (sz : Nat) (bb : (Nat → Int32)) (bs : (Nat → Int32)) (pg : Int32) (ps : Int32) (pn : Int32) (pp : (Nat → Int32)) (pf : (Nat → Int32)) (x1 : Int32) (x2 : Int32) (x3 : Int32) (x4 : Int32) (x5 : Int32) (r0 : Int32) (u_bb : (Nat → Int32)) (hm : m_X0_leafEffect bb pf x1 x2 x3 x4 x5 = some (r0, u_bb)) : Met l yX0_leafEffect wsX0_leafEffect ({ frames := 3, cells := 0, slots := 0, locals := 76 } : Room) (va_Pc [.ref aB, .int x1, .int x2, .int x3, .int x4, .int x5] (PW D cI cB cZ ta (w_Bridge cI cB cZ aB aBb aBs aP aPp aPf bb bs pg ps pn pp pf) sz)) (QI D cI cB cZ (va_A (w_Bridge cI cB cZ aB aBb aBs aP aPp aPf bb bs pg ps pn pp pf) sz) (w_Bridge cI cB cZ aB aBb aBs aP aPp aPf u_bb bs pg ps pn pp pf) r0) 0 0 (va_A (w_Bridge cI cB cZ aB aBb aBs aP aPp aPf bb bs pg ps pn pp pf) sz) := by
  refine Met.ofW (cc := cX0_leafEffect) (maxL := 8) (ret := (some .int)) (by decide) rfl ?_
  intro p e s m args below meth c s₁ B hml hv
  obtain ⟨rfl, hsz, hP, hK, hD0, hG⟩ := hv
  have hx := B.exec
  have hb := B.bytes
  have hr := B.returns
  have hts := atoms_spec (ws := wsX0_leafEffect) B.pre
  have hown : s.vm.findClass RX0 = some m.cls := findClass_of_methodNamed B.named
  have hlocks := B.notSynchronized
  subst hsz
  have hD := hD0.self (sz := s.heap.size)
  clear hD0
  have hA0 : ∀ q : Nat, s.heap.size ≤ q → va_A (w_Bridge cI cB cZ aB aBb aBs aP aPp aPf bb bs pg ps pn pp pf) s.heap.size q := fun q h => Or.inr h
  generalize hAe : va_A (w_Bridge cI cB cZ aB aBb aBs aP aPp aPf bb bs pg ps pn pp pf) s.heap.size = A at hD hG hA0 ⊢
  have hA : ∀ q : Nat, s.heap.size ≤ q → A q := hA0
  clear hA0
  have hS : va_S A s.heap s.heap [] := va_S.rf
  have iw_X0 := iw_X0_leafEffect_X0
  have hk_41 : ∀ (bb : (Nat → Int32)) (y5 : Int32) (z0 : Int32), k_X0_leafEffect_41 pf bb y5 z0 = some (r0, u_bb) → ∀ (ls : Array Slot) (H : Heap) (lo : List Loc), lv_has ls 8 [(0, .ref aB), (5, .int y5)] → va_P D vwCl (w_Bridge cI cB cZ aB aBb aBs aP aPp aPf bb bs pg ps pn pp pf) H → va_D A (w_Bridge cI cB cZ aB aBb aBs aP aPp aPf bb bs pg ps pn pp pf) → va_S A s.heap H lo → W p l e (headSpec wsX0_leafEffect ({ frames := 3, cells := 0, slots := 0, locals := 76 } : Room)).room s m (([.ref aB, .int x1, .int x2, .int x3, .int x4, .int x5] : List Value).toArray) below meth c H lo 0 0 (MQ below (QI D cI cB cZ A (w_Bridge cI cB cZ aB aBb aBs aP aPp aPf u_bb bs pg ps pn pp pf) r0) (([.ref aB, .int x1, .int x2, .int x3, .int x4, .int x5] : List Value).toArray) s 0 0 A) (F0 m 41 ls [.int z0]) := by
    intro bb y5 z0 hm ls H lo hl hP hD hS
    replace hm : (if y5 = z0 then (ob1 (m_X0_blendedDifference bb) (fun r5 => some (r5, bb))) else some ((0 : Int32), bb)) = some (r0, u_bb) := hm
    refine lv_istore (lv' := [(7, .int z0), (0, .ref aB), (5, .int y5)]) hx hb dX0_leafEffect_41 hl (by decide) rfl (fun ls1 hl1 => ?_)
    refine lv_iload hx hb dX0_leafEffect_43 (lv_at hl1 2 rfl) ?_
    refine lv_iload hx hb dX0_leafEffect_45 (lv_at hl1 0 rfl) ?_
    refine lv_icmp_ne (tgt := 57) hx hb dX0_leafEffect_47 (by decide) (fun c2 => ?_) (fun c2 => ?_)
    · have hm3 := zz_nf c2 hm
      refine lv_iconst (v := (0 : Int32)) hx hb dX0_leafEffect_57 (by decide) ?_
      obtain ⟨hq1, hq2⟩ := Prod.mk.inj (Option.some.inj hm3)
      subst hq1
      subst hq2
      exact W.iret hx hb hr (fun t ht hW => ⟨⟨_, (), rfl, rfl, by rw [ht]; exact hP, va_K.moved hW.alike hK, hD⟩, hS.F ht⟩) hS.2.2 dX0_leafEffect_58
    · have hm4 := zz_if c2 hm
      refine lv_aload_n hx hb dX0_leafEffect_50 rfl (lv_at hl1 1 rfl) ?_
      obtain ⟨r5, h5, hm5⟩ := ob1_e hm4
      refine gcall_i (ws' := (w_Bridge cI cB cZ aB aBb aBs aP aPp aPf bb bs pg ps pn pp pf)) (va_runV (As := []) (rest := []) ⟨hx, hb, hml, hown, hts⟩ (c_X0_blendedDifference l D cI cB cZ ta aB aBb aBs aP aPp aPf H.size bb bs pg ps pn pp pf r5 h5) (cwV 0 hts gX0_leafEffect_X0_blendedDifference rfl rfl rfl (by decide +kernel) ⟨(Nat.le_of_ble_eq_true rfl), (Nat.le_of_ble_eq_true rfl)⟩) ⟨PW_blind, va_recv hK hP rfl (q0 := 0) rfl, PW_at hP hD hK hS hA hG [0, 1, 2, 3, 4, 5] rfl (by decide)⟩ rfl rfl hl1.1 rfl (lv_room (Nat.le_of_ble_eq_true rfl)) dX0_leafEffect_51 ⟨(Nat.le_of_ble_eq_true rfl), (Nat.le_of_ble_eq_true rfl)⟩) hP hD hS hA [0, 1, 2, 3, 4, 5] [] [0, 1, 2, 3, 4, 5] rfl rfl (by decide) (by decide) (by decide) rfl (fun H6 lo6 hP6 hD6 hS6 => ?_)
      clear hP hD hS
      refine lv_goto (tgt := 58) hx hb dX0_leafEffect_54 (by decide) ?_
      obtain ⟨hq1, hq2⟩ := Prod.mk.inj (Option.some.inj hm5)
      subst hq1
      subst hq2
      exact W.iret hx hb hr (fun t ht hW => ⟨⟨_, (), rfl, rfl, by rw [ht]; exact hP6, va_K.moved hW.alike hK, hD6⟩, hS6.F ht⟩) hS6.2.2 dX0_leafEffect_58
  have hl := lv_entry ([.ref aB, .int x1, .int x2, .int x3, .int x4, .int x5]) (n := 8) (Nat.le_of_ble_eq_true rfl)
  rw [lg_entry_eq]
  generalize (lg_sl ([.ref aB, .int x1, .int x2, .int x3, .int x4, .int x5]) ++ List.replicate (8 - (lg_sl ([.ref aB, .int x1, .int x2, .int x3, .int x4, .int x5])).length) Slot.unset).toArray = ls at hl ⊢
  have hl : lv_has ls 8 [(0, .ref aB), (1, .int x1), (2, .int x2), (3, .int x3), (4, .int x4), (5, .int x5)] := hl
  replace hm : (ob1 (m_J7_fill_53178 32 bb (0 : Int32)) (fun bb_7 => (ob1 (m_X0_addBlends bb_7 pf x1 x2 x3) (fun bb_9 => (ob1 (m_X0_fateOf pf x1 x2 x3) (fun r11 => (if r11 = 0 then (if (5 : Int32) ≤ x5 then (if x4 = (-1 : Int32) then (if x5 = (7 : Int32) then (ob1 (m_X0_restOfMeans bb_9) (fun r26 => some (r26, bb_9))) else some ((0 : Int32), bb_9)) else some ((0 : Int32), bb_9)) else (if x4 = (-1 : Int32) then (ob1 (m_X0_meanEffect bb_9 x5) (fun r35 => some (r35, bb_9))) else (ob1 (m_X6_aheadInOrder x4 x5) (fun r31 => (ob1 (m_X0_stepEffect bb_9 r31 x5) (fun r33 => some (r33, bb_9))))))) else (if r11 = (1 : Int32) then (k_X0_leafEffect_41 pf bb_9 x5 (5 : Int32)) else (k_X0_leafEffect_41 pf bb_9 x5 (6 : Int32)))))))))) = some (r0, u_bb) := hm
  refine lv_aload_n hx hb dX0_leafEffect_0 rfl (lv_at hl 0 rfl) ?_
  refine va_get (D := D) (ci := 0) (v := .ref aBb) (C := RX0) (T := TX0) (N := 3) hx hb hts iw_X0 hown hK hP 0 rfl rfl 1 (by decide) (hts (.fieldLink RX0 11 "VarianceBridge$Bridge" "blends" "[I") (by decide +kernel)) (fun _ h9 => h9) rfl dX0_leafEffect_1 ?_
  refine lv_iconst (v := (0 : Int32)) hx hb dX0_leafEffect_4 (by decide) ?_
  obtain ⟨bb_7, h7, hm7⟩ := ob1_e hm
  refine gcall_v (ws' := (w_Bridge cI cB cZ aB aBb aBs aP aPp aPf bb_7 bs pg ps pn pp pf)) (va_runS (As := [.ref aBb, .int (0 : Int32)]) (rest := []) ⟨hx, hb, hml, hown, hts⟩ (c_J7_fill_53178 l D cI cB cZ ta aBb s.heap.size 32 bb (0 : Int32) bb_7 h7) (va_cwS 2 hts gX0_leafEffect_J7_fill_53178 rfl rfl rfl (by decide +kernel) ⟨(Nat.le_of_ble_eq_true rfl), (Nat.le_of_ble_eq_true rfl)⟩) ⟨PW_blind, PW_at hP hD hK hS hA hG [1] rfl (by decide)⟩ rfl rfl hl.1 rfl (lv_room (Nat.le_of_ble_eq_true rfl)) dX0_leafEffect_5 ⟨(Nat.le_of_ble_eq_true rfl), (Nat.le_of_ble_eq_true rfl)⟩) hP hD hS hA [1] [0, 2, 3, 4, 5] [0, 5, 1, 2, 3, 4] rfl rfl (by decide) (by decide) (by decide) rfl (fun H8 lo8 hP8 hD8 hS8 => ?_)
  clear hP hD hS
  refine lv_aload_n hx hb dX0_leafEffect_8 rfl (lv_at hl 0 rfl) ?_
  refine lv_iload_n hx hb dX0_leafEffect_9 rfl (lv_at hl 1 rfl) ?_
  refine lv_iload_n hx hb dX0_leafEffect_10 rfl (lv_at hl 2 rfl) ?_
  refine lv_iload_n hx hb dX0_leafEffect_11 rfl (lv_at hl 3 rfl) ?_
  obtain ⟨bb_9, h9, hm9⟩ := ob1_e hm7
  refine gcall_v (ws' := (w_Bridge cI cB cZ aB aBb aBs aP aPp aPf bb_9 bs pg ps pn pp pf)) (va_runV (As := [.int x1, .int x2, .int x3]) (rest := []) ⟨hx, hb, hml, hown, hts⟩ (c_X0_addBlends l D cI cB cZ ta aB aBb aBs aP aPp aPf H8.size bb_7 bs pg ps pn pp pf x1 x2 x3 bb_9 h9) (cwV 3 hts gX0_leafEffect_X0_addBlends rfl rfl rfl (by decide +kernel) ⟨(Nat.le_of_ble_eq_true rfl), (Nat.le_of_ble_eq_true rfl)⟩) ⟨PW_blind, va_recv hK hP8 rfl (q0 := 0) rfl, PW_at hP8 hD8 hK hS8 hA hG [0, 1, 2, 3, 4, 5] rfl (by decide)⟩ rfl rfl hl.1 rfl (lv_room (Nat.le_of_ble_eq_true rfl)) dX0_leafEffect_12 ⟨(Nat.le_of_ble_eq_true rfl), (Nat.le_of_ble_eq_true rfl)⟩) hP8 hD8 hS8 hA [0, 1, 2, 3, 4, 5] [] [0, 1, 2, 3, 4, 5] rfl rfl (by decide) (by decide) (by decide) rfl (fun H10 lo10 hP10 hD10 hS10 => ?_)
  clear hP8 hD8 hS8
  refine lv_aload_n hx hb dX0_leafEffect_15 rfl (lv_at hl 0 rfl) ?_
  refine lv_iload_n hx hb dX0_leafEffect_16 rfl (lv_at hl 1 rfl) ?_
  refine lv_iload_n hx hb dX0_leafEffect_17 rfl (lv_at hl 2 rfl) ?_
  refine lv_iload_n hx hb dX0_leafEffect_18 rfl (lv_at hl 3 rfl) ?_
  obtain ⟨r11, h11, hm11⟩ := ob1_e hm9
  refine gcall_i (ws' := (w_Bridge cI cB cZ aB aBb aBs aP aPp aPf bb_9 bs pg ps pn pp pf)) (va_runV (As := [.int x1, .int x2, .int x3]) (rest := []) ⟨hx, hb, hml, hown, hts⟩ (c_X0_fateOf l D cI cB cZ ta aB aBb aBs aP aPp aPf H10.size bb_9 bs pg ps pn pp pf x1 x2 x3 r11 h11) (cwV 3 hts gX0_leafEffect_X0_fateOf rfl rfl rfl (by decide +kernel) ⟨(Nat.le_of_ble_eq_true rfl), (Nat.le_of_ble_eq_true rfl)⟩) ⟨PW_blind, va_recv hK hP10 rfl (q0 := 0) rfl, PW_at hP10 hD10 hK hS10 hA hG [0, 1, 2, 3, 4, 5] rfl (by decide)⟩ rfl rfl hl.1 rfl (lv_room (Nat.le_of_ble_eq_true rfl)) dX0_leafEffect_19 ⟨(Nat.le_of_ble_eq_true rfl), (Nat.le_of_ble_eq_true rfl)⟩) hP10 hD10 hS10 hA [0, 1, 2, 3, 4, 5] [] [0, 1, 2, 3, 4, 5] rfl rfl (by decide) (by decide) (by decide) rfl (fun H12 lo12 hP12 hD12 hS12 => ?_)
  clear hP10 hD10 hS10
  refine lv_istore (lv' := [(6, .int r11), (0, .ref aB), (1, .int x1), (2, .int x2), (3, .int x3), (4, .int x4), (5, .int x5)]) hx hb dX0_leafEffect_22 hl (by decide) rfl (fun ls13 hl13 => ?_)
  refine lv_iload hx hb dX0_leafEffect_24 (lv_at hl13 0 rfl) ?_
  refine lv_if_eq (tgt := 59) hx hb dX0_leafEffect_26 (by decide) (fun c14 => ?_) (fun c14 => ?_)
  · have hm15 := zz_if c14 hm11
    refine lv_iload hx hb dX0_leafEffect_59 (lv_at hl13 6 rfl) ?_
    refine lv_iconst (v := (5 : Int32)) hx hb dX0_leafEffect_61 (by decide) ?_
    refine lv_icmp_ge (tgt := 94) hx hb dX0_leafEffect_62 (by decide) (fun c17 => ?_) (fun c17 => ?_)
    · have hm18 := zz_if c17 hm15
      refine lv_iload hx hb dX0_leafEffect_94 (lv_at hl13 5 rfl) ?_
      refine lv_iconst (v := (-1 : Int32)) hx hb dX0_leafEffect_96 (by decide) ?_
      refine lv_icmp_ne (tgt := 114) hx hb dX0_leafEffect_97 (by decide) (fun c20 => ?_) (fun c20 => ?_)
      · have hm21 := zz_nf c20 hm18
        refine lv_iconst (v := (0 : Int32)) hx hb dX0_leafEffect_114 (by decide) ?_
        obtain ⟨hq1, hq2⟩ := Prod.mk.inj (Option.some.inj hm21)
        subst hq1
        subst hq2
        exact W.iret hx hb hr (fun t ht hW => ⟨⟨_, (), rfl, rfl, by rw [ht]; exact hP12, va_K.moved hW.alike hK, hD12⟩, hS12.F ht⟩) hS12.2.2 dX0_leafEffect_115
      · have hm22 := zz_if c20 hm18
        refine lv_iload hx hb dX0_leafEffect_100 (lv_at hl13 6 rfl) ?_
        refine lv_bipush (v := (7 : Int32)) hx hb dX0_leafEffect_102 (by decide) ?_
        refine lv_icmp_ne (tgt := 114) hx hb dX0_leafEffect_104 (by decide) (fun c23 => ?_) (fun c23 => ?_)
        · have hm24 := zz_nf c23 hm22
          refine lv_iconst (v := (0 : Int32)) hx hb dX0_leafEffect_114 (by decide) ?_
          obtain ⟨hq1, hq2⟩ := Prod.mk.inj (Option.some.inj hm24)
          subst hq1
          subst hq2
          exact W.iret hx hb hr (fun t ht hW => ⟨⟨_, (), rfl, rfl, by rw [ht]; exact hP12, va_K.moved hW.alike hK, hD12⟩, hS12.F ht⟩) hS12.2.2 dX0_leafEffect_115
        · have hm25 := zz_if c23 hm22
          refine lv_aload_n hx hb dX0_leafEffect_107 rfl (lv_at hl13 1 rfl) ?_
          obtain ⟨r26, h26, hm26⟩ := ob1_e hm25
          refine gcall_i (ws' := (w_Bridge cI cB cZ aB aBb aBs aP aPp aPf bb_9 bs pg ps pn pp pf)) (va_runV (As := []) (rest := []) ⟨hx, hb, hml, hown, hts⟩ (c_X0_restOfMeans l D cI cB cZ ta aB aBb aBs aP aPp aPf H12.size bb_9 bs pg ps pn pp pf r26 h26) (cwV 0 hts gX0_leafEffect_X0_restOfMeans rfl rfl rfl (by decide +kernel) ⟨(Nat.le_of_ble_eq_true rfl), (Nat.le_of_ble_eq_true rfl)⟩) ⟨PW_blind, va_recv hK hP12 rfl (q0 := 0) rfl, PW_at hP12 hD12 hK hS12 hA hG [0, 1, 2, 3, 4, 5] rfl (by decide)⟩ rfl rfl hl13.1 rfl (lv_room (Nat.le_of_ble_eq_true rfl)) dX0_leafEffect_108 ⟨(Nat.le_of_ble_eq_true rfl), (Nat.le_of_ble_eq_true rfl)⟩) hP12 hD12 hS12 hA [0, 1, 2, 3, 4, 5] [] [0, 1, 2, 3, 4, 5] rfl rfl (by decide) (by decide) (by decide) rfl (fun H27 lo27 hP27 hD27 hS27 => ?_)
          clear hP12 hD12 hS12
          refine lv_goto (tgt := 115) hx hb dX0_leafEffect_111 (by decide) ?_
          obtain ⟨hq1, hq2⟩ := Prod.mk.inj (Option.some.inj hm26)
          subst hq1
          subst hq2
          exact W.iret hx hb hr (fun t ht hW => ⟨⟨_, (), rfl, rfl, by rw [ht]; exact hP27, va_K.moved hW.alike hK, hD27⟩, hS27.F ht⟩) hS27.2.2 dX0_leafEffect_115
    · have hm19 := zz_nf c17 hm15
      refine lv_iload hx hb dX0_leafEffect_65 (lv_at hl13 5 rfl) ?_
      refine lv_iconst (v := (-1 : Int32)) hx hb dX0_leafEffect_67 (by decide) ?_
      refine lv_icmp_ne (tgt := 80) hx hb dX0_leafEffect_68 (by decide) (fun c28 => ?_) (fun c28 => ?_)
      · have hm29 := zz_nf c28 hm19
        refine lv_aload_n hx hb dX0_leafEffect_80 rfl (lv_at hl13 1 rfl) ?_
        refine lv_iload hx hb dX0_leafEffect_81 (lv_at hl13 5 rfl) ?_
        refine lv_iload hx hb dX0_leafEffect_83 (lv_at hl13 6 rfl) ?_
        obtain ⟨r31, h31, hm31⟩ := ob1_e hm29
        refine gcall_i (ws' := (w_Bridge cI cB cZ aB aBb aBs aP aPp aPf bb_9 bs pg ps pn pp pf)) (va_runSN (As := [.int x4, .int x5]) (rest := [.ref aB]) ⟨hx, hb, hml, hown, hts⟩ (c_X6_aheadInOrder l D cI cB cZ ta H12.size x4 x5 r31 h31) ⟨va_cnB 2 hts gX0_leafEffect_X6_aheadInOrder_n60 rfl rfl rfl (hG.1 (.methodLinkNest RX0 60 yX6_aheadInOrder RX6) (by decide +kernel)) (hts (.initialized RX6) (by decide +kernel)) (by decide +kernel) ⟨(Nat.le_of_ble_eq_true rfl), (Nat.le_of_ble_eq_true rfl)⟩, hts (.static yX6_aheadInOrder) (by decide +kernel), trivial⟩ ⟨PW_blind, PW_at hP12 hD12 hK hS12 hA hG [] rfl (by decide)⟩ rfl rfl hl13.1 rfl (lv_room (Nat.le_of_ble_eq_true rfl)) dX0_leafEffect_85 ⟨(Nat.le_of_ble_eq_true rfl), (Nat.le_of_ble_eq_true rfl)⟩) hP12 hD12 hS12 hA [] [0, 1, 2, 3, 4, 5] [0, 1, 2, 3, 4, 5] rfl rfl (by decide) (by decide) (by decide) rfl (fun H32 lo32 hP32 hD32 hS32 => ?_)
        clear hP12 hD12 hS12
        refine lv_iload hx hb dX0_leafEffect_88 (lv_at hl13 6 rfl) ?_
        obtain ⟨r33, h33, hm33⟩ := ob1_e hm31
        refine gcall_i (ws' := (w_Bridge cI cB cZ aB aBb aBs aP aPp aPf bb_9 bs pg ps pn pp pf)) (va_runV (As := [.int r31, .int x5]) (rest := []) ⟨hx, hb, hml, hown, hts⟩ (c_X0_stepEffect l D cI cB cZ ta aB aBb aBs aP aPp aPf H32.size bb_9 bs pg ps pn pp pf r31 x5 r33 h33) (cwV 2 hts gX0_leafEffect_X0_stepEffect rfl rfl rfl (by decide +kernel) ⟨(Nat.le_of_ble_eq_true rfl), (Nat.le_of_ble_eq_true rfl)⟩) ⟨PW_blind, va_recv hK hP32 rfl (q0 := 0) rfl, PW_at hP32 hD32 hK hS32 hA hG [0, 1, 2, 3, 4, 5] rfl (by decide)⟩ rfl rfl hl13.1 rfl (lv_room (Nat.le_of_ble_eq_true rfl)) dX0_leafEffect_90 ⟨(Nat.le_of_ble_eq_true rfl), (Nat.le_of_ble_eq_true rfl)⟩) hP32 hD32 hS32 hA [0, 1, 2, 3, 4, 5] [] [0, 1, 2, 3, 4, 5] rfl rfl (by decide) (by decide) (by decide) rfl (fun H34 lo34 hP34 hD34 hS34 => ?_)
        clear hP32 hD32 hS32
        obtain ⟨hq1, hq2⟩ := Prod.mk.inj (Option.some.inj hm33)
        subst hq1
        subst hq2
        exact W.iret hx hb hr (fun t ht hW => ⟨⟨_, (), rfl, rfl, by rw [ht]; exact hP34, va_K.moved hW.alike hK, hD34⟩, hS34.F ht⟩) hS34.2.2 dX0_leafEffect_93
      · have hm30 := zz_if c28 hm19
        refine lv_aload_n hx hb dX0_leafEffect_71 rfl (lv_at hl13 1 rfl) ?_
        refine lv_iload hx hb dX0_leafEffect_72 (lv_at hl13 6 rfl) ?_
        obtain ⟨r35, h35, hm35⟩ := ob1_e hm30
        refine gcall_i (ws' := (w_Bridge cI cB cZ aB aBb aBs aP aPp aPf bb_9 bs pg ps pn pp pf)) (va_runV (As := [.int x5]) (rest := []) ⟨hx, hb, hml, hown, hts⟩ (c_X0_meanEffect l D cI cB cZ ta aB aBb aBs aP aPp aPf H12.size bb_9 bs pg ps pn pp pf x5 r35 h35) (cwV 1 hts gX0_leafEffect_X0_meanEffect rfl rfl rfl (by decide +kernel) ⟨(Nat.le_of_ble_eq_true rfl), (Nat.le_of_ble_eq_true rfl)⟩) ⟨PW_blind, va_recv hK hP12 rfl (q0 := 0) rfl, PW_at hP12 hD12 hK hS12 hA hG [0, 1, 2, 3, 4, 5] rfl (by decide)⟩ rfl rfl hl13.1 rfl (lv_room (Nat.le_of_ble_eq_true rfl)) dX0_leafEffect_74 ⟨(Nat.le_of_ble_eq_true rfl), (Nat.le_of_ble_eq_true rfl)⟩) hP12 hD12 hS12 hA [0, 1, 2, 3, 4, 5] [] [0, 1, 2, 3, 4, 5] rfl rfl (by decide) (by decide) (by decide) rfl (fun H36 lo36 hP36 hD36 hS36 => ?_)
        clear hP12 hD12 hS12
        refine lv_goto (tgt := 93) hx hb dX0_leafEffect_77 (by decide) ?_
        obtain ⟨hq1, hq2⟩ := Prod.mk.inj (Option.some.inj hm35)
        subst hq1
        subst hq2
        exact W.iret hx hb hr (fun t ht hW => ⟨⟨_, (), rfl, rfl, by rw [ht]; exact hP36, va_K.moved hW.alike hK, hD36⟩, hS36.F ht⟩) hS36.2.2 dX0_leafEffect_93
  · have hm16 := zz_nf c14 hm11
    refine lv_iload hx hb dX0_leafEffect_29 (lv_at hl13 0 rfl) ?_
    refine lv_iconst (v := (1 : Int32)) hx hb dX0_leafEffect_31 (by decide) ?_
    refine lv_icmp_ne (tgt := 39) hx hb dX0_leafEffect_32 (by decide) (fun c37 => ?_) (fun c37 => ?_)
    · have hm38 := zz_nf c37 hm16
      refine lv_bipush (v := (6 : Int32)) hx hb dX0_leafEffect_39 (by decide) ?_
      exact hk_41 bb_9 x5 (6 : Int32) hm38 ls13 H12 lo12 (lv_sub hl13 [1, 6] rfl) hP12 hD12 hS12
    · have hm39 := zz_if c37 hm16
      refine lv_iconst (v := (5 : Int32)) hx hb dX0_leafEffect_35 (by decide) ?_
      refine lv_goto (tgt := 41) hx hb dX0_leafEffect_36 (by decide) ?_
      exact hk_41 bb_9 x5 (5 : Int32) hm39 ls13 H12 lo12 (lv_sub hl13 [1, 6] rfl) hP12 hD12 hS12
theorem iw_X0_nodeEffect_X0 : ∀ w ∈ wsX00, w ∈ wsX0_nodeEffect := by decide +kernel
theorem iw_X0_nodeEffect_X2 : ∀ w ∈ wsX20, w ∈ wsX0_nodeEffect := by decide +kernel
set_option maxHeartbeats 4000000 in
set_option maxRecDepth 100000 in
theorem c_X0_nodeEffect (l : Launch) (D : va_G) (cI cB cZ : ClassId) (ta : Nat → Nat) (aB : Nat) (aBb : Nat) (aBs : Nat) (aP : Nat) (aPp : Nat) (aPf : Nat) (sz : Nat) (bb : (Nat → Int32)) (bs : (Nat → Int32)) (pg : Int32) (ps : Int32) (pn : Int32) (pp : (Nat → Int32)) (pf : (Nat → Int32)) (x1 : Int32) (x2 : Int32) (x3 : Int32) (x4 : Int32) (x5 : Int32) (r0 : Int32) (u_bb : (Nat → Int32)) (hm : m_X0_nodeEffect bb pg pn pp pf x1 x2 x3 x4 x5 = some (r0, u_bb)) : Met l yX0_nodeEffect wsX0_nodeEffect ({ frames := 4, cells := 0, slots := 0, locals := 103 } : Room) (va_Pc [.ref aB, .int x1, .int x2, .int x3, .int x4, .int x5] (PW D cI cB cZ ta (w_Bridge cI cB cZ aB aBb aBs aP aPp aPf bb bs pg ps pn pp pf) sz)) (QI D cI cB cZ (va_A (w_Bridge cI cB cZ aB aBb aBs aP aPp aPf bb bs pg ps pn pp pf) sz) (w_Bridge cI cB cZ aB aBb aBs aP aPp aPf u_bb bs pg ps pn pp pf) r0) 0 0 (va_A (w_Bridge cI cB cZ aB aBb aBs aP aPp aPf bb bs pg ps pn pp pf) sz) := by
  refine Met.ofW (cc := cX0_nodeEffect) (maxL := 9) (ret := (some .int)) (by decide) rfl ?_
  intro p e s m args below meth c s₁ B hml hv
  obtain ⟨rfl, hsz, hP, hK, hD0, hG⟩ := hv
  have hx := B.exec
  have hb := B.bytes
  have hr := B.returns
  have hts := atoms_spec (ws := wsX0_nodeEffect) B.pre
  have hown : s.vm.findClass RX0 = some m.cls := findClass_of_methodNamed B.named
  have hlocks := B.notSynchronized
  subst hsz
  have hD := hD0.self (sz := s.heap.size)
  clear hD0
  have hA0 : ∀ q : Nat, s.heap.size ≤ q → va_A (w_Bridge cI cB cZ aB aBb aBs aP aPp aPf bb bs pg ps pn pp pf) s.heap.size q := fun q h => Or.inr h
  generalize hAe : va_A (w_Bridge cI cB cZ aB aBb aBs aP aPp aPf bb bs pg ps pn pp pf) s.heap.size = A at hD hG hA0 ⊢
  have hA : ∀ q : Nat, s.heap.size ≤ q → A q := hA0
  clear hA0
  have hS : va_S A s.heap s.heap [] := va_S.rf
  have iw_X0 := iw_X0_nodeEffect_X0
  have iw_X2 := iw_X0_nodeEffect_X2
  have hk_16 : ∀ (n : Nat) (bb : (Nat → Int32)) (y2 : Int32) (y3 : Int32) (y4 : Int32) (y5 : Int32) (y6 : Int32) (y7 : Int32) (y8 : Int32), k_X0_nodeEffect_16 pg pn pp pf n bb y2 y3 y4 y5 y6 y7 y8 = some (r0, u_bb) → ∀ (ls : Array Slot) (H : Heap) (lo : List Loc), lv_has ls 9 [(0, .ref aB), (2, .int y2), (3, .int y3), (4, .int y4), (5, .int y5), (6, .int y6), (7, .int y7), (8, .int y8)] → va_P D vwCl (w_Bridge cI cB cZ aB aBb aBs aP aPp aPf bb bs pg ps pn pp pf) H → va_D A (w_Bridge cI cB cZ aB aBb aBs aP aPp aPf bb bs pg ps pn pp pf) → va_S A s.heap H lo → W p l e (headSpec wsX0_nodeEffect ({ frames := 4, cells := 0, slots := 0, locals := 103 } : Room)).room s m (([.ref aB, .int x1, .int x2, .int x3, .int x4, .int x5] : List Value).toArray) below meth c H lo 0 0 (MQ below (QI D cI cB cZ A (w_Bridge cI cB cZ aB aBb aBs aP aPp aPf u_bb bs pg ps pn pp pf) r0) (([.ref aB, .int x1, .int x2, .int x3, .int x4, .int x5] : List Value).toArray) s 0 0 A) (F0 m 16 ls []) := by
    intro n
    induction n with
    | zero => intro bb y2 y3 y4 y5 y6 y7 y8 hm; exact zz_nn hm
    | succ n ih =>
      intro bb y2 y3 y4 y5 y6 y7 y8 hm ls H lo hl hP hD hS
      replace hm := (k_X0_nodeEffect_16_s pg pn pp pf n bb y2 y3 y4 y5 y6 y7 y8).symm.trans hm
      refine lv_iload hx hb dX0_nodeEffect_16 (lv_at hl 7 rfl) ?_
      refine lv_aload_n hx hb dX0_nodeEffect_18 rfl (lv_at hl 0 rfl) ?_
      refine va_get (D := D) (ci := 0) (v := .ref aP) (C := RX0) (T := TX0) (N := 3) hx hb hts iw_X0 hown hK hP 0 rfl rfl 0 (by decide) (hts (.fieldLink RX0 18 "VarianceBridge$Bridge" "plan" "LVarianceBridge$Plan;") (by decide +kernel)) (fun _ h9 => h9) rfl dX0_nodeEffect_19 ?_
      refine va_getN (D := D) (ci := 2) (v := .int pn) (C := RX2) (T := TX2) (N := 5) hx hb hts iw_X2 hown hK hP 3 rfl rfl 4 (by decide) (va_Nw.use rfl (hG.1 (.fieldLinkNest RX0 32 RX2 "nodes" "I" RX6) (by decide +kernel))) (fun _ h9 => h9) rfl dX0_nodeEffect_22 ?_
      refine lv_icmp_ge (tgt := 61) hx hb dX0_nodeEffect_25 (by decide) (fun c1 => ?_) (fun c1 => ?_)
      · have hm2 := zz_if c1 hm
        refine lv_iload hx hb dX0_nodeEffect_61 (lv_at hl 6 rfl) ?_
        obtain ⟨hq1, hq2⟩ := Prod.mk.inj (Option.some.inj hm2)
        subst hq1
        subst hq2
        exact W.iret hx hb hr (fun t ht hW => ⟨⟨_, (), rfl, rfl, by rw [ht]; exact hP, va_K.moved hW.alike hK, hD⟩, hS.F ht⟩) hS.2.2 dX0_nodeEffect_63
      · have hm3 := zz_nf c1 hm
        refine lv_iload hx hb dX0_nodeEffect_28 (lv_at hl 5 rfl) ?_
        refine lv_iload hx hb dX0_nodeEffect_30 (lv_at hl 7 rfl) ?_
        refine lv_ishr hx hb dX0_nodeEffect_32 ?_
        refine lv_iconst (v := (1 : Int32)) hx hb dX0_nodeEffect_33 (by decide) ?_
        refine lv_iand hx hb dX0_nodeEffect_34 ?_
        refine lv_if_eq (tgt := 55) hx hb dX0_nodeEffect_35 (by decide) (fun c4 => ?_) (fun c4 => ?_)
        · have hm5 := zz_if c4 hm3
          refine lv_iinc (v := (y8 + (1 : Int32))) (lv' := [(8, .int (y8 + (1 : Int32))), (0, .ref aB), (2, .int y2), (3, .int y3), (4, .int y4), (5, .int y5), (6, .int y6), (7, .int y7)]) hx hb dX0_nodeEffect_55 hl (k := 7) rfl (by rfl) (by decide) rfl (fun ls7 hl7 => ?_)
          refine lv_goto (tgt := 16) hx hb dX0_nodeEffect_58 (by decide) ?_
          exact ih bb y2 y3 y4 y5 y6 y7 (y8 + (1 : Int32)) hm5 ls7 H lo (lv_sub hl7 [1, 2, 3, 4, 5, 6, 7, 0] rfl) hP hD hS
        · have hm6 := zz_nf c4 hm3
          refine lv_iload hx hb dX0_nodeEffect_38 (lv_at hl 6 rfl) ?_
          refine lv_aload_n hx hb dX0_nodeEffect_40 rfl (lv_at hl 0 rfl) ?_
          refine lv_iload hx hb dX0_nodeEffect_41 (lv_at hl 7 rfl) ?_
          refine lv_iload_n hx hb dX0_nodeEffect_43 rfl (lv_at hl 1 rfl) ?_
          refine lv_iload_n hx hb dX0_nodeEffect_44 rfl (lv_at hl 2 rfl) ?_
          refine lv_iload hx hb dX0_nodeEffect_45 (lv_at hl 3 rfl) ?_
          refine lv_iload hx hb dX0_nodeEffect_47 (lv_at hl 4 rfl) ?_
          obtain ⟨r8, bb_8, h8, hm8⟩ := ob2_e hm6
          refine gcall_i (ws' := (w_Bridge cI cB cZ aB aBb aBs aP aPp aPf bb_8 bs pg ps pn pp pf)) (va_runV (As := [.int y8, .int y2, .int y3, .int y4, .int y5]) (rest := [.int y7]) ⟨hx, hb, hml, hown, hts⟩ (c_X0_leafEffect l D cI cB cZ ta aB aBb aBs aP aPp aPf H.size bb bs pg ps pn pp pf y8 y2 y3 y4 y5 r8 bb_8 h8) (cwV 5 hts gX0_nodeEffect_X0_leafEffect rfl rfl rfl (by decide +kernel) ⟨(Nat.le_of_ble_eq_true rfl), (Nat.le_of_ble_eq_true rfl)⟩) ⟨PW_blind, va_recv hK hP rfl (q0 := 0) rfl, PW_at hP hD hK hS hA hG [0, 1, 2, 3, 4, 5] rfl (by decide)⟩ rfl rfl hl.1 rfl (lv_room (Nat.le_of_ble_eq_true rfl)) dX0_nodeEffect_49 ⟨(Nat.le_of_ble_eq_true rfl), (Nat.le_of_ble_eq_true rfl)⟩) hP hD hS hA [0, 1, 2, 3, 4, 5] [] [0, 1, 2, 3, 4, 5] rfl rfl (by decide) (by decide) (by decide) rfl (fun H9 lo9 hP9 hD9 hS9 => ?_)
          clear hP hD hS
          refine lv_iadd hx hb dX0_nodeEffect_52 ?_
          refine lv_istore (lv' := [(7, .int (y7 + r8)), (0, .ref aB), (2, .int y2), (3, .int y3), (4, .int y4), (5, .int y5), (6, .int y6), (8, .int y8)]) hx hb dX0_nodeEffect_53 hl (by decide) rfl (fun ls10 hl10 => ?_)
          refine lv_iinc (v := (y8 + (1 : Int32))) (lv' := [(8, .int (y8 + (1 : Int32))), (7, .int (y7 + r8)), (0, .ref aB), (2, .int y2), (3, .int y3), (4, .int y4), (5, .int y5), (6, .int y6)]) hx hb dX0_nodeEffect_55 hl10 (k := 7) rfl (by rfl) (by decide) rfl (fun ls11 hl11 => ?_)
          refine lv_goto (tgt := 16) hx hb dX0_nodeEffect_58 (by decide) ?_
          exact ih bb_8 y2 y3 y4 y5 y6 (y7 + r8) (y8 + (1 : Int32)) hm8 ls11 H9 lo9 (lv_sub hl11 [2, 3, 4, 5, 6, 7, 1, 0] rfl) hP9 hD9 hS9
  have hl := lv_entry ([.ref aB, .int x1, .int x2, .int x3, .int x4, .int x5]) (n := 9) (Nat.le_of_ble_eq_true rfl)
  rw [lg_entry_eq]
  generalize (lg_sl ([.ref aB, .int x1, .int x2, .int x3, .int x4, .int x5]) ++ List.replicate (9 - (lg_sl ([.ref aB, .int x1, .int x2, .int x3, .int x4, .int x5])).length) Slot.unset).toArray = ls at hl ⊢
  have hl : lv_has ls 9 [(0, .ref aB), (1, .int x1), (2, .int x2), (3, .int x3), (4, .int x4), (5, .int x5)] := hl
  replace hm : (ob1 (m_X2_leavesBelow pg pn pp x1) (fun r12 => (k_X0_nodeEffect_16 pg pn pp pf FU bb x2 x3 x4 x5 r12 (0 : Int32) (1 : Int32)))) = some (r0, u_bb) := hm
  refine lv_aload_n hx hb dX0_nodeEffect_0 rfl (lv_at hl 0 rfl) ?_
  refine va_get (D := D) (ci := 0) (v := .ref aP) (C := RX0) (T := TX0) (N := 3) hx hb hts iw_X0 hown hK hP 0 rfl rfl 0 (by decide) (hts (.fieldLink RX0 18 "VarianceBridge$Bridge" "plan" "LVarianceBridge$Plan;") (by decide +kernel)) (fun _ h9 => h9) rfl dX0_nodeEffect_1 ?_
  refine lv_iload_n hx hb dX0_nodeEffect_4 rfl (lv_at hl 1 rfl) ?_
  obtain ⟨r12, h12, hm12⟩ := ob1_e hm
  refine gcall_i (ws' := (w_Bridge cI cB cZ aB aBb aBs aP aPp aPf bb bs pg ps pn pp pf)) (va_runVN (As := [.int x1]) (rest := []) ⟨hx, hb, hml, hown, hts⟩ (c_X2_leavesBelow l D cI cB cZ ta aP aPp aPf s.heap.size pg ps pn pp pf x1 r12 h12) ⟨va_cnB 1 hts gX0_nodeEffect_X2_leavesBelow_n28 rfl rfl rfl (hG.1 (.methodLinkNest RX0 28 yX2_leavesBelow RX6) (by decide +kernel)) (hts (.initialized RX2) (by decide +kernel)) (by decide +kernel) ⟨(Nat.le_of_ble_eq_true rfl), (Nat.le_of_ble_eq_true rfl)⟩, hts (.instanceMethod yX2_leavesBelow) (by decide +kernel), hts (.selects RX2 yX2_leavesBelow yX2_leavesBelow) (by decide +kernel)⟩ ⟨PW_blind, va_recv hK hP rfl (q0 := 3) rfl, PW_at hP hD hK hS hA hG [3, 4, 5] rfl (by decide)⟩ rfl rfl hl.1 rfl (lv_room (Nat.le_of_ble_eq_true rfl)) dX0_nodeEffect_5 ⟨(Nat.le_of_ble_eq_true rfl), (Nat.le_of_ble_eq_true rfl)⟩) hP hD hS hA [3, 4, 5] [0, 1, 2] [0, 1, 2, 3, 4, 5] rfl rfl (by decide) (by decide) (by decide) rfl (fun H13 lo13 hP13 hD13 hS13 => ?_)
  clear hP hD hS
  refine lv_istore (lv' := [(6, .int r12), (0, .ref aB), (1, .int x1), (2, .int x2), (3, .int x3), (4, .int x4), (5, .int x5)]) hx hb dX0_nodeEffect_8 hl (by decide) rfl (fun ls14 hl14 => ?_)
  refine lv_iconst (v := (0 : Int32)) hx hb dX0_nodeEffect_10 (by decide) ?_
  refine lv_istore (lv' := [(7, .int (0 : Int32)), (6, .int r12), (0, .ref aB), (1, .int x1), (2, .int x2), (3, .int x3), (4, .int x4), (5, .int x5)]) hx hb dX0_nodeEffect_11 hl14 (by decide) rfl (fun ls15 hl15 => ?_)
  refine lv_iconst (v := (1 : Int32)) hx hb dX0_nodeEffect_13 (by decide) ?_
  refine lv_istore (lv' := [(8, .int (1 : Int32)), (7, .int (0 : Int32)), (6, .int r12), (0, .ref aB), (1, .int x1), (2, .int x2), (3, .int x3), (4, .int x4), (5, .int x5)]) hx hb dX0_nodeEffect_14 hl15 (by decide) rfl (fun ls16 hl16 => ?_)
  exact hk_16 FU bb x2 x3 x4 x5 r12 (0 : Int32) (1 : Int32) hm12 ls16 H13 lo13 (lv_sub hl16 [3, 5, 6, 7, 8, 2, 1, 0] rfl) hP13 hD13 hS13
theorem iw_X0_stayingUnits_X0 : ∀ w ∈ wsX00, w ∈ wsX0_stayingUnits := by decide +kernel
theorem iw_X0_stayingUnits_X2 : ∀ w ∈ wsX20, w ∈ wsX0_stayingUnits := by decide +kernel
set_option maxHeartbeats 4000000 in
set_option maxRecDepth 100000 in
theorem c_X0_stayingUnits (l : Launch) (D : va_G) (cI cB cZ : ClassId) (ta : Nat → Nat) (aB : Nat) (aBb : Nat) (aBs : Nat) (aP : Nat) (aPp : Nat) (aPf : Nat) (sz : Nat) (bb : (Nat → Int32)) (bs : (Nat → Int32)) (pg : Int32) (ps : Int32) (pn : Int32) (pp : (Nat → Int32)) (pf : (Nat → Int32)) (x1 : Int32) (x2 : Int32) (x3 : Int32) (x4 : Int32) (r0 : Int32) (hm : m_X0_stayingUnits pg pn pp pf x1 x2 x3 x4 = some r0) : Met l yX0_stayingUnits wsX0_stayingUnits ({ frames := 3, cells := 0, slots := 0, locals := 68 } : Room) (va_Pc [.ref aB, .int x1, .int x2, .int x3, .int x4] (PW D cI cB cZ ta (w_Bridge cI cB cZ aB aBb aBs aP aPp aPf bb bs pg ps pn pp pf) sz)) (QI D cI cB cZ (va_A (w_Bridge cI cB cZ aB aBb aBs aP aPp aPf bb bs pg ps pn pp pf) sz) (w_Bridge cI cB cZ aB aBb aBs aP aPp aPf bb bs pg ps pn pp pf) r0) 0 0 (va_A (w_Bridge cI cB cZ aB aBb aBs aP aPp aPf bb bs pg ps pn pp pf) sz) := by
  refine Met.ofW (cc := cX0_stayingUnits) (maxL := 8) (ret := (some .int)) (by decide) rfl ?_
  intro p e s m args below meth c s₁ B hml hv
  obtain ⟨rfl, hsz, hP, hK, hD0, hG⟩ := hv
  have hx := B.exec
  have hb := B.bytes
  have hr := B.returns
  have hts := atoms_spec (ws := wsX0_stayingUnits) B.pre
  have hown : s.vm.findClass RX0 = some m.cls := findClass_of_methodNamed B.named
  have hlocks := B.notSynchronized
  subst hsz
  have hD := hD0.self (sz := s.heap.size)
  clear hD0
  have hA0 : ∀ q : Nat, s.heap.size ≤ q → va_A (w_Bridge cI cB cZ aB aBb aBs aP aPp aPf bb bs pg ps pn pp pf) s.heap.size q := fun q h => Or.inr h
  generalize hAe : va_A (w_Bridge cI cB cZ aB aBb aBs aP aPp aPf bb bs pg ps pn pp pf) s.heap.size = A at hD hG hA0 ⊢
  have hA : ∀ q : Nat, s.heap.size ≤ q → A q := hA0
  clear hA0
  have hS : va_S A s.heap s.heap [] := va_S.rf
  have iw_X0 := iw_X0_stayingUnits_X0
  have iw_X2 := iw_X0_stayingUnits_X2
  have hk_16 : ∀ (n : Nat) (y2 : Int32) (y3 : Int32) (y4 : Int32) (y5 : Int32) (y6 : Int32) (y7 : Int32), k_X0_stayingUnits_16 pg pn pp pf n y2 y3 y4 y5 y6 y7 = some r0 → ∀ (ls : Array Slot) (H : Heap) (lo : List Loc), lv_has ls 8 [(0, .ref aB), (2, .int y2), (3, .int y3), (4, .int y4), (5, .int y5), (6, .int y6), (7, .int y7)] → va_P D vwCl (w_Bridge cI cB cZ aB aBb aBs aP aPp aPf bb bs pg ps pn pp pf) H → va_D A (w_Bridge cI cB cZ aB aBb aBs aP aPp aPf bb bs pg ps pn pp pf) → va_S A s.heap H lo → W p l e (headSpec wsX0_stayingUnits ({ frames := 3, cells := 0, slots := 0, locals := 68 } : Room)).room s m (([.ref aB, .int x1, .int x2, .int x3, .int x4] : List Value).toArray) below meth c H lo 0 0 (MQ below (QI D cI cB cZ A (w_Bridge cI cB cZ aB aBb aBs aP aPp aPf bb bs pg ps pn pp pf) r0) (([.ref aB, .int x1, .int x2, .int x3, .int x4] : List Value).toArray) s 0 0 A) (F0 m 16 ls []) := by
    intro n
    induction n with
    | zero => intro y2 y3 y4 y5 y6 y7 hm; exact zz_nn hm
    | succ n ih =>
      intro y2 y3 y4 y5 y6 y7 hm ls H lo hl hP hD hS
      replace hm := (k_X0_stayingUnits_16_s pg pn pp pf n y2 y3 y4 y5 y6 y7).symm.trans hm
      refine lv_iload hx hb dX0_stayingUnits_16 (lv_at hl 6 rfl) ?_
      refine lv_aload_n hx hb dX0_stayingUnits_18 rfl (lv_at hl 0 rfl) ?_
      refine va_get (D := D) (ci := 0) (v := .ref aP) (C := RX0) (T := TX0) (N := 3) hx hb hts iw_X0 hown hK hP 0 rfl rfl 0 (by decide) (hts (.fieldLink RX0 18 "VarianceBridge$Bridge" "plan" "LVarianceBridge$Plan;") (by decide +kernel)) (fun _ h9 => h9) rfl dX0_stayingUnits_19 ?_
      refine va_getN (D := D) (ci := 2) (v := .int pn) (C := RX2) (T := TX2) (N := 5) hx hb hts iw_X2 hown hK hP 3 rfl rfl 4 (by decide) (va_Nw.use rfl (hG.1 (.fieldLinkNest RX0 32 RX2 "nodes" "I" RX6) (by decide +kernel))) (fun _ h9 => h9) rfl dX0_stayingUnits_22 ?_
      refine lv_icmp_ge (tgt := 72) hx hb dX0_stayingUnits_25 (by decide) (fun c1 => ?_) (fun c1 => ?_)
      · have hm2 := zz_if c1 hm
        refine lv_iload hx hb dX0_stayingUnits_72 (lv_at hl 5 rfl) ?_
        have hq1 := Option.some.inj hm2
        subst hq1
        exact W.iret hx hb hr (fun t ht hW => ⟨⟨_, (), rfl, rfl, by rw [ht]; exact hP, va_K.moved hW.alike hK, hD⟩, hS.F ht⟩) hS.2.2 dX0_stayingUnits_74
      · have hm3 := zz_nf c1 hm
        refine lv_iload hx hb dX0_stayingUnits_28 (lv_at hl 4 rfl) ?_
        refine lv_iload hx hb dX0_stayingUnits_30 (lv_at hl 6 rfl) ?_
        refine lv_ishr hx hb dX0_stayingUnits_32 ?_
        refine lv_iconst (v := (1 : Int32)) hx hb dX0_stayingUnits_33 (by decide) ?_
        refine lv_iand hx hb dX0_stayingUnits_34 ?_
        refine lv_if_eq (tgt := 66) hx hb dX0_stayingUnits_35 (by decide) (fun c4 => ?_) (fun c4 => ?_)
        · have hm5 := zz_if c4 hm3
          refine lv_iinc (v := (y7 + (1 : Int32))) (lv' := [(7, .int (y7 + (1 : Int32))), (0, .ref aB), (2, .int y2), (3, .int y3), (4, .int y4), (5, .int y5), (6, .int y6)]) hx hb dX0_stayingUnits_66 hl (k := 6) rfl (by rfl) (by decide) rfl (fun ls7 hl7 => ?_)
          refine lv_goto (tgt := 16) hx hb dX0_stayingUnits_69 (by decide) ?_
          exact ih y2 y3 y4 y5 y6 (y7 + (1 : Int32)) hm5 ls7 H lo (lv_sub hl7 [1, 2, 3, 4, 5, 6, 0] rfl) hP hD hS
        · have hm6 := zz_nf c4 hm3
          refine lv_aload_n hx hb dX0_stayingUnits_38 rfl (lv_at hl 0 rfl) ?_
          refine lv_iload hx hb dX0_stayingUnits_39 (lv_at hl 6 rfl) ?_
          refine lv_iload_n hx hb dX0_stayingUnits_41 rfl (lv_at hl 1 rfl) ?_
          refine lv_iload_n hx hb dX0_stayingUnits_42 rfl (lv_at hl 2 rfl) ?_
          obtain ⟨r8, h8, hm8⟩ := ob1_e hm6
          refine gcall_i (ws' := (w_Bridge cI cB cZ aB aBb aBs aP aPp aPf bb bs pg ps pn pp pf)) (va_runV (As := [.int y7, .int y2, .int y3]) (rest := []) ⟨hx, hb, hml, hown, hts⟩ (c_X0_fateOf l D cI cB cZ ta aB aBb aBs aP aPp aPf H.size bb bs pg ps pn pp pf y7 y2 y3 r8 h8) (cwV 3 hts gX0_stayingUnits_X0_fateOf rfl rfl rfl (by decide +kernel) ⟨(Nat.le_of_ble_eq_true rfl), (Nat.le_of_ble_eq_true rfl)⟩) ⟨PW_blind, va_recv hK hP rfl (q0 := 0) rfl, PW_at hP hD hK hS hA hG [0, 1, 2, 3, 4, 5] rfl (by decide)⟩ rfl rfl hl.1 rfl (lv_room (Nat.le_of_ble_eq_true rfl)) dX0_stayingUnits_43 ⟨(Nat.le_of_ble_eq_true rfl), (Nat.le_of_ble_eq_true rfl)⟩) hP hD hS hA [0, 1, 2, 3, 4, 5] [] [0, 1, 2, 3, 4, 5] rfl rfl (by decide) (by decide) (by decide) rfl (fun H9 lo9 hP9 hD9 hS9 => ?_)
          clear hP hD hS
          refine lv_if_ne (tgt := 66) hx hb dX0_stayingUnits_46 (by decide) (fun c10 => ?_) (fun c10 => ?_)
          · have hm11 := zz_nf c10 hm8
            refine lv_iinc (v := (y7 + (1 : Int32))) (lv' := [(7, .int (y7 + (1 : Int32))), (0, .ref aB), (2, .int y2), (3, .int y3), (4, .int y4), (5, .int y5), (6, .int y6)]) hx hb dX0_stayingUnits_66 hl (k := 6) rfl (by rfl) (by decide) rfl (fun ls13 hl13 => ?_)
            refine lv_goto (tgt := 16) hx hb dX0_stayingUnits_69 (by decide) ?_
            exact ih y2 y3 y4 y5 y6 (y7 + (1 : Int32)) hm11 ls13 H9 lo9 (lv_sub hl13 [1, 2, 3, 4, 5, 6, 0] rfl) hP9 hD9 hS9
          · have hm12 := zz_if c10 hm8
            refine lv_iload hx hb dX0_stayingUnits_49 (lv_at hl 5 rfl) ?_
            refine lv_aload_n hx hb dX0_stayingUnits_51 rfl (lv_at hl 0 rfl) ?_
            refine va_get (D := D) (ci := 0) (v := .ref aP) (C := RX0) (T := TX0) (N := 3) hx hb hts iw_X0 hown hK hP9 0 rfl rfl 0 (by decide) (hts (.fieldLink RX0 18 "VarianceBridge$Bridge" "plan" "LVarianceBridge$Plan;") (by decide +kernel)) (fun _ h9 => h9) rfl dX0_stayingUnits_52 ?_
            refine lv_iload hx hb dX0_stayingUnits_55 (lv_at hl 6 rfl) ?_
            refine lv_iload hx hb dX0_stayingUnits_57 (lv_at hl 3 rfl) ?_
            refine lv_iconst (v := (0 : Int32)) hx hb dX0_stayingUnits_59 (by decide) ?_
            obtain ⟨r14, h14, hm14⟩ := ob1_e hm12
            refine gcall_i (ws' := (w_Bridge cI cB cZ aB aBb aBs aP aPp aPf bb bs pg ps pn pp pf)) (va_runVN (As := [.int y7, .int y4, .int (0 : Int32)]) (rest := [.int y6]) ⟨hx, hb, hml, hown, hts⟩ (c_X2_factorOf l D cI cB cZ ta aP aPp aPf H9.size pg ps pn pp pf y7 y4 (0 : Int32) r14 h14) ⟨va_cnB 3 hts gX0_stayingUnits_X2_factorOf_n22 rfl rfl rfl (hG.1 (.methodLinkNest RX0 22 yX2_factorOf RX6) (by decide +kernel)) (hts (.initialized RX2) (by decide +kernel)) (by decide +kernel) ⟨(Nat.le_of_ble_eq_true rfl), (Nat.le_of_ble_eq_true rfl)⟩, hts (.instanceMethod yX2_factorOf) (by decide +kernel), hts (.selects RX2 yX2_factorOf yX2_factorOf) (by decide +kernel)⟩ ⟨PW_blind, va_recv hK hP9 rfl (q0 := 3) rfl, PW_at hP9 hD9 hK hS9 hA hG [3, 4, 5] rfl (by decide)⟩ rfl rfl hl.1 rfl (lv_room (Nat.le_of_ble_eq_true rfl)) dX0_stayingUnits_60 ⟨(Nat.le_of_ble_eq_true rfl), (Nat.le_of_ble_eq_true rfl)⟩) hP9 hD9 hS9 hA [3, 4, 5] [0, 1, 2] [0, 1, 2, 3, 4, 5] rfl rfl (by decide) (by decide) (by decide) rfl (fun H15 lo15 hP15 hD15 hS15 => ?_)
            clear hP9 hD9 hS9
            refine lv_iadd hx hb dX0_stayingUnits_63 ?_
            refine lv_istore (lv' := [(6, .int (y6 + r14)), (0, .ref aB), (2, .int y2), (3, .int y3), (4, .int y4), (5, .int y5), (7, .int y7)]) hx hb dX0_stayingUnits_64 hl (by decide) rfl (fun ls16 hl16 => ?_)
            refine lv_iinc (v := (y7 + (1 : Int32))) (lv' := [(7, .int (y7 + (1 : Int32))), (6, .int (y6 + r14)), (0, .ref aB), (2, .int y2), (3, .int y3), (4, .int y4), (5, .int y5)]) hx hb dX0_stayingUnits_66 hl16 (k := 6) rfl (by rfl) (by decide) rfl (fun ls17 hl17 => ?_)
            refine lv_goto (tgt := 16) hx hb dX0_stayingUnits_69 (by decide) ?_
            exact ih y2 y3 y4 y5 (y6 + r14) (y7 + (1 : Int32)) hm14 ls17 H15 lo15 (lv_sub hl17 [2, 3, 4, 5, 6, 1, 0] rfl) hP15 hD15 hS15
  have hl := lv_entry ([.ref aB, .int x1, .int x2, .int x3, .int x4]) (n := 8) (Nat.le_of_ble_eq_true rfl)
  rw [lg_entry_eq]
  generalize (lg_sl ([.ref aB, .int x1, .int x2, .int x3, .int x4]) ++ List.replicate (8 - (lg_sl ([.ref aB, .int x1, .int x2, .int x3, .int x4])).length) Slot.unset).toArray = ls at hl ⊢
  have hl : lv_has ls 8 [(0, .ref aB), (1, .int x1), (2, .int x2), (3, .int x3), (4, .int x4)] := hl
  replace hm : (ob1 (m_X2_leavesBelow pg pn pp x1) (fun r18 => (k_X0_stayingUnits_16 pg pn pp pf FU x2 x3 x4 r18 (0 : Int32) (1 : Int32)))) = some r0 := hm
  refine lv_aload_n hx hb dX0_stayingUnits_0 rfl (lv_at hl 0 rfl) ?_
  refine va_get (D := D) (ci := 0) (v := .ref aP) (C := RX0) (T := TX0) (N := 3) hx hb hts iw_X0 hown hK hP 0 rfl rfl 0 (by decide) (hts (.fieldLink RX0 18 "VarianceBridge$Bridge" "plan" "LVarianceBridge$Plan;") (by decide +kernel)) (fun _ h9 => h9) rfl dX0_stayingUnits_1 ?_
  refine lv_iload_n hx hb dX0_stayingUnits_4 rfl (lv_at hl 1 rfl) ?_
  obtain ⟨r18, h18, hm18⟩ := ob1_e hm
  refine gcall_i (ws' := (w_Bridge cI cB cZ aB aBb aBs aP aPp aPf bb bs pg ps pn pp pf)) (va_runVN (As := [.int x1]) (rest := []) ⟨hx, hb, hml, hown, hts⟩ (c_X2_leavesBelow l D cI cB cZ ta aP aPp aPf s.heap.size pg ps pn pp pf x1 r18 h18) ⟨va_cnB 1 hts gX0_stayingUnits_X2_leavesBelow_n28 rfl rfl rfl (hG.1 (.methodLinkNest RX0 28 yX2_leavesBelow RX6) (by decide +kernel)) (hts (.initialized RX2) (by decide +kernel)) (by decide +kernel) ⟨(Nat.le_of_ble_eq_true rfl), (Nat.le_of_ble_eq_true rfl)⟩, hts (.instanceMethod yX2_leavesBelow) (by decide +kernel), hts (.selects RX2 yX2_leavesBelow yX2_leavesBelow) (by decide +kernel)⟩ ⟨PW_blind, va_recv hK hP rfl (q0 := 3) rfl, PW_at hP hD hK hS hA hG [3, 4, 5] rfl (by decide)⟩ rfl rfl hl.1 rfl (lv_room (Nat.le_of_ble_eq_true rfl)) dX0_stayingUnits_5 ⟨(Nat.le_of_ble_eq_true rfl), (Nat.le_of_ble_eq_true rfl)⟩) hP hD hS hA [3, 4, 5] [0, 1, 2] [0, 1, 2, 3, 4, 5] rfl rfl (by decide) (by decide) (by decide) rfl (fun H19 lo19 hP19 hD19 hS19 => ?_)
  clear hP hD hS
  refine lv_istore (lv' := [(5, .int r18), (0, .ref aB), (1, .int x1), (2, .int x2), (3, .int x3), (4, .int x4)]) hx hb dX0_stayingUnits_8 hl (by decide) rfl (fun ls20 hl20 => ?_)
  refine lv_iconst (v := (0 : Int32)) hx hb dX0_stayingUnits_10 (by decide) ?_
  refine lv_istore (lv' := [(6, .int (0 : Int32)), (5, .int r18), (0, .ref aB), (1, .int x1), (2, .int x2), (3, .int x3), (4, .int x4)]) hx hb dX0_stayingUnits_11 hl20 (by decide) rfl (fun ls21 hl21 => ?_)
  refine lv_iconst (v := (1 : Int32)) hx hb dX0_stayingUnits_13 (by decide) ?_
  refine lv_istore (lv' := [(7, .int (1 : Int32)), (6, .int (0 : Int32)), (5, .int r18), (0, .ref aB), (1, .int x1), (2, .int x2), (3, .int x3), (4, .int x4)]) hx hb dX0_stayingUnits_14 hl21 (by decide) rfl (fun ls22 hl22 => ?_)
  exact hk_16 FU x2 x3 x4 r18 (0 : Int32) (1 : Int32) hm18 ls22 H19 lo19 (lv_sub hl22 [3, 5, 6, 7, 2, 1, 0] rfl) hP19 hD19 hS19
theorem iw_X0_mixOf_X0 : ∀ w ∈ wsX00, w ∈ wsX0_mixOf := by decide +kernel
theorem iw_X0_mixOf_X2 : ∀ w ∈ wsX20, w ∈ wsX0_mixOf := by decide +kernel
set_option maxHeartbeats 4000000 in
set_option maxRecDepth 100000 in
theorem c_X0_mixOf (l : Launch) (D : va_G) (cI cB cZ : ClassId) (ta : Nat → Nat) (aB : Nat) (aBb : Nat) (aBs : Nat) (aP : Nat) (aPp : Nat) (aPf : Nat) (sz : Nat) (bb : (Nat → Int32)) (bs : (Nat → Int32)) (pg : Int32) (ps : Int32) (pn : Int32) (pp : (Nat → Int32)) (pf : (Nat → Int32)) (x1 : Int32) (x2 : Int32) (x3 : Int32) (r0 : Int32) (hm : m_X0_mixOf pg pn pp pf x1 x2 x3 = some r0) : Met l yX0_mixOf wsX0_mixOf ({ frames := 4, cells := 0, slots := 0, locals := 95 } : Room) (va_Pc [.ref aB, .int x1, .int x2, .int x3] (PW D cI cB cZ ta (w_Bridge cI cB cZ aB aBb aBs aP aPp aPf bb bs pg ps pn pp pf) sz)) (QI D cI cB cZ (va_A (w_Bridge cI cB cZ aB aBb aBs aP aPp aPf bb bs pg ps pn pp pf) sz) (w_Bridge cI cB cZ aB aBb aBs aP aPp aPf bb bs pg ps pn pp pf) r0) 0 0 (va_A (w_Bridge cI cB cZ aB aBb aBs aP aPp aPf bb bs pg ps pn pp pf) sz) := by
  refine Met.ofW (cc := cX0_mixOf) (maxL := 8) (ret := (some .int)) (by decide) rfl ?_
  intro p e s m args below meth c s₁ B hml hv
  obtain ⟨rfl, hsz, hP, hK, hD0, hG⟩ := hv
  have hx := B.exec
  have hb := B.bytes
  have hr := B.returns
  have hts := atoms_spec (ws := wsX0_mixOf) B.pre
  have hown : s.vm.findClass RX0 = some m.cls := findClass_of_methodNamed B.named
  have hlocks := B.notSynchronized
  subst hsz
  have hD := hD0.self (sz := s.heap.size)
  clear hD0
  have hA0 : ∀ q : Nat, s.heap.size ≤ q → va_A (w_Bridge cI cB cZ aB aBb aBs aP aPp aPf bb bs pg ps pn pp pf) s.heap.size q := fun q h => Or.inr h
  generalize hAe : va_A (w_Bridge cI cB cZ aB aBb aBs aP aPp aPf bb bs pg ps pn pp pf) s.heap.size = A at hD hG hA0 ⊢
  have hA : ∀ q : Nat, s.heap.size ≤ q → A q := hA0
  clear hA0
  have hS : va_S A s.heap s.heap [] := va_S.rf
  have iw_X0 := iw_X0_mixOf_X0
  have iw_X2 := iw_X0_mixOf_X2
  have hl := lv_entry ([.ref aB, .int x1, .int x2, .int x3]) (n := 8) (Nat.le_of_ble_eq_true rfl)
  rw [lg_entry_eq]
  generalize (lg_sl ([.ref aB, .int x1, .int x2, .int x3]) ++ List.replicate (8 - (lg_sl ([.ref aB, .int x1, .int x2, .int x3])).length) Slot.unset).toArray = ls at hl ⊢
  have hl : lv_has ls 8 [(0, .ref aB), (1, .int x1), (2, .int x2), (3, .int x3)] := hl
  replace hm : (if x1 < 0 ∨ 20 ≤ x1.toNatClampNeg then none else (ob1 (m_X0_stayingUnits pg pn pp pf (pp x1.toNatClampNeg) x2 x3 x2) (fun r4 => (if r4 = 0 then some (0 : Int32) else (ob1 (m_X0_stayingUnits pg pn pp pf (pp x1.toNatClampNeg) x2 x3 x3) (fun r10 => (ob1 (m_X0_stayingUnits pg pn pp pf x1 x2 x3 x2) (fun r13 => (if r4 = 0 then none else (ob1 (m_X0_stayingUnits pg pn pp pf x1 x2 x3 x3) (fun r18 => some (r18 - ((r10 * r13) / r4))))))))))))) = some r0 := hm
  refine lv_aload_n hx hb dX0_mixOf_0 rfl (lv_at hl 0 rfl) ?_
  refine va_get (D := D) (ci := 0) (v := .ref aP) (C := RX0) (T := TX0) (N := 3) hx hb hts iw_X0 hown hK hP 0 rfl rfl 0 (by decide) (hts (.fieldLink RX0 18 "VarianceBridge$Bridge" "plan" "LVarianceBridge$Plan;") (by decide +kernel)) (fun _ h9 => h9) rfl dX0_mixOf_1 ?_
  refine va_getN (D := D) (ci := 2) (v := .ref aPp) (C := RX2) (T := TX2) (N := 5) hx hb hts iw_X2 hown hK hP 3 rfl rfl 0 (by decide) (va_Nw.use rfl (hG.1 (.fieldLinkNest RX0 82 RX2 "parents" "[I" RX6) (by decide +kernel))) (fun _ h9 => h9) rfl dX0_mixOf_4 ?_
  refine lv_iload_n hx hb dX0_mixOf_7 rfl (lv_at hl 1 rfl) ?_
  obtain ⟨c1, hm2⟩ := zz_no hm
  refine va_iald hx hb hK hP 4 0 rfl rfl c1 dX0_mixOf_8 ?_
  refine lv_istore (lv' := [(4, .int (pp x1.toNatClampNeg)), (0, .ref aB), (1, .int x1), (2, .int x2), (3, .int x3)]) hx hb dX0_mixOf_9 hl (by decide) rfl (fun ls3 hl3 => ?_)
  refine lv_aload_n hx hb dX0_mixOf_11 rfl (lv_at hl3 1 rfl) ?_
  refine lv_iload hx hb dX0_mixOf_12 (lv_at hl3 0 rfl) ?_
  refine lv_iload_n hx hb dX0_mixOf_14 rfl (lv_at hl3 3 rfl) ?_
  refine lv_iload_n hx hb dX0_mixOf_15 rfl (lv_at hl3 4 rfl) ?_
  refine lv_iload_n hx hb dX0_mixOf_16 rfl (lv_at hl3 3 rfl) ?_
  obtain ⟨r4, h4, hm4⟩ := ob1_e hm2
  refine gcall_i (ws' := (w_Bridge cI cB cZ aB aBb aBs aP aPp aPf bb bs pg ps pn pp pf)) (va_runV (As := [.int (pp x1.toNatClampNeg), .int x2, .int x3, .int x2]) (rest := []) ⟨hx, hb, hml, hown, hts⟩ (c_X0_stayingUnits l D cI cB cZ ta aB aBb aBs aP aPp aPf s.heap.size bb bs pg ps pn pp pf (pp x1.toNatClampNeg) x2 x3 x2 r4 h4) (cwV 4 hts gX0_mixOf_X0_stayingUnits rfl rfl rfl (by decide +kernel) ⟨(Nat.le_of_ble_eq_true rfl), (Nat.le_of_ble_eq_true rfl)⟩) ⟨PW_blind, va_recv hK hP rfl (q0 := 0) rfl, PW_at hP hD hK hS hA hG [0, 1, 2, 3, 4, 5] rfl (by decide)⟩ rfl rfl hl3.1 rfl (lv_room (Nat.le_of_ble_eq_true rfl)) dX0_mixOf_17 ⟨(Nat.le_of_ble_eq_true rfl), (Nat.le_of_ble_eq_true rfl)⟩) hP hD hS hA [0, 1, 2, 3, 4, 5] [] [0, 1, 2, 3, 4, 5] rfl rfl (by decide) (by decide) (by decide) rfl (fun H5 lo5 hP5 hD5 hS5 => ?_)
  clear hP hD hS
  refine lv_istore (lv' := [(5, .int r4), (4, .int (pp x1.toNatClampNeg)), (0, .ref aB), (1, .int x1), (2, .int x2), (3, .int x3)]) hx hb dX0_mixOf_20 hl3 (by decide) rfl (fun ls6 hl6 => ?_)
  refine lv_iload hx hb dX0_mixOf_22 (lv_at hl6 0 rfl) ?_
  refine lv_if_ne (tgt := 29) hx hb dX0_mixOf_24 (by decide) (fun c7 => ?_) (fun c7 => ?_)
  · have hm8 := zz_nf c7 hm4
    refine lv_aload_n hx hb dX0_mixOf_29 rfl (lv_at hl6 2 rfl) ?_
    refine lv_iload hx hb dX0_mixOf_30 (lv_at hl6 1 rfl) ?_
    refine lv_iload_n hx hb dX0_mixOf_32 rfl (lv_at hl6 4 rfl) ?_
    refine lv_iload_n hx hb dX0_mixOf_33 rfl (lv_at hl6 5 rfl) ?_
    refine lv_iload_n hx hb dX0_mixOf_34 rfl (lv_at hl6 5 rfl) ?_
    obtain ⟨r10, h10, hm10⟩ := ob1_e hm8
    refine gcall_i (ws' := (w_Bridge cI cB cZ aB aBb aBs aP aPp aPf bb bs pg ps pn pp pf)) (va_runV (As := [.int (pp x1.toNatClampNeg), .int x2, .int x3, .int x3]) (rest := []) ⟨hx, hb, hml, hown, hts⟩ (c_X0_stayingUnits l D cI cB cZ ta aB aBb aBs aP aPp aPf H5.size bb bs pg ps pn pp pf (pp x1.toNatClampNeg) x2 x3 x3 r10 h10) (cwV 4 hts gX0_mixOf_X0_stayingUnits rfl rfl rfl (by decide +kernel) ⟨(Nat.le_of_ble_eq_true rfl), (Nat.le_of_ble_eq_true rfl)⟩) ⟨PW_blind, va_recv hK hP5 rfl (q0 := 0) rfl, PW_at hP5 hD5 hK hS5 hA hG [0, 1, 2, 3, 4, 5] rfl (by decide)⟩ rfl rfl hl6.1 rfl (lv_room (Nat.le_of_ble_eq_true rfl)) dX0_mixOf_35 ⟨(Nat.le_of_ble_eq_true rfl), (Nat.le_of_ble_eq_true rfl)⟩) hP5 hD5 hS5 hA [0, 1, 2, 3, 4, 5] [] [0, 1, 2, 3, 4, 5] rfl rfl (by decide) (by decide) (by decide) rfl (fun H11 lo11 hP11 hD11 hS11 => ?_)
    clear hP5 hD5 hS5
    refine lv_istore (lv' := [(6, .int r10), (5, .int r4), (4, .int (pp x1.toNatClampNeg)), (0, .ref aB), (1, .int x1), (2, .int x2), (3, .int x3)]) hx hb dX0_mixOf_38 hl6 (by decide) rfl (fun ls12 hl12 => ?_)
    refine lv_iload hx hb dX0_mixOf_40 (lv_at hl12 0 rfl) ?_
    refine lv_aload_n hx hb dX0_mixOf_42 rfl (lv_at hl12 3 rfl) ?_
    refine lv_iload_n hx hb dX0_mixOf_43 rfl (lv_at hl12 4 rfl) ?_
    refine lv_iload_n hx hb dX0_mixOf_44 rfl (lv_at hl12 5 rfl) ?_
    refine lv_iload_n hx hb dX0_mixOf_45 rfl (lv_at hl12 6 rfl) ?_
    refine lv_iload_n hx hb dX0_mixOf_46 rfl (lv_at hl12 5 rfl) ?_
    obtain ⟨r13, h13, hm13⟩ := ob1_e hm10
    refine gcall_i (ws' := (w_Bridge cI cB cZ aB aBb aBs aP aPp aPf bb bs pg ps pn pp pf)) (va_runV (As := [.int x1, .int x2, .int x3, .int x2]) (rest := [.int r10]) ⟨hx, hb, hml, hown, hts⟩ (c_X0_stayingUnits l D cI cB cZ ta aB aBb aBs aP aPp aPf H11.size bb bs pg ps pn pp pf x1 x2 x3 x2 r13 h13) (cwV 4 hts gX0_mixOf_X0_stayingUnits rfl rfl rfl (by decide +kernel) ⟨(Nat.le_of_ble_eq_true rfl), (Nat.le_of_ble_eq_true rfl)⟩) ⟨PW_blind, va_recv hK hP11 rfl (q0 := 0) rfl, PW_at hP11 hD11 hK hS11 hA hG [0, 1, 2, 3, 4, 5] rfl (by decide)⟩ rfl rfl hl12.1 rfl (lv_room (Nat.le_of_ble_eq_true rfl)) dX0_mixOf_47 ⟨(Nat.le_of_ble_eq_true rfl), (Nat.le_of_ble_eq_true rfl)⟩) hP11 hD11 hS11 hA [0, 1, 2, 3, 4, 5] [] [0, 1, 2, 3, 4, 5] rfl rfl (by decide) (by decide) (by decide) rfl (fun H14 lo14 hP14 hD14 hS14 => ?_)
    clear hP11 hD11 hS11
    refine lv_imul hx hb dX0_mixOf_50 ?_
    refine lv_iload hx hb dX0_mixOf_51 (lv_at hl12 1 rfl) ?_
    obtain ⟨c15, hm16⟩ := zz_no hm13
    refine lv_idiv hx hb dX0_mixOf_53 c15 ?_
    refine lv_istore (lv' := [(7, .int ((r10 * r13) / r4)), (6, .int r10), (5, .int r4), (4, .int (pp x1.toNatClampNeg)), (0, .ref aB), (1, .int x1), (2, .int x2), (3, .int x3)]) hx hb dX0_mixOf_54 hl12 (by decide) rfl (fun ls17 hl17 => ?_)
    refine lv_aload_n hx hb dX0_mixOf_56 rfl (lv_at hl17 4 rfl) ?_
    refine lv_iload_n hx hb dX0_mixOf_57 rfl (lv_at hl17 5 rfl) ?_
    refine lv_iload_n hx hb dX0_mixOf_58 rfl (lv_at hl17 6 rfl) ?_
    refine lv_iload_n hx hb dX0_mixOf_59 rfl (lv_at hl17 7 rfl) ?_
    refine lv_iload_n hx hb dX0_mixOf_60 rfl (lv_at hl17 7 rfl) ?_
    obtain ⟨r18, h18, hm18⟩ := ob1_e hm16
    refine gcall_i (ws' := (w_Bridge cI cB cZ aB aBb aBs aP aPp aPf bb bs pg ps pn pp pf)) (va_runV (As := [.int x1, .int x2, .int x3, .int x3]) (rest := []) ⟨hx, hb, hml, hown, hts⟩ (c_X0_stayingUnits l D cI cB cZ ta aB aBb aBs aP aPp aPf H14.size bb bs pg ps pn pp pf x1 x2 x3 x3 r18 h18) (cwV 4 hts gX0_mixOf_X0_stayingUnits rfl rfl rfl (by decide +kernel) ⟨(Nat.le_of_ble_eq_true rfl), (Nat.le_of_ble_eq_true rfl)⟩) ⟨PW_blind, va_recv hK hP14 rfl (q0 := 0) rfl, PW_at hP14 hD14 hK hS14 hA hG [0, 1, 2, 3, 4, 5] rfl (by decide)⟩ rfl rfl hl17.1 rfl (lv_room (Nat.le_of_ble_eq_true rfl)) dX0_mixOf_61 ⟨(Nat.le_of_ble_eq_true rfl), (Nat.le_of_ble_eq_true rfl)⟩) hP14 hD14 hS14 hA [0, 1, 2, 3, 4, 5] [] [0, 1, 2, 3, 4, 5] rfl rfl (by decide) (by decide) (by decide) rfl (fun H19 lo19 hP19 hD19 hS19 => ?_)
    clear hP14 hD14 hS14
    refine lv_iload hx hb dX0_mixOf_64 (lv_at hl17 0 rfl) ?_
    refine lv_isub hx hb dX0_mixOf_66 ?_
    have hq1 := Option.some.inj hm18
    subst hq1
    exact W.iret hx hb hr (fun t ht hW => ⟨⟨_, (), rfl, rfl, by rw [ht]; exact hP19, va_K.moved hW.alike hK, hD19⟩, hS19.F ht⟩) hS19.2.2 dX0_mixOf_67
  · have hm9 := zz_if c7 hm4
    refine lv_iconst (v := (0 : Int32)) hx hb dX0_mixOf_27 (by decide) ?_
    have hq1 := Option.some.inj hm9
    subst hq1
    exact W.iret hx hb hr (fun t ht hW => ⟨⟨_, (), rfl, rfl, by rw [ht]; exact hP5, va_K.moved hW.alike hK, hD5⟩, hS5.F ht⟩) hS5.2.2 dX0_mixOf_28
set_option maxHeartbeats 4000000 in
set_option maxRecDepth 100000 in
theorem c_X0_bestOrder (l : Launch) (D : va_G) (cI cB cZ : ClassId) (ta : Nat → Nat) (aB : Nat) (aBb : Nat) (aBs : Nat) (aP : Nat) (aPp : Nat) (aPf : Nat) (sz : Nat) (bb : (Nat → Int32)) (bs : (Nat → Int32)) (pg : Int32) (ps : Int32) (pn : Int32) (pp : (Nat → Int32)) (pf : (Nat → Int32)) (x1 : Int32) (r0 : Int32) (hm : m_X0_bestOrder bb x1 = some r0) : Met l yX0_bestOrder wsX0_bestOrder ({ frames := 2, cells := 0, slots := 0, locals := 49 } : Room) (va_Pc [.ref aB, .int x1] (PW D cI cB cZ ta (w_Bridge cI cB cZ aB aBb aBs aP aPp aPf bb bs pg ps pn pp pf) sz)) (QI D cI cB cZ (va_A (w_Bridge cI cB cZ aB aBb aBs aP aPp aPf bb bs pg ps pn pp pf) sz) (w_Bridge cI cB cZ aB aBb aBs aP aPp aPf bb bs pg ps pn pp pf) r0) 0 0 (va_A (w_Bridge cI cB cZ aB aBb aBs aP aPp aPf bb bs pg ps pn pp pf) sz) := by
  refine Met.ofW (cc := cX0_bestOrder) (maxL := 6) (ret := (some .int)) (by decide) rfl ?_
  intro p e s m args below meth c s₁ B hml hv
  obtain ⟨rfl, hsz, hP, hK, hD0, hG⟩ := hv
  have hx := B.exec
  have hb := B.bytes
  have hr := B.returns
  have hts := atoms_spec (ws := wsX0_bestOrder) B.pre
  have hown : s.vm.findClass RX0 = some m.cls := findClass_of_methodNamed B.named
  have hlocks := B.notSynchronized
  subst hsz
  have hD := hD0.self (sz := s.heap.size)
  clear hD0
  have hA0 : ∀ q : Nat, s.heap.size ≤ q → va_A (w_Bridge cI cB cZ aB aBb aBs aP aPp aPf bb bs pg ps pn pp pf) s.heap.size q := fun q h => Or.inr h
  generalize hAe : va_A (w_Bridge cI cB cZ aB aBb aBs aP aPp aPf bb bs pg ps pn pp pf) s.heap.size = A at hD hG hA0 ⊢
  have hA : ∀ q : Nat, s.heap.size ≤ q → A q := hA0
  clear hA0
  have hS : va_S A s.heap s.heap [] := va_S.rf
  have hk_16 : ∀ (n : Nat) (y1 : Int32) (y2 : Int32) (y3 : Int32) (y4 : Int32), k_X0_bestOrder_16 bb n y1 y2 y3 y4 = some r0 → ∀ (ls : Array Slot) (H : Heap) (lo : List Loc), lv_has ls 6 [(0, .ref aB), (1, .int y1), (2, .int y2), (3, .int y3), (4, .int y4)] → va_P D vwCl (w_Bridge cI cB cZ aB aBb aBs aP aPp aPf bb bs pg ps pn pp pf) H → va_D A (w_Bridge cI cB cZ aB aBb aBs aP aPp aPf bb bs pg ps pn pp pf) → va_S A s.heap H lo → W p l e (headSpec wsX0_bestOrder ({ frames := 2, cells := 0, slots := 0, locals := 49 } : Room)).room s m (([.ref aB, .int x1] : List Value).toArray) below meth c H lo 0 0 (MQ below (QI D cI cB cZ A (w_Bridge cI cB cZ aB aBb aBs aP aPp aPf bb bs pg ps pn pp pf) r0) (([.ref aB, .int x1] : List Value).toArray) s 0 0 A) (F0 m 16 ls []) := by
    intro n
    induction n with
    | zero => intro y1 y2 y3 y4 hm; exact zz_nn hm
    | succ n ih =>
      intro y1 y2 y3 y4 hm ls H lo hl hP hD hS
      replace hm := (k_X0_bestOrder_16_s bb n y1 y2 y3 y4).symm.trans hm
      refine lv_iload hx hb dX0_bestOrder_16 (lv_at hl 4 rfl) ?_
      refine lv_bipush (v := (120 : Int32)) hx hb dX0_bestOrder_18 (by decide) ?_
      refine lv_icmp_ge (tgt := 54) hx hb dX0_bestOrder_20 (by decide) (fun c1 => ?_) (fun c1 => ?_)
      · have hm2 := zz_if c1 hm
        refine lv_iload_n hx hb dX0_bestOrder_54 rfl (lv_at hl 2 rfl) ?_
        have hq1 := Option.some.inj hm2
        subst hq1
        exact W.iret hx hb hr (fun t ht hW => ⟨⟨_, (), rfl, rfl, by rw [ht]; exact hP, va_K.moved hW.alike hK, hD⟩, hS.F ht⟩) hS.2.2 dX0_bestOrder_55
      · have hm3 := zz_nf c1 hm
        refine lv_aload_n hx hb dX0_bestOrder_23 rfl (lv_at hl 0 rfl) ?_
        refine lv_iload hx hb dX0_bestOrder_24 (lv_at hl 4 rfl) ?_
        refine lv_iload_n hx hb dX0_bestOrder_26 rfl (lv_at hl 1 rfl) ?_
        obtain ⟨r4, h4, hm4⟩ := ob1_e hm3
        refine gcall_i (ws' := (w_Bridge cI cB cZ aB aBb aBs aP aPp aPf bb bs pg ps pn pp pf)) (va_runSN (As := [.int y4, .int y1]) (rest := [.ref aB]) ⟨hx, hb, hml, hown, hts⟩ (c_X6_aheadInOrder l D cI cB cZ ta H.size y4 y1 r4 h4) ⟨va_cnB 2 hts gX0_bestOrder_X6_aheadInOrder_n60 rfl rfl rfl (hG.1 (.methodLinkNest RX0 60 yX6_aheadInOrder RX6) (by decide +kernel)) (hts (.initialized RX6) (by decide +kernel)) (by decide +kernel) ⟨(Nat.le_of_ble_eq_true rfl), (Nat.le_of_ble_eq_true rfl)⟩, hts (.static yX6_aheadInOrder) (by decide +kernel), trivial⟩ ⟨PW_blind, PW_at hP hD hK hS hA hG [] rfl (by decide)⟩ rfl rfl hl.1 rfl (lv_room (Nat.le_of_ble_eq_true rfl)) dX0_bestOrder_27 ⟨(Nat.le_of_ble_eq_true rfl), (Nat.le_of_ble_eq_true rfl)⟩) hP hD hS hA [] [0, 1, 2, 3, 4, 5] [0, 1, 2, 3, 4, 5] rfl rfl (by decide) (by decide) (by decide) rfl (fun H5 lo5 hP5 hD5 hS5 => ?_)
        clear hP hD hS
        refine lv_iload_n hx hb dX0_bestOrder_30 rfl (lv_at hl 1 rfl) ?_
        obtain ⟨r6, h6, hm6⟩ := ob1_e hm4
        refine gcall_i (ws' := (w_Bridge cI cB cZ aB aBb aBs aP aPp aPf bb bs pg ps pn pp pf)) (va_runV (As := [.int r4, .int y1]) (rest := []) ⟨hx, hb, hml, hown, hts⟩ (c_X0_stepEffect l D cI cB cZ ta aB aBb aBs aP aPp aPf H5.size bb bs pg ps pn pp pf r4 y1 r6 h6) (cwV 2 hts gX0_bestOrder_X0_stepEffect rfl rfl rfl (by decide +kernel) ⟨(Nat.le_of_ble_eq_true rfl), (Nat.le_of_ble_eq_true rfl)⟩) ⟨PW_blind, va_recv hK hP5 rfl (q0 := 0) rfl, PW_at hP5 hD5 hK hS5 hA hG [0, 1, 2, 3, 4, 5] rfl (by decide)⟩ rfl rfl hl.1 rfl (lv_room (Nat.le_of_ble_eq_true rfl)) dX0_bestOrder_31 ⟨(Nat.le_of_ble_eq_true rfl), (Nat.le_of_ble_eq_true rfl)⟩) hP5 hD5 hS5 hA [0, 1, 2, 3, 4, 5] [] [0, 1, 2, 3, 4, 5] rfl rfl (by decide) (by decide) (by decide) rfl (fun H7 lo7 hP7 hD7 hS7 => ?_)
        clear hP5 hD5 hS5
        refine lv_istore (lv' := [(5, .int r6), (0, .ref aB), (1, .int y1), (2, .int y2), (3, .int y3), (4, .int y4)]) hx hb dX0_bestOrder_34 hl (by decide) rfl (fun ls8 hl8 => ?_)
        refine lv_iload hx hb dX0_bestOrder_36 (lv_at hl8 0 rfl) ?_
        refine lv_iload_n hx hb dX0_bestOrder_38 rfl (lv_at hl8 4 rfl) ?_
        refine lv_icmp_le (tgt := 48) hx hb dX0_bestOrder_39 (by decide) (fun c9 => ?_) (fun c9 => ?_)
        · have hm10 := zz_if c9 hm6
          refine lv_iinc (v := (y4 + (1 : Int32))) (lv' := [(4, .int (y4 + (1 : Int32))), (5, .int r6), (0, .ref aB), (1, .int y1), (2, .int y2), (3, .int y3)]) hx hb dX0_bestOrder_48 hl8 (k := 5) rfl (by rfl) (by decide) rfl (fun ls12 hl12 => ?_)
          refine lv_goto (tgt := 16) hx hb dX0_bestOrder_51 (by decide) ?_
          exact ih y1 y2 y3 (y4 + (1 : Int32)) hm10 ls12 H7 lo7 (lv_sub hl12 [2, 3, 4, 5, 0] rfl) hP7 hD7 hS7
        · have hm11 := zz_nf c9 hm6
          refine lv_iload hx hb dX0_bestOrder_42 (lv_at hl8 0 rfl) ?_
          refine lv_istore_n (lv' := [(3, .int r6), (5, .int r6), (0, .ref aB), (1, .int y1), (2, .int y2), (4, .int y4)]) hx hb dX0_bestOrder_44 rfl hl8 (by decide) rfl (fun ls13 hl13 => ?_)
          refine lv_iload hx hb dX0_bestOrder_45 (lv_at hl13 5 rfl) ?_
          refine lv_istore_n (lv' := [(2, .int y4), (3, .int r6), (5, .int r6), (0, .ref aB), (1, .int y1), (4, .int y4)]) hx hb dX0_bestOrder_47 rfl hl13 (by decide) rfl (fun ls14 hl14 => ?_)
          refine lv_iinc (v := (y4 + (1 : Int32))) (lv' := [(4, .int (y4 + (1 : Int32))), (2, .int y4), (3, .int r6), (5, .int r6), (0, .ref aB), (1, .int y1)]) hx hb dX0_bestOrder_48 hl14 (k := 5) rfl (by rfl) (by decide) rfl (fun ls15 hl15 => ?_)
          refine lv_goto (tgt := 16) hx hb dX0_bestOrder_51 (by decide) ?_
          exact ih y1 y4 r6 (y4 + (1 : Int32)) hm11 ls15 H7 lo7 (lv_sub hl15 [4, 5, 1, 2, 0] rfl) hP7 hD7 hS7
  have hl := lv_entry ([.ref aB, .int x1]) (n := 6) (Nat.le_of_ble_eq_true rfl)
  rw [lg_entry_eq]
  generalize (lg_sl ([.ref aB, .int x1]) ++ List.replicate (6 - (lg_sl ([.ref aB, .int x1])).length) Slot.unset).toArray = ls at hl ⊢
  have hl : lv_has ls 6 [(0, .ref aB), (1, .int x1)] := hl
  replace hm : (ob1 (m_X6_aheadInOrder (0 : Int32) x1) (fun r17 => (ob1 (m_X0_stepEffect bb r17 x1) (fun r19 => (k_X0_bestOrder_16 bb FU x1 (0 : Int32) r19 (1 : Int32)))))) = some r0 := hm
  refine lv_iconst (v := (0 : Int32)) hx hb dX0_bestOrder_0 (by decide) ?_
  refine lv_istore_n (lv' := [(2, .int (0 : Int32)), (0, .ref aB), (1, .int x1)]) hx hb dX0_bestOrder_1 rfl hl (by decide) rfl (fun ls16 hl16 => ?_)
  refine lv_aload_n hx hb dX0_bestOrder_2 rfl (lv_at hl16 1 rfl) ?_
  refine lv_iconst (v := (0 : Int32)) hx hb dX0_bestOrder_3 (by decide) ?_
  refine lv_iload_n hx hb dX0_bestOrder_4 rfl (lv_at hl16 2 rfl) ?_
  obtain ⟨r17, h17, hm17⟩ := ob1_e hm
  refine gcall_i (ws' := (w_Bridge cI cB cZ aB aBb aBs aP aPp aPf bb bs pg ps pn pp pf)) (va_runSN (As := [.int (0 : Int32), .int x1]) (rest := [.ref aB]) ⟨hx, hb, hml, hown, hts⟩ (c_X6_aheadInOrder l D cI cB cZ ta s.heap.size (0 : Int32) x1 r17 h17) ⟨va_cnB 2 hts gX0_bestOrder_X6_aheadInOrder_n60 rfl rfl rfl (hG.1 (.methodLinkNest RX0 60 yX6_aheadInOrder RX6) (by decide +kernel)) (hts (.initialized RX6) (by decide +kernel)) (by decide +kernel) ⟨(Nat.le_of_ble_eq_true rfl), (Nat.le_of_ble_eq_true rfl)⟩, hts (.static yX6_aheadInOrder) (by decide +kernel), trivial⟩ ⟨PW_blind, PW_at hP hD hK hS hA hG [] rfl (by decide)⟩ rfl rfl hl16.1 rfl (lv_room (Nat.le_of_ble_eq_true rfl)) dX0_bestOrder_5 ⟨(Nat.le_of_ble_eq_true rfl), (Nat.le_of_ble_eq_true rfl)⟩) hP hD hS hA [] [0, 1, 2, 3, 4, 5] [0, 1, 2, 3, 4, 5] rfl rfl (by decide) (by decide) (by decide) rfl (fun H18 lo18 hP18 hD18 hS18 => ?_)
  clear hP hD hS
  refine lv_iload_n hx hb dX0_bestOrder_8 rfl (lv_at hl16 2 rfl) ?_
  obtain ⟨r19, h19, hm19⟩ := ob1_e hm17
  refine gcall_i (ws' := (w_Bridge cI cB cZ aB aBb aBs aP aPp aPf bb bs pg ps pn pp pf)) (va_runV (As := [.int r17, .int x1]) (rest := []) ⟨hx, hb, hml, hown, hts⟩ (c_X0_stepEffect l D cI cB cZ ta aB aBb aBs aP aPp aPf H18.size bb bs pg ps pn pp pf r17 x1 r19 h19) (cwV 2 hts gX0_bestOrder_X0_stepEffect rfl rfl rfl (by decide +kernel) ⟨(Nat.le_of_ble_eq_true rfl), (Nat.le_of_ble_eq_true rfl)⟩) ⟨PW_blind, va_recv hK hP18 rfl (q0 := 0) rfl, PW_at hP18 hD18 hK hS18 hA hG [0, 1, 2, 3, 4, 5] rfl (by decide)⟩ rfl rfl hl16.1 rfl (lv_room (Nat.le_of_ble_eq_true rfl)) dX0_bestOrder_9 ⟨(Nat.le_of_ble_eq_true rfl), (Nat.le_of_ble_eq_true rfl)⟩) hP18 hD18 hS18 hA [0, 1, 2, 3, 4, 5] [] [0, 1, 2, 3, 4, 5] rfl rfl (by decide) (by decide) (by decide) rfl (fun H20 lo20 hP20 hD20 hS20 => ?_)
  clear hP18 hD18 hS18
  refine lv_istore_n (lv' := [(3, .int r19), (2, .int (0 : Int32)), (0, .ref aB), (1, .int x1)]) hx hb dX0_bestOrder_12 rfl hl16 (by decide) rfl (fun ls21 hl21 => ?_)
  refine lv_iconst (v := (1 : Int32)) hx hb dX0_bestOrder_13 (by decide) ?_
  refine lv_istore (lv' := [(4, .int (1 : Int32)), (3, .int r19), (2, .int (0 : Int32)), (0, .ref aB), (1, .int x1)]) hx hb dX0_bestOrder_14 hl21 (by decide) rfl (fun ls22 hl22 => ?_)
  exact hk_16 FU x1 (0 : Int32) r19 (1 : Int32) hm19 ls22 H20 lo20 (lv_sub hl22 [3, 4, 2, 1, 0] rfl) hP20 hD20 hS20
theorem iw_X0_mostFlattering_X0 : ∀ w ∈ wsX00, w ∈ wsX0_mostFlattering := by decide +kernel
theorem iw_X0_mostFlattering_X2 : ∀ w ∈ wsX20, w ∈ wsX0_mostFlattering := by decide +kernel
set_option maxHeartbeats 4000000 in
set_option maxRecDepth 100000 in
theorem c_X0_mostFlattering (l : Launch) (D : va_G) (cI cB cZ : ClassId) (ta : Nat → Nat) (aB : Nat) (aBb : Nat) (aBs : Nat) (aP : Nat) (aPp : Nat) (aPf : Nat) (sz : Nat) (bb : (Nat → Int32)) (bs : (Nat → Int32)) (pg : Int32) (ps : Int32) (pn : Int32) (pp : (Nat → Int32)) (pf : (Nat → Int32)) (x1 : Int32) (x2 : Int32) (x3 : Int32) (x4 : Int32) (r0 : Int32) (u_bb : (Nat → Int32)) (hm : m_X0_mostFlattering bb pg pn pp pf x1 x2 x3 x4 = some (r0, u_bb)) : Met l yX0_mostFlattering wsX0_mostFlattering ({ frames := 3, cells := 0, slots := 0, locals := 76 } : Room) (va_Pc [.ref aB, .int x1, .int x2, .int x3, .int x4] (PW D cI cB cZ ta (w_Bridge cI cB cZ aB aBb aBs aP aPp aPf bb bs pg ps pn pp pf) sz)) (QI D cI cB cZ (va_A (w_Bridge cI cB cZ aB aBb aBs aP aPp aPf bb bs pg ps pn pp pf) sz) (w_Bridge cI cB cZ aB aBb aBs aP aPp aPf u_bb bs pg ps pn pp pf) r0) 0 0 (va_A (w_Bridge cI cB cZ aB aBb aBs aP aPp aPf bb bs pg ps pn pp pf) sz) := by
  refine Met.ofW (cc := cX0_mostFlattering) (maxL := 7) (ret := (some .int)) (by decide) rfl ?_
  intro p e s m args below meth c s₁ B hml hv
  obtain ⟨rfl, hsz, hP, hK, hD0, hG⟩ := hv
  have hx := B.exec
  have hb := B.bytes
  have hr := B.returns
  have hts := atoms_spec (ws := wsX0_mostFlattering) B.pre
  have hown : s.vm.findClass RX0 = some m.cls := findClass_of_methodNamed B.named
  have hlocks := B.notSynchronized
  subst hsz
  have hD := hD0.self (sz := s.heap.size)
  clear hD0
  have hA0 : ∀ q : Nat, s.heap.size ≤ q → va_A (w_Bridge cI cB cZ aB aBb aBs aP aPp aPf bb bs pg ps pn pp pf) s.heap.size q := fun q h => Or.inr h
  generalize hAe : va_A (w_Bridge cI cB cZ aB aBb aBs aP aPp aPf bb bs pg ps pn pp pf) s.heap.size = A at hD hG hA0 ⊢
  have hA : ∀ q : Nat, s.heap.size ≤ q → A q := hA0
  clear hA0
  have hS : va_S A s.heap s.heap [] := va_S.rf
  have iw_X0 := iw_X0_mostFlattering_X0
  have iw_X2 := iw_X0_mostFlattering_X2
  have hk_21 : ∀ (n : Nat) (bb : (Nat → Int32)) (y2 : Int32) (y3 : Int32) (y4 : Int32) (y5 : Int32) (y6 : Int32), k_X0_mostFlattering_21 pg pn pp pf n bb y2 y3 y4 y5 y6 = some (r0, u_bb) → ∀ (ls : Array Slot) (H : Heap) (lo : List Loc), lv_has ls 7 [(0, .ref aB), (2, .int y2), (3, .int y3), (4, .int y4), (5, .int y5), (6, .int y6)] → va_P D vwCl (w_Bridge cI cB cZ aB aBb aBs aP aPp aPf bb bs pg ps pn pp pf) H → va_D A (w_Bridge cI cB cZ aB aBb aBs aP aPp aPf bb bs pg ps pn pp pf) → va_S A s.heap H lo → W p l e (headSpec wsX0_mostFlattering ({ frames := 3, cells := 0, slots := 0, locals := 76 } : Room)).room s m (([.ref aB, .int x1, .int x2, .int x3, .int x4] : List Value).toArray) below meth c H lo 0 0 (MQ below (QI D cI cB cZ A (w_Bridge cI cB cZ aB aBb aBs aP aPp aPf u_bb bs pg ps pn pp pf) r0) (([.ref aB, .int x1, .int x2, .int x3, .int x4] : List Value).toArray) s 0 0 A) (F0 m 21 ls []) := by
    intro n
    induction n with
    | zero => intro bb y2 y3 y4 y5 y6 hm; exact zz_nn hm
    | succ n ih =>
      intro bb y2 y3 y4 y5 y6 hm ls H lo hl hP hD hS
      replace hm := (k_X0_mostFlattering_21_s pg pn pp pf n bb y2 y3 y4 y5 y6).symm.trans hm
      refine lv_iload hx hb dX0_mostFlattering_21 (lv_at hl 5 rfl) ?_
      refine lv_aload_n hx hb dX0_mostFlattering_23 rfl (lv_at hl 0 rfl) ?_
      refine va_get (D := D) (ci := 0) (v := .ref aP) (C := RX0) (T := TX0) (N := 3) hx hb hts iw_X0 hown hK hP 0 rfl rfl 0 (by decide) (hts (.fieldLink RX0 18 "VarianceBridge$Bridge" "plan" "LVarianceBridge$Plan;") (by decide +kernel)) (fun _ h9 => h9) rfl dX0_mostFlattering_24 ?_
      refine va_getN (D := D) (ci := 2) (v := .int pn) (C := RX2) (T := TX2) (N := 5) hx hb hts iw_X2 hown hK hP 3 rfl rfl 4 (by decide) (va_Nw.use rfl (hG.1 (.fieldLinkNest RX0 32 RX2 "nodes" "I" RX6) (by decide +kernel))) (fun _ h9 => h9) rfl dX0_mostFlattering_27 ?_
      refine lv_icmp_ge (tgt := 68) hx hb dX0_mostFlattering_30 (by decide) (fun c1 => ?_) (fun c1 => ?_)
      · have hm2 := zz_if c1 hm
        refine lv_aload_n hx hb dX0_mostFlattering_68 rfl (lv_at hl 0 rfl) ?_
        refine lv_iload hx hb dX0_mostFlattering_69 (lv_at hl 3 rfl) ?_
        obtain ⟨r4, h4, hm4⟩ := ob1_e hm2
        refine gcall_i (ws' := (w_Bridge cI cB cZ aB aBb aBs aP aPp aPf bb bs pg ps pn pp pf)) (va_runV (As := [.int y4]) (rest := []) ⟨hx, hb, hml, hown, hts⟩ (c_X0_bestOrder l D cI cB cZ ta aB aBb aBs aP aPp aPf H.size bb bs pg ps pn pp pf y4 r4 h4) (cwV 1 hts gX0_mostFlattering_X0_bestOrder rfl rfl rfl (by decide +kernel) ⟨(Nat.le_of_ble_eq_true rfl), (Nat.le_of_ble_eq_true rfl)⟩) ⟨PW_blind, va_recv hK hP rfl (q0 := 0) rfl, PW_at hP hD hK hS hA hG [0, 1, 2, 3, 4, 5] rfl (by decide)⟩ rfl rfl hl.1 rfl (lv_room (Nat.le_of_ble_eq_true rfl)) dX0_mostFlattering_71 ⟨(Nat.le_of_ble_eq_true rfl), (Nat.le_of_ble_eq_true rfl)⟩) hP hD hS hA [0, 1, 2, 3, 4, 5] [] [0, 1, 2, 3, 4, 5] rfl rfl (by decide) (by decide) (by decide) rfl (fun H5 lo5 hP5 hD5 hS5 => ?_)
        clear hP hD hS
        obtain ⟨hq1, hq2⟩ := Prod.mk.inj (Option.some.inj hm4)
        subst hq1
        subst hq2
        exact W.iret hx hb hr (fun t ht hW => ⟨⟨_, (), rfl, rfl, by rw [ht]; exact hP5, va_K.moved hW.alike hK, hD5⟩, hS5.F ht⟩) hS5.2.2 dX0_mostFlattering_74
      · have hm3 := zz_nf c1 hm
        refine lv_iload hx hb dX0_mostFlattering_33 (lv_at hl 4 rfl) ?_
        refine lv_iload hx hb dX0_mostFlattering_35 (lv_at hl 5 rfl) ?_
        refine lv_ishr hx hb dX0_mostFlattering_37 ?_
        refine lv_iconst (v := (1 : Int32)) hx hb dX0_mostFlattering_38 (by decide) ?_
        refine lv_iand hx hb dX0_mostFlattering_39 ?_
        refine lv_if_eq (tgt := 62) hx hb dX0_mostFlattering_40 (by decide) (fun c6 => ?_) (fun c6 => ?_)
        · have hm7 := zz_if c6 hm3
          refine lv_iinc (v := (y6 + (1 : Int32))) (lv' := [(6, .int (y6 + (1 : Int32))), (0, .ref aB), (2, .int y2), (3, .int y3), (4, .int y4), (5, .int y5)]) hx hb dX0_mostFlattering_62 hl (k := 5) rfl (by rfl) (by decide) rfl (fun ls9 hl9 => ?_)
          refine lv_goto (tgt := 21) hx hb dX0_mostFlattering_65 (by decide) ?_
          exact ih bb y2 y3 y4 y5 (y6 + (1 : Int32)) hm7 ls9 H lo (lv_sub hl9 [1, 2, 3, 4, 5, 0] rfl) hP hD hS
        · have hm8 := zz_nf c6 hm3
          refine lv_aload_n hx hb dX0_mostFlattering_43 rfl (lv_at hl 0 rfl) ?_
          refine lv_iload hx hb dX0_mostFlattering_44 (lv_at hl 5 rfl) ?_
          refine lv_iload_n hx hb dX0_mostFlattering_46 rfl (lv_at hl 1 rfl) ?_
          refine lv_iload_n hx hb dX0_mostFlattering_47 rfl (lv_at hl 2 rfl) ?_
          obtain ⟨r10, h10, hm10⟩ := ob1_e hm8
          refine gcall_i (ws' := (w_Bridge cI cB cZ aB aBb aBs aP aPp aPf bb bs pg ps pn pp pf)) (va_runV (As := [.int y6, .int y2, .int y3]) (rest := []) ⟨hx, hb, hml, hown, hts⟩ (c_X0_fateOf l D cI cB cZ ta aB aBb aBs aP aPp aPf H.size bb bs pg ps pn pp pf y6 y2 y3 r10 h10) (cwV 3 hts gX0_mostFlattering_X0_fateOf rfl rfl rfl (by decide +kernel) ⟨(Nat.le_of_ble_eq_true rfl), (Nat.le_of_ble_eq_true rfl)⟩) ⟨PW_blind, va_recv hK hP rfl (q0 := 0) rfl, PW_at hP hD hK hS hA hG [0, 1, 2, 3, 4, 5] rfl (by decide)⟩ rfl rfl hl.1 rfl (lv_room (Nat.le_of_ble_eq_true rfl)) dX0_mostFlattering_48 ⟨(Nat.le_of_ble_eq_true rfl), (Nat.le_of_ble_eq_true rfl)⟩) hP hD hS hA [0, 1, 2, 3, 4, 5] [] [0, 1, 2, 3, 4, 5] rfl rfl (by decide) (by decide) (by decide) rfl (fun H11 lo11 hP11 hD11 hS11 => ?_)
          clear hP hD hS
          refine lv_if_ne (tgt := 62) hx hb dX0_mostFlattering_51 (by decide) (fun c12 => ?_) (fun c12 => ?_)
          · have hm13 := zz_nf c12 hm10
            refine lv_iinc (v := (y6 + (1 : Int32))) (lv' := [(6, .int (y6 + (1 : Int32))), (0, .ref aB), (2, .int y2), (3, .int y3), (4, .int y4), (5, .int y5)]) hx hb dX0_mostFlattering_62 hl (k := 5) rfl (by rfl) (by decide) rfl (fun ls15 hl15 => ?_)
            refine lv_goto (tgt := 21) hx hb dX0_mostFlattering_65 (by decide) ?_
            exact ih bb y2 y3 y4 y5 (y6 + (1 : Int32)) hm13 ls15 H11 lo11 (lv_sub hl15 [1, 2, 3, 4, 5, 0] rfl) hP11 hD11 hS11
          · have hm14 := zz_if c12 hm10
            refine lv_aload_n hx hb dX0_mostFlattering_54 rfl (lv_at hl 0 rfl) ?_
            refine lv_iload hx hb dX0_mostFlattering_55 (lv_at hl 5 rfl) ?_
            refine lv_iload_n hx hb dX0_mostFlattering_57 rfl (lv_at hl 1 rfl) ?_
            refine lv_iload_n hx hb dX0_mostFlattering_58 rfl (lv_at hl 2 rfl) ?_
            obtain ⟨bb_16, h16, hm16⟩ := ob1_e hm14
            refine gcall_v (ws' := (w_Bridge cI cB cZ aB aBb aBs aP aPp aPf bb_16 bs pg ps pn pp pf)) (va_runV (As := [.int y6, .int y2, .int y3]) (rest := []) ⟨hx, hb, hml, hown, hts⟩ (c_X0_addBlends l D cI cB cZ ta aB aBb aBs aP aPp aPf H11.size bb bs pg ps pn pp pf y6 y2 y3 bb_16 h16) (cwV 3 hts gX0_mostFlattering_X0_addBlends rfl rfl rfl (by decide +kernel) ⟨(Nat.le_of_ble_eq_true rfl), (Nat.le_of_ble_eq_true rfl)⟩) ⟨PW_blind, va_recv hK hP11 rfl (q0 := 0) rfl, PW_at hP11 hD11 hK hS11 hA hG [0, 1, 2, 3, 4, 5] rfl (by decide)⟩ rfl rfl hl.1 rfl (lv_room (Nat.le_of_ble_eq_true rfl)) dX0_mostFlattering_59 ⟨(Nat.le_of_ble_eq_true rfl), (Nat.le_of_ble_eq_true rfl)⟩) hP11 hD11 hS11 hA [0, 1, 2, 3, 4, 5] [] [0, 1, 2, 3, 4, 5] rfl rfl (by decide) (by decide) (by decide) rfl (fun H17 lo17 hP17 hD17 hS17 => ?_)
            clear hP11 hD11 hS11
            refine lv_iinc (v := (y6 + (1 : Int32))) (lv' := [(6, .int (y6 + (1 : Int32))), (0, .ref aB), (2, .int y2), (3, .int y3), (4, .int y4), (5, .int y5)]) hx hb dX0_mostFlattering_62 hl (k := 5) rfl (by rfl) (by decide) rfl (fun ls18 hl18 => ?_)
            refine lv_goto (tgt := 21) hx hb dX0_mostFlattering_65 (by decide) ?_
            exact ih bb_16 y2 y3 y4 y5 (y6 + (1 : Int32)) hm16 ls18 H17 lo17 (lv_sub hl18 [1, 2, 3, 4, 5, 0] rfl) hP17 hD17 hS17
  have hl := lv_entry ([.ref aB, .int x1, .int x2, .int x3, .int x4]) (n := 7) (Nat.le_of_ble_eq_true rfl)
  rw [lg_entry_eq]
  generalize (lg_sl ([.ref aB, .int x1, .int x2, .int x3, .int x4]) ++ List.replicate (7 - (lg_sl ([.ref aB, .int x1, .int x2, .int x3, .int x4])).length) Slot.unset).toArray = ls at hl ⊢
  have hl : lv_has ls 7 [(0, .ref aB), (1, .int x1), (2, .int x2), (3, .int x3), (4, .int x4)] := hl
  replace hm : (ob1 (m_X2_leavesBelow pg pn pp x1) (fun r19 => (ob1 (m_J7_fill_53178 32 bb (0 : Int32)) (fun bb_22 => (k_X0_mostFlattering_21 pg pn pp pf FU bb_22 x2 x3 x4 r19 (1 : Int32)))))) = some (r0, u_bb) := hm
  refine lv_aload_n hx hb dX0_mostFlattering_0 rfl (lv_at hl 0 rfl) ?_
  refine va_get (D := D) (ci := 0) (v := .ref aP) (C := RX0) (T := TX0) (N := 3) hx hb hts iw_X0 hown hK hP 0 rfl rfl 0 (by decide) (hts (.fieldLink RX0 18 "VarianceBridge$Bridge" "plan" "LVarianceBridge$Plan;") (by decide +kernel)) (fun _ h9 => h9) rfl dX0_mostFlattering_1 ?_
  refine lv_iload_n hx hb dX0_mostFlattering_4 rfl (lv_at hl 1 rfl) ?_
  obtain ⟨r19, h19, hm19⟩ := ob1_e hm
  refine gcall_i (ws' := (w_Bridge cI cB cZ aB aBb aBs aP aPp aPf bb bs pg ps pn pp pf)) (va_runVN (As := [.int x1]) (rest := []) ⟨hx, hb, hml, hown, hts⟩ (c_X2_leavesBelow l D cI cB cZ ta aP aPp aPf s.heap.size pg ps pn pp pf x1 r19 h19) ⟨va_cnB 1 hts gX0_mostFlattering_X2_leavesBelow_n28 rfl rfl rfl (hG.1 (.methodLinkNest RX0 28 yX2_leavesBelow RX6) (by decide +kernel)) (hts (.initialized RX2) (by decide +kernel)) (by decide +kernel) ⟨(Nat.le_of_ble_eq_true rfl), (Nat.le_of_ble_eq_true rfl)⟩, hts (.instanceMethod yX2_leavesBelow) (by decide +kernel), hts (.selects RX2 yX2_leavesBelow yX2_leavesBelow) (by decide +kernel)⟩ ⟨PW_blind, va_recv hK hP rfl (q0 := 3) rfl, PW_at hP hD hK hS hA hG [3, 4, 5] rfl (by decide)⟩ rfl rfl hl.1 rfl (lv_room (Nat.le_of_ble_eq_true rfl)) dX0_mostFlattering_5 ⟨(Nat.le_of_ble_eq_true rfl), (Nat.le_of_ble_eq_true rfl)⟩) hP hD hS hA [3, 4, 5] [0, 1, 2] [0, 1, 2, 3, 4, 5] rfl rfl (by decide) (by decide) (by decide) rfl (fun H20 lo20 hP20 hD20 hS20 => ?_)
  clear hP hD hS
  refine lv_istore (lv' := [(5, .int r19), (0, .ref aB), (1, .int x1), (2, .int x2), (3, .int x3), (4, .int x4)]) hx hb dX0_mostFlattering_8 hl (by decide) rfl (fun ls21 hl21 => ?_)
  refine lv_aload_n hx hb dX0_mostFlattering_10 rfl (lv_at hl21 1 rfl) ?_
  refine va_get (D := D) (ci := 0) (v := .ref aBb) (C := RX0) (T := TX0) (N := 3) hx hb hts iw_X0 hown hK hP20 0 rfl rfl 1 (by decide) (hts (.fieldLink RX0 11 "VarianceBridge$Bridge" "blends" "[I") (by decide +kernel)) (fun _ h9 => h9) rfl dX0_mostFlattering_11 ?_
  refine lv_iconst (v := (0 : Int32)) hx hb dX0_mostFlattering_14 (by decide) ?_
  obtain ⟨bb_22, h22, hm22⟩ := ob1_e hm19
  refine gcall_v (ws' := (w_Bridge cI cB cZ aB aBb aBs aP aPp aPf bb_22 bs pg ps pn pp pf)) (va_runS (As := [.ref aBb, .int (0 : Int32)]) (rest := []) ⟨hx, hb, hml, hown, hts⟩ (c_J7_fill_53178 l D cI cB cZ ta aBb H20.size 32 bb (0 : Int32) bb_22 h22) (va_cwS 2 hts gX0_mostFlattering_J7_fill_53178 rfl rfl rfl (by decide +kernel) ⟨(Nat.le_of_ble_eq_true rfl), (Nat.le_of_ble_eq_true rfl)⟩) ⟨PW_blind, PW_at hP20 hD20 hK hS20 hA hG [1] rfl (by decide)⟩ rfl rfl hl21.1 rfl (lv_room (Nat.le_of_ble_eq_true rfl)) dX0_mostFlattering_15 ⟨(Nat.le_of_ble_eq_true rfl), (Nat.le_of_ble_eq_true rfl)⟩) hP20 hD20 hS20 hA [1] [0, 2, 3, 4, 5] [0, 5, 1, 2, 3, 4] rfl rfl (by decide) (by decide) (by decide) rfl (fun H23 lo23 hP23 hD23 hS23 => ?_)
  clear hP20 hD20 hS20
  refine lv_iconst (v := (1 : Int32)) hx hb dX0_mostFlattering_18 (by decide) ?_
  refine lv_istore (lv' := [(6, .int (1 : Int32)), (5, .int r19), (0, .ref aB), (1, .int x1), (2, .int x2), (3, .int x3), (4, .int x4)]) hx hb dX0_mostFlattering_19 hl21 (by decide) rfl (fun ls24 hl24 => ?_)
  exact hk_21 FU bb_22 x2 x3 x4 r19 (1 : Int32) hm22 ls24 H23 lo23 (lv_sub hl24 [2, 4, 5, 6, 1, 0] rfl) hP23 hD23 hS23
set_option maxHeartbeats 4000000 in
set_option maxRecDepth 100000 in
theorem c_X2_leafValue (l : Launch) (D : va_G) (cI cB cZ : ClassId) (ta : Nat → Nat) (aP : Nat) (aPp : Nat) (aPf : Nat) (sz : Nat) (pg : Int32) (ps : Int32) (pn : Int32) (pp : (Nat → Int32)) (pf : (Nat → Int32)) (x1 : Int32) (x2 : Int32) (r0 : Int32) (hm : m_X2_leafValue pf x1 x2 = some r0) : Met l yX2_leafValue wsX2_leafValue ({ frames := 2, cells := 0, slots := 0, locals := 52 } : Room) (va_Pc [.ref aP, .int x1, .int x2] (PW D cI cB cZ ta (w_Plan cI cB cZ aP aPp aPf pg ps pn pp pf) sz)) (QI D cI cB cZ (va_A (w_Plan cI cB cZ aP aPp aPf pg ps pn pp pf) sz) (w_Plan cI cB cZ aP aPp aPf pg ps pn pp pf) r0) 0 0 (va_A (w_Plan cI cB cZ aP aPp aPf pg ps pn pp pf) sz) := by
  refine Met.ofW (cc := cX2_leafValue) (maxL := 3) (ret := (some .int)) (by decide) rfl ?_
  intro p e s m args below meth c s₁ B hml hv
  obtain ⟨rfl, hsz, hP, hK, hD0, hG⟩ := hv
  have hx := B.exec
  have hb := B.bytes
  have hr := B.returns
  have hts := atoms_spec (ws := wsX2_leafValue) B.pre
  have hown : s.vm.findClass RX2 = some m.cls := findClass_of_methodNamed B.named
  have hlocks := B.notSynchronized
  subst hsz
  have hD := hD0.self (sz := s.heap.size)
  clear hD0
  have hA0 : ∀ q : Nat, s.heap.size ≤ q → va_A (w_Plan cI cB cZ aP aPp aPf pg ps pn pp pf) s.heap.size q := fun q h => Or.inr h
  generalize hAe : va_A (w_Plan cI cB cZ aP aPp aPf pg ps pn pp pf) s.heap.size = A at hD hG hA0 ⊢
  have hA : ∀ q : Nat, s.heap.size ≤ q → A q := hA0
  clear hA0
  have hS : va_S A s.heap s.heap [] := va_S.rf
  have hl := lv_entry ([.ref aP, .int x1, .int x2]) (n := 3) (Nat.le_of_ble_eq_true rfl)
  rw [lg_entry_eq]
  generalize (lg_sl ([.ref aP, .int x1, .int x2]) ++ List.replicate (3 - (lg_sl ([.ref aP, .int x1, .int x2])).length) Slot.unset).toArray = ls at hl ⊢
  have hl : lv_has ls 3 [(0, .ref aP), (1, .int x1), (2, .int x2)] := hl
  replace hm : (ob1 (m_X2_blendedValue pf x1 x2 x2 (0 : Int32)) (fun r1 => some r1)) = some r0 := hm
  refine lv_aload_n hx hb dX2_leafValue_0 rfl (lv_at hl 0 rfl) ?_
  refine lv_iload_n hx hb dX2_leafValue_1 rfl (lv_at hl 1 rfl) ?_
  refine lv_iload_n hx hb dX2_leafValue_2 rfl (lv_at hl 2 rfl) ?_
  refine lv_iload_n hx hb dX2_leafValue_3 rfl (lv_at hl 2 rfl) ?_
  refine lv_iconst (v := (0 : Int32)) hx hb dX2_leafValue_4 (by decide) ?_
  obtain ⟨r1, h1, hm1⟩ := ob1_e hm
  refine gcall_i (ws' := (w_Plan cI cB cZ aP aPp aPf pg ps pn pp pf)) (va_runV (As := [.int x1, .int x2, .int x2, .int (0 : Int32)]) (rest := []) ⟨hx, hb, hml, hown, hts⟩ (c_X2_blendedValue l D cI cB cZ ta aP aPp aPf s.heap.size pg ps pn pp pf x1 x2 x2 (0 : Int32) r1 h1) (cwV 4 hts gX2_leafValue_X2_blendedValue rfl rfl rfl (by decide +kernel) ⟨(Nat.le_of_ble_eq_true rfl), (Nat.le_of_ble_eq_true rfl)⟩) ⟨PW_blind, va_recv hK hP rfl (q0 := 0) rfl, PW_at hP hD hK hS hA hG [0, 1, 2] rfl (by decide)⟩ rfl rfl hl.1 rfl (lv_room (Nat.le_of_ble_eq_true rfl)) dX2_leafValue_5 ⟨(Nat.le_of_ble_eq_true rfl), (Nat.le_of_ble_eq_true rfl)⟩) hP hD hS hA [0, 1, 2] [] [0, 1, 2] rfl rfl (by decide) (by decide) (by decide) rfl (fun H2 lo2 hP2 hD2 hS2 => ?_)
  clear hP hD hS
  have hq1 := Option.some.inj hm1
  subst hq1
  exact W.iret hx hb hr (fun t ht hW => ⟨⟨_, (), rfl, rfl, by rw [ht]; exact hP2, va_K.moved hW.alike hK, hD2⟩, hS2.F ht⟩) hS2.2.2 dX2_leafValue_8
theorem iw_X0_moversAheadOf_X0 : ∀ w ∈ wsX00, w ∈ wsX0_moversAheadOf := by decide +kernel
theorem iw_X0_moversAheadOf_X2 : ∀ w ∈ wsX20, w ∈ wsX0_moversAheadOf := by decide +kernel
set_option maxHeartbeats 4000000 in
set_option maxRecDepth 100000 in
theorem c_X0_moversAheadOf (l : Launch) (D : va_G) (cI cB cZ : ClassId) (ta : Nat → Nat) (aB : Nat) (aBb : Nat) (aBs : Nat) (aP : Nat) (aPp : Nat) (aPf : Nat) (sz : Nat) (bb : (Nat → Int32)) (bs : (Nat → Int32)) (pg : Int32) (ps : Int32) (pn : Int32) (pp : (Nat → Int32)) (pf : (Nat → Int32)) (x1 : Int32) (r0 : Int32) (hm : m_X0_moversAheadOf bs pg pn x1 = some r0) : Met l yX0_moversAheadOf wsX0_moversAheadOf ({ frames := 2, cells := 0, slots := 0, locals := 42 } : Room) (va_Pc [.ref aB, .int x1] (PW D cI cB cZ ta (w_Bridge cI cB cZ aB aBb aBs aP aPp aPf bb bs pg ps pn pp pf) sz)) (QI D cI cB cZ (va_A (w_Bridge cI cB cZ aB aBb aBs aP aPp aPf bb bs pg ps pn pp pf) sz) (w_Bridge cI cB cZ aB aBb aBs aP aPp aPf bb bs pg ps pn pp pf) r0) 0 0 (va_A (w_Bridge cI cB cZ aB aBb aBs aP aPp aPf bb bs pg ps pn pp pf) sz) := by
  refine Met.ofW (cc := cX0_moversAheadOf) (maxL := 6) (ret := (some .int)) (by decide) rfl ?_
  intro p e s m args below meth c s₁ B hml hv
  obtain ⟨rfl, hsz, hP, hK, hD0, hG⟩ := hv
  have hx := B.exec
  have hb := B.bytes
  have hr := B.returns
  have hts := atoms_spec (ws := wsX0_moversAheadOf) B.pre
  have hown : s.vm.findClass RX0 = some m.cls := findClass_of_methodNamed B.named
  have hlocks := B.notSynchronized
  subst hsz
  have hD := hD0.self (sz := s.heap.size)
  clear hD0
  have hA0 : ∀ q : Nat, s.heap.size ≤ q → va_A (w_Bridge cI cB cZ aB aBb aBs aP aPp aPf bb bs pg ps pn pp pf) s.heap.size q := fun q h => Or.inr h
  generalize hAe : va_A (w_Bridge cI cB cZ aB aBb aBs aP aPp aPf bb bs pg ps pn pp pf) s.heap.size = A at hD hG hA0 ⊢
  have hA : ∀ q : Nat, s.heap.size ≤ q → A q := hA0
  clear hA0
  have hS : va_S A s.heap s.heap [] := va_S.rf
  have iw_X0 := iw_X0_moversAheadOf_X0
  have iw_X2 := iw_X0_moversAheadOf_X2
  have hk_62 : ∀ (ct4 : Int32 → Int32 → Int32 → Option (Int32)) (hct4 : ∀ (y1 : Int32) (y2 : Int32) (y3 : Int32), ct4 y1 y2 y3 = some r0 → ∀ (ls : Array Slot) (H : Heap) (lo : List Loc), lv_has ls 6 [(0, .ref aB), (1, .int y1), (2, .int y2), (3, .int y3)] → va_P D vwCl (w_Bridge cI cB cZ aB aBb aBs aP aPp aPf bb bs pg ps pn pp pf) H → va_D A (w_Bridge cI cB cZ aB aBb aBs aP aPp aPf bb bs pg ps pn pp pf) → va_S A s.heap H lo → W p l e (headSpec wsX0_moversAheadOf ({ frames := 2, cells := 0, slots := 0, locals := 42 } : Room)).room s m (([.ref aB, .int x1] : List Value).toArray) below meth c H lo 0 0 (MQ below (QI D cI cB cZ A (w_Bridge cI cB cZ aB aBb aBs aP aPp aPf bb bs pg ps pn pp pf) r0) (([.ref aB, .int x1] : List Value).toArray) s 0 0 A) (F0 m 4 ls [])) (y1 : Int32) (y2 : Int32) (y3 : Int32) (y4 : Int32) (z0 : Int32), k_X0_moversAheadOf_62 bs pg pn ct4 y1 y2 y3 y4 z0 = some r0 → ∀ (ls : Array Slot) (H : Heap) (lo : List Loc), lv_has ls 6 [(0, .ref aB), (1, .int y1), (2, .int y2), (3, .int y3), (4, .int y4)] → va_P D vwCl (w_Bridge cI cB cZ aB aBb aBs aP aPp aPf bb bs pg ps pn pp pf) H → va_D A (w_Bridge cI cB cZ aB aBb aBs aP aPp aPf bb bs pg ps pn pp pf) → va_S A s.heap H lo → W p l e (headSpec wsX0_moversAheadOf ({ frames := 2, cells := 0, slots := 0, locals := 42 } : Room)).room s m (([.ref aB, .int x1] : List Value).toArray) below meth c H lo 0 0 (MQ below (QI D cI cB cZ A (w_Bridge cI cB cZ aB aBb aBs aP aPp aPf bb bs pg ps pn pp pf) r0) (([.ref aB, .int x1] : List Value).toArray) s 0 0 A) (F0 m 62 ls [.int z0]) := by
    intro ct4 hct4 y1 y2 y3 y4 z0 hm ls H lo hl hP hD hS
    replace hm : (ob1 (m_X2_isLeaf pg pn y3) (fun r2 => (if r2 = 0 then (ct4 y1 y2 (y3 + (1 : Int32))) else (if y4 = 0 then (if z0 = 0 then (ct4 y1 y2 (y3 + (1 : Int32))) else (ct4 y1 (y2 + (1 : Int32)) (y3 + (1 : Int32)))) else (ct4 y1 (y2 + (1 : Int32)) (y3 + (1 : Int32))))))) = some r0 := hm
    refine lv_istore (lv' := [(5, .int z0), (0, .ref aB), (1, .int y1), (2, .int y2), (3, .int y3), (4, .int y4)]) hx hb dX0_moversAheadOf_62 hl (by decide) rfl (fun ls1 hl1 => ?_)
    refine lv_aload_n hx hb dX0_moversAheadOf_64 rfl (lv_at hl1 1 rfl) ?_
    refine va_get (D := D) (ci := 0) (v := .ref aP) (C := RX0) (T := TX0) (N := 3) hx hb hts iw_X0 hown hK hP 0 rfl rfl 0 (by decide) (hts (.fieldLink RX0 18 "VarianceBridge$Bridge" "plan" "LVarianceBridge$Plan;") (by decide +kernel)) (fun _ h9 => h9) rfl dX0_moversAheadOf_65 ?_
    refine lv_iload_n hx hb dX0_moversAheadOf_68 rfl (lv_at hl1 4 rfl) ?_
    obtain ⟨r2, h2, hm2⟩ := ob1_e hm
    refine gcall_b (ws' := (w_Bridge cI cB cZ aB aBb aBs aP aPp aPf bb bs pg ps pn pp pf)) (va_runVN (As := [.int y3]) (rest := []) ⟨hx, hb, hml, hown, hts⟩ (c_X2_isLeaf l D cI cB cZ ta aP aPp aPf H.size pg ps pn pp pf y3 r2 h2) ⟨va_cnB 1 hts gX0_moversAheadOf_X2_isLeaf_n91 rfl rfl rfl (hG.1 (.methodLinkNest RX0 91 yX2_isLeaf RX6) (by decide +kernel)) (hts (.initialized RX2) (by decide +kernel)) (by decide +kernel) ⟨(Nat.le_of_ble_eq_true rfl), (Nat.le_of_ble_eq_true rfl)⟩, hts (.instanceMethod yX2_isLeaf) (by decide +kernel), hts (.selects RX2 yX2_isLeaf yX2_isLeaf) (by decide +kernel)⟩ ⟨PW_blind, va_recv hK hP rfl (q0 := 3) rfl, PW_at hP hD hK hS hA hG [3, 4, 5] rfl (by decide)⟩ rfl rfl hl1.1 rfl (lv_room (Nat.le_of_ble_eq_true rfl)) dX0_moversAheadOf_69 ⟨(Nat.le_of_ble_eq_true rfl), (Nat.le_of_ble_eq_true rfl)⟩) hP hD hS hA [3, 4, 5] [0, 1, 2] [0, 1, 2, 3, 4, 5] rfl rfl (by decide) (by decide) (by decide) rfl (fun H3 lo3 hz2 hP3 hD3 hS3 => ?_)
    clear hP hD hS
    refine lv_if_eq (tgt := 88) hx hb dX0_moversAheadOf_72 (by decide) (fun c4 => ?_) (fun c4 => ?_)
    · have hm5 := zz_if c4 hm2
      refine lv_iinc (v := (y3 + (1 : Int32))) (lv' := [(3, .int (y3 + (1 : Int32))), (5, .int z0), (0, .ref aB), (1, .int y1), (2, .int y2), (4, .int y4)]) hx hb dX0_moversAheadOf_88 hl1 (k := 4) rfl (by rfl) (by decide) rfl (fun ls7 hl7 => ?_)
      refine lv_goto (tgt := 4) hx hb dX0_moversAheadOf_91 (by decide) ?_
      exact hct4 y1 y2 (y3 + (1 : Int32)) hm5 ls7 H3 lo3 (lv_sub hl7 [2, 3, 4, 0] rfl) hP3 hD3 hS3
    · have hm6 := zz_nf c4 hm2
      refine lv_iload hx hb dX0_moversAheadOf_75 (lv_at hl1 5 rfl) ?_
      refine lv_if_ne (tgt := 85) hx hb dX0_moversAheadOf_77 (by decide) (fun c8 => ?_) (fun c8 => ?_)
      · have hm9 := zz_nf c8 hm6
        refine lv_iinc (v := (y2 + (1 : Int32))) (lv' := [(2, .int (y2 + (1 : Int32))), (5, .int z0), (0, .ref aB), (1, .int y1), (3, .int y3), (4, .int y4)]) hx hb dX0_moversAheadOf_85 hl1 (k := 3) rfl (by rfl) (by decide) rfl (fun ls11 hl11 => ?_)
        refine lv_iinc (v := (y3 + (1 : Int32))) (lv' := [(3, .int (y3 + (1 : Int32))), (2, .int (y2 + (1 : Int32))), (5, .int z0), (0, .ref aB), (1, .int y1), (4, .int y4)]) hx hb dX0_moversAheadOf_88 hl11 (k := 4) rfl (by rfl) (by decide) rfl (fun ls12 hl12 => ?_)
        refine lv_goto (tgt := 4) hx hb dX0_moversAheadOf_91 (by decide) ?_
        exact hct4 y1 (y2 + (1 : Int32)) (y3 + (1 : Int32)) hm9 ls12 H3 lo3 (lv_sub hl12 [3, 4, 1, 0] rfl) hP3 hD3 hS3
      · have hm10 := zz_if c8 hm6
        refine lv_iload hx hb dX0_moversAheadOf_80 (lv_at hl1 0 rfl) ?_
        refine lv_if_eq (tgt := 88) hx hb dX0_moversAheadOf_82 (by decide) (fun c13 => ?_) (fun c13 => ?_)
        · have hm14 := zz_if c13 hm10
          refine lv_iinc (v := (y3 + (1 : Int32))) (lv' := [(3, .int (y3 + (1 : Int32))), (5, .int z0), (0, .ref aB), (1, .int y1), (2, .int y2), (4, .int y4)]) hx hb dX0_moversAheadOf_88 hl1 (k := 4) rfl (by rfl) (by decide) rfl (fun ls16 hl16 => ?_)
          refine lv_goto (tgt := 4) hx hb dX0_moversAheadOf_91 (by decide) ?_
          exact hct4 y1 y2 (y3 + (1 : Int32)) hm14 ls16 H3 lo3 (lv_sub hl16 [2, 3, 4, 0] rfl) hP3 hD3 hS3
        · have hm15 := zz_nf c13 hm10
          refine lv_iinc (v := (y2 + (1 : Int32))) (lv' := [(2, .int (y2 + (1 : Int32))), (5, .int z0), (0, .ref aB), (1, .int y1), (3, .int y3), (4, .int y4)]) hx hb dX0_moversAheadOf_85 hl1 (k := 3) rfl (by rfl) (by decide) rfl (fun ls17 hl17 => ?_)
          refine lv_iinc (v := (y3 + (1 : Int32))) (lv' := [(3, .int (y3 + (1 : Int32))), (2, .int (y2 + (1 : Int32))), (5, .int z0), (0, .ref aB), (1, .int y1), (4, .int y4)]) hx hb dX0_moversAheadOf_88 hl17 (k := 4) rfl (by rfl) (by decide) rfl (fun ls18 hl18 => ?_)
          refine lv_goto (tgt := 4) hx hb dX0_moversAheadOf_91 (by decide) ?_
          exact hct4 y1 (y2 + (1 : Int32)) (y3 + (1 : Int32)) hm15 ls18 H3 lo3 (lv_sub hl18 [3, 4, 1, 0] rfl) hP3 hD3 hS3
  have hk_61 : ∀ (ct4 : Int32 → Int32 → Int32 → Option (Int32)) (hct4 : ∀ (y1 : Int32) (y2 : Int32) (y3 : Int32), ct4 y1 y2 y3 = some r0 → ∀ (ls : Array Slot) (H : Heap) (lo : List Loc), lv_has ls 6 [(0, .ref aB), (1, .int y1), (2, .int y2), (3, .int y3)] → va_P D vwCl (w_Bridge cI cB cZ aB aBb aBs aP aPp aPf bb bs pg ps pn pp pf) H → va_D A (w_Bridge cI cB cZ aB aBb aBs aP aPp aPf bb bs pg ps pn pp pf) → va_S A s.heap H lo → W p l e (headSpec wsX0_moversAheadOf ({ frames := 2, cells := 0, slots := 0, locals := 42 } : Room)).room s m (([.ref aB, .int x1] : List Value).toArray) below meth c H lo 0 0 (MQ below (QI D cI cB cZ A (w_Bridge cI cB cZ aB aBb aBs aP aPp aPf bb bs pg ps pn pp pf) r0) (([.ref aB, .int x1] : List Value).toArray) s 0 0 A) (F0 m 4 ls [])) (y1 : Int32) (y2 : Int32) (y3 : Int32) (y4 : Int32), k_X0_moversAheadOf_61 bs pg pn ct4 y1 y2 y3 y4 = some r0 → ∀ (ls : Array Slot) (H : Heap) (lo : List Loc), lv_has ls 6 [(0, .ref aB), (1, .int y1), (2, .int y2), (3, .int y3), (4, .int y4)] → va_P D vwCl (w_Bridge cI cB cZ aB aBb aBs aP aPp aPf bb bs pg ps pn pp pf) H → va_D A (w_Bridge cI cB cZ aB aBb aBs aP aPp aPf bb bs pg ps pn pp pf) → va_S A s.heap H lo → W p l e (headSpec wsX0_moversAheadOf ({ frames := 2, cells := 0, slots := 0, locals := 42 } : Room)).room s m (([.ref aB, .int x1] : List Value).toArray) below meth c H lo 0 0 (MQ below (QI D cI cB cZ A (w_Bridge cI cB cZ aB aBb aBs aP aPp aPf bb bs pg ps pn pp pf) r0) (([.ref aB, .int x1] : List Value).toArray) s 0 0 A) (F0 m 61 ls []) := by
    intro ct4 hct4 y1 y2 y3 y4 hm ls H lo hl hP hD hS
    replace hm : (k_X0_moversAheadOf_62 bs pg pn ct4 y1 y2 y3 y4 (0 : Int32)) = some r0 := hm
    refine lv_iconst (v := (0 : Int32)) hx hb dX0_moversAheadOf_61 (by decide) ?_
    exact hk_62 ct4 hct4 y1 y2 y3 y4 (0 : Int32) hm ls H lo (lv_sub hl [0, 1, 2, 3, 4] rfl) hP hD hS
  have hk_35 : ∀ (ct4 : Int32 → Int32 → Int32 → Option (Int32)) (hct4 : ∀ (y1 : Int32) (y2 : Int32) (y3 : Int32), ct4 y1 y2 y3 = some r0 → ∀ (ls : Array Slot) (H : Heap) (lo : List Loc), lv_has ls 6 [(0, .ref aB), (1, .int y1), (2, .int y2), (3, .int y3)] → va_P D vwCl (w_Bridge cI cB cZ aB aBb aBs aP aPp aPf bb bs pg ps pn pp pf) H → va_D A (w_Bridge cI cB cZ aB aBb aBs aP aPp aPf bb bs pg ps pn pp pf) → va_S A s.heap H lo → W p l e (headSpec wsX0_moversAheadOf ({ frames := 2, cells := 0, slots := 0, locals := 42 } : Room)).room s m (([.ref aB, .int x1] : List Value).toArray) below meth c H lo 0 0 (MQ below (QI D cI cB cZ A (w_Bridge cI cB cZ aB aBb aBs aP aPp aPf bb bs pg ps pn pp pf) r0) (([.ref aB, .int x1] : List Value).toArray) s 0 0 A) (F0 m 4 ls [])) (y1 : Int32) (y2 : Int32) (y3 : Int32) (z0 : Int32), k_X0_moversAheadOf_35 bs pg pn ct4 y1 y2 y3 z0 = some r0 → ∀ (ls : Array Slot) (H : Heap) (lo : List Loc), lv_has ls 6 [(0, .ref aB), (1, .int y1), (2, .int y2), (3, .int y3)] → va_P D vwCl (w_Bridge cI cB cZ aB aBb aBs aP aPp aPf bb bs pg ps pn pp pf) H → va_D A (w_Bridge cI cB cZ aB aBb aBs aP aPp aPf bb bs pg ps pn pp pf) → va_S A s.heap H lo → W p l e (headSpec wsX0_moversAheadOf ({ frames := 2, cells := 0, slots := 0, locals := 42 } : Room)).room s m (([.ref aB, .int x1] : List Value).toArray) below meth c H lo 0 0 (MQ below (QI D cI cB cZ A (w_Bridge cI cB cZ aB aBb aBs aP aPp aPf bb bs pg ps pn pp pf) r0) (([.ref aB, .int x1] : List Value).toArray) s 0 0 A) (F0 m 35 ls [.int z0]) := by
    intro ct4 hct4 y1 y2 y3 z0 hm ls H lo hl hP hD hS
    replace hm : (if y3 < 0 ∨ 20 ≤ y3.toNatClampNeg then none else (if y1 < 0 ∨ 20 ≤ y1.toNatClampNeg then none else (if (bs y3.toNatClampNeg) = (bs y1.toNatClampNeg) then (if y1 ≤ y3 then (k_X0_moversAheadOf_61 bs pg pn ct4 y1 y2 y3 z0) else (k_X0_moversAheadOf_62 bs pg pn ct4 y1 y2 y3 z0 (1 : Int32))) else (k_X0_moversAheadOf_61 bs pg pn ct4 y1 y2 y3 z0)))) = some r0 := hm
    refine lv_istore (lv' := [(4, .int z0), (0, .ref aB), (1, .int y1), (2, .int y2), (3, .int y3)]) hx hb dX0_moversAheadOf_35 hl (by decide) rfl (fun ls19 hl19 => ?_)
    refine lv_aload_n hx hb dX0_moversAheadOf_37 rfl (lv_at hl19 1 rfl) ?_
    refine va_get (D := D) (ci := 0) (v := .ref aBs) (C := RX0) (T := TX0) (N := 3) hx hb hts iw_X0 hown hK hP 0 rfl rfl 2 (by decide) (hts (.fieldLink RX0 15 "VarianceBridge$Bridge" "sizes" "[I") (by decide +kernel)) (fun _ h9 => h9) rfl dX0_moversAheadOf_38 ?_
    refine lv_iload_n hx hb dX0_moversAheadOf_41 rfl (lv_at hl19 4 rfl) ?_
    obtain ⟨c20, hm21⟩ := zz_no hm
    refine va_iald hx hb hK hP 2 0 rfl rfl c20 dX0_moversAheadOf_42 ?_
    refine lv_aload_n hx hb dX0_moversAheadOf_43 rfl (lv_at hl19 1 rfl) ?_
    refine va_get (D := D) (ci := 0) (v := .ref aBs) (C := RX0) (T := TX0) (N := 3) hx hb hts iw_X0 hown hK hP 0 rfl rfl 2 (by decide) (hts (.fieldLink RX0 15 "VarianceBridge$Bridge" "sizes" "[I") (by decide +kernel)) (fun _ h9 => h9) rfl dX0_moversAheadOf_44 ?_
    refine lv_iload_n hx hb dX0_moversAheadOf_47 rfl (lv_at hl19 2 rfl) ?_
    obtain ⟨c22, hm23⟩ := zz_no hm21
    refine va_iald hx hb hK hP 2 0 rfl rfl c22 dX0_moversAheadOf_48 ?_
    refine lv_icmp_ne (tgt := 61) hx hb dX0_moversAheadOf_49 (by decide) (fun c24 => ?_) (fun c24 => ?_)
    · have hm25 := zz_nf c24 hm23
      exact hk_61 ct4 hct4 y1 y2 y3 z0 hm25 ls19 H lo (lv_sub hl19 [1, 2, 3, 4, 0] rfl) hP hD hS
    · have hm26 := zz_if c24 hm23
      refine lv_iload_n hx hb dX0_moversAheadOf_52 rfl (lv_at hl19 4 rfl) ?_
      refine lv_iload_n hx hb dX0_moversAheadOf_53 rfl (lv_at hl19 2 rfl) ?_
      refine lv_icmp_ge (tgt := 61) hx hb dX0_moversAheadOf_54 (by decide) (fun c27 => ?_) (fun c27 => ?_)
      · have hm28 := zz_if c27 hm26
        exact hk_61 ct4 hct4 y1 y2 y3 z0 hm28 ls19 H lo (lv_sub hl19 [1, 2, 3, 4, 0] rfl) hP hD hS
      · have hm29 := zz_nf c27 hm26
        refine lv_iconst (v := (1 : Int32)) hx hb dX0_moversAheadOf_57 (by decide) ?_
        refine lv_goto (tgt := 62) hx hb dX0_moversAheadOf_58 (by decide) ?_
        exact hk_62 ct4 hct4 y1 y2 y3 z0 (1 : Int32) hm29 ls19 H lo (lv_sub hl19 [1, 2, 3, 4, 0] rfl) hP hD hS
  have hk_4 : ∀ (n : Nat) (y1 : Int32) (y2 : Int32) (y3 : Int32), k_X0_moversAheadOf_4 bs pg pn n y1 y2 y3 = some r0 → ∀ (ls : Array Slot) (H : Heap) (lo : List Loc), lv_has ls 6 [(0, .ref aB), (1, .int y1), (2, .int y2), (3, .int y3)] → va_P D vwCl (w_Bridge cI cB cZ aB aBb aBs aP aPp aPf bb bs pg ps pn pp pf) H → va_D A (w_Bridge cI cB cZ aB aBb aBs aP aPp aPf bb bs pg ps pn pp pf) → va_S A s.heap H lo → W p l e (headSpec wsX0_moversAheadOf ({ frames := 2, cells := 0, slots := 0, locals := 42 } : Room)).room s m (([.ref aB, .int x1] : List Value).toArray) below meth c H lo 0 0 (MQ below (QI D cI cB cZ A (w_Bridge cI cB cZ aB aBb aBs aP aPp aPf bb bs pg ps pn pp pf) r0) (([.ref aB, .int x1] : List Value).toArray) s 0 0 A) (F0 m 4 ls []) := by
    intro n
    induction n with
    | zero => intro y1 y2 y3 hm; exact zz_nn hm
    | succ n ih =>
      intro y1 y2 y3 hm ls H lo hl hP hD hS
      replace hm := (k_X0_moversAheadOf_4_s bs pg pn n y1 y2 y3).symm.trans hm
      refine lv_iload_n hx hb dX0_moversAheadOf_4 rfl (lv_at hl 3 rfl) ?_
      refine lv_aload_n hx hb dX0_moversAheadOf_5 rfl (lv_at hl 0 rfl) ?_
      refine va_get (D := D) (ci := 0) (v := .ref aP) (C := RX0) (T := TX0) (N := 3) hx hb hts iw_X0 hown hK hP 0 rfl rfl 0 (by decide) (hts (.fieldLink RX0 18 "VarianceBridge$Bridge" "plan" "LVarianceBridge$Plan;") (by decide +kernel)) (fun _ h9 => h9) rfl dX0_moversAheadOf_6 ?_
      refine va_getN (D := D) (ci := 2) (v := .int pn) (C := RX2) (T := TX2) (N := 5) hx hb hts iw_X2 hown hK hP 3 rfl rfl 4 (by decide) (va_Nw.use rfl (hG.1 (.fieldLinkNest RX0 32 RX2 "nodes" "I" RX6) (by decide +kernel))) (fun _ h9 => h9) rfl dX0_moversAheadOf_9 ?_
      refine lv_icmp_ge (tgt := 94) hx hb dX0_moversAheadOf_12 (by decide) (fun c30 => ?_) (fun c30 => ?_)
      · have hm31 := zz_if c30 hm
        refine lv_iload_n hx hb dX0_moversAheadOf_94 rfl (lv_at hl 2 rfl) ?_
        have hq1 := Option.some.inj hm31
        subst hq1
        exact W.iret hx hb hr (fun t ht hW => ⟨⟨_, (), rfl, rfl, by rw [ht]; exact hP, va_K.moved hW.alike hK, hD⟩, hS.F ht⟩) hS.2.2 dX0_moversAheadOf_95
      · have hm32 := zz_nf c30 hm
        refine lv_aload_n hx hb dX0_moversAheadOf_15 rfl (lv_at hl 0 rfl) ?_
        refine va_get (D := D) (ci := 0) (v := .ref aBs) (C := RX0) (T := TX0) (N := 3) hx hb hts iw_X0 hown hK hP 0 rfl rfl 2 (by decide) (hts (.fieldLink RX0 15 "VarianceBridge$Bridge" "sizes" "[I") (by decide +kernel)) (fun _ h9 => h9) rfl dX0_moversAheadOf_16 ?_
        refine lv_iload_n hx hb dX0_moversAheadOf_19 rfl (lv_at hl 3 rfl) ?_
        obtain ⟨c33, hm34⟩ := zz_no hm32
        refine va_iald hx hb hK hP 2 0 rfl rfl c33 dX0_moversAheadOf_20 ?_
        refine lv_aload_n hx hb dX0_moversAheadOf_21 rfl (lv_at hl 0 rfl) ?_
        refine va_get (D := D) (ci := 0) (v := .ref aBs) (C := RX0) (T := TX0) (N := 3) hx hb hts iw_X0 hown hK hP 0 rfl rfl 2 (by decide) (hts (.fieldLink RX0 15 "VarianceBridge$Bridge" "sizes" "[I") (by decide +kernel)) (fun _ h9 => h9) rfl dX0_moversAheadOf_22 ?_
        refine lv_iload_n hx hb dX0_moversAheadOf_25 rfl (lv_at hl 1 rfl) ?_
        obtain ⟨c35, hm36⟩ := zz_no hm34
        refine va_iald hx hb hK hP 2 0 rfl rfl c35 dX0_moversAheadOf_26 ?_
        refine lv_icmp_le (tgt := 34) hx hb dX0_moversAheadOf_27 (by decide) (fun c37 => ?_) (fun c37 => ?_)
        · have hm38 := zz_if c37 hm36
          refine lv_iconst (v := (0 : Int32)) hx hb dX0_moversAheadOf_34 (by decide) ?_
          exact hk_35 (k_X0_moversAheadOf_4 bs pg pn n) ih y1 y2 y3 (0 : Int32) hm38 ls H lo (lv_sub hl [0, 1, 2, 3] rfl) hP hD hS
        · have hm39 := zz_nf c37 hm36
          refine lv_iconst (v := (1 : Int32)) hx hb dX0_moversAheadOf_30 (by decide) ?_
          refine lv_goto (tgt := 35) hx hb dX0_moversAheadOf_31 (by decide) ?_
          exact hk_35 (k_X0_moversAheadOf_4 bs pg pn n) ih y1 y2 y3 (1 : Int32) hm39 ls H lo (lv_sub hl [0, 1, 2, 3] rfl) hP hD hS
  have hl := lv_entry ([.ref aB, .int x1]) (n := 6) (Nat.le_of_ble_eq_true rfl)
  rw [lg_entry_eq]
  generalize (lg_sl ([.ref aB, .int x1]) ++ List.replicate (6 - (lg_sl ([.ref aB, .int x1])).length) Slot.unset).toArray = ls at hl ⊢
  have hl : lv_has ls 6 [(0, .ref aB), (1, .int x1)] := hl
  replace hm : (k_X0_moversAheadOf_4 bs pg pn FU x1 (0 : Int32) (1 : Int32)) = some r0 := hm
  refine lv_iconst (v := (0 : Int32)) hx hb dX0_moversAheadOf_0 (by decide) ?_
  refine lv_istore_n (lv' := [(2, .int (0 : Int32)), (0, .ref aB), (1, .int x1)]) hx hb dX0_moversAheadOf_1 rfl hl (by decide) rfl (fun ls40 hl40 => ?_)
  refine lv_iconst (v := (1 : Int32)) hx hb dX0_moversAheadOf_2 (by decide) ?_
  refine lv_istore_n (lv' := [(3, .int (1 : Int32)), (2, .int (0 : Int32)), (0, .ref aB), (1, .int x1)]) hx hb dX0_moversAheadOf_3 rfl hl40 (by decide) rfl (fun ls41 hl41 => ?_)
  exact hk_4 FU x1 (0 : Int32) (1 : Int32) hm ls41 s.heap [] (lv_sub hl41 [2, 3, 1, 0] rfl) hP hD hS
theorem iw_X0_moverAt_X0 : ∀ w ∈ wsX00, w ∈ wsX0_moverAt := by decide +kernel
theorem iw_X0_moverAt_X2 : ∀ w ∈ wsX20, w ∈ wsX0_moverAt := by decide +kernel
set_option maxHeartbeats 4000000 in
set_option maxRecDepth 100000 in
theorem c_X0_moverAt (l : Launch) (D : va_G) (cI cB cZ : ClassId) (ta : Nat → Nat) (aB : Nat) (aBb : Nat) (aBs : Nat) (aP : Nat) (aPp : Nat) (aPf : Nat) (sz : Nat) (bb : (Nat → Int32)) (bs : (Nat → Int32)) (pg : Int32) (ps : Int32) (pn : Int32) (pp : (Nat → Int32)) (pf : (Nat → Int32)) (x1 : Int32) (x2 : Int32) (x3 : Int32) (r0 : Int32) (u_bs : (Nat → Int32)) (hm : m_X0_moverAt bs pg pn pf x1 x2 x3 = some (r0, u_bs)) : Met l yX0_moverAt wsX0_moverAt ({ frames := 3, cells := 0, slots := 0, locals := 74 } : Room) (va_Pc [.ref aB, .int x1, .int x2, .int x3] (PW D cI cB cZ ta (w_Bridge cI cB cZ aB aBb aBs aP aPp aPf bb bs pg ps pn pp pf) sz)) (QI D cI cB cZ (va_A (w_Bridge cI cB cZ aB aBb aBs aP aPp aPf bb bs pg ps pn pp pf) sz) (w_Bridge cI cB cZ aB aBb aBs aP aPp aPf bb u_bs pg ps pn pp pf) r0) 0 0 (va_A (w_Bridge cI cB cZ aB aBb aBs aP aPp aPf bb bs pg ps pn pp pf) sz) := by
  refine Met.ofW (cc := cX0_moverAt) (maxL := 5) (ret := (some .int)) (by decide) rfl ?_
  intro p e s m args below meth c s₁ B hml hv
  obtain ⟨rfl, hsz, hP, hK, hD0, hG⟩ := hv
  have hx := B.exec
  have hb := B.bytes
  have hr := B.returns
  have hts := atoms_spec (ws := wsX0_moverAt) B.pre
  have hown : s.vm.findClass RX0 = some m.cls := findClass_of_methodNamed B.named
  have hlocks := B.notSynchronized
  subst hsz
  have hD := hD0.self (sz := s.heap.size)
  clear hD0
  have hA0 : ∀ q : Nat, s.heap.size ≤ q → va_A (w_Bridge cI cB cZ aB aBb aBs aP aPp aPf bb bs pg ps pn pp pf) s.heap.size q := fun q h => Or.inr h
  generalize hAe : va_A (w_Bridge cI cB cZ aB aBb aBs aP aPp aPf bb bs pg ps pn pp pf) s.heap.size = A at hD hG hA0 ⊢
  have hA : ∀ q : Nat, s.heap.size ≤ q → A q := hA0
  clear hA0
  have hS : va_S A s.heap s.heap [] := va_S.rf
  have iw_X0 := iw_X0_moverAt_X0
  have iw_X2 := iw_X0_moverAt_X2
  have hk_67 : ∀ (n : Nat) (bs : (Nat → Int32)) (y3 : Int32) (y4 : Int32), k_X0_moverAt_67 pg pn pf n bs y3 y4 = some (r0, u_bs) → ∀ (ls : Array Slot) (H : Heap) (lo : List Loc), lv_has ls 5 [(0, .ref aB), (3, .int y3), (4, .int y4)] → va_P D vwCl (w_Bridge cI cB cZ aB aBb aBs aP aPp aPf bb bs pg ps pn pp pf) H → va_D A (w_Bridge cI cB cZ aB aBb aBs aP aPp aPf bb bs pg ps pn pp pf) → va_S A s.heap H lo → W p l e (headSpec wsX0_moverAt ({ frames := 3, cells := 0, slots := 0, locals := 74 } : Room)).room s m (([.ref aB, .int x1, .int x2, .int x3] : List Value).toArray) below meth c H lo 0 0 (MQ below (QI D cI cB cZ A (w_Bridge cI cB cZ aB aBb aBs aP aPp aPf bb u_bs pg ps pn pp pf) r0) (([.ref aB, .int x1, .int x2, .int x3] : List Value).toArray) s 0 0 A) (F0 m 67 ls []) := by
    intro n
    induction n with
    | zero => intro bs y3 y4 hm; exact zz_nn hm
    | succ n ih =>
      intro bs y3 y4 hm ls H lo hl hP hD hS
      replace hm := (k_X0_moverAt_67_s pg pn pf n bs y3 y4).symm.trans hm
      refine lv_iload hx hb dX0_moverAt_67 (lv_at hl 2 rfl) ?_
      refine lv_aload_n hx hb dX0_moverAt_69 rfl (lv_at hl 0 rfl) ?_
      refine va_get (D := D) (ci := 0) (v := .ref aP) (C := RX0) (T := TX0) (N := 3) hx hb hts iw_X0 hown hK hP 0 rfl rfl 0 (by decide) (hts (.fieldLink RX0 18 "VarianceBridge$Bridge" "plan" "LVarianceBridge$Plan;") (by decide +kernel)) (fun _ h9 => h9) rfl dX0_moverAt_70 ?_
      refine va_getN (D := D) (ci := 2) (v := .int pn) (C := RX2) (T := TX2) (N := 5) hx hb hts iw_X2 hown hK hP 3 rfl rfl 4 (by decide) (va_Nw.use rfl (hG.1 (.fieldLinkNest RX0 32 RX2 "nodes" "I" RX6) (by decide +kernel))) (fun _ h9 => h9) rfl dX0_moverAt_73 ?_
      refine lv_icmp_ge (tgt := 110) hx hb dX0_moverAt_76 (by decide) (fun c1 => ?_) (fun c1 => ?_)
      · have hm2 := zz_if c1 hm
        refine lv_iconst (v := (-1 : Int32)) hx hb dX0_moverAt_110 (by decide) ?_
        obtain ⟨hq1, hq2⟩ := Prod.mk.inj (Option.some.inj hm2)
        subst hq1
        subst hq2
        exact W.iret hx hb hr (fun t ht hW => ⟨⟨_, (), rfl, rfl, by rw [ht]; exact hP, va_K.moved hW.alike hK, hD⟩, hS.F ht⟩) hS.2.2 dX0_moverAt_111
      · have hm3 := zz_nf c1 hm
        refine lv_aload_n hx hb dX0_moverAt_79 rfl (lv_at hl 0 rfl) ?_
        refine va_get (D := D) (ci := 0) (v := .ref aP) (C := RX0) (T := TX0) (N := 3) hx hb hts iw_X0 hown hK hP 0 rfl rfl 0 (by decide) (hts (.fieldLink RX0 18 "VarianceBridge$Bridge" "plan" "LVarianceBridge$Plan;") (by decide +kernel)) (fun _ h9 => h9) rfl dX0_moverAt_80 ?_
        refine lv_iload hx hb dX0_moverAt_83 (lv_at hl 2 rfl) ?_
        obtain ⟨r4, h4, hm4⟩ := ob1_e hm3
        refine gcall_b (ws' := (w_Bridge cI cB cZ aB aBb aBs aP aPp aPf bb bs pg ps pn pp pf)) (va_runVN (As := [.int y4]) (rest := []) ⟨hx, hb, hml, hown, hts⟩ (c_X2_isLeaf l D cI cB cZ ta aP aPp aPf H.size pg ps pn pp pf y4 r4 h4) ⟨va_cnB 1 hts gX0_moverAt_X2_isLeaf_n91 rfl rfl rfl (hG.1 (.methodLinkNest RX0 91 yX2_isLeaf RX6) (by decide +kernel)) (hts (.initialized RX2) (by decide +kernel)) (by decide +kernel) ⟨(Nat.le_of_ble_eq_true rfl), (Nat.le_of_ble_eq_true rfl)⟩, hts (.instanceMethod yX2_isLeaf) (by decide +kernel), hts (.selects RX2 yX2_isLeaf yX2_isLeaf) (by decide +kernel)⟩ ⟨PW_blind, va_recv hK hP rfl (q0 := 3) rfl, PW_at hP hD hK hS hA hG [3, 4, 5] rfl (by decide)⟩ rfl rfl hl.1 rfl (lv_room (Nat.le_of_ble_eq_true rfl)) dX0_moverAt_85 ⟨(Nat.le_of_ble_eq_true rfl), (Nat.le_of_ble_eq_true rfl)⟩) hP hD hS hA [3, 4, 5] [0, 1, 2] [0, 1, 2, 3, 4, 5] rfl rfl (by decide) (by decide) (by decide) rfl (fun H5 lo5 hz4 hP5 hD5 hS5 => ?_)
        clear hP hD hS
        refine lv_if_eq (tgt := 104) hx hb dX0_moverAt_88 (by decide) (fun c6 => ?_) (fun c6 => ?_)
        · have hm7 := zz_if c6 hm4
          refine lv_iinc (v := (y4 + (1 : Int32))) (lv' := [(4, .int (y4 + (1 : Int32))), (0, .ref aB), (3, .int y3)]) hx hb dX0_moverAt_104 hl (k := 2) rfl (by rfl) (by decide) rfl (fun ls9 hl9 => ?_)
          refine lv_goto (tgt := 67) hx hb dX0_moverAt_107 (by decide) ?_
          exact ih bs y3 (y4 + (1 : Int32)) hm7 ls9 H5 lo5 (lv_sub hl9 [1, 2, 0] rfl) hP5 hD5 hS5
        · have hm8 := zz_nf c6 hm4
          refine lv_aload_n hx hb dX0_moverAt_91 rfl (lv_at hl 0 rfl) ?_
          refine lv_iload hx hb dX0_moverAt_92 (lv_at hl 2 rfl) ?_
          obtain ⟨r10, h10, hm10⟩ := ob1_e hm8
          refine gcall_i (ws' := (w_Bridge cI cB cZ aB aBb aBs aP aPp aPf bb bs pg ps pn pp pf)) (va_runV (As := [.int y4]) (rest := []) ⟨hx, hb, hml, hown, hts⟩ (c_X0_moversAheadOf l D cI cB cZ ta aB aBb aBs aP aPp aPf H5.size bb bs pg ps pn pp pf y4 r10 h10) (cwV 1 hts gX0_moverAt_X0_moversAheadOf rfl rfl rfl (by decide +kernel) ⟨(Nat.le_of_ble_eq_true rfl), (Nat.le_of_ble_eq_true rfl)⟩) ⟨PW_blind, va_recv hK hP5 rfl (q0 := 0) rfl, PW_at hP5 hD5 hK hS5 hA hG [0, 1, 2, 3, 4, 5] rfl (by decide)⟩ rfl rfl hl.1 rfl (lv_room (Nat.le_of_ble_eq_true rfl)) dX0_moverAt_94 ⟨(Nat.le_of_ble_eq_true rfl), (Nat.le_of_ble_eq_true rfl)⟩) hP5 hD5 hS5 hA [0, 1, 2, 3, 4, 5] [] [0, 1, 2, 3, 4, 5] rfl rfl (by decide) (by decide) (by decide) rfl (fun H11 lo11 hP11 hD11 hS11 => ?_)
          clear hP5 hD5 hS5
          refine lv_iload_n hx hb dX0_moverAt_97 rfl (lv_at hl 1 rfl) ?_
          refine lv_icmp_ne (tgt := 104) hx hb dX0_moverAt_98 (by decide) (fun c12 => ?_) (fun c12 => ?_)
          · have hm13 := zz_nf c12 hm10
            refine lv_iinc (v := (y4 + (1 : Int32))) (lv' := [(4, .int (y4 + (1 : Int32))), (0, .ref aB), (3, .int y3)]) hx hb dX0_moverAt_104 hl (k := 2) rfl (by rfl) (by decide) rfl (fun ls15 hl15 => ?_)
            refine lv_goto (tgt := 67) hx hb dX0_moverAt_107 (by decide) ?_
            exact ih bs y3 (y4 + (1 : Int32)) hm13 ls15 H11 lo11 (lv_sub hl15 [1, 2, 0] rfl) hP11 hD11 hS11
          · have hm14 := zz_if c12 hm10
            refine lv_iload hx hb dX0_moverAt_101 (lv_at hl 2 rfl) ?_
            obtain ⟨hq1, hq2⟩ := Prod.mk.inj (Option.some.inj hm14)
            subst hq1
            subst hq2
            exact W.iret hx hb hr (fun t ht hW => ⟨⟨_, (), rfl, rfl, by rw [ht]; exact hP11, va_K.moved hW.alike hK, hD11⟩, hS11.F ht⟩) hS11.2.2 dX0_moverAt_103
  have hk_3 : ∀ (n : Nat) (bs : (Nat → Int32)) (y1 : Int32) (y2 : Int32) (y3 : Int32) (y4 : Int32), k_X0_moverAt_3 pg pn pf n bs y1 y2 y3 y4 = some (r0, u_bs) → ∀ (ls : Array Slot) (H : Heap) (lo : List Loc), lv_has ls 5 [(0, .ref aB), (1, .int y1), (2, .int y2), (3, .int y3), (4, .int y4)] → va_P D vwCl (w_Bridge cI cB cZ aB aBb aBs aP aPp aPf bb bs pg ps pn pp pf) H → va_D A (w_Bridge cI cB cZ aB aBb aBs aP aPp aPf bb bs pg ps pn pp pf) → va_S A s.heap H lo → W p l e (headSpec wsX0_moverAt ({ frames := 3, cells := 0, slots := 0, locals := 74 } : Room)).room s m (([.ref aB, .int x1, .int x2, .int x3] : List Value).toArray) below meth c H lo 0 0 (MQ below (QI D cI cB cZ A (w_Bridge cI cB cZ aB aBb aBs aP aPp aPf bb u_bs pg ps pn pp pf) r0) (([.ref aB, .int x1, .int x2, .int x3] : List Value).toArray) s 0 0 A) (F0 m 3 ls []) := by
    intro n
    induction n with
    | zero => intro bs y1 y2 y3 y4 hm; exact zz_nn hm
    | succ n ih =>
      intro bs y1 y2 y3 y4 hm ls H lo hl hP hD hS
      replace hm := (k_X0_moverAt_3_s pg pn pf n bs y1 y2 y3 y4).symm.trans hm
      refine lv_iload hx hb dX0_moverAt_3 (lv_at hl 4 rfl) ?_
      refine lv_aload_n hx hb dX0_moverAt_5 rfl (lv_at hl 0 rfl) ?_
      refine va_get (D := D) (ci := 0) (v := .ref aP) (C := RX0) (T := TX0) (N := 3) hx hb hts iw_X0 hown hK hP 0 rfl rfl 0 (by decide) (hts (.fieldLink RX0 18 "VarianceBridge$Bridge" "plan" "LVarianceBridge$Plan;") (by decide +kernel)) (fun _ h9 => h9) rfl dX0_moverAt_6 ?_
      refine va_getN (D := D) (ci := 2) (v := .int pn) (C := RX2) (T := TX2) (N := 5) hx hb hts iw_X2 hown hK hP 3 rfl rfl 4 (by decide) (va_Nw.use rfl (hG.1 (.fieldLinkNest RX0 32 RX2 "nodes" "I" RX6) (by decide +kernel))) (fun _ h9 => h9) rfl dX0_moverAt_9 ?_
      refine lv_icmp_ge (tgt := 64) hx hb dX0_moverAt_12 (by decide) (fun c16 => ?_) (fun c16 => ?_)
      · have hm17 := zz_if c16 hm
        refine lv_iconst (v := (1 : Int32)) hx hb dX0_moverAt_64 (by decide) ?_
        refine lv_istore (lv' := [(4, .int (1 : Int32)), (0, .ref aB), (1, .int y1), (2, .int y2), (3, .int y3)]) hx hb dX0_moverAt_65 hl (by decide) rfl (fun ls19 hl19 => ?_)
        exact hk_67 FU bs y3 (1 : Int32) hm17 ls19 H lo (lv_sub hl19 [1, 4, 0] rfl) hP hD hS
      · have hm18 := zz_nf c16 hm
        refine lv_aload_n hx hb dX0_moverAt_15 rfl (lv_at hl 0 rfl) ?_
        refine va_get (D := D) (ci := 0) (v := .ref aP) (C := RX0) (T := TX0) (N := 3) hx hb hts iw_X0 hown hK hP 0 rfl rfl 0 (by decide) (hts (.fieldLink RX0 18 "VarianceBridge$Bridge" "plan" "LVarianceBridge$Plan;") (by decide +kernel)) (fun _ h9 => h9) rfl dX0_moverAt_16 ?_
        refine lv_iload hx hb dX0_moverAt_19 (lv_at hl 4 rfl) ?_
        obtain ⟨r20, h20, hm20⟩ := ob1_e hm18
        refine gcall_b (ws' := (w_Bridge cI cB cZ aB aBb aBs aP aPp aPf bb bs pg ps pn pp pf)) (va_runVN (As := [.int y4]) (rest := []) ⟨hx, hb, hml, hown, hts⟩ (c_X2_isLeaf l D cI cB cZ ta aP aPp aPf H.size pg ps pn pp pf y4 r20 h20) ⟨va_cnB 1 hts gX0_moverAt_X2_isLeaf_n91 rfl rfl rfl (hG.1 (.methodLinkNest RX0 91 yX2_isLeaf RX6) (by decide +kernel)) (hts (.initialized RX2) (by decide +kernel)) (by decide +kernel) ⟨(Nat.le_of_ble_eq_true rfl), (Nat.le_of_ble_eq_true rfl)⟩, hts (.instanceMethod yX2_isLeaf) (by decide +kernel), hts (.selects RX2 yX2_isLeaf yX2_isLeaf) (by decide +kernel)⟩ ⟨PW_blind, va_recv hK hP rfl (q0 := 3) rfl, PW_at hP hD hK hS hA hG [3, 4, 5] rfl (by decide)⟩ rfl rfl hl.1 rfl (lv_room (Nat.le_of_ble_eq_true rfl)) dX0_moverAt_21 ⟨(Nat.le_of_ble_eq_true rfl), (Nat.le_of_ble_eq_true rfl)⟩) hP hD hS hA [3, 4, 5] [0, 1, 2] [0, 1, 2, 3, 4, 5] rfl rfl (by decide) (by decide) (by decide) rfl (fun H21 lo21 hz20 hP21 hD21 hS21 => ?_)
        clear hP hD hS
        refine lv_if_eq (tgt := 58) hx hb dX0_moverAt_24 (by decide) (fun c22 => ?_) (fun c22 => ?_)
        · have hm23 := zz_if c22 hm20
          refine lv_iinc (v := (y4 + (1 : Int32))) (lv' := [(4, .int (y4 + (1 : Int32))), (0, .ref aB), (1, .int y1), (2, .int y2), (3, .int y3)]) hx hb dX0_moverAt_58 hl (k := 4) rfl (by rfl) (by decide) rfl (fun ls25 hl25 => ?_)
          refine lv_goto (tgt := 3) hx hb dX0_moverAt_61 (by decide) ?_
          exact ih bs y1 y2 y3 (y4 + (1 : Int32)) hm23 ls25 H21 lo21 (lv_sub hl25 [1, 2, 3, 4, 0] rfl) hP21 hD21 hS21
        · have hm24 := zz_nf c22 hm20
          refine lv_aload_n hx hb dX0_moverAt_27 rfl (lv_at hl 0 rfl) ?_
          refine va_get (D := D) (ci := 0) (v := .ref aBs) (C := RX0) (T := TX0) (N := 3) hx hb hts iw_X0 hown hK hP21 0 rfl rfl 2 (by decide) (hts (.fieldLink RX0 15 "VarianceBridge$Bridge" "sizes" "[I") (by decide +kernel)) (fun _ h9 => h9) rfl dX0_moverAt_28 ?_
          refine lv_iload hx hb dX0_moverAt_31 (lv_at hl 4 rfl) ?_
          refine lv_aload_n hx hb dX0_moverAt_33 rfl (lv_at hl 0 rfl) ?_
          refine va_get (D := D) (ci := 0) (v := .ref aP) (C := RX0) (T := TX0) (N := 3) hx hb hts iw_X0 hown hK hP21 0 rfl rfl 0 (by decide) (hts (.fieldLink RX0 18 "VarianceBridge$Bridge" "plan" "LVarianceBridge$Plan;") (by decide +kernel)) (fun _ h9 => h9) rfl dX0_moverAt_34 ?_
          refine lv_iload hx hb dX0_moverAt_37 (lv_at hl 4 rfl) ?_
          refine lv_iload_n hx hb dX0_moverAt_39 rfl (lv_at hl 2 rfl) ?_
          obtain ⟨r26, h26, hm26⟩ := ob1_e hm24
          refine gcall_i (ws' := (w_Bridge cI cB cZ aB aBb aBs aP aPp aPf bb bs pg ps pn pp pf)) (va_runVN (As := [.int y4, .int y2]) (rest := [.int y4, .ref aBs]) ⟨hx, hb, hml, hown, hts⟩ (c_X2_leafValue l D cI cB cZ ta aP aPp aPf H21.size pg ps pn pp pf y4 y2 r26 h26) ⟨va_cnB 2 hts gX0_moverAt_X2_leafValue_n95 rfl rfl rfl (hG.1 (.methodLinkNest RX0 95 yX2_leafValue RX6) (by decide +kernel)) (hts (.initialized RX2) (by decide +kernel)) (by decide +kernel) ⟨(Nat.le_of_ble_eq_true rfl), (Nat.le_of_ble_eq_true rfl)⟩, hts (.instanceMethod yX2_leafValue) (by decide +kernel), hts (.selects RX2 yX2_leafValue yX2_leafValue) (by decide +kernel)⟩ ⟨PW_blind, va_recv hK hP21 rfl (q0 := 3) rfl, PW_at hP21 hD21 hK hS21 hA hG [3, 4, 5] rfl (by decide)⟩ rfl rfl hl.1 rfl (lv_room (Nat.le_of_ble_eq_true rfl)) dX0_moverAt_40 ⟨(Nat.le_of_ble_eq_true rfl), (Nat.le_of_ble_eq_true rfl)⟩) hP21 hD21 hS21 hA [3, 4, 5] [0, 1, 2] [0, 1, 2, 3, 4, 5] rfl rfl (by decide) (by decide) (by decide) rfl (fun H27 lo27 hP27 hD27 hS27 => ?_)
          clear hP21 hD21 hS21
          refine lv_aload_n hx hb dX0_moverAt_43 rfl (lv_at hl 0 rfl) ?_
          refine va_get (D := D) (ci := 0) (v := .ref aP) (C := RX0) (T := TX0) (N := 3) hx hb hts iw_X0 hown hK hP27 0 rfl rfl 0 (by decide) (hts (.fieldLink RX0 18 "VarianceBridge$Bridge" "plan" "LVarianceBridge$Plan;") (by decide +kernel)) (fun _ h9 => h9) rfl dX0_moverAt_44 ?_
          refine lv_iload hx hb dX0_moverAt_47 (lv_at hl 4 rfl) ?_
          refine lv_iload_n hx hb dX0_moverAt_49 rfl (lv_at hl 1 rfl) ?_
          obtain ⟨r28, h28, hm28⟩ := ob1_e hm26
          refine gcall_i (ws' := (w_Bridge cI cB cZ aB aBb aBs aP aPp aPf bb bs pg ps pn pp pf)) (va_runVN (As := [.int y4, .int y1]) (rest := [.int r26, .int y4, .ref aBs]) ⟨hx, hb, hml, hown, hts⟩ (c_X2_leafValue l D cI cB cZ ta aP aPp aPf H27.size pg ps pn pp pf y4 y1 r28 h28) ⟨va_cnB 2 hts gX0_moverAt_X2_leafValue_n95 rfl rfl rfl (hG.1 (.methodLinkNest RX0 95 yX2_leafValue RX6) (by decide +kernel)) (hts (.initialized RX2) (by decide +kernel)) (by decide +kernel) ⟨(Nat.le_of_ble_eq_true rfl), (Nat.le_of_ble_eq_true rfl)⟩, hts (.instanceMethod yX2_leafValue) (by decide +kernel), hts (.selects RX2 yX2_leafValue yX2_leafValue) (by decide +kernel)⟩ ⟨PW_blind, va_recv hK hP27 rfl (q0 := 3) rfl, PW_at hP27 hD27 hK hS27 hA hG [3, 4, 5] rfl (by decide)⟩ rfl rfl hl.1 rfl (lv_room (Nat.le_of_ble_eq_true rfl)) dX0_moverAt_50 ⟨(Nat.le_of_ble_eq_true rfl), (Nat.le_of_ble_eq_true rfl)⟩) hP27 hD27 hS27 hA [3, 4, 5] [0, 1, 2] [0, 1, 2, 3, 4, 5] rfl rfl (by decide) (by decide) (by decide) rfl (fun H29 lo29 hP29 hD29 hS29 => ?_)
          clear hP27 hD27 hS27
          refine lv_isub hx hb dX0_moverAt_53 ?_
          refine va_mabs hx hb (by rw [hml]; exact hl.1.symm) hown (hts (.methodLink RX0 98 Lib.Math.abs.name) (by decide +kernel)) (hts (.static Lib.Math.abs.name) (by decide +kernel)) (hts (.initialized "java/lang/Math") (by decide +kernel)) (hts (.code Lib.Math.abs.name Lib.Math.abs.code 1 (some .int)) (by decide +kernel)) (Nat.le_of_ble_eq_true rfl) (Nat.le_of_ble_eq_true rfl) (Nat.le_of_ble_eq_true rfl) (Nat.le_of_ble_eq_true rfl) dX0_moverAt_54 ?_
          obtain ⟨c30, hm31⟩ := zz_no hm28
          refine va_iast hx hb hK hP29 hD29 hS29 2 0 rfl rfl c30 dX0_moverAt_57 (fun H32 lo32 hP32 hD32 hS32 => ?_)
          replace hP32 : va_P D vwCl (w_Bridge cI cB cZ aB aBb aBs aP aPp aPf bb (upd bs y4.toNatClampNeg (if 0 ≤ (r26 - r28) then (r26 - r28) else 0 - (r26 - r28))) pg ps pn pp pf) H32 := hP32
          replace hD32 : va_D A (w_Bridge cI cB cZ aB aBb aBs aP aPp aPf bb (upd bs y4.toNatClampNeg (if 0 ≤ (r26 - r28) then (r26 - r28) else 0 - (r26 - r28))) pg ps pn pp pf) := hD32
          clear hP29 hD29 hS29
          refine lv_iinc (v := (y4 + (1 : Int32))) (lv' := [(4, .int (y4 + (1 : Int32))), (0, .ref aB), (1, .int y1), (2, .int y2), (3, .int y3)]) hx hb dX0_moverAt_58 hl (k := 4) rfl (by rfl) (by decide) rfl (fun ls33 hl33 => ?_)
          refine lv_goto (tgt := 3) hx hb dX0_moverAt_61 (by decide) ?_
          exact ih (upd bs y4.toNatClampNeg (if 0 ≤ (r26 - r28) then (r26 - r28) else 0 - (r26 - r28))) y1 y2 y3 (y4 + (1 : Int32)) hm31 ls33 H32 lo32 (lv_sub hl33 [1, 2, 3, 4, 0] rfl) hP32 hD32 hS32
  have hl := lv_entry ([.ref aB, .int x1, .int x2, .int x3]) (n := 5) (Nat.le_of_ble_eq_true rfl)
  rw [lg_entry_eq]
  generalize (lg_sl ([.ref aB, .int x1, .int x2, .int x3]) ++ List.replicate (5 - (lg_sl ([.ref aB, .int x1, .int x2, .int x3])).length) Slot.unset).toArray = ls at hl ⊢
  have hl : lv_has ls 5 [(0, .ref aB), (1, .int x1), (2, .int x2), (3, .int x3)] := hl
  replace hm : (k_X0_moverAt_3 pg pn pf FU bs x1 x2 x3 (1 : Int32)) = some (r0, u_bs) := hm
  refine lv_iconst (v := (1 : Int32)) hx hb dX0_moverAt_0 (by decide) ?_
  refine lv_istore (lv' := [(4, .int (1 : Int32)), (0, .ref aB), (1, .int x1), (2, .int x2), (3, .int x3)]) hx hb dX0_moverAt_1 hl (by decide) rfl (fun ls34 hl34 => ?_)
  exact hk_3 FU bs x1 x2 x3 (1 : Int32) hm ls34 s.heap [] (lv_sub hl34 [1, 2, 3, 4, 0] rfl) hP hD hS
theorem iw_X2_isGroup_X2 : ∀ w ∈ wsX20, w ∈ wsX2_isGroup := by decide +kernel
set_option maxHeartbeats 4000000 in
set_option maxRecDepth 100000 in
theorem c_X2_isGroup (l : Launch) (D : va_G) (cI cB cZ : ClassId) (ta : Nat → Nat) (aP : Nat) (aPp : Nat) (aPf : Nat) (sz : Nat) (pg : Int32) (ps : Int32) (pn : Int32) (pp : (Nat → Int32)) (pf : (Nat → Int32)) (x1 : Int32) (r0 : Int32) (hm : m_X2_isGroup pg pn x1 = some r0) : Met l yX2_isGroup wsX2_isGroup ({ frames := 1, cells := 0, slots := 0, locals := 21 } : Room) (va_Pc [.ref aP, .int x1] (PW D cI cB cZ ta (w_Plan cI cB cZ aP aPp aPf pg ps pn pp pf) sz)) (QZ .boolean D cI cB cZ (va_A (w_Plan cI cB cZ aP aPp aPf pg ps pn pp pf) sz) (w_Plan cI cB cZ aP aPp aPf pg ps pn pp pf) r0) 0 0 (va_A (w_Plan cI cB cZ aP aPp aPf pg ps pn pp pf) sz) := by
  refine Met.ofW (cc := cX2_isGroup) (maxL := 2) (ret := (some .boolean)) (by decide) rfl ?_
  intro p e s m args below meth c s₁ B hml hv
  obtain ⟨rfl, hsz, hP, hK, hD0, hG⟩ := hv
  have hx := B.exec
  have hb := B.bytes
  have hr := B.returns
  have hts := atoms_spec (ws := wsX2_isGroup) B.pre
  have hown : s.vm.findClass RX2 = some m.cls := findClass_of_methodNamed B.named
  have hlocks := B.notSynchronized
  subst hsz
  have hD := hD0.self (sz := s.heap.size)
  clear hD0
  have hA0 : ∀ q : Nat, s.heap.size ≤ q → va_A (w_Plan cI cB cZ aP aPp aPf pg ps pn pp pf) s.heap.size q := fun q h => Or.inr h
  generalize hAe : va_A (w_Plan cI cB cZ aP aPp aPf pg ps pn pp pf) s.heap.size = A at hD hG hA0 ⊢
  have hA : ∀ q : Nat, s.heap.size ≤ q → A q := hA0
  clear hA0
  have hS : va_S A s.heap s.heap [] := va_S.rf
  have iw_X2 := iw_X2_isGroup_X2
  have hl := lv_entry ([.ref aP, .int x1]) (n := 2) (Nat.le_of_ble_eq_true rfl)
  rw [lg_entry_eq]
  generalize (lg_sl ([.ref aP, .int x1]) ++ List.replicate (2 - (lg_sl ([.ref aP, .int x1])).length) Slot.unset).toArray = ls at hl ⊢
  have hl : lv_has ls 2 [(0, .ref aP), (1, .int x1)] := hl
  replace hm : (ob1 (m_X2_isNode pn x1) (fun r1 => (if r1 = 0 then some (0 : Int32) else (if ((pg >>> (x1 &&& 31)) &&& (1 : Int32)) = 0 then some (0 : Int32) else some (1 : Int32))))) = some r0 := hm
  refine lv_aload_n hx hb dX2_isGroup_0 rfl (lv_at hl 0 rfl) ?_
  refine lv_iload_n hx hb dX2_isGroup_1 rfl (lv_at hl 1 rfl) ?_
  obtain ⟨r1, h1, hm1⟩ := ob1_e hm
  refine gcall_b (ws' := (w_Plan cI cB cZ aP aPp aPf pg ps pn pp pf)) (va_runV (As := [.int x1]) (rest := []) ⟨hx, hb, hml, hown, hts⟩ (c_X2_isNode l D cI cB cZ ta aP aPp aPf s.heap.size pg ps pn pp pf x1 r1 h1) (cwV 1 hts gX2_isGroup_X2_isNode rfl rfl rfl (by decide +kernel) ⟨(Nat.le_of_ble_eq_true rfl), (Nat.le_of_ble_eq_true rfl)⟩) ⟨PW_blind, va_recv hK hP rfl (q0 := 0) rfl, PW_at hP hD hK hS hA hG [0, 1, 2] rfl (by decide)⟩ rfl rfl hl.1 rfl (lv_room (Nat.le_of_ble_eq_true rfl)) dX2_isGroup_2 ⟨(Nat.le_of_ble_eq_true rfl), (Nat.le_of_ble_eq_true rfl)⟩) hP hD hS hA [0, 1, 2] [] [0, 1, 2] rfl rfl (by decide) (by decide) (by decide) rfl (fun H2 lo2 hz1 hP2 hD2 hS2 => ?_)
  clear hP hD hS
  refine lv_if_eq (tgt := 23) hx hb dX2_isGroup_5 (by decide) (fun c3 => ?_) (fun c3 => ?_)
  · have hm4 := zz_if c3 hm1
    refine lv_iconst (v := (0 : Int32)) hx hb dX2_isGroup_23 (by decide) ?_
    have hq1 := Option.some.inj hm4
    subst hq1
    exact W.zret (ty := .boolean) hx hb hr (by decide) (fun t ht hW => ⟨⟨_, (), rfl, ⟨rfl, (by decide)⟩, by rw [ht]; exact hP2, va_K.moved hW.alike hK, hD2⟩, hS2.F ht⟩) hS2.2.2 dX2_isGroup_24
  · have hm5 := zz_nf c3 hm1
    refine lv_aload_n hx hb dX2_isGroup_8 rfl (lv_at hl 0 rfl) ?_
    refine va_get (D := D) (ci := 2) (v := .int pg) (C := RX2) (T := TX2) (N := 5) hx hb hts iw_X2 hown hK hP2 0 rfl rfl 2 (by decide) (hts (.fieldLink RX2 29 "VarianceBridge$Plan" "groupBits" "I") (by decide +kernel)) (fun _ h9 => h9) rfl dX2_isGroup_9 ?_
    refine lv_iload_n hx hb dX2_isGroup_12 rfl (lv_at hl 1 rfl) ?_
    refine lv_ishr hx hb dX2_isGroup_13 ?_
    refine lv_iconst (v := (1 : Int32)) hx hb dX2_isGroup_14 (by decide) ?_
    refine lv_iand hx hb dX2_isGroup_15 ?_
    refine lv_if_eq (tgt := 23) hx hb dX2_isGroup_16 (by decide) (fun c6 => ?_) (fun c6 => ?_)
    · have hm7 := zz_if c6 hm5
      refine lv_iconst (v := (0 : Int32)) hx hb dX2_isGroup_23 (by decide) ?_
      have hq1 := Option.some.inj hm7
      subst hq1
      exact W.zret (ty := .boolean) hx hb hr (by decide) (fun t ht hW => ⟨⟨_, (), rfl, ⟨rfl, (by decide)⟩, by rw [ht]; exact hP2, va_K.moved hW.alike hK, hD2⟩, hS2.F ht⟩) hS2.2.2 dX2_isGroup_24
    · have hm8 := zz_nf c6 hm5
      refine lv_iconst (v := (1 : Int32)) hx hb dX2_isGroup_19 (by decide) ?_
      refine lv_goto (tgt := 24) hx hb dX2_isGroup_20 (by decide) ?_
      have hq1 := Option.some.inj hm8
      subst hq1
      exact W.zret (ty := .boolean) hx hb hr (by decide) (fun t ht hW => ⟨⟨_, (), rfl, ⟨rfl, (by decide)⟩, by rw [ht]; exact hP2, va_K.moved hW.alike hK, hD2⟩, hS2.F ht⟩) hS2.2.2 dX2_isGroup_24
theorem iw_X2_nodeValue_X2 : ∀ w ∈ wsX20, w ∈ wsX2_nodeValue := by decide +kernel
set_option maxHeartbeats 4000000 in
set_option maxRecDepth 100000 in
theorem c_X2_nodeValue (l : Launch) (D : va_G) (cI cB cZ : ClassId) (ta : Nat → Nat) (aP : Nat) (aPp : Nat) (aPf : Nat) (sz : Nat) (pg : Int32) (ps : Int32) (pn : Int32) (pp : (Nat → Int32)) (pf : (Nat → Int32)) (x1 : Int32) (x2 : Int32) (r0 : Int32) (hm : m_X2_nodeValue pg pn pp pf x1 x2 = some r0) : Met l yX2_nodeValue wsX2_nodeValue ({ frames := 3, cells := 0, slots := 0, locals := 74 } : Room) (va_Pc [.ref aP, .int x1, .int x2] (PW D cI cB cZ ta (w_Plan cI cB cZ aP aPp aPf pg ps pn pp pf) sz)) (QI D cI cB cZ (va_A (w_Plan cI cB cZ aP aPp aPf pg ps pn pp pf) sz) (w_Plan cI cB cZ aP aPp aPf pg ps pn pp pf) r0) 0 0 (va_A (w_Plan cI cB cZ aP aPp aPf pg ps pn pp pf) sz) := by
  refine Met.ofW (cc := cX2_nodeValue) (maxL := 6) (ret := (some .int)) (by decide) rfl ?_
  intro p e s m args below meth c s₁ B hml hv
  obtain ⟨rfl, hsz, hP, hK, hD0, hG⟩ := hv
  have hx := B.exec
  have hb := B.bytes
  have hr := B.returns
  have hts := atoms_spec (ws := wsX2_nodeValue) B.pre
  have hown : s.vm.findClass RX2 = some m.cls := findClass_of_methodNamed B.named
  have hlocks := B.notSynchronized
  subst hsz
  have hD := hD0.self (sz := s.heap.size)
  clear hD0
  have hA0 : ∀ q : Nat, s.heap.size ≤ q → va_A (w_Plan cI cB cZ aP aPp aPf pg ps pn pp pf) s.heap.size q := fun q h => Or.inr h
  generalize hAe : va_A (w_Plan cI cB cZ aP aPp aPf pg ps pn pp pf) s.heap.size = A at hD hG hA0 ⊢
  have hA : ∀ q : Nat, s.heap.size ≤ q → A q := hA0
  clear hA0
  have hS : va_S A s.heap s.heap [] := va_S.rf
  have iw_X2 := iw_X2_nodeValue_X2
  have hk_12 : ∀ (n : Nat) (y2 : Int32) (y3 : Int32) (y4 : Int32) (y5 : Int32), k_X2_nodeValue_12 pg pn pp pf n y2 y3 y4 y5 = some r0 → ∀ (ls : Array Slot) (H : Heap) (lo : List Loc), lv_has ls 6 [(0, .ref aP), (2, .int y2), (3, .int y3), (4, .int y4), (5, .int y5)] → va_P D vwCl (w_Plan cI cB cZ aP aPp aPf pg ps pn pp pf) H → va_D A (w_Plan cI cB cZ aP aPp aPf pg ps pn pp pf) → va_S A s.heap H lo → W p l e (headSpec wsX2_nodeValue ({ frames := 3, cells := 0, slots := 0, locals := 74 } : Room)).room s m (([.ref aP, .int x1, .int x2] : List Value).toArray) below meth c H lo 0 0 (MQ below (QI D cI cB cZ A (w_Plan cI cB cZ aP aPp aPf pg ps pn pp pf) r0) (([.ref aP, .int x1, .int x2] : List Value).toArray) s 0 0 A) (F0 m 12 ls []) := by
    intro n
    induction n with
    | zero => intro y2 y3 y4 y5 hm; exact zz_nn hm
    | succ n ih =>
      intro y2 y3 y4 y5 hm ls H lo hl hP hD hS
      replace hm := (k_X2_nodeValue_12_s pg pn pp pf n y2 y3 y4 y5).symm.trans hm
      refine lv_iload hx hb dX2_nodeValue_12 (lv_at hl 4 rfl) ?_
      refine lv_aload_n hx hb dX2_nodeValue_14 rfl (lv_at hl 0 rfl) ?_
      refine va_get (D := D) (ci := 2) (v := .int pn) (C := RX2) (T := TX2) (N := 5) hx hb hts iw_X2 hown hK hP 0 rfl rfl 4 (by decide) (hts (.fieldLink RX2 26 "VarianceBridge$Plan" "nodes" "I") (by decide +kernel)) (fun _ h9 => h9) rfl dX2_nodeValue_15 ?_
      refine lv_icmp_ge (tgt := 48) hx hb dX2_nodeValue_18 (by decide) (fun c1 => ?_) (fun c1 => ?_)
      · have hm2 := zz_if c1 hm
        refine lv_iload hx hb dX2_nodeValue_48 (lv_at hl 3 rfl) ?_
        have hq1 := Option.some.inj hm2
        subst hq1
        exact W.iret hx hb hr (fun t ht hW => ⟨⟨_, (), rfl, rfl, by rw [ht]; exact hP, va_K.moved hW.alike hK, hD⟩, hS.F ht⟩) hS.2.2 dX2_nodeValue_50
      · have hm3 := zz_nf c1 hm
        refine lv_iload_n hx hb dX2_nodeValue_21 rfl (lv_at hl 2 rfl) ?_
        refine lv_iload hx hb dX2_nodeValue_22 (lv_at hl 4 rfl) ?_
        refine lv_ishr hx hb dX2_nodeValue_24 ?_
        refine lv_iconst (v := (1 : Int32)) hx hb dX2_nodeValue_25 (by decide) ?_
        refine lv_iand hx hb dX2_nodeValue_26 ?_
        refine lv_if_eq (tgt := 42) hx hb dX2_nodeValue_27 (by decide) (fun c4 => ?_) (fun c4 => ?_)
        · have hm5 := zz_if c4 hm3
          refine lv_iinc (v := (y5 + (1 : Int32))) (lv' := [(5, .int (y5 + (1 : Int32))), (0, .ref aP), (2, .int y2), (3, .int y3), (4, .int y4)]) hx hb dX2_nodeValue_42 hl (k := 4) rfl (by rfl) (by decide) rfl (fun ls7 hl7 => ?_)
          refine lv_goto (tgt := 12) hx hb dX2_nodeValue_45 (by decide) ?_
          exact ih y2 y3 y4 (y5 + (1 : Int32)) hm5 ls7 H lo (lv_sub hl7 [1, 2, 3, 4, 0] rfl) hP hD hS
        · have hm6 := zz_nf c4 hm3
          refine lv_iload hx hb dX2_nodeValue_30 (lv_at hl 3 rfl) ?_
          refine lv_aload_n hx hb dX2_nodeValue_32 rfl (lv_at hl 0 rfl) ?_
          refine lv_iload hx hb dX2_nodeValue_33 (lv_at hl 4 rfl) ?_
          refine lv_iload_n hx hb dX2_nodeValue_35 rfl (lv_at hl 1 rfl) ?_
          obtain ⟨r8, h8, hm8⟩ := ob1_e hm6
          refine gcall_i (ws' := (w_Plan cI cB cZ aP aPp aPf pg ps pn pp pf)) (va_runV (As := [.int y5, .int y2]) (rest := [.int y4]) ⟨hx, hb, hml, hown, hts⟩ (c_X2_leafValue l D cI cB cZ ta aP aPp aPf H.size pg ps pn pp pf y5 y2 r8 h8) (cwV 2 hts gX2_nodeValue_X2_leafValue rfl rfl rfl (by decide +kernel) ⟨(Nat.le_of_ble_eq_true rfl), (Nat.le_of_ble_eq_true rfl)⟩) ⟨PW_blind, va_recv hK hP rfl (q0 := 0) rfl, PW_at hP hD hK hS hA hG [0, 1, 2] rfl (by decide)⟩ rfl rfl hl.1 rfl (lv_room (Nat.le_of_ble_eq_true rfl)) dX2_nodeValue_36 ⟨(Nat.le_of_ble_eq_true rfl), (Nat.le_of_ble_eq_true rfl)⟩) hP hD hS hA [0, 1, 2] [] [0, 1, 2] rfl rfl (by decide) (by decide) (by decide) rfl (fun H9 lo9 hP9 hD9 hS9 => ?_)
          clear hP hD hS
          refine lv_iadd hx hb dX2_nodeValue_39 ?_
          refine lv_istore (lv' := [(4, .int (y4 + r8)), (0, .ref aP), (2, .int y2), (3, .int y3), (5, .int y5)]) hx hb dX2_nodeValue_40 hl (by decide) rfl (fun ls10 hl10 => ?_)
          refine lv_iinc (v := (y5 + (1 : Int32))) (lv' := [(5, .int (y5 + (1 : Int32))), (4, .int (y4 + r8)), (0, .ref aP), (2, .int y2), (3, .int y3)]) hx hb dX2_nodeValue_42 hl10 (k := 4) rfl (by rfl) (by decide) rfl (fun ls11 hl11 => ?_)
          refine lv_goto (tgt := 12) hx hb dX2_nodeValue_45 (by decide) ?_
          exact ih y2 y3 (y4 + r8) (y5 + (1 : Int32)) hm8 ls11 H9 lo9 (lv_sub hl11 [2, 3, 4, 1, 0] rfl) hP9 hD9 hS9
  have hl := lv_entry ([.ref aP, .int x1, .int x2]) (n := 6) (Nat.le_of_ble_eq_true rfl)
  rw [lg_entry_eq]
  generalize (lg_sl ([.ref aP, .int x1, .int x2]) ++ List.replicate (6 - (lg_sl ([.ref aP, .int x1, .int x2])).length) Slot.unset).toArray = ls at hl ⊢
  have hl : lv_has ls 6 [(0, .ref aP), (1, .int x1), (2, .int x2)] := hl
  replace hm : (ob1 (m_X2_leavesBelow pg pn pp x1) (fun r12 => (k_X2_nodeValue_12 pg pn pp pf FU x2 r12 (0 : Int32) (1 : Int32)))) = some r0 := hm
  refine lv_aload_n hx hb dX2_nodeValue_0 rfl (lv_at hl 0 rfl) ?_
  refine lv_iload_n hx hb dX2_nodeValue_1 rfl (lv_at hl 1 rfl) ?_
  obtain ⟨r12, h12, hm12⟩ := ob1_e hm
  refine gcall_i (ws' := (w_Plan cI cB cZ aP aPp aPf pg ps pn pp pf)) (va_runV (As := [.int x1]) (rest := []) ⟨hx, hb, hml, hown, hts⟩ (c_X2_leavesBelow l D cI cB cZ ta aP aPp aPf s.heap.size pg ps pn pp pf x1 r12 h12) (cwV 1 hts gX2_nodeValue_X2_leavesBelow rfl rfl rfl (by decide +kernel) ⟨(Nat.le_of_ble_eq_true rfl), (Nat.le_of_ble_eq_true rfl)⟩) ⟨PW_blind, va_recv hK hP rfl (q0 := 0) rfl, PW_at hP hD hK hS hA hG [0, 1, 2] rfl (by decide)⟩ rfl rfl hl.1 rfl (lv_room (Nat.le_of_ble_eq_true rfl)) dX2_nodeValue_2 ⟨(Nat.le_of_ble_eq_true rfl), (Nat.le_of_ble_eq_true rfl)⟩) hP hD hS hA [0, 1, 2] [] [0, 1, 2] rfl rfl (by decide) (by decide) (by decide) rfl (fun H13 lo13 hP13 hD13 hS13 => ?_)
  clear hP hD hS
  refine lv_istore_n (lv' := [(3, .int r12), (0, .ref aP), (1, .int x1), (2, .int x2)]) hx hb dX2_nodeValue_5 rfl hl (by decide) rfl (fun ls14 hl14 => ?_)
  refine lv_iconst (v := (0 : Int32)) hx hb dX2_nodeValue_6 (by decide) ?_
  refine lv_istore (lv' := [(4, .int (0 : Int32)), (3, .int r12), (0, .ref aP), (1, .int x1), (2, .int x2)]) hx hb dX2_nodeValue_7 hl14 (by decide) rfl (fun ls15 hl15 => ?_)
  refine lv_iconst (v := (1 : Int32)) hx hb dX2_nodeValue_9 (by decide) ?_
  refine lv_istore (lv' := [(5, .int (1 : Int32)), (4, .int (0 : Int32)), (3, .int r12), (0, .ref aP), (1, .int x1), (2, .int x2)]) hx hb dX2_nodeValue_10 hl15 (by decide) rfl (fun ls16 hl16 => ?_)
  exact hk_12 FU x2 r12 (0 : Int32) (1 : Int32) hm12 ls16 H13 lo13 (lv_sub hl16 [3, 5, 2, 1, 0] rfl) hP13 hD13 hS13
theorem iw_X0_greatestGroup_X0 : ∀ w ∈ wsX00, w ∈ wsX0_greatestGroup := by decide +kernel
theorem iw_X0_greatestGroup_X2 : ∀ w ∈ wsX20, w ∈ wsX0_greatestGroup := by decide +kernel
set_option maxHeartbeats 4000000 in
set_option maxRecDepth 100000 in
theorem c_X0_greatestGroup (l : Launch) (D : va_G) (cI cB cZ : ClassId) (ta : Nat → Nat) (aB : Nat) (aBb : Nat) (aBs : Nat) (aP : Nat) (aPp : Nat) (aPf : Nat) (sz : Nat) (bb : (Nat → Int32)) (bs : (Nat → Int32)) (pg : Int32) (ps : Int32) (pn : Int32) (pp : (Nat → Int32)) (pf : (Nat → Int32)) (x1 : Int32) (x2 : Int32) (r0 : Int32) (hm : m_X0_greatestGroup pg pn pp pf x1 x2 = some r0) : Met l yX0_greatestGroup wsX0_greatestGroup ({ frames := 4, cells := 0, slots := 0, locals := 99 } : Room) (va_Pc [.ref aB, .int x1, .int x2] (PW D cI cB cZ ta (w_Bridge cI cB cZ aB aBb aBs aP aPp aPf bb bs pg ps pn pp pf) sz)) (QI D cI cB cZ (va_A (w_Bridge cI cB cZ aB aBb aBs aP aPp aPf bb bs pg ps pn pp pf) sz) (w_Bridge cI cB cZ aB aBb aBs aP aPp aPf bb bs pg ps pn pp pf) r0) 0 0 (va_A (w_Bridge cI cB cZ aB aBb aBs aP aPp aPf bb bs pg ps pn pp pf) sz) := by
  refine Met.ofW (cc := cX0_greatestGroup) (maxL := 7) (ret := (some .int)) (by decide) rfl ?_
  intro p e s m args below meth c s₁ B hml hv
  obtain ⟨rfl, hsz, hP, hK, hD0, hG⟩ := hv
  have hx := B.exec
  have hb := B.bytes
  have hr := B.returns
  have hts := atoms_spec (ws := wsX0_greatestGroup) B.pre
  have hown : s.vm.findClass RX0 = some m.cls := findClass_of_methodNamed B.named
  have hlocks := B.notSynchronized
  subst hsz
  have hD := hD0.self (sz := s.heap.size)
  clear hD0
  have hA0 : ∀ q : Nat, s.heap.size ≤ q → va_A (w_Bridge cI cB cZ aB aBb aBs aP aPp aPf bb bs pg ps pn pp pf) s.heap.size q := fun q h => Or.inr h
  generalize hAe : va_A (w_Bridge cI cB cZ aB aBb aBs aP aPp aPf bb bs pg ps pn pp pf) s.heap.size = A at hD hG hA0 ⊢
  have hA : ∀ q : Nat, s.heap.size ≤ q → A q := hA0
  clear hA0
  have hS : va_S A s.heap s.heap [] := va_S.rf
  have iw_X0 := iw_X0_greatestGroup_X0
  have iw_X2 := iw_X0_greatestGroup_X2
  have hk_9 : ∀ (n : Nat) (y1 : Int32) (y2 : Int32) (y3 : Int32) (y4 : Int32) (y5 : Int32), k_X0_greatestGroup_9 pg pn pp pf n y1 y2 y3 y4 y5 = some r0 → ∀ (ls : Array Slot) (H : Heap) (lo : List Loc), lv_has ls 7 [(0, .ref aB), (1, .int y1), (2, .int y2), (3, .int y3), (4, .int y4), (5, .int y5)] → va_P D vwCl (w_Bridge cI cB cZ aB aBb aBs aP aPp aPf bb bs pg ps pn pp pf) H → va_D A (w_Bridge cI cB cZ aB aBb aBs aP aPp aPf bb bs pg ps pn pp pf) → va_S A s.heap H lo → W p l e (headSpec wsX0_greatestGroup ({ frames := 4, cells := 0, slots := 0, locals := 99 } : Room)).room s m (([.ref aB, .int x1, .int x2] : List Value).toArray) below meth c H lo 0 0 (MQ below (QI D cI cB cZ A (w_Bridge cI cB cZ aB aBb aBs aP aPp aPf bb bs pg ps pn pp pf) r0) (([.ref aB, .int x1, .int x2] : List Value).toArray) s 0 0 A) (F0 m 9 ls []) := by
    intro n
    induction n with
    | zero => intro y1 y2 y3 y4 y5 hm; exact zz_nn hm
    | succ n ih =>
      intro y1 y2 y3 y4 y5 hm ls H lo hl hP hD hS
      replace hm := (k_X0_greatestGroup_9_s pg pn pp pf n y1 y2 y3 y4 y5).symm.trans hm
      refine lv_iload hx hb dX0_greatestGroup_9 (lv_at hl 5 rfl) ?_
      refine lv_aload_n hx hb dX0_greatestGroup_11 rfl (lv_at hl 0 rfl) ?_
      refine va_get (D := D) (ci := 0) (v := .ref aP) (C := RX0) (T := TX0) (N := 3) hx hb hts iw_X0 hown hK hP 0 rfl rfl 0 (by decide) (hts (.fieldLink RX0 18 "VarianceBridge$Bridge" "plan" "LVarianceBridge$Plan;") (by decide +kernel)) (fun _ h9 => h9) rfl dX0_greatestGroup_12 ?_
      refine va_getN (D := D) (ci := 2) (v := .int pn) (C := RX2) (T := TX2) (N := 5) hx hb hts iw_X2 hown hK hP 3 rfl rfl 4 (by decide) (va_Nw.use rfl (hG.1 (.fieldLinkNest RX0 32 RX2 "nodes" "I" RX6) (by decide +kernel))) (fun _ h9 => h9) rfl dX0_greatestGroup_15 ?_
      refine lv_icmp_ge (tgt := 79) hx hb dX0_greatestGroup_18 (by decide) (fun c1 => ?_) (fun c1 => ?_)
      · have hm2 := zz_if c1 hm
        refine lv_iload_n hx hb dX0_greatestGroup_79 rfl (lv_at hl 3 rfl) ?_
        have hq1 := Option.some.inj hm2
        subst hq1
        exact W.iret hx hb hr (fun t ht hW => ⟨⟨_, (), rfl, rfl, by rw [ht]; exact hP, va_K.moved hW.alike hK, hD⟩, hS.F ht⟩) hS.2.2 dX0_greatestGroup_80
      · have hm3 := zz_nf c1 hm
        refine lv_aload_n hx hb dX0_greatestGroup_21 rfl (lv_at hl 0 rfl) ?_
        refine va_get (D := D) (ci := 0) (v := .ref aP) (C := RX0) (T := TX0) (N := 3) hx hb hts iw_X0 hown hK hP 0 rfl rfl 0 (by decide) (hts (.fieldLink RX0 18 "VarianceBridge$Bridge" "plan" "LVarianceBridge$Plan;") (by decide +kernel)) (fun _ h9 => h9) rfl dX0_greatestGroup_22 ?_
        refine lv_iload hx hb dX0_greatestGroup_25 (lv_at hl 5 rfl) ?_
        obtain ⟨r4, h4, hm4⟩ := ob1_e hm3
        refine gcall_b (ws' := (w_Bridge cI cB cZ aB aBb aBs aP aPp aPf bb bs pg ps pn pp pf)) (va_runVN (As := [.int y5]) (rest := []) ⟨hx, hb, hml, hown, hts⟩ (c_X2_isGroup l D cI cB cZ ta aP aPp aPf H.size pg ps pn pp pf y5 r4 h4) ⟨va_cnB 1 hts gX0_greatestGroup_X2_isGroup_n106 rfl rfl rfl (hG.1 (.methodLinkNest RX0 106 yX2_isGroup RX6) (by decide +kernel)) (hts (.initialized RX2) (by decide +kernel)) (by decide +kernel) ⟨(Nat.le_of_ble_eq_true rfl), (Nat.le_of_ble_eq_true rfl)⟩, hts (.instanceMethod yX2_isGroup) (by decide +kernel), hts (.selects RX2 yX2_isGroup yX2_isGroup) (by decide +kernel)⟩ ⟨PW_blind, va_recv hK hP rfl (q0 := 3) rfl, PW_at hP hD hK hS hA hG [3, 4, 5] rfl (by decide)⟩ rfl rfl hl.1 rfl (lv_room (Nat.le_of_ble_eq_true rfl)) dX0_greatestGroup_27 ⟨(Nat.le_of_ble_eq_true rfl), (Nat.le_of_ble_eq_true rfl)⟩) hP hD hS hA [3, 4, 5] [0, 1, 2] [0, 1, 2, 3, 4, 5] rfl rfl (by decide) (by decide) (by decide) rfl (fun H5 lo5 hz4 hP5 hD5 hS5 => ?_)
        clear hP hD hS
        refine lv_if_eq (tgt := 73) hx hb dX0_greatestGroup_30 (by decide) (fun c6 => ?_) (fun c6 => ?_)
        · have hm7 := zz_if c6 hm4
          refine lv_iinc (v := (y5 + (1 : Int32))) (lv' := [(5, .int (y5 + (1 : Int32))), (0, .ref aB), (1, .int y1), (2, .int y2), (3, .int y3), (4, .int y4)]) hx hb dX0_greatestGroup_73 hl (k := 5) rfl (by rfl) (by decide) rfl (fun ls9 hl9 => ?_)
          refine lv_goto (tgt := 9) hx hb dX0_greatestGroup_76 (by decide) ?_
          exact ih y1 y2 y3 y4 (y5 + (1 : Int32)) hm7 ls9 H5 lo5 (lv_sub hl9 [1, 2, 3, 4, 5, 0] rfl) hP5 hD5 hS5
        · have hm8 := zz_nf c6 hm4
          refine lv_aload_n hx hb dX0_greatestGroup_33 rfl (lv_at hl 0 rfl) ?_
          refine va_get (D := D) (ci := 0) (v := .ref aP) (C := RX0) (T := TX0) (N := 3) hx hb hts iw_X0 hown hK hP5 0 rfl rfl 0 (by decide) (hts (.fieldLink RX0 18 "VarianceBridge$Bridge" "plan" "LVarianceBridge$Plan;") (by decide +kernel)) (fun _ h9 => h9) rfl dX0_greatestGroup_34 ?_
          refine lv_iload hx hb dX0_greatestGroup_37 (lv_at hl 5 rfl) ?_
          refine lv_iload_n hx hb dX0_greatestGroup_39 rfl (lv_at hl 2 rfl) ?_
          obtain ⟨r10, h10, hm10⟩ := ob1_e hm8
          refine gcall_i (ws' := (w_Bridge cI cB cZ aB aBb aBs aP aPp aPf bb bs pg ps pn pp pf)) (va_runVN (As := [.int y5, .int y2]) (rest := []) ⟨hx, hb, hml, hown, hts⟩ (c_X2_nodeValue l D cI cB cZ ta aP aPp aPf H5.size pg ps pn pp pf y5 y2 r10 h10) ⟨va_cnB 2 hts gX0_greatestGroup_X2_nodeValue_n109 rfl rfl rfl (hG.1 (.methodLinkNest RX0 109 yX2_nodeValue RX6) (by decide +kernel)) (hts (.initialized RX2) (by decide +kernel)) (by decide +kernel) ⟨(Nat.le_of_ble_eq_true rfl), (Nat.le_of_ble_eq_true rfl)⟩, hts (.instanceMethod yX2_nodeValue) (by decide +kernel), hts (.selects RX2 yX2_nodeValue yX2_nodeValue) (by decide +kernel)⟩ ⟨PW_blind, va_recv hK hP5 rfl (q0 := 3) rfl, PW_at hP5 hD5 hK hS5 hA hG [3, 4, 5] rfl (by decide)⟩ rfl rfl hl.1 rfl (lv_room (Nat.le_of_ble_eq_true rfl)) dX0_greatestGroup_40 ⟨(Nat.le_of_ble_eq_true rfl), (Nat.le_of_ble_eq_true rfl)⟩) hP5 hD5 hS5 hA [3, 4, 5] [0, 1, 2] [0, 1, 2, 3, 4, 5] rfl rfl (by decide) (by decide) (by decide) rfl (fun H11 lo11 hP11 hD11 hS11 => ?_)
          clear hP5 hD5 hS5
          refine lv_aload_n hx hb dX0_greatestGroup_43 rfl (lv_at hl 0 rfl) ?_
          refine va_get (D := D) (ci := 0) (v := .ref aP) (C := RX0) (T := TX0) (N := 3) hx hb hts iw_X0 hown hK hP11 0 rfl rfl 0 (by decide) (hts (.fieldLink RX0 18 "VarianceBridge$Bridge" "plan" "LVarianceBridge$Plan;") (by decide +kernel)) (fun _ h9 => h9) rfl dX0_greatestGroup_44 ?_
          refine lv_iload hx hb dX0_greatestGroup_47 (lv_at hl 5 rfl) ?_
          refine lv_iload_n hx hb dX0_greatestGroup_49 rfl (lv_at hl 1 rfl) ?_
          obtain ⟨r12, h12, hm12⟩ := ob1_e hm10
          refine gcall_i (ws' := (w_Bridge cI cB cZ aB aBb aBs aP aPp aPf bb bs pg ps pn pp pf)) (va_runVN (As := [.int y5, .int y1]) (rest := [.int r10]) ⟨hx, hb, hml, hown, hts⟩ (c_X2_nodeValue l D cI cB cZ ta aP aPp aPf H11.size pg ps pn pp pf y5 y1 r12 h12) ⟨va_cnB 2 hts gX0_greatestGroup_X2_nodeValue_n109 rfl rfl rfl (hG.1 (.methodLinkNest RX0 109 yX2_nodeValue RX6) (by decide +kernel)) (hts (.initialized RX2) (by decide +kernel)) (by decide +kernel) ⟨(Nat.le_of_ble_eq_true rfl), (Nat.le_of_ble_eq_true rfl)⟩, hts (.instanceMethod yX2_nodeValue) (by decide +kernel), hts (.selects RX2 yX2_nodeValue yX2_nodeValue) (by decide +kernel)⟩ ⟨PW_blind, va_recv hK hP11 rfl (q0 := 3) rfl, PW_at hP11 hD11 hK hS11 hA hG [3, 4, 5] rfl (by decide)⟩ rfl rfl hl.1 rfl (lv_room (Nat.le_of_ble_eq_true rfl)) dX0_greatestGroup_50 ⟨(Nat.le_of_ble_eq_true rfl), (Nat.le_of_ble_eq_true rfl)⟩) hP11 hD11 hS11 hA [3, 4, 5] [0, 1, 2] [0, 1, 2, 3, 4, 5] rfl rfl (by decide) (by decide) (by decide) rfl (fun H13 lo13 hP13 hD13 hS13 => ?_)
          clear hP11 hD11 hS11
          refine lv_isub hx hb dX0_greatestGroup_53 ?_
          refine va_mabs hx hb (by rw [hml]; exact hl.1.symm) hown (hts (.methodLink RX0 98 Lib.Math.abs.name) (by decide +kernel)) (hts (.static Lib.Math.abs.name) (by decide +kernel)) (hts (.initialized "java/lang/Math") (by decide +kernel)) (hts (.code Lib.Math.abs.name Lib.Math.abs.code 1 (some .int)) (by decide +kernel)) (Nat.le_of_ble_eq_true rfl) (Nat.le_of_ble_eq_true rfl) (Nat.le_of_ble_eq_true rfl) (Nat.le_of_ble_eq_true rfl) dX0_greatestGroup_54 ?_
          refine lv_istore (lv' := [(6, .int (if 0 ≤ (r10 - r12) then (r10 - r12) else 0 - (r10 - r12))), (0, .ref aB), (1, .int y1), (2, .int y2), (3, .int y3), (4, .int y4), (5, .int y5)]) hx hb dX0_greatestGroup_57 hl (by decide) rfl (fun ls14 hl14 => ?_)
          refine lv_iload hx hb dX0_greatestGroup_59 (lv_at hl14 0 rfl) ?_
          refine lv_iload hx hb dX0_greatestGroup_61 (lv_at hl14 5 rfl) ?_
          refine lv_icmp_le (tgt := 73) hx hb dX0_greatestGroup_63 (by decide) (fun c15 => ?_) (fun c15 => ?_)
          · have hm16 := zz_if c15 hm12
            refine lv_iinc (v := (y5 + (1 : Int32))) (lv' := [(5, .int (y5 + (1 : Int32))), (6, .int (if 0 ≤ (r10 - r12) then (r10 - r12) else 0 - (r10 - r12))), (0, .ref aB), (1, .int y1), (2, .int y2), (3, .int y3), (4, .int y4)]) hx hb dX0_greatestGroup_73 hl14 (k := 6) rfl (by rfl) (by decide) rfl (fun ls18 hl18 => ?_)
            refine lv_goto (tgt := 9) hx hb dX0_greatestGroup_76 (by decide) ?_
            exact ih y1 y2 y3 y4 (y5 + (1 : Int32)) hm16 ls18 H13 lo13 (lv_sub hl18 [2, 3, 4, 5, 6, 0] rfl) hP13 hD13 hS13
          · have hm17 := zz_nf c15 hm12
            refine lv_iload hx hb dX0_greatestGroup_66 (lv_at hl14 0 rfl) ?_
            refine lv_istore (lv' := [(4, .int (if 0 ≤ (r10 - r12) then (r10 - r12) else 0 - (r10 - r12))), (6, .int (if 0 ≤ (r10 - r12) then (r10 - r12) else 0 - (r10 - r12))), (0, .ref aB), (1, .int y1), (2, .int y2), (3, .int y3), (5, .int y5)]) hx hb dX0_greatestGroup_68 hl14 (by decide) rfl (fun ls19 hl19 => ?_)
            refine lv_iload hx hb dX0_greatestGroup_70 (lv_at hl19 6 rfl) ?_
            refine lv_istore_n (lv' := [(3, .int y5), (4, .int (if 0 ≤ (r10 - r12) then (r10 - r12) else 0 - (r10 - r12))), (6, .int (if 0 ≤ (r10 - r12) then (r10 - r12) else 0 - (r10 - r12))), (0, .ref aB), (1, .int y1), (2, .int y2), (5, .int y5)]) hx hb dX0_greatestGroup_72 rfl hl19 (by decide) rfl (fun ls20 hl20 => ?_)
            refine lv_iinc (v := (y5 + (1 : Int32))) (lv' := [(5, .int (y5 + (1 : Int32))), (3, .int y5), (4, .int (if 0 ≤ (r10 - r12) then (r10 - r12) else 0 - (r10 - r12))), (6, .int (if 0 ≤ (r10 - r12) then (r10 - r12) else 0 - (r10 - r12))), (0, .ref aB), (1, .int y1), (2, .int y2)]) hx hb dX0_greatestGroup_73 hl20 (k := 6) rfl (by rfl) (by decide) rfl (fun ls21 hl21 => ?_)
            refine lv_goto (tgt := 9) hx hb dX0_greatestGroup_76 (by decide) ?_
            exact ih y1 y2 y5 (if 0 ≤ (r10 - r12) then (r10 - r12) else 0 - (r10 - r12)) (y5 + (1 : Int32)) hm17 ls21 H13 lo13 (lv_sub hl21 [4, 5, 6, 1, 2, 0] rfl) hP13 hD13 hS13
  have hl := lv_entry ([.ref aB, .int x1, .int x2]) (n := 7) (Nat.le_of_ble_eq_true rfl)
  rw [lg_entry_eq]
  generalize (lg_sl ([.ref aB, .int x1, .int x2]) ++ List.replicate (7 - (lg_sl ([.ref aB, .int x1, .int x2])).length) Slot.unset).toArray = ls at hl ⊢
  have hl : lv_has ls 7 [(0, .ref aB), (1, .int x1), (2, .int x2)] := hl
  replace hm : (k_X0_greatestGroup_9 pg pn pp pf FU x1 x2 (-2 : Int32) (-1 : Int32) (1 : Int32)) = some r0 := hm
  refine lv_bipush (v := (-2 : Int32)) hx hb dX0_greatestGroup_0 (by decide) ?_
  refine lv_istore_n (lv' := [(3, .int (-2 : Int32)), (0, .ref aB), (1, .int x1), (2, .int x2)]) hx hb dX0_greatestGroup_2 rfl hl (by decide) rfl (fun ls22 hl22 => ?_)
  refine lv_iconst (v := (-1 : Int32)) hx hb dX0_greatestGroup_3 (by decide) ?_
  refine lv_istore (lv' := [(4, .int (-1 : Int32)), (3, .int (-2 : Int32)), (0, .ref aB), (1, .int x1), (2, .int x2)]) hx hb dX0_greatestGroup_4 hl22 (by decide) rfl (fun ls23 hl23 => ?_)
  refine lv_iconst (v := (1 : Int32)) hx hb dX0_greatestGroup_6 (by decide) ?_
  refine lv_istore (lv' := [(5, .int (1 : Int32)), (4, .int (-1 : Int32)), (3, .int (-2 : Int32)), (0, .ref aB), (1, .int x1), (2, .int x2)]) hx hb dX0_greatestGroup_7 hl23 (by decide) rfl (fun ls24 hl24 => ?_)
  exact hk_9 FU x1 x2 (-2 : Int32) (-1 : Int32) (1 : Int32) hm ls24 s.heap [] (lv_sub hl24 [3, 4, 5, 2, 1, 0] rfl) hP hD hS
theorem iw_X1_forget_X1 : ∀ w ∈ wsX10, w ∈ wsX1_forget := by decide +kernel
set_option maxHeartbeats 4000000 in
set_option maxRecDepth 100000 in
theorem c_X1_forget (l : Launch) (D : va_G) (cI cB cZ : ClassId) (ta : Nat → Nat) (aH : Nat) (aHk : Nat) (aHp : Nat) (aHb : Nat) (aHr : Nat) (aP : Nat) (aPp : Nat) (aPf : Nat) (sz : Nat) (jl : Int32) (jn : Int32) (jk : (Nat → Int32)) (jp : (Nat → Int32)) (jb : (Nat → Int32)) (jr : (Nat → Int32)) (pg : Int32) (ps : Int32) (pn : Int32) (pp : (Nat → Int32)) (pf : (Nat → Int32)) (u_jn : Int32) (hm : m_X1_forget jn = some u_jn) : Met l yX1_forget wsX1_forget ({ frames := 0, cells := 0, slots := 0, locals := 0 } : Room) (va_Pc [.ref aH] (PW D cI cB cZ ta (w_Hist cI cB cZ aH aHk aHp aHb aHr aP aPp aPf jl jn jk jp jb jr pg ps pn pp pf) sz)) (QV D cI cB cZ (va_A (w_Hist cI cB cZ aH aHk aHp aHb aHr aP aPp aPf jl jn jk jp jb jr pg ps pn pp pf) sz) (w_Hist cI cB cZ aH aHk aHp aHb aHr aP aPp aPf jl u_jn jk jp jb jr pg ps pn pp pf)) 0 0 (va_A (w_Hist cI cB cZ aH aHk aHp aHb aHr aP aPp aPf jl jn jk jp jb jr pg ps pn pp pf) sz) := by
  refine Met.ofW (cc := cX1_forget) (maxL := 1) (ret := none) (by decide) rfl ?_
  intro p e s m args below meth c s₁ B hml hv
  obtain ⟨rfl, hsz, hP, hK, hD0, hG⟩ := hv
  have hx := B.exec
  have hb := B.bytes
  have hr := B.returns
  have hts := atoms_spec (ws := wsX1_forget) B.pre
  have hown : s.vm.findClass RX1 = some m.cls := findClass_of_methodNamed B.named
  have hlocks := B.notSynchronized
  subst hsz
  have hD := hD0.self (sz := s.heap.size)
  clear hD0
  have hA0 : ∀ q : Nat, s.heap.size ≤ q → va_A (w_Hist cI cB cZ aH aHk aHp aHb aHr aP aPp aPf jl jn jk jp jb jr pg ps pn pp pf) s.heap.size q := fun q h => Or.inr h
  generalize hAe : va_A (w_Hist cI cB cZ aH aHk aHp aHb aHr aP aPp aPf jl jn jk jp jb jr pg ps pn pp pf) s.heap.size = A at hD hG hA0 ⊢
  have hA : ∀ q : Nat, s.heap.size ≤ q → A q := hA0
  clear hA0
  have hS : va_S A s.heap s.heap [] := va_S.rf
  have iw_X1 := iw_X1_forget_X1
  have hl := lv_entry ([.ref aH]) (n := 1) (Nat.le_of_ble_eq_true rfl)
  rw [lg_entry_eq]
  generalize (lg_sl ([.ref aH]) ++ List.replicate (1 - (lg_sl ([.ref aH])).length) Slot.unset).toArray = ls at hl ⊢
  have hl : lv_has ls 1 [(0, .ref aH)] := hl
  replace hm : some (0 : Int32) = some u_jn := hm
  refine lv_aload_n hx hb dX1_forget_0 rfl (lv_at hl 0 rfl) ?_
  refine lv_iconst (v := (0 : Int32)) hx hb dX1_forget_1 (by decide) ?_
  refine va_put (D := D) (ci := 1) (v := .int (0 : Int32)) (ty := .int) (C := RX1) (T := TX1) (N := 7) hx hb hts iw_X1 tyX1 tyX1_ok nmX1 hown hK hP hD hS 0 rfl rfl 6 (by decide) (hts (.fieldLink RX1 30 "VarianceBridge$History" "kept" "I") (by decide +kernel)) (fun _ h9 => h9) rfl (by decide +kernel) rfl rfl (Nat.le_of_ble_eq_true rfl) dX1_forget_2 (fun H1 lo1 hP1 hD1 hS1 => ?_)
  replace hP1 : va_P D vwCl (w_Hist cI cB cZ aH aHk aHp aHb aHr aP aPp aPf jl (0 : Int32) jk jp jb jr pg ps pn pp pf) H1 := hP1
  replace hD1 : va_D A (w_Hist cI cB cZ aH aHk aHp aHb aHr aP aPp aPf jl (0 : Int32) jk jp jb jr pg ps pn pp pf) := hD1
  clear hP hD hS
  have hq1 := Option.some.inj hm
  subst hq1
  exact W.vret hx hb hr (fun t ht hW => ⟨⟨(), rfl, trivial, by rw [ht]; exact hP1, va_K.moved hW.alike hK, hD1⟩, hS1.F ht⟩) hS1.2.2 dX1_forget_5
