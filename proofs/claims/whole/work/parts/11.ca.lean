theorem iw_X2_factorOf_X2 : ∀ w ∈ wsX20, w ∈ wsX2_factorOf := by decide +kernel
set_option maxHeartbeats 4000000 in
set_option maxRecDepth 100000 in
theorem c_X2_factorOf (l : Launch) (D : va_G) (cI cB cZ : ClassId) (ta : Nat → Nat) (aP : Nat) (aPp : Nat) (aPf : Nat) (sz : Nat) (pg : Int32) (ps : Int32) (pn : Int32) (pp : (Nat → Int32)) (pf : (Nat → Int32)) (x1 : Int32) (x2 : Int32) (x3 : Int32) (r0 : Int32) (hm : m_X2_factorOf pf x1 x2 x3 = some r0) : Met l yX2_factorOf wsX2_factorOf ({ frames := 0, cells := 0, slots := 0, locals := 0 } : Room) (va_Pc [.ref aP, .int x1, .int x2, .int x3] (PW D cI cB cZ ta (w_Plan cI cB cZ aP aPp aPf pg ps pn pp pf) sz)) (QI D cI cB cZ (va_A (w_Plan cI cB cZ aP aPp aPf pg ps pn pp pf) sz) (w_Plan cI cB cZ aP aPp aPf pg ps pn pp pf) r0) 0 0 (va_A (w_Plan cI cB cZ aP aPp aPf pg ps pn pp pf) sz) := by
  refine Met.ofW (cc := cX2_factorOf) (maxL := 4) (ret := (some .int)) (by decide) rfl ?_
  intro p e s m args below meth c s₁ B hml hv
  obtain ⟨rfl, hsz, hP, hK, hD0, hG⟩ := hv
  have hx := B.exec
  have hb := B.bytes
  have hr := B.returns
  have hts := atoms_spec (ws := wsX2_factorOf) B.pre
  have hown : s.vm.findClass RX2 = some m.cls := findClass_of_methodNamed B.named
  have hlocks := B.notSynchronized
  subst hsz
  have hD := hD0.self (sz := s.heap.size)
  clear hD0
  have hA0 : ∀ q : Nat, s.heap.size ≤ q → va_A (w_Plan cI cB cZ aP aPp aPf pg ps pn pp pf) s.heap.size q := fun q h => Or.inr h
  generalize hAe : va_A (w_Plan cI cB cZ aP aPp aPf pg ps pn pp pf) s.heap.size = A at hD hG hA0 ⊢
  have hA : ∀ q : Nat, s.heap.size ≤ q → A q := hA0
  clear hA0
  have hS : va_S A s.heap s.heap [] := va_S.rf
  have iw_X2 := iw_X2_factorOf_X2
  have hl := lv_entry ([.ref aP, .int x1, .int x2, .int x3]) (n := 4) (Nat.le_of_ble_eq_true rfl)
  rw [lg_entry_eq]
  generalize (lg_sl ([.ref aP, .int x1, .int x2, .int x3]) ++ List.replicate (4 - (lg_sl ([.ref aP, .int x1, .int x2, .int x3])).length) Slot.unset).toArray = ls at hl ⊢
  have hl : lv_has ls 4 [(0, .ref aP), (1, .int x1), (2, .int x2), (3, .int x3)] := hl
  replace hm : (if (((x2 * (100 : Int32)) + (x1 * (5 : Int32))) + x3) < 0 ∨ 400 ≤ (((x2 * (100 : Int32)) + (x1 * (5 : Int32))) + x3).toNatClampNeg then none else some (pf (((x2 * (100 : Int32)) + (x1 * (5 : Int32))) + x3).toNatClampNeg)) = some r0 := hm
  refine lv_aload_n hx hb dX2_factorOf_0 rfl (lv_at hl 0 rfl) ?_
  refine va_get (D := D) (ci := 2) (v := .ref aPf) (C := RX2) (T := TX2) (N := 5) hx hb hts iw_X2 hown hK hP 0 rfl rfl 1 (by decide) (hts (.fieldLink RX2 15 "VarianceBridge$Plan" "factors" "[I") (by decide +kernel)) (fun _ h9 => h9) rfl dX2_factorOf_1 ?_
  refine lv_iload_n hx hb dX2_factorOf_4 rfl (lv_at hl 2 rfl) ?_
  refine lv_bipush (v := (100 : Int32)) hx hb dX2_factorOf_5 (by decide) ?_
  refine lv_imul hx hb dX2_factorOf_7 ?_
  refine lv_iload_n hx hb dX2_factorOf_8 rfl (lv_at hl 1 rfl) ?_
  refine lv_iconst (v := (5 : Int32)) hx hb dX2_factorOf_9 (by decide) ?_
  refine lv_imul hx hb dX2_factorOf_10 ?_
  refine lv_iadd hx hb dX2_factorOf_11 ?_
  refine lv_iload_n hx hb dX2_factorOf_12 rfl (lv_at hl 3 rfl) ?_
  refine lv_iadd hx hb dX2_factorOf_13 ?_
  obtain ⟨c1, hm2⟩ := zz_no hm
  refine va_iald hx hb hK hP 2 0 rfl rfl c1 dX2_factorOf_14 ?_
  have hq1 := Option.some.inj hm2
  subst hq1
  exact W.iret hx hb hr (fun t ht hW => ⟨⟨_, (), rfl, rfl, by rw [ht]; exact hP, va_K.moved hW.alike hK, hD⟩, hS.F ht⟩) hS.2.2 dX2_factorOf_15
theorem iw_X0_fateOf_X0 : ∀ w ∈ wsX00, w ∈ wsX0_fateOf := by decide +kernel
set_option maxHeartbeats 4000000 in
set_option maxRecDepth 100000 in
theorem c_X0_fateOf (l : Launch) (D : va_G) (cI cB cZ : ClassId) (ta : Nat → Nat) (aB : Nat) (aBb : Nat) (aBs : Nat) (aP : Nat) (aPp : Nat) (aPf : Nat) (sz : Nat) (bb : (Nat → Int32)) (bs : (Nat → Int32)) (pg : Int32) (ps : Int32) (pn : Int32) (pp : (Nat → Int32)) (pf : (Nat → Int32)) (x1 : Int32) (x2 : Int32) (x3 : Int32) (r0 : Int32) (hm : m_X0_fateOf pf x1 x2 x3 = some r0) : Met l yX0_fateOf wsX0_fateOf ({ frames := 1, cells := 0, slots := 0, locals := 23 } : Room) (va_Pc [.ref aB, .int x1, .int x2, .int x3] (PW D cI cB cZ ta (w_Bridge cI cB cZ aB aBb aBs aP aPp aPf bb bs pg ps pn pp pf) sz)) (QI D cI cB cZ (va_A (w_Bridge cI cB cZ aB aBb aBs aP aPp aPf bb bs pg ps pn pp pf) sz) (w_Bridge cI cB cZ aB aBb aBs aP aPp aPf bb bs pg ps pn pp pf) r0) 0 0 (va_A (w_Bridge cI cB cZ aB aBb aBs aP aPp aPf bb bs pg ps pn pp pf) sz) := by
  refine Met.ofW (cc := cX0_fateOf) (maxL := 6) (ret := (some .int)) (by decide) rfl ?_
  intro p e s m args below meth c s₁ B hml hv
  obtain ⟨rfl, hsz, hP, hK, hD0, hG⟩ := hv
  have hx := B.exec
  have hb := B.bytes
  have hr := B.returns
  have hts := atoms_spec (ws := wsX0_fateOf) B.pre
  have hown : s.vm.findClass RX0 = some m.cls := findClass_of_methodNamed B.named
  have hlocks := B.notSynchronized
  subst hsz
  have hD := hD0.self (sz := s.heap.size)
  clear hD0
  have hA0 : ∀ q : Nat, s.heap.size ≤ q → va_A (w_Bridge cI cB cZ aB aBb aBs aP aPp aPf bb bs pg ps pn pp pf) s.heap.size q := fun q h => Or.inr h
  generalize hAe : va_A (w_Bridge cI cB cZ aB aBb aBs aP aPp aPf bb bs pg ps pn pp pf) s.heap.size = A at hD hG hA0 ⊢
  have hA : ∀ q : Nat, s.heap.size ≤ q → A q := hA0
  clear hA0
  have hS : va_S A s.heap s.heap [] := va_S.rf
  have iw_X0 := iw_X0_fateOf_X0
  have hk_38 : ∀ (y4 : Int32) (z0 : Int32), k_X0_fateOf_38 pf y4 z0 = some r0 → ∀ (ls : Array Slot) (H : Heap) (lo : List Loc), lv_has ls 6 [(4, .int y4)] → va_P D vwCl (w_Bridge cI cB cZ aB aBb aBs aP aPp aPf bb bs pg ps pn pp pf) H → va_D A (w_Bridge cI cB cZ aB aBb aBs aP aPp aPf bb bs pg ps pn pp pf) → va_S A s.heap H lo → W p l e (headSpec wsX0_fateOf ({ frames := 1, cells := 0, slots := 0, locals := 23 } : Room)).room s m (([.ref aB, .int x1, .int x2, .int x3] : List Value).toArray) below meth c H lo 0 0 (MQ below (QI D cI cB cZ A (w_Bridge cI cB cZ aB aBb aBs aP aPp aPf bb bs pg ps pn pp pf) r0) (([.ref aB, .int x1, .int x2, .int x3] : List Value).toArray) s 0 0 A) (F0 m 38 ls [.int z0]) := by
    intro y4 z0 hm ls H lo hl hP hD hS
    replace hm : (if y4 = z0 then some (0 : Int32) else (if z0 = 0 then some (2 : Int32) else some (1 : Int32))) = some r0 := hm
    refine lv_istore (lv' := [(5, .int z0), (4, .int y4)]) hx hb dX0_fateOf_38 hl (by decide) rfl (fun ls1 hl1 => ?_)
    refine lv_iload hx hb dX0_fateOf_40 (lv_at hl1 1 rfl) ?_
    refine lv_iload hx hb dX0_fateOf_42 (lv_at hl1 0 rfl) ?_
    refine lv_icmp_ne (tgt := 49) hx hb dX0_fateOf_44 (by decide) (fun c2 => ?_) (fun c2 => ?_)
    · have hm3 := zz_nf c2 hm
      refine lv_iload hx hb dX0_fateOf_49 (lv_at hl1 0 rfl) ?_
      refine lv_if_eq (tgt := 58) hx hb dX0_fateOf_51 (by decide) (fun c5 => ?_) (fun c5 => ?_)
      · have hm6 := zz_if c5 hm3
        refine lv_iconst (v := (2 : Int32)) hx hb dX0_fateOf_58 (by decide) ?_
        have hq1 := Option.some.inj hm6
        subst hq1
        exact W.iret hx hb hr (fun t ht hW => ⟨⟨_, (), rfl, rfl, by rw [ht]; exact hP, va_K.moved hW.alike hK, hD⟩, hS.F ht⟩) hS.2.2 dX0_fateOf_59
      · have hm7 := zz_nf c5 hm3
        refine lv_iconst (v := (1 : Int32)) hx hb dX0_fateOf_54 (by decide) ?_
        refine lv_goto (tgt := 59) hx hb dX0_fateOf_55 (by decide) ?_
        have hq1 := Option.some.inj hm7
        subst hq1
        exact W.iret hx hb hr (fun t ht hW => ⟨⟨_, (), rfl, rfl, by rw [ht]; exact hP, va_K.moved hW.alike hK, hD⟩, hS.F ht⟩) hS.2.2 dX0_fateOf_59
    · have hm4 := zz_if c2 hm
      refine lv_iconst (v := (0 : Int32)) hx hb dX0_fateOf_47 (by decide) ?_
      have hq1 := Option.some.inj hm4
      subst hq1
      exact W.iret hx hb hr (fun t ht hW => ⟨⟨_, (), rfl, rfl, by rw [ht]; exact hP, va_K.moved hW.alike hK, hD⟩, hS.F ht⟩) hS.2.2 dX0_fateOf_48
  have hk_18 : ∀ (y1 : Int32) (y3 : Int32) (z0 : Int32), k_X0_fateOf_18 pf y1 y3 z0 = some r0 → ∀ (ls : Array Slot) (H : Heap) (lo : List Loc), lv_has ls 6 [(0, .ref aB), (1, .int y1), (3, .int y3)] → va_P D vwCl (w_Bridge cI cB cZ aB aBb aBs aP aPp aPf bb bs pg ps pn pp pf) H → va_D A (w_Bridge cI cB cZ aB aBb aBs aP aPp aPf bb bs pg ps pn pp pf) → va_S A s.heap H lo → W p l e (headSpec wsX0_fateOf ({ frames := 1, cells := 0, slots := 0, locals := 23 } : Room)).room s m (([.ref aB, .int x1, .int x2, .int x3] : List Value).toArray) below meth c H lo 0 0 (MQ below (QI D cI cB cZ A (w_Bridge cI cB cZ aB aBb aBs aP aPp aPf bb bs pg ps pn pp pf) r0) (([.ref aB, .int x1, .int x2, .int x3] : List Value).toArray) s 0 0 A) (F0 m 18 ls [.int z0]) := by
    intro y1 y3 z0 hm ls H lo hl hP hD hS
    replace hm : (ob1 (m_X2_factorOf pf y1 y3 (0 : Int32)) (fun r9 => (if r9 ≤ 0 then (k_X0_fateOf_38 pf z0 (0 : Int32)) else (k_X0_fateOf_38 pf z0 (1 : Int32))))) = some r0 := hm
    refine lv_istore (lv' := [(4, .int z0), (0, .ref aB), (1, .int y1), (3, .int y3)]) hx hb dX0_fateOf_18 hl (by decide) rfl (fun ls8 hl8 => ?_)
    refine lv_aload_n hx hb dX0_fateOf_20 rfl (lv_at hl8 1 rfl) ?_
    refine va_get (D := D) (ci := 0) (v := .ref aP) (C := RX0) (T := TX0) (N := 3) hx hb hts iw_X0 hown hK hP 0 rfl rfl 0 (by decide) (hts (.fieldLink RX0 18 "VarianceBridge$Bridge" "plan" "LVarianceBridge$Plan;") (by decide +kernel)) (fun _ h9 => h9) rfl dX0_fateOf_21 ?_
    refine lv_iload_n hx hb dX0_fateOf_24 rfl (lv_at hl8 2 rfl) ?_
    refine lv_iload_n hx hb dX0_fateOf_25 rfl (lv_at hl8 3 rfl) ?_
    refine lv_iconst (v := (0 : Int32)) hx hb dX0_fateOf_26 (by decide) ?_
    obtain ⟨r9, h9, hm9⟩ := ob1_e hm
    refine gcall_i (ws' := (w_Bridge cI cB cZ aB aBb aBs aP aPp aPf bb bs pg ps pn pp pf)) (va_runVN (As := [.int y1, .int y3, .int (0 : Int32)]) (rest := []) ⟨hx, hb, hml, hown, hts⟩ (c_X2_factorOf l D cI cB cZ ta aP aPp aPf H.size pg ps pn pp pf y1 y3 (0 : Int32) r9 h9) ⟨va_cnB 3 hts gX0_fateOf_X2_factorOf_n22 rfl rfl rfl (hG.1 (.methodLinkNest RX0 22 yX2_factorOf RX6) (by decide +kernel)) (hts (.initialized RX2) (by decide +kernel)) (by decide +kernel) ⟨(Nat.le_of_ble_eq_true rfl), (Nat.le_of_ble_eq_true rfl)⟩, hts (.instanceMethod yX2_factorOf) (by decide +kernel), hts (.selects RX2 yX2_factorOf yX2_factorOf) (by decide +kernel)⟩ ⟨PW_blind, va_recv hK hP rfl (q0 := 3) rfl, PW_at hP hD hK hS hA hG [3, 4, 5] rfl (by decide)⟩ rfl rfl hl8.1 rfl (lv_room (Nat.le_of_ble_eq_true rfl)) dX0_fateOf_27 ⟨(Nat.le_of_ble_eq_true rfl), (Nat.le_of_ble_eq_true rfl)⟩) hP hD hS hA [3, 4, 5] [0, 1, 2] [0, 1, 2, 3, 4, 5] rfl rfl (by decide) (by decide) (by decide) rfl (fun H10 lo10 hP10 hD10 hS10 => ?_)
    clear hP hD hS
    refine lv_if_le (tgt := 37) hx hb dX0_fateOf_30 (by decide) (fun c11 => ?_) (fun c11 => ?_)
    · have hm12 := zz_if c11 hm9
      refine lv_iconst (v := (0 : Int32)) hx hb dX0_fateOf_37 (by decide) ?_
      exact hk_38 z0 (0 : Int32) hm12 ls8 H10 lo10 (lv_sub hl8 [0] rfl) hP10 hD10 hS10
    · have hm13 := zz_nf c11 hm9
      refine lv_iconst (v := (1 : Int32)) hx hb dX0_fateOf_33 (by decide) ?_
      refine lv_goto (tgt := 38) hx hb dX0_fateOf_34 (by decide) ?_
      exact hk_38 z0 (1 : Int32) hm13 ls8 H10 lo10 (lv_sub hl8 [0] rfl) hP10 hD10 hS10
  have hl := lv_entry ([.ref aB, .int x1, .int x2, .int x3]) (n := 6) (Nat.le_of_ble_eq_true rfl)
  rw [lg_entry_eq]
  generalize (lg_sl ([.ref aB, .int x1, .int x2, .int x3]) ++ List.replicate (6 - (lg_sl ([.ref aB, .int x1, .int x2, .int x3])).length) Slot.unset).toArray = ls at hl ⊢
  have hl : lv_has ls 6 [(0, .ref aB), (1, .int x1), (2, .int x2), (3, .int x3)] := hl
  replace hm : (ob1 (m_X2_factorOf pf x1 x2 (0 : Int32)) (fun r14 => (if r14 ≤ 0 then (k_X0_fateOf_18 pf x1 x3 (0 : Int32)) else (k_X0_fateOf_18 pf x1 x3 (1 : Int32))))) = some r0 := hm
  refine lv_aload_n hx hb dX0_fateOf_0 rfl (lv_at hl 0 rfl) ?_
  refine va_get (D := D) (ci := 0) (v := .ref aP) (C := RX0) (T := TX0) (N := 3) hx hb hts iw_X0 hown hK hP 0 rfl rfl 0 (by decide) (hts (.fieldLink RX0 18 "VarianceBridge$Bridge" "plan" "LVarianceBridge$Plan;") (by decide +kernel)) (fun _ h9 => h9) rfl dX0_fateOf_1 ?_
  refine lv_iload_n hx hb dX0_fateOf_4 rfl (lv_at hl 1 rfl) ?_
  refine lv_iload_n hx hb dX0_fateOf_5 rfl (lv_at hl 2 rfl) ?_
  refine lv_iconst (v := (0 : Int32)) hx hb dX0_fateOf_6 (by decide) ?_
  obtain ⟨r14, h14, hm14⟩ := ob1_e hm
  refine gcall_i (ws' := (w_Bridge cI cB cZ aB aBb aBs aP aPp aPf bb bs pg ps pn pp pf)) (va_runVN (As := [.int x1, .int x2, .int (0 : Int32)]) (rest := []) ⟨hx, hb, hml, hown, hts⟩ (c_X2_factorOf l D cI cB cZ ta aP aPp aPf s.heap.size pg ps pn pp pf x1 x2 (0 : Int32) r14 h14) ⟨va_cnB 3 hts gX0_fateOf_X2_factorOf_n22 rfl rfl rfl (hG.1 (.methodLinkNest RX0 22 yX2_factorOf RX6) (by decide +kernel)) (hts (.initialized RX2) (by decide +kernel)) (by decide +kernel) ⟨(Nat.le_of_ble_eq_true rfl), (Nat.le_of_ble_eq_true rfl)⟩, hts (.instanceMethod yX2_factorOf) (by decide +kernel), hts (.selects RX2 yX2_factorOf yX2_factorOf) (by decide +kernel)⟩ ⟨PW_blind, va_recv hK hP rfl (q0 := 3) rfl, PW_at hP hD hK hS hA hG [3, 4, 5] rfl (by decide)⟩ rfl rfl hl.1 rfl (lv_room (Nat.le_of_ble_eq_true rfl)) dX0_fateOf_7 ⟨(Nat.le_of_ble_eq_true rfl), (Nat.le_of_ble_eq_true rfl)⟩) hP hD hS hA [3, 4, 5] [0, 1, 2] [0, 1, 2, 3, 4, 5] rfl rfl (by decide) (by decide) (by decide) rfl (fun H15 lo15 hP15 hD15 hS15 => ?_)
  clear hP hD hS
  refine lv_if_le (tgt := 17) hx hb dX0_fateOf_10 (by decide) (fun c16 => ?_) (fun c16 => ?_)
  · have hm17 := zz_if c16 hm14
    refine lv_iconst (v := (0 : Int32)) hx hb dX0_fateOf_17 (by decide) ?_
    exact hk_18 x1 x3 (0 : Int32) hm17 ls H15 lo15 (lv_sub hl [0, 1, 3] rfl) hP15 hD15 hS15
  · have hm18 := zz_nf c16 hm14
    refine lv_iconst (v := (1 : Int32)) hx hb dX0_fateOf_13 (by decide) ?_
    refine lv_goto (tgt := 18) hx hb dX0_fateOf_14 (by decide) ?_
    exact hk_18 x1 x3 (1 : Int32) hm18 ls H15 lo15 (lv_sub hl [0, 1, 3] rfl) hP15 hD15 hS15
theorem iw_X2_isNode_X2 : ∀ w ∈ wsX20, w ∈ wsX2_isNode := by decide +kernel
set_option maxHeartbeats 4000000 in
set_option maxRecDepth 100000 in
theorem c_X2_isNode (l : Launch) (D : va_G) (cI cB cZ : ClassId) (ta : Nat → Nat) (aP : Nat) (aPp : Nat) (aPf : Nat) (sz : Nat) (pg : Int32) (ps : Int32) (pn : Int32) (pp : (Nat → Int32)) (pf : (Nat → Int32)) (x1 : Int32) (r0 : Int32) (hm : m_X2_isNode pn x1 = some r0) : Met l yX2_isNode wsX2_isNode ({ frames := 0, cells := 0, slots := 0, locals := 0 } : Room) (va_Pc [.ref aP, .int x1] (PW D cI cB cZ ta (w_Plan cI cB cZ aP aPp aPf pg ps pn pp pf) sz)) (QZ .boolean D cI cB cZ (va_A (w_Plan cI cB cZ aP aPp aPf pg ps pn pp pf) sz) (w_Plan cI cB cZ aP aPp aPf pg ps pn pp pf) r0) 0 0 (va_A (w_Plan cI cB cZ aP aPp aPf pg ps pn pp pf) sz) := by
  refine Met.ofW (cc := cX2_isNode) (maxL := 2) (ret := (some .boolean)) (by decide) rfl ?_
  intro p e s m args below meth c s₁ B hml hv
  obtain ⟨rfl, hsz, hP, hK, hD0, hG⟩ := hv
  have hx := B.exec
  have hb := B.bytes
  have hr := B.returns
  have hts := atoms_spec (ws := wsX2_isNode) B.pre
  have hown : s.vm.findClass RX2 = some m.cls := findClass_of_methodNamed B.named
  have hlocks := B.notSynchronized
  subst hsz
  have hD := hD0.self (sz := s.heap.size)
  clear hD0
  have hA0 : ∀ q : Nat, s.heap.size ≤ q → va_A (w_Plan cI cB cZ aP aPp aPf pg ps pn pp pf) s.heap.size q := fun q h => Or.inr h
  generalize hAe : va_A (w_Plan cI cB cZ aP aPp aPf pg ps pn pp pf) s.heap.size = A at hD hG hA0 ⊢
  have hA : ∀ q : Nat, s.heap.size ≤ q → A q := hA0
  clear hA0
  have hS : va_S A s.heap s.heap [] := va_S.rf
  have iw_X2 := iw_X2_isNode_X2
  have hl := lv_entry ([.ref aP, .int x1]) (n := 2) (Nat.le_of_ble_eq_true rfl)
  rw [lg_entry_eq]
  generalize (lg_sl ([.ref aP, .int x1]) ++ List.replicate (2 - (lg_sl ([.ref aP, .int x1])).length) Slot.unset).toArray = ls at hl ⊢
  have hl : lv_has ls 2 [(0, .ref aP), (1, .int x1)] := hl
  replace hm : (if x1 < 0 then some (0 : Int32) else (if pn ≤ x1 then some (0 : Int32) else some (1 : Int32))) = some r0 := hm
  refine lv_iload_n hx hb dX2_isNode_0 rfl (lv_at hl 1 rfl) ?_
  refine lv_if_lt (tgt := 16) hx hb dX2_isNode_1 (by decide) (fun c1 => ?_) (fun c1 => ?_)
  · have hm2 := zz_if c1 hm
    refine lv_iconst (v := (0 : Int32)) hx hb dX2_isNode_16 (by decide) ?_
    have hq1 := Option.some.inj hm2
    subst hq1
    exact W.zret (ty := .boolean) hx hb hr (by decide) (fun t ht hW => ⟨⟨_, (), rfl, ⟨rfl, (by decide)⟩, by rw [ht]; exact hP, va_K.moved hW.alike hK, hD⟩, hS.F ht⟩) hS.2.2 dX2_isNode_17
  · have hm3 := zz_nf c1 hm
    refine lv_iload_n hx hb dX2_isNode_4 rfl (lv_at hl 1 rfl) ?_
    refine lv_aload_n hx hb dX2_isNode_5 rfl (lv_at hl 0 rfl) ?_
    refine va_get (D := D) (ci := 2) (v := .int pn) (C := RX2) (T := TX2) (N := 5) hx hb hts iw_X2 hown hK hP 0 rfl rfl 4 (by decide) (hts (.fieldLink RX2 26 "VarianceBridge$Plan" "nodes" "I") (by decide +kernel)) (fun _ h9 => h9) rfl dX2_isNode_6 ?_
    refine lv_icmp_ge (tgt := 16) hx hb dX2_isNode_9 (by decide) (fun c4 => ?_) (fun c4 => ?_)
    · have hm5 := zz_if c4 hm3
      refine lv_iconst (v := (0 : Int32)) hx hb dX2_isNode_16 (by decide) ?_
      have hq1 := Option.some.inj hm5
      subst hq1
      exact W.zret (ty := .boolean) hx hb hr (by decide) (fun t ht hW => ⟨⟨_, (), rfl, ⟨rfl, (by decide)⟩, by rw [ht]; exact hP, va_K.moved hW.alike hK, hD⟩, hS.F ht⟩) hS.2.2 dX2_isNode_17
    · have hm6 := zz_nf c4 hm3
      refine lv_iconst (v := (1 : Int32)) hx hb dX2_isNode_12 (by decide) ?_
      refine lv_goto (tgt := 17) hx hb dX2_isNode_13 (by decide) ?_
      have hq1 := Option.some.inj hm6
      subst hq1
      exact W.zret (ty := .boolean) hx hb hr (by decide) (fun t ht hW => ⟨⟨_, (), rfl, ⟨rfl, (by decide)⟩, by rw [ht]; exact hP, va_K.moved hW.alike hK, hD⟩, hS.F ht⟩) hS.2.2 dX2_isNode_17
theorem iw_X2_isLeaf_X2 : ∀ w ∈ wsX20, w ∈ wsX2_isLeaf := by decide +kernel
set_option maxHeartbeats 4000000 in
set_option maxRecDepth 100000 in
theorem c_X2_isLeaf (l : Launch) (D : va_G) (cI cB cZ : ClassId) (ta : Nat → Nat) (aP : Nat) (aPp : Nat) (aPf : Nat) (sz : Nat) (pg : Int32) (ps : Int32) (pn : Int32) (pp : (Nat → Int32)) (pf : (Nat → Int32)) (x1 : Int32) (r0 : Int32) (hm : m_X2_isLeaf pg pn x1 = some r0) : Met l yX2_isLeaf wsX2_isLeaf ({ frames := 1, cells := 0, slots := 0, locals := 21 } : Room) (va_Pc [.ref aP, .int x1] (PW D cI cB cZ ta (w_Plan cI cB cZ aP aPp aPf pg ps pn pp pf) sz)) (QZ .boolean D cI cB cZ (va_A (w_Plan cI cB cZ aP aPp aPf pg ps pn pp pf) sz) (w_Plan cI cB cZ aP aPp aPf pg ps pn pp pf) r0) 0 0 (va_A (w_Plan cI cB cZ aP aPp aPf pg ps pn pp pf) sz) := by
  refine Met.ofW (cc := cX2_isLeaf) (maxL := 2) (ret := (some .boolean)) (by decide) rfl ?_
  intro p e s m args below meth c s₁ B hml hv
  obtain ⟨rfl, hsz, hP, hK, hD0, hG⟩ := hv
  have hx := B.exec
  have hb := B.bytes
  have hr := B.returns
  have hts := atoms_spec (ws := wsX2_isLeaf) B.pre
  have hown : s.vm.findClass RX2 = some m.cls := findClass_of_methodNamed B.named
  have hlocks := B.notSynchronized
  subst hsz
  have hD := hD0.self (sz := s.heap.size)
  clear hD0
  have hA0 : ∀ q : Nat, s.heap.size ≤ q → va_A (w_Plan cI cB cZ aP aPp aPf pg ps pn pp pf) s.heap.size q := fun q h => Or.inr h
  generalize hAe : va_A (w_Plan cI cB cZ aP aPp aPf pg ps pn pp pf) s.heap.size = A at hD hG hA0 ⊢
  have hA : ∀ q : Nat, s.heap.size ≤ q → A q := hA0
  clear hA0
  have hS : va_S A s.heap s.heap [] := va_S.rf
  have iw_X2 := iw_X2_isLeaf_X2
  have hl := lv_entry ([.ref aP, .int x1]) (n := 2) (Nat.le_of_ble_eq_true rfl)
  rw [lg_entry_eq]
  generalize (lg_sl ([.ref aP, .int x1]) ++ List.replicate (2 - (lg_sl ([.ref aP, .int x1])).length) Slot.unset).toArray = ls at hl ⊢
  have hl : lv_has ls 2 [(0, .ref aP), (1, .int x1)] := hl
  replace hm : (ob1 (m_X2_isNode pn x1) (fun r1 => (if r1 = 0 then some (0 : Int32) else (if ((pg >>> (x1 &&& 31)) &&& (1 : Int32)) = 0 then some (1 : Int32) else some (0 : Int32))))) = some r0 := hm
  refine lv_aload_n hx hb dX2_isLeaf_0 rfl (lv_at hl 0 rfl) ?_
  refine lv_iload_n hx hb dX2_isLeaf_1 rfl (lv_at hl 1 rfl) ?_
  obtain ⟨r1, h1, hm1⟩ := ob1_e hm
  refine gcall_b (ws' := (w_Plan cI cB cZ aP aPp aPf pg ps pn pp pf)) (va_runV (As := [.int x1]) (rest := []) ⟨hx, hb, hml, hown, hts⟩ (c_X2_isNode l D cI cB cZ ta aP aPp aPf s.heap.size pg ps pn pp pf x1 r1 h1) (cwV 1 hts gX2_isLeaf_X2_isNode rfl rfl rfl (by decide +kernel) ⟨(Nat.le_of_ble_eq_true rfl), (Nat.le_of_ble_eq_true rfl)⟩) ⟨PW_blind, va_recv hK hP rfl (q0 := 0) rfl, PW_at hP hD hK hS hA hG [0, 1, 2] rfl (by decide)⟩ rfl rfl hl.1 rfl (lv_room (Nat.le_of_ble_eq_true rfl)) dX2_isLeaf_2 ⟨(Nat.le_of_ble_eq_true rfl), (Nat.le_of_ble_eq_true rfl)⟩) hP hD hS hA [0, 1, 2] [] [0, 1, 2] rfl rfl (by decide) (by decide) (by decide) rfl (fun H2 lo2 hz1 hP2 hD2 hS2 => ?_)
  clear hP hD hS
  refine lv_if_eq (tgt := 23) hx hb dX2_isLeaf_5 (by decide) (fun c3 => ?_) (fun c3 => ?_)
  · have hm4 := zz_if c3 hm1
    refine lv_iconst (v := (0 : Int32)) hx hb dX2_isLeaf_23 (by decide) ?_
    have hq1 := Option.some.inj hm4
    subst hq1
    exact W.zret (ty := .boolean) hx hb hr (by decide) (fun t ht hW => ⟨⟨_, (), rfl, ⟨rfl, (by decide)⟩, by rw [ht]; exact hP2, va_K.moved hW.alike hK, hD2⟩, hS2.F ht⟩) hS2.2.2 dX2_isLeaf_24
  · have hm5 := zz_nf c3 hm1
    refine lv_aload_n hx hb dX2_isLeaf_8 rfl (lv_at hl 0 rfl) ?_
    refine va_get (D := D) (ci := 2) (v := .int pg) (C := RX2) (T := TX2) (N := 5) hx hb hts iw_X2 hown hK hP2 0 rfl rfl 2 (by decide) (hts (.fieldLink RX2 29 "VarianceBridge$Plan" "groupBits" "I") (by decide +kernel)) (fun _ h9 => h9) rfl dX2_isLeaf_9 ?_
    refine lv_iload_n hx hb dX2_isLeaf_12 rfl (lv_at hl 1 rfl) ?_
    refine lv_ishr hx hb dX2_isLeaf_13 ?_
    refine lv_iconst (v := (1 : Int32)) hx hb dX2_isLeaf_14 (by decide) ?_
    refine lv_iand hx hb dX2_isLeaf_15 ?_
    refine lv_if_ne (tgt := 23) hx hb dX2_isLeaf_16 (by decide) (fun c6 => ?_) (fun c6 => ?_)
    · have hm7 := zz_nf c6 hm5
      refine lv_iconst (v := (0 : Int32)) hx hb dX2_isLeaf_23 (by decide) ?_
      have hq1 := Option.some.inj hm7
      subst hq1
      exact W.zret (ty := .boolean) hx hb hr (by decide) (fun t ht hW => ⟨⟨_, (), rfl, ⟨rfl, (by decide)⟩, by rw [ht]; exact hP2, va_K.moved hW.alike hK, hD2⟩, hS2.F ht⟩) hS2.2.2 dX2_isLeaf_24
    · have hm8 := zz_if c6 hm5
      refine lv_iconst (v := (1 : Int32)) hx hb dX2_isLeaf_19 (by decide) ?_
      refine lv_goto (tgt := 24) hx hb dX2_isLeaf_20 (by decide) ?_
      have hq1 := Option.some.inj hm8
      subst hq1
      exact W.zret (ty := .boolean) hx hb hr (by decide) (fun t ht hW => ⟨⟨_, (), rfl, ⟨rfl, (by decide)⟩, by rw [ht]; exact hP2, va_K.moved hW.alike hK, hD2⟩, hS2.F ht⟩) hS2.2.2 dX2_isLeaf_24
theorem iw_X2_isWithin_X2 : ∀ w ∈ wsX20, w ∈ wsX2_isWithin := by decide +kernel
set_option maxHeartbeats 4000000 in
set_option maxRecDepth 100000 in
theorem c_X2_isWithin (l : Launch) (D : va_G) (cI cB cZ : ClassId) (ta : Nat → Nat) (aP : Nat) (aPp : Nat) (aPf : Nat) (sz : Nat) (pg : Int32) (ps : Int32) (pn : Int32) (pp : (Nat → Int32)) (pf : (Nat → Int32)) (x1 : Int32) (x2 : Int32) (r0 : Int32) (hm : m_X2_isWithin pn pp x1 x2 = some r0) : Met l yX2_isWithin wsX2_isWithin ({ frames := 1, cells := 0, slots := 0, locals := 21 } : Room) (va_Pc [.ref aP, .int x1, .int x2] (PW D cI cB cZ ta (w_Plan cI cB cZ aP aPp aPf pg ps pn pp pf) sz)) (QZ .boolean D cI cB cZ (va_A (w_Plan cI cB cZ aP aPp aPf pg ps pn pp pf) sz) (w_Plan cI cB cZ aP aPp aPf pg ps pn pp pf) r0) 0 0 (va_A (w_Plan cI cB cZ aP aPp aPf pg ps pn pp pf) sz) := by
  refine Met.ofW (cc := cX2_isWithin) (maxL := 5) (ret := (some .boolean)) (by decide) rfl ?_
  intro p e s m args below meth c s₁ B hml hv
  obtain ⟨rfl, hsz, hP, hK, hD0, hG⟩ := hv
  have hx := B.exec
  have hb := B.bytes
  have hr := B.returns
  have hts := atoms_spec (ws := wsX2_isWithin) B.pre
  have hown : s.vm.findClass RX2 = some m.cls := findClass_of_methodNamed B.named
  have hlocks := B.notSynchronized
  subst hsz
  have hD := hD0.self (sz := s.heap.size)
  clear hD0
  have hA0 : ∀ q : Nat, s.heap.size ≤ q → va_A (w_Plan cI cB cZ aP aPp aPf pg ps pn pp pf) s.heap.size q := fun q h => Or.inr h
  generalize hAe : va_A (w_Plan cI cB cZ aP aPp aPf pg ps pn pp pf) s.heap.size = A at hD hG hA0 ⊢
  have hA : ∀ q : Nat, s.heap.size ≤ q → A q := hA0
  clear hA0
  have hS : va_S A s.heap s.heap [] := va_S.rf
  have iw_X2 := iw_X2_isWithin_X2
  have hk_5 : ∀ (n : Nat) (y2 : Int32) (y3 : Int32) (y4 : Int32), k_X2_isWithin_5 pn pp n y2 y3 y4 = some r0 → ∀ (ls : Array Slot) (H : Heap) (lo : List Loc), lv_has ls 5 [(0, .ref aP), (2, .int y2), (3, .int y3), (4, .int y4)] → va_P D vwCl (w_Plan cI cB cZ aP aPp aPf pg ps pn pp pf) H → va_D A (w_Plan cI cB cZ aP aPp aPf pg ps pn pp pf) → va_S A s.heap H lo → W p l e (headSpec wsX2_isWithin ({ frames := 1, cells := 0, slots := 0, locals := 21 } : Room)).room s m (([.ref aP, .int x1, .int x2] : List Value).toArray) below meth c H lo 0 0 (MQ below (QZ .boolean D cI cB cZ A (w_Plan cI cB cZ aP aPp aPf pg ps pn pp pf) r0) (([.ref aP, .int x1, .int x2] : List Value).toArray) s 0 0 A) (F0 m 5 ls []) := by
    intro n
    induction n with
    | zero => intro y2 y3 y4 hm; exact zz_nn hm
    | succ n ih =>
      intro y2 y3 y4 hm ls H lo hl hP hD hS
      replace hm := (k_X2_isWithin_5_s pn pp n y2 y3 y4).symm.trans hm
      refine lv_iload hx hb dX2_isWithin_5 (lv_at hl 3 rfl) ?_
      refine lv_bipush (v := (20 : Int32)) hx hb dX2_isWithin_7 (by decide) ?_
      refine lv_icmp_ge (tgt := 40) hx hb dX2_isWithin_9 (by decide) (fun c1 => ?_) (fun c1 => ?_)
      · have hm2 := zz_if c1 hm
        refine lv_iconst (v := (0 : Int32)) hx hb dX2_isWithin_40 (by decide) ?_
        have hq1 := Option.some.inj hm2
        subst hq1
        exact W.zret (ty := .boolean) hx hb hr (by decide) (fun t ht hW => ⟨⟨_, (), rfl, ⟨rfl, (by decide)⟩, by rw [ht]; exact hP, va_K.moved hW.alike hK, hD⟩, hS.F ht⟩) hS.2.2 dX2_isWithin_41
      · have hm3 := zz_nf c1 hm
        refine lv_aload_n hx hb dX2_isWithin_12 rfl (lv_at hl 0 rfl) ?_
        refine lv_iload_n hx hb dX2_isWithin_13 rfl (lv_at hl 2 rfl) ?_
        obtain ⟨r4, h4, hm4⟩ := ob1_e hm3
        refine gcall_b (ws' := (w_Plan cI cB cZ aP aPp aPf pg ps pn pp pf)) (va_runV (As := [.int y3]) (rest := []) ⟨hx, hb, hml, hown, hts⟩ (c_X2_isNode l D cI cB cZ ta aP aPp aPf H.size pg ps pn pp pf y3 r4 h4) (cwV 1 hts gX2_isWithin_X2_isNode rfl rfl rfl (by decide +kernel) ⟨(Nat.le_of_ble_eq_true rfl), (Nat.le_of_ble_eq_true rfl)⟩) ⟨PW_blind, va_recv hK hP rfl (q0 := 0) rfl, PW_at hP hD hK hS hA hG [0, 1, 2] rfl (by decide)⟩ rfl rfl hl.1 rfl (lv_room (Nat.le_of_ble_eq_true rfl)) dX2_isWithin_14 ⟨(Nat.le_of_ble_eq_true rfl), (Nat.le_of_ble_eq_true rfl)⟩) hP hD hS hA [0, 1, 2] [] [0, 1, 2] rfl rfl (by decide) (by decide) (by decide) rfl (fun H5 lo5 hz4 hP5 hD5 hS5 => ?_)
        clear hP hD hS
        refine lv_if_eq (tgt := 40) hx hb dX2_isWithin_17 (by decide) (fun c6 => ?_) (fun c6 => ?_)
        · have hm7 := zz_if c6 hm4
          refine lv_iconst (v := (0 : Int32)) hx hb dX2_isWithin_40 (by decide) ?_
          have hq1 := Option.some.inj hm7
          subst hq1
          exact W.zret (ty := .boolean) hx hb hr (by decide) (fun t ht hW => ⟨⟨_, (), rfl, ⟨rfl, (by decide)⟩, by rw [ht]; exact hP5, va_K.moved hW.alike hK, hD5⟩, hS5.F ht⟩) hS5.2.2 dX2_isWithin_41
        · have hm8 := zz_nf c6 hm4
          refine lv_iload_n hx hb dX2_isWithin_20 rfl (lv_at hl 2 rfl) ?_
          refine lv_iload_n hx hb dX2_isWithin_21 rfl (lv_at hl 1 rfl) ?_
          refine lv_icmp_ne (tgt := 27) hx hb dX2_isWithin_22 (by decide) (fun c9 => ?_) (fun c9 => ?_)
          · have hm10 := zz_nf c9 hm8
            refine lv_aload_n hx hb dX2_isWithin_27 rfl (lv_at hl 0 rfl) ?_
            refine va_get (D := D) (ci := 2) (v := .ref aPp) (C := RX2) (T := TX2) (N := 5) hx hb hts iw_X2 hown hK hP5 0 rfl rfl 0 (by decide) (hts (.fieldLink RX2 9 "VarianceBridge$Plan" "parents" "[I") (by decide +kernel)) (fun _ h9 => h9) rfl dX2_isWithin_28 ?_
            refine lv_iload_n hx hb dX2_isWithin_31 rfl (lv_at hl 2 rfl) ?_
            obtain ⟨c12, hm13⟩ := zz_no hm10
            refine va_iald hx hb hK hP5 1 0 rfl rfl c12 dX2_isWithin_32 ?_
            refine lv_istore_n (lv' := [(3, .int (pp y3.toNatClampNeg)), (0, .ref aP), (2, .int y2), (4, .int y4)]) hx hb dX2_isWithin_33 rfl hl (by decide) rfl (fun ls14 hl14 => ?_)
            refine lv_iinc (v := (y4 + (1 : Int32))) (lv' := [(4, .int (y4 + (1 : Int32))), (3, .int (pp y3.toNatClampNeg)), (0, .ref aP), (2, .int y2)]) hx hb dX2_isWithin_34 hl14 (k := 3) rfl (by rfl) (by decide) rfl (fun ls15 hl15 => ?_)
            refine lv_goto (tgt := 5) hx hb dX2_isWithin_37 (by decide) ?_
            exact ih y2 (pp y3.toNatClampNeg) (y4 + (1 : Int32)) hm13 ls15 H5 lo5 (lv_sub hl15 [2, 3, 1, 0] rfl) hP5 hD5 hS5
          · have hm11 := zz_if c9 hm8
            refine lv_iconst (v := (1 : Int32)) hx hb dX2_isWithin_25 (by decide) ?_
            have hq1 := Option.some.inj hm11
            subst hq1
            exact W.zret (ty := .boolean) hx hb hr (by decide) (fun t ht hW => ⟨⟨_, (), rfl, ⟨rfl, (by decide)⟩, by rw [ht]; exact hP5, va_K.moved hW.alike hK, hD5⟩, hS5.F ht⟩) hS5.2.2 dX2_isWithin_26
  have hl := lv_entry ([.ref aP, .int x1, .int x2]) (n := 5) (Nat.le_of_ble_eq_true rfl)
  rw [lg_entry_eq]
  generalize (lg_sl ([.ref aP, .int x1, .int x2]) ++ List.replicate (5 - (lg_sl ([.ref aP, .int x1, .int x2])).length) Slot.unset).toArray = ls at hl ⊢
  have hl : lv_has ls 5 [(0, .ref aP), (1, .int x1), (2, .int x2)] := hl
  replace hm : (k_X2_isWithin_5 pn pp FU x2 x1 (0 : Int32)) = some r0 := hm
  refine lv_iload_n hx hb dX2_isWithin_0 rfl (lv_at hl 1 rfl) ?_
  refine lv_istore_n (lv' := [(3, .int x1), (0, .ref aP), (1, .int x1), (2, .int x2)]) hx hb dX2_isWithin_1 rfl hl (by decide) rfl (fun ls16 hl16 => ?_)
  refine lv_iconst (v := (0 : Int32)) hx hb dX2_isWithin_2 (by decide) ?_
  refine lv_istore (lv' := [(4, .int (0 : Int32)), (3, .int x1), (0, .ref aP), (1, .int x1), (2, .int x2)]) hx hb dX2_isWithin_3 hl16 (by decide) rfl (fun ls17 hl17 => ?_)
  exact hk_5 FU x2 x1 (0 : Int32) hm ls17 s.heap [] (lv_sub hl17 [2, 4, 1, 0] rfl) hP hD hS
theorem iw_X2_leavesBelow_X2 : ∀ w ∈ wsX20, w ∈ wsX2_leavesBelow := by decide +kernel
set_option maxHeartbeats 4000000 in
set_option maxRecDepth 100000 in
theorem c_X2_leavesBelow (l : Launch) (D : va_G) (cI cB cZ : ClassId) (ta : Nat → Nat) (aP : Nat) (aPp : Nat) (aPf : Nat) (sz : Nat) (pg : Int32) (ps : Int32) (pn : Int32) (pp : (Nat → Int32)) (pf : (Nat → Int32)) (x1 : Int32) (r0 : Int32) (hm : m_X2_leavesBelow pg pn pp x1 = some r0) : Met l yX2_leavesBelow wsX2_leavesBelow ({ frames := 2, cells := 0, slots := 0, locals := 45 } : Room) (va_Pc [.ref aP, .int x1] (PW D cI cB cZ ta (w_Plan cI cB cZ aP aPp aPf pg ps pn pp pf) sz)) (QI D cI cB cZ (va_A (w_Plan cI cB cZ aP aPp aPf pg ps pn pp pf) sz) (w_Plan cI cB cZ aP aPp aPf pg ps pn pp pf) r0) 0 0 (va_A (w_Plan cI cB cZ aP aPp aPf pg ps pn pp pf) sz) := by
  refine Met.ofW (cc := cX2_leavesBelow) (maxL := 4) (ret := (some .int)) (by decide) rfl ?_
  intro p e s m args below meth c s₁ B hml hv
  obtain ⟨rfl, hsz, hP, hK, hD0, hG⟩ := hv
  have hx := B.exec
  have hb := B.bytes
  have hr := B.returns
  have hts := atoms_spec (ws := wsX2_leavesBelow) B.pre
  have hown : s.vm.findClass RX2 = some m.cls := findClass_of_methodNamed B.named
  have hlocks := B.notSynchronized
  subst hsz
  have hD := hD0.self (sz := s.heap.size)
  clear hD0
  have hA0 : ∀ q : Nat, s.heap.size ≤ q → va_A (w_Plan cI cB cZ aP aPp aPf pg ps pn pp pf) s.heap.size q := fun q h => Or.inr h
  generalize hAe : va_A (w_Plan cI cB cZ aP aPp aPf pg ps pn pp pf) s.heap.size = A at hD hG hA0 ⊢
  have hA : ∀ q : Nat, s.heap.size ≤ q → A q := hA0
  clear hA0
  have hS : va_S A s.heap s.heap [] := va_S.rf
  have iw_X2 := iw_X2_leavesBelow_X2
  have hk_4 : ∀ (n : Nat) (y1 : Int32) (y2 : Int32) (y3 : Int32), k_X2_leavesBelow_4 pg pn pp n y1 y2 y3 = some r0 → ∀ (ls : Array Slot) (H : Heap) (lo : List Loc), lv_has ls 4 [(0, .ref aP), (1, .int y1), (2, .int y2), (3, .int y3)] → va_P D vwCl (w_Plan cI cB cZ aP aPp aPf pg ps pn pp pf) H → va_D A (w_Plan cI cB cZ aP aPp aPf pg ps pn pp pf) → va_S A s.heap H lo → W p l e (headSpec wsX2_leavesBelow ({ frames := 2, cells := 0, slots := 0, locals := 45 } : Room)).room s m (([.ref aP, .int x1] : List Value).toArray) below meth c H lo 0 0 (MQ below (QI D cI cB cZ A (w_Plan cI cB cZ aP aPp aPf pg ps pn pp pf) r0) (([.ref aP, .int x1] : List Value).toArray) s 0 0 A) (F0 m 4 ls []) := by
    intro n
    induction n with
    | zero => intro y1 y2 y3 hm; exact zz_nn hm
    | succ n ih =>
      intro y1 y2 y3 hm ls H lo hl hP hD hS
      replace hm := (k_X2_leavesBelow_4_s pg pn pp n y1 y2 y3).symm.trans hm
      refine lv_iload_n hx hb dX2_leavesBelow_4 rfl (lv_at hl 3 rfl) ?_
      refine lv_aload_n hx hb dX2_leavesBelow_5 rfl (lv_at hl 0 rfl) ?_
      refine va_get (D := D) (ci := 2) (v := .int pn) (C := RX2) (T := TX2) (N := 5) hx hb hts iw_X2 hown hK hP 0 rfl rfl 4 (by decide) (hts (.fieldLink RX2 26 "VarianceBridge$Plan" "nodes" "I") (by decide +kernel)) (fun _ h9 => h9) rfl dX2_leavesBelow_6 ?_
      refine lv_icmp_ge (tgt := 41) hx hb dX2_leavesBelow_9 (by decide) (fun c1 => ?_) (fun c1 => ?_)
      · have hm2 := zz_if c1 hm
        refine lv_iload_n hx hb dX2_leavesBelow_41 rfl (lv_at hl 2 rfl) ?_
        have hq1 := Option.some.inj hm2
        subst hq1
        exact W.iret hx hb hr (fun t ht hW => ⟨⟨_, (), rfl, rfl, by rw [ht]; exact hP, va_K.moved hW.alike hK, hD⟩, hS.F ht⟩) hS.2.2 dX2_leavesBelow_42
      · have hm3 := zz_nf c1 hm
        refine lv_aload_n hx hb dX2_leavesBelow_12 rfl (lv_at hl 0 rfl) ?_
        refine lv_iload_n hx hb dX2_leavesBelow_13 rfl (lv_at hl 3 rfl) ?_
        obtain ⟨r4, h4, hm4⟩ := ob1_e hm3
        refine gcall_b (ws' := (w_Plan cI cB cZ aP aPp aPf pg ps pn pp pf)) (va_runV (As := [.int y3]) (rest := []) ⟨hx, hb, hml, hown, hts⟩ (c_X2_isLeaf l D cI cB cZ ta aP aPp aPf H.size pg ps pn pp pf y3 r4 h4) (cwV 1 hts gX2_leavesBelow_X2_isLeaf rfl rfl rfl (by decide +kernel) ⟨(Nat.le_of_ble_eq_true rfl), (Nat.le_of_ble_eq_true rfl)⟩) ⟨PW_blind, va_recv hK hP rfl (q0 := 0) rfl, PW_at hP hD hK hS hA hG [0, 1, 2] rfl (by decide)⟩ rfl rfl hl.1 rfl (lv_room (Nat.le_of_ble_eq_true rfl)) dX2_leavesBelow_14 ⟨(Nat.le_of_ble_eq_true rfl), (Nat.le_of_ble_eq_true rfl)⟩) hP hD hS hA [0, 1, 2] [] [0, 1, 2] rfl rfl (by decide) (by decide) (by decide) rfl (fun H5 lo5 hz4 hP5 hD5 hS5 => ?_)
        clear hP hD hS
        refine lv_if_eq (tgt := 35) hx hb dX2_leavesBelow_17 (by decide) (fun c6 => ?_) (fun c6 => ?_)
        · have hm7 := zz_if c6 hm4
          refine lv_iinc (v := (y3 + (1 : Int32))) (lv' := [(3, .int (y3 + (1 : Int32))), (0, .ref aP), (1, .int y1), (2, .int y2)]) hx hb dX2_leavesBelow_35 hl (k := 3) rfl (by rfl) (by decide) rfl (fun ls9 hl9 => ?_)
          refine lv_goto (tgt := 4) hx hb dX2_leavesBelow_38 (by decide) ?_
          exact ih y1 y2 (y3 + (1 : Int32)) hm7 ls9 H5 lo5 (lv_sub hl9 [1, 2, 3, 0] rfl) hP5 hD5 hS5
        · have hm8 := zz_nf c6 hm4
          refine lv_aload_n hx hb dX2_leavesBelow_20 rfl (lv_at hl 0 rfl) ?_
          refine lv_iload_n hx hb dX2_leavesBelow_21 rfl (lv_at hl 3 rfl) ?_
          refine lv_iload_n hx hb dX2_leavesBelow_22 rfl (lv_at hl 1 rfl) ?_
          obtain ⟨r10, h10, hm10⟩ := ob1_e hm8
          refine gcall_b (ws' := (w_Plan cI cB cZ aP aPp aPf pg ps pn pp pf)) (va_runV (As := [.int y3, .int y1]) (rest := []) ⟨hx, hb, hml, hown, hts⟩ (c_X2_isWithin l D cI cB cZ ta aP aPp aPf H5.size pg ps pn pp pf y3 y1 r10 h10) (cwV 2 hts gX2_leavesBelow_X2_isWithin rfl rfl rfl (by decide +kernel) ⟨(Nat.le_of_ble_eq_true rfl), (Nat.le_of_ble_eq_true rfl)⟩) ⟨PW_blind, va_recv hK hP5 rfl (q0 := 0) rfl, PW_at hP5 hD5 hK hS5 hA hG [0, 1, 2] rfl (by decide)⟩ rfl rfl hl.1 rfl (lv_room (Nat.le_of_ble_eq_true rfl)) dX2_leavesBelow_23 ⟨(Nat.le_of_ble_eq_true rfl), (Nat.le_of_ble_eq_true rfl)⟩) hP5 hD5 hS5 hA [0, 1, 2] [] [0, 1, 2] rfl rfl (by decide) (by decide) (by decide) rfl (fun H11 lo11 hz10 hP11 hD11 hS11 => ?_)
          clear hP5 hD5 hS5
          refine lv_if_eq (tgt := 35) hx hb dX2_leavesBelow_26 (by decide) (fun c12 => ?_) (fun c12 => ?_)
          · have hm13 := zz_if c12 hm10
            refine lv_iinc (v := (y3 + (1 : Int32))) (lv' := [(3, .int (y3 + (1 : Int32))), (0, .ref aP), (1, .int y1), (2, .int y2)]) hx hb dX2_leavesBelow_35 hl (k := 3) rfl (by rfl) (by decide) rfl (fun ls15 hl15 => ?_)
            refine lv_goto (tgt := 4) hx hb dX2_leavesBelow_38 (by decide) ?_
            exact ih y1 y2 (y3 + (1 : Int32)) hm13 ls15 H11 lo11 (lv_sub hl15 [1, 2, 3, 0] rfl) hP11 hD11 hS11
          · have hm14 := zz_nf c12 hm10
            refine lv_iload_n hx hb dX2_leavesBelow_29 rfl (lv_at hl 2 rfl) ?_
            refine lv_iconst (v := (1 : Int32)) hx hb dX2_leavesBelow_30 (by decide) ?_
            refine lv_iload_n hx hb dX2_leavesBelow_31 rfl (lv_at hl 3 rfl) ?_
            refine lv_ishl hx hb dX2_leavesBelow_32 ?_
            refine lv_ior hx hb dX2_leavesBelow_33 ?_
            refine lv_istore_n (lv' := [(2, .int (y2 ||| ((1 : Int32) <<< (y3 &&& 31)))), (0, .ref aP), (1, .int y1), (3, .int y3)]) hx hb dX2_leavesBelow_34 rfl hl (by decide) rfl (fun ls16 hl16 => ?_)
            refine lv_iinc (v := (y3 + (1 : Int32))) (lv' := [(3, .int (y3 + (1 : Int32))), (2, .int (y2 ||| ((1 : Int32) <<< (y3 &&& 31)))), (0, .ref aP), (1, .int y1)]) hx hb dX2_leavesBelow_35 hl16 (k := 3) rfl (by rfl) (by decide) rfl (fun ls17 hl17 => ?_)
            refine lv_goto (tgt := 4) hx hb dX2_leavesBelow_38 (by decide) ?_
            exact ih y1 (y2 ||| ((1 : Int32) <<< (y3 &&& 31))) (y3 + (1 : Int32)) hm14 ls17 H11 lo11 (lv_sub hl17 [2, 3, 1, 0] rfl) hP11 hD11 hS11
  have hl := lv_entry ([.ref aP, .int x1]) (n := 4) (Nat.le_of_ble_eq_true rfl)
  rw [lg_entry_eq]
  generalize (lg_sl ([.ref aP, .int x1]) ++ List.replicate (4 - (lg_sl ([.ref aP, .int x1])).length) Slot.unset).toArray = ls at hl ⊢
  have hl : lv_has ls 4 [(0, .ref aP), (1, .int x1)] := hl
  replace hm : (k_X2_leavesBelow_4 pg pn pp FU x1 (0 : Int32) (1 : Int32)) = some r0 := hm
  refine lv_iconst (v := (0 : Int32)) hx hb dX2_leavesBelow_0 (by decide) ?_
  refine lv_istore_n (lv' := [(2, .int (0 : Int32)), (0, .ref aP), (1, .int x1)]) hx hb dX2_leavesBelow_1 rfl hl (by decide) rfl (fun ls18 hl18 => ?_)
  refine lv_iconst (v := (1 : Int32)) hx hb dX2_leavesBelow_2 (by decide) ?_
  refine lv_istore_n (lv' := [(3, .int (1 : Int32)), (2, .int (0 : Int32)), (0, .ref aP), (1, .int x1)]) hx hb dX2_leavesBelow_3 rfl hl18 (by decide) rfl (fun ls19 hl19 => ?_)
  exact hk_4 FU x1 (0 : Int32) (1 : Int32) hm ls19 s.heap [] (lv_sub hl19 [2, 3, 1, 0] rfl) hP hD hS
set_option maxHeartbeats 4000000 in
set_option maxRecDepth 100000 in
theorem c_J7_fill_53178 (l : Launch) (D : va_G) (cI cB cZ : ClassId) (ta : Nat → Nat) (aA : Nat) (sz : Nat) (an : Nat) (ar : (Nat → Int32)) (x2 : Int32) (u_ar : (Nat → Int32)) (hm : m_J7_fill_53178 an ar x2 = some u_ar) : Met l yJ7_fill_53178 wsJ7_fill_53178 ({ frames := 0, cells := 0, slots := 0, locals := 0 } : Room) (va_Pc [.ref aA, .int x2] (PW D cI cB cZ ta (w_arrN cI cB cZ aA an ar) sz)) (QV D cI cB cZ (va_A (w_arrN cI cB cZ aA an ar) sz) (w_arrN cI cB cZ aA an u_ar)) 0 0 (va_A (w_arrN cI cB cZ aA an ar) sz) := by
  refine Met.ofW (cc := cJ7_fill_53178) (maxL := 4) (ret := none) (by decide) rfl ?_
  intro p e s m args below meth c s₁ B hml hv
  obtain ⟨rfl, hsz, hP, hK, hD0, hG⟩ := hv
  have hx := B.exec
  have hb := B.bytes
  have hr := B.returns
  have hts := atoms_spec (ws := wsJ7_fill_53178) B.pre
  have hown : s.vm.findClass RJ7 = some m.cls := findClass_of_methodNamed B.named
  have hlocks := B.notSynchronized
  subst hsz
  have hD := hD0.self (sz := s.heap.size)
  clear hD0
  have hA0 : ∀ q : Nat, s.heap.size ≤ q → va_A (w_arrN cI cB cZ aA an ar) s.heap.size q := fun q h => Or.inr h
  generalize hAe : va_A (w_arrN cI cB cZ aA an ar) s.heap.size = A at hD hG hA0 ⊢
  have hA : ∀ q : Nat, s.heap.size ≤ q → A q := hA0
  clear hA0
  have hS : va_S A s.heap s.heap [] := va_S.rf
  have hk_5 : ∀ (n : Nat) (ar : (Nat → Int32)) (y1 : Int32) (y2 : Int32) (y3 : Int32), k_J7_fill_53178_5 an n ar y1 y2 y3 = some u_ar → ∀ (ls : Array Slot) (H : Heap) (lo : List Loc), lv_has ls 4 [(0, .ref aA), (1, .int y1), (2, .int y2), (3, .int y3)] → va_P D vwCl (w_arrN cI cB cZ aA an ar) H → va_D A (w_arrN cI cB cZ aA an ar) → va_S A s.heap H lo → W p l e (headSpec wsJ7_fill_53178 ({ frames := 0, cells := 0, slots := 0, locals := 0 } : Room)).room s m (([.ref aA, .int x2] : List Value).toArray) below meth c H lo 0 0 (MQ below (QV D cI cB cZ A (w_arrN cI cB cZ aA an u_ar)) (([.ref aA, .int x2] : List Value).toArray) s 0 0 A) (F0 m 5 ls []) := by
    intro n
    induction n with
    | zero => intro ar y1 y2 y3 hm; exact zz_nn hm
    | succ n ih =>
      intro ar y1 y2 y3 hm ls H lo hl hP hD hS
      replace hm := (k_J7_fill_53178_5_s an n ar y1 y2 y3).symm.trans hm
      refine lv_iload_n hx hb dJ7_fill_53178_5 rfl (lv_at hl 2 rfl) ?_
      refine lv_iload_n hx hb dJ7_fill_53178_6 rfl (lv_at hl 3 rfl) ?_
      refine lv_icmp_ge (tgt := 20) hx hb dJ7_fill_53178_7 (by decide) (fun c1 => ?_) (fun c1 => ?_)
      · have hm2 := zz_if c1 hm
        have hq1 := Option.some.inj hm2
        subst hq1
        exact W.vret hx hb hr (fun t ht hW => ⟨⟨(), rfl, trivial, by rw [ht]; exact hP, va_K.moved hW.alike hK, hD⟩, hS.F ht⟩) hS.2.2 dJ7_fill_53178_20
      · have hm3 := zz_nf c1 hm
        refine lv_aload_n hx hb dJ7_fill_53178_10 rfl (lv_at hl 0 rfl) ?_
        refine lv_iload_n hx hb dJ7_fill_53178_11 rfl (lv_at hl 2 rfl) ?_
        refine lv_iload_n hx hb dJ7_fill_53178_12 rfl (lv_at hl 1 rfl) ?_
        obtain ⟨c4, hm5⟩ := zz_no hm3
        refine va_iast hx hb hK hP hD hS 0 0 rfl rfl c4 dJ7_fill_53178_13 (fun H6 lo6 hP6 hD6 hS6 => ?_)
        replace hP6 : va_P D vwCl (w_arrN cI cB cZ aA an (upd ar y2.toNatClampNeg y1)) H6 := hP6
        replace hD6 : va_D A (w_arrN cI cB cZ aA an (upd ar y2.toNatClampNeg y1)) := hD6
        clear hP hD hS
        refine lv_iinc (v := (y2 + (1 : Int32))) (lv' := [(2, .int (y2 + (1 : Int32))), (0, .ref aA), (1, .int y1), (3, .int y3)]) hx hb dJ7_fill_53178_14 hl (k := 2) rfl (by rfl) (by decide) rfl (fun ls7 hl7 => ?_)
        refine lv_goto (tgt := 5) hx hb dJ7_fill_53178_17 (by decide) ?_
        exact ih (upd ar y2.toNatClampNeg y1) y1 (y2 + (1 : Int32)) y3 hm5 ls7 H6 lo6 (lv_sub hl7 [1, 2, 0, 3] rfl) hP6 hD6 hS6
  have hl := lv_entry ([.ref aA, .int x2]) (n := 4) (Nat.le_of_ble_eq_true rfl)
  rw [lg_entry_eq]
  generalize (lg_sl ([.ref aA, .int x2]) ++ List.replicate (4 - (lg_sl ([.ref aA, .int x2])).length) Slot.unset).toArray = ls at hl ⊢
  have hl : lv_has ls 4 [(0, .ref aA), (1, .int x2)] := hl
  replace hm : (k_J7_fill_53178_5 an FU ar x2 (0 : Int32) (Int32.ofNat an)) = some u_ar := hm
  refine lv_iconst (v := (0 : Int32)) hx hb dJ7_fill_53178_0 (by decide) ?_
  refine lv_istore_n (lv' := [(2, .int (0 : Int32)), (0, .ref aA), (1, .int x2)]) hx hb dJ7_fill_53178_1 rfl hl (by decide) rfl (fun ls8 hl8 => ?_)
  refine lv_aload_n hx hb dJ7_fill_53178_2 rfl (lv_at hl8 1 rfl) ?_
  refine va_alen hx hb hK hP 0 0 rfl rfl (v := (Int32.ofNat an)) rfl dJ7_fill_53178_3 ?_
  refine lv_istore_n (lv' := [(3, .int (Int32.ofNat an)), (2, .int (0 : Int32)), (0, .ref aA), (1, .int x2)]) hx hb dJ7_fill_53178_4 rfl hl8 (by decide) rfl (fun ls9 hl9 => ?_)
  exact hk_5 FU ar x2 (0 : Int32) (Int32.ofNat an) hm ls9 s.heap [] (lv_sub hl9 [2, 3, 1, 0] rfl) hP hD hS
set_option maxHeartbeats 4000000 in
set_option maxRecDepth 100000 in
theorem c_X6_marginOf (l : Launch) (D : va_G) (cI cB cZ : ClassId) (ta : Nat → Nat) (sz : Nat) (x1 : Int32) (x2 : Int32) (x3 : Int32) (x4 : Int32) (r0 : Int32) (hm : m_X6_marginOf x1 x2 x3 x4 = some r0) : Met l yX6_marginOf wsX6_marginOf ({ frames := 0, cells := 0, slots := 0, locals := 0 } : Room) (va_Pc [.int x1, .int x2, .int x3, .int x4] (PW D cI cB cZ ta (w_none cI cB cZ) sz)) (QI D cI cB cZ (va_A (w_none cI cB cZ) sz) (w_none cI cB cZ) r0) 0 0 (va_A (w_none cI cB cZ) sz) := by
  refine Met.ofW (cc := cX6_marginOf) (maxL := 4) (ret := (some .int)) (by decide) rfl ?_
  intro p e s m args below meth c s₁ B hml hv
  obtain ⟨rfl, hsz, hP, hK, hD0, hG⟩ := hv
  have hx := B.exec
  have hb := B.bytes
  have hr := B.returns
  have hts := atoms_spec (ws := wsX6_marginOf) B.pre
  have hown : s.vm.findClass RX6 = some m.cls := findClass_of_methodNamed B.named
  have hlocks := B.notSynchronized
  subst hsz
  have hD := hD0.self (sz := s.heap.size)
  clear hD0
  have hA0 : ∀ q : Nat, s.heap.size ≤ q → va_A (w_none cI cB cZ) s.heap.size q := fun q h => Or.inr h
  generalize hAe : va_A (w_none cI cB cZ) s.heap.size = A at hD hG hA0 ⊢
  have hA : ∀ q : Nat, s.heap.size ≤ q → A q := hA0
  clear hA0
  have hS : va_S A s.heap s.heap [] := va_S.rf
  have hl := lv_entry ([.int x1, .int x2, .int x3, .int x4]) (n := 4) (Nat.le_of_ble_eq_true rfl)
  rw [lg_entry_eq]
  generalize (lg_sl ([.int x1, .int x2, .int x3, .int x4]) ++ List.replicate (4 - (lg_sl ([.int x1, .int x2, .int x3, .int x4])).length) Slot.unset).toArray = ls at hl ⊢
  have hl : lv_has ls 4 [(0, .int x1), (1, .int x2), (2, .int x3), (3, .int x4)] := hl
  replace hm : (if x4 = 0 then some (0 : Int32) else (if x4 = 0 then none else some (((x1 * x3) / (100 : Int32)) - ((x2 * (100 : Int32)) / x4)))) = some r0 := hm
  refine lv_iload_n hx hb dX6_marginOf_0 rfl (lv_at hl 3 rfl) ?_
  refine lv_if_ne (tgt := 6) hx hb dX6_marginOf_1 (by decide) (fun c1 => ?_) (fun c1 => ?_)
  · have hm2 := zz_nf c1 hm
    refine lv_iload_n hx hb dX6_marginOf_6 rfl (lv_at hl 0 rfl) ?_
    refine lv_iload_n hx hb dX6_marginOf_7 rfl (lv_at hl 2 rfl) ?_
    refine lv_imul hx hb dX6_marginOf_8 ?_
    refine lv_bipush (v := (100 : Int32)) hx hb dX6_marginOf_9 (by decide) ?_
    refine lv_idiv hx hb dX6_marginOf_11 (by decide) ?_
    refine lv_iload_n hx hb dX6_marginOf_12 rfl (lv_at hl 1 rfl) ?_
    refine lv_bipush (v := (100 : Int32)) hx hb dX6_marginOf_13 (by decide) ?_
    refine lv_imul hx hb dX6_marginOf_15 ?_
    refine lv_iload_n hx hb dX6_marginOf_16 rfl (lv_at hl 3 rfl) ?_
    obtain ⟨c4, hm5⟩ := zz_no hm2
    refine lv_idiv hx hb dX6_marginOf_17 c4 ?_
    refine lv_isub hx hb dX6_marginOf_18 ?_
    have hq1 := Option.some.inj hm5
    subst hq1
    exact W.iret hx hb hr (fun t ht hW => ⟨⟨_, (), rfl, rfl, by rw [ht]; exact hP, va_K.moved hW.alike hK, hD⟩, hS.F ht⟩) hS.2.2 dX6_marginOf_19
  · have hm3 := zz_if c1 hm
    refine lv_iconst (v := (0 : Int32)) hx hb dX6_marginOf_4 (by decide) ?_
    have hq1 := Option.some.inj hm3
    subst hq1
    exact W.iret hx hb hr (fun t ht hW => ⟨⟨_, (), rfl, rfl, by rw [ht]; exact hP, va_K.moved hW.alike hK, hD⟩, hS.F ht⟩) hS.2.2 dX6_marginOf_5
set_option maxHeartbeats 4000000 in
set_option maxRecDepth 100000 in
theorem c_X2_blendedValue (l : Launch) (D : va_G) (cI cB cZ : ClassId) (ta : Nat → Nat) (aP : Nat) (aPp : Nat) (aPf : Nat) (sz : Nat) (pg : Int32) (ps : Int32) (pn : Int32) (pp : (Nat → Int32)) (pf : (Nat → Int32)) (x1 : Int32) (x2 : Int32) (x3 : Int32) (x4 : Int32) (r0 : Int32) (hm : m_X2_blendedValue pf x1 x2 x3 x4 = some r0) : Met l yX2_blendedValue wsX2_blendedValue ({ frames := 1, cells := 0, slots := 0, locals := 23 } : Room) (va_Pc [.ref aP, .int x1, .int x2, .int x3, .int x4] (PW D cI cB cZ ta (w_Plan cI cB cZ aP aPp aPf pg ps pn pp pf) sz)) (QI D cI cB cZ (va_A (w_Plan cI cB cZ aP aPp aPf pg ps pn pp pf) sz) (w_Plan cI cB cZ aP aPp aPf pg ps pn pp pf) r0) 0 0 (va_A (w_Plan cI cB cZ aP aPp aPf pg ps pn pp pf) sz) := by
  refine Met.ofW (cc := cX2_blendedValue) (maxL := 10) (ret := (some .int)) (by decide) rfl ?_
  intro p e s m args below meth c s₁ B hml hv
  obtain ⟨rfl, hsz, hP, hK, hD0, hG⟩ := hv
  have hx := B.exec
  have hb := B.bytes
  have hr := B.returns
  have hts := atoms_spec (ws := wsX2_blendedValue) B.pre
  have hown : s.vm.findClass RX2 = some m.cls := findClass_of_methodNamed B.named
  have hlocks := B.notSynchronized
  subst hsz
  have hD := hD0.self (sz := s.heap.size)
  clear hD0
  have hA0 : ∀ q : Nat, s.heap.size ≤ q → va_A (w_Plan cI cB cZ aP aPp aPf pg ps pn pp pf) s.heap.size q := fun q h => Or.inr h
  generalize hAe : va_A (w_Plan cI cB cZ aP aPp aPf pg ps pn pp pf) s.heap.size = A at hD hG hA0 ⊢
  have hA : ∀ q : Nat, s.heap.size ≤ q → A q := hA0
  clear hA0
  have hS : va_S A s.heap s.heap [] := va_S.rf
  have hk_104 : ∀ (y5 : Int32) (y6 : Int32) (y7 : Int32) (y8 : Int32) (z1 : Int32) (z2 : Int32), k_X2_blendedValue_104 pf y5 y6 y7 y8 z1 z2 = some r0 → ∀ (ls : Array Slot) (H : Heap) (lo : List Loc), lv_has ls 10 [(5, .int y5), (6, .int y6), (7, .int y7), (8, .int y8)] → va_P D vwCl (w_Plan cI cB cZ aP aPp aPf pg ps pn pp pf) H → va_D A (w_Plan cI cB cZ aP aPp aPf pg ps pn pp pf) → va_S A s.heap H lo → W p l e (headSpec wsX2_blendedValue ({ frames := 1, cells := 0, slots := 0, locals := 23 } : Room)).room s m (([.ref aP, .int x1, .int x2, .int x3, .int x4] : List Value).toArray) below meth c H lo 0 0 (MQ below (QI D cI cB cZ A (w_Plan cI cB cZ aP aPp aPf pg ps pn pp pf) r0) (([.ref aP, .int x1, .int x2, .int x3, .int x4] : List Value).toArray) s 0 0 A) (F0 m 104 ls [.int z2, .int z1, .ref aP]) := by
    intro y5 y6 y7 y8 z1 z2 hm ls H lo hl hP hD hS
    replace hm : (ob1 (m_X2_factorOf pf z1 z2 (0 : Int32)) (fun r1 => (ob1 (m_X6_marginOf y5 y6 y7 y8) (fun r4 => some (r1 * r4))))) = some r0 := hm
    refine lv_iconst (v := (0 : Int32)) hx hb dX2_blendedValue_104 (by decide) ?_
    obtain ⟨r1, h1, hm1⟩ := ob1_e hm
    refine gcall_i (ws' := (w_Plan cI cB cZ aP aPp aPf pg ps pn pp pf)) (va_runV (As := [.int z1, .int z2, .int (0 : Int32)]) (rest := []) ⟨hx, hb, hml, hown, hts⟩ (c_X2_factorOf l D cI cB cZ ta aP aPp aPf H.size pg ps pn pp pf z1 z2 (0 : Int32) r1 h1) (cwV 3 hts gX2_blendedValue_X2_factorOf rfl rfl rfl (by decide +kernel) ⟨(Nat.le_of_ble_eq_true rfl), (Nat.le_of_ble_eq_true rfl)⟩) ⟨PW_blind, va_recv hK hP rfl (q0 := 0) rfl, PW_at hP hD hK hS hA hG [0, 1, 2] rfl (by decide)⟩ rfl rfl hl.1 rfl (lv_room (Nat.le_of_ble_eq_true rfl)) dX2_blendedValue_105 ⟨(Nat.le_of_ble_eq_true rfl), (Nat.le_of_ble_eq_true rfl)⟩) hP hD hS hA [0, 1, 2] [] [0, 1, 2] rfl rfl (by decide) (by decide) (by decide) rfl (fun H2 lo2 hP2 hD2 hS2 => ?_)
    clear hP hD hS
    refine lv_istore (lv' := [(9, .int r1), (5, .int y5), (6, .int y6), (7, .int y7), (8, .int y8)]) hx hb dX2_blendedValue_108 hl (by decide) rfl (fun ls3 hl3 => ?_)
    refine lv_iload hx hb dX2_blendedValue_110 (lv_at hl3 0 rfl) ?_
    refine lv_iload hx hb dX2_blendedValue_112 (lv_at hl3 1 rfl) ?_
    refine lv_iload hx hb dX2_blendedValue_114 (lv_at hl3 2 rfl) ?_
    refine lv_iload hx hb dX2_blendedValue_116 (lv_at hl3 3 rfl) ?_
    refine lv_iload hx hb dX2_blendedValue_118 (lv_at hl3 4 rfl) ?_
    obtain ⟨r4, h4, hm4⟩ := ob1_e hm1
    refine gcall_i (ws' := (w_Plan cI cB cZ aP aPp aPf pg ps pn pp pf)) (va_runSN (As := [.int y5, .int y6, .int y7, .int y8]) (rest := [.int r1]) ⟨hx, hb, hml, hown, hts⟩ (c_X6_marginOf l D cI cB cZ ta H2.size y5 y6 y7 y8 r4 h4) ⟨va_cnB 4 hts gX2_blendedValue_X6_marginOf_n64 rfl rfl rfl (hG.1 (.methodLinkNest RX2 64 yX6_marginOf RX6) (by decide +kernel)) (hts (.initialized RX6) (by decide +kernel)) (by decide +kernel) ⟨(Nat.le_of_ble_eq_true rfl), (Nat.le_of_ble_eq_true rfl)⟩, hts (.static yX6_marginOf) (by decide +kernel), trivial⟩ ⟨PW_blind, PW_at hP2 hD2 hK hS2 hA hG [] rfl (by decide)⟩ rfl rfl hl3.1 rfl (lv_room (Nat.le_of_ble_eq_true rfl)) dX2_blendedValue_120 ⟨(Nat.le_of_ble_eq_true rfl), (Nat.le_of_ble_eq_true rfl)⟩) hP2 hD2 hS2 hA [] [0, 1, 2] [0, 1, 2] rfl rfl (by decide) (by decide) (by decide) rfl (fun H5 lo5 hP5 hD5 hS5 => ?_)
    clear hP2 hD2 hS2
    refine lv_imul hx hb dX2_blendedValue_123 ?_
    have hq1 := Option.some.inj hm4
    subst hq1
    exact W.iret hx hb hr (fun t ht hW => ⟨⟨_, (), rfl, rfl, by rw [ht]; exact hP5, va_K.moved hW.alike hK, hD5⟩, hS5.F ht⟩) hS5.2.2 dX2_blendedValue_124
  have hk_82 : ∀ (y1 : Int32) (y2 : Int32) (y3 : Int32) (y4 : Int32) (y5 : Int32) (y6 : Int32) (y7 : Int32) (z1 : Int32) (z2 : Int32), k_X2_blendedValue_82 pf y1 y2 y3 y4 y5 y6 y7 z1 z2 = some r0 → ∀ (ls : Array Slot) (H : Heap) (lo : List Loc), lv_has ls 10 [(0, .ref aP), (1, .int y1), (2, .int y2), (3, .int y3), (4, .int y4), (5, .int y5), (6, .int y6), (7, .int y7)] → va_P D vwCl (w_Plan cI cB cZ aP aPp aPf pg ps pn pp pf) H → va_D A (w_Plan cI cB cZ aP aPp aPf pg ps pn pp pf) → va_S A s.heap H lo → W p l e (headSpec wsX2_blendedValue ({ frames := 1, cells := 0, slots := 0, locals := 23 } : Room)).room s m (([.ref aP, .int x1, .int x2, .int x3, .int x4] : List Value).toArray) below meth c H lo 0 0 (MQ below (QI D cI cB cZ A (w_Plan cI cB cZ aP aPp aPf pg ps pn pp pf) r0) (([.ref aP, .int x1, .int x2, .int x3, .int x4] : List Value).toArray) s 0 0 A) (F0 m 82 ls [.int z2, .int z1, .ref aP]) := by
    intro y1 y2 y3 y4 y5 y6 y7 z1 z2 hm ls H lo hl hP hD hS
    replace hm : (ob1 (m_X2_factorOf pf z1 z2 (4 : Int32)) (fun r6 => (if ((y4 >>> ((0 : Int32) &&& 31)) &&& (1 : Int32)) = 0 then (k_X2_blendedValue_104 pf y5 y6 y7 r6 y1 y2) else (k_X2_blendedValue_104 pf y5 y6 y7 r6 y1 y3)))) = some r0 := hm
    refine lv_iconst (v := (4 : Int32)) hx hb dX2_blendedValue_82 (by decide) ?_
    obtain ⟨r6, h6, hm6⟩ := ob1_e hm
    refine gcall_i (ws' := (w_Plan cI cB cZ aP aPp aPf pg ps pn pp pf)) (va_runV (As := [.int z1, .int z2, .int (4 : Int32)]) (rest := []) ⟨hx, hb, hml, hown, hts⟩ (c_X2_factorOf l D cI cB cZ ta aP aPp aPf H.size pg ps pn pp pf z1 z2 (4 : Int32) r6 h6) (cwV 3 hts gX2_blendedValue_X2_factorOf rfl rfl rfl (by decide +kernel) ⟨(Nat.le_of_ble_eq_true rfl), (Nat.le_of_ble_eq_true rfl)⟩) ⟨PW_blind, va_recv hK hP rfl (q0 := 0) rfl, PW_at hP hD hK hS hA hG [0, 1, 2] rfl (by decide)⟩ rfl rfl hl.1 rfl (lv_room (Nat.le_of_ble_eq_true rfl)) dX2_blendedValue_83 ⟨(Nat.le_of_ble_eq_true rfl), (Nat.le_of_ble_eq_true rfl)⟩) hP hD hS hA [0, 1, 2] [] [0, 1, 2] rfl rfl (by decide) (by decide) (by decide) rfl (fun H7 lo7 hP7 hD7 hS7 => ?_)
    clear hP hD hS
    refine lv_istore (lv' := [(8, .int r6), (0, .ref aP), (1, .int y1), (2, .int y2), (3, .int y3), (4, .int y4), (5, .int y5), (6, .int y6), (7, .int y7)]) hx hb dX2_blendedValue_86 hl (by decide) rfl (fun ls8 hl8 => ?_)
    refine lv_aload_n hx hb dX2_blendedValue_88 rfl (lv_at hl8 1 rfl) ?_
    refine lv_iload_n hx hb dX2_blendedValue_89 rfl (lv_at hl8 2 rfl) ?_
    refine lv_iload hx hb dX2_blendedValue_90 (lv_at hl8 5 rfl) ?_
    refine lv_iconst (v := (0 : Int32)) hx hb dX2_blendedValue_92 (by decide) ?_
    refine lv_ishr hx hb dX2_blendedValue_93 ?_
    refine lv_iconst (v := (1 : Int32)) hx hb dX2_blendedValue_94 (by decide) ?_
    refine lv_iand hx hb dX2_blendedValue_95 ?_
    refine lv_if_eq (tgt := 103) hx hb dX2_blendedValue_96 (by decide) (fun c9 => ?_) (fun c9 => ?_)
    · have hm10 := zz_if c9 hm6
      refine lv_iload_n hx hb dX2_blendedValue_103 rfl (lv_at hl8 3 rfl) ?_
      exact hk_104 y5 y6 y7 r6 y1 y2 hm10 ls8 H7 lo7 (lv_sub hl8 [6, 7, 8, 0] rfl) hP7 hD7 hS7
    · have hm11 := zz_nf c9 hm6
      refine lv_iload_n hx hb dX2_blendedValue_99 rfl (lv_at hl8 4 rfl) ?_
      refine lv_goto (tgt := 104) hx hb dX2_blendedValue_100 (by decide) ?_
      exact hk_104 y5 y6 y7 r6 y1 y3 hm11 ls8 H7 lo7 (lv_sub hl8 [6, 7, 8, 0] rfl) hP7 hD7 hS7
  have hk_60 : ∀ (y1 : Int32) (y2 : Int32) (y3 : Int32) (y4 : Int32) (y5 : Int32) (y6 : Int32) (z1 : Int32) (z2 : Int32), k_X2_blendedValue_60 pf y1 y2 y3 y4 y5 y6 z1 z2 = some r0 → ∀ (ls : Array Slot) (H : Heap) (lo : List Loc), lv_has ls 10 [(0, .ref aP), (1, .int y1), (2, .int y2), (3, .int y3), (4, .int y4), (5, .int y5), (6, .int y6)] → va_P D vwCl (w_Plan cI cB cZ aP aPp aPf pg ps pn pp pf) H → va_D A (w_Plan cI cB cZ aP aPp aPf pg ps pn pp pf) → va_S A s.heap H lo → W p l e (headSpec wsX2_blendedValue ({ frames := 1, cells := 0, slots := 0, locals := 23 } : Room)).room s m (([.ref aP, .int x1, .int x2, .int x3, .int x4] : List Value).toArray) below meth c H lo 0 0 (MQ below (QI D cI cB cZ A (w_Plan cI cB cZ aP aPp aPf pg ps pn pp pf) r0) (([.ref aP, .int x1, .int x2, .int x3, .int x4] : List Value).toArray) s 0 0 A) (F0 m 60 ls [.int z2, .int z1, .ref aP]) := by
    intro y1 y2 y3 y4 y5 y6 z1 z2 hm ls H lo hl hP hD hS
    replace hm : (ob1 (m_X2_factorOf pf z1 z2 (3 : Int32)) (fun r12 => (if ((y4 >>> ((4 : Int32) &&& 31)) &&& (1 : Int32)) = 0 then (k_X2_blendedValue_82 pf y1 y2 y3 y4 y5 y6 r12 y1 y2) else (k_X2_blendedValue_82 pf y1 y2 y3 y4 y5 y6 r12 y1 y3)))) = some r0 := hm
    refine lv_iconst (v := (3 : Int32)) hx hb dX2_blendedValue_60 (by decide) ?_
    obtain ⟨r12, h12, hm12⟩ := ob1_e hm
    refine gcall_i (ws' := (w_Plan cI cB cZ aP aPp aPf pg ps pn pp pf)) (va_runV (As := [.int z1, .int z2, .int (3 : Int32)]) (rest := []) ⟨hx, hb, hml, hown, hts⟩ (c_X2_factorOf l D cI cB cZ ta aP aPp aPf H.size pg ps pn pp pf z1 z2 (3 : Int32) r12 h12) (cwV 3 hts gX2_blendedValue_X2_factorOf rfl rfl rfl (by decide +kernel) ⟨(Nat.le_of_ble_eq_true rfl), (Nat.le_of_ble_eq_true rfl)⟩) ⟨PW_blind, va_recv hK hP rfl (q0 := 0) rfl, PW_at hP hD hK hS hA hG [0, 1, 2] rfl (by decide)⟩ rfl rfl hl.1 rfl (lv_room (Nat.le_of_ble_eq_true rfl)) dX2_blendedValue_61 ⟨(Nat.le_of_ble_eq_true rfl), (Nat.le_of_ble_eq_true rfl)⟩) hP hD hS hA [0, 1, 2] [] [0, 1, 2] rfl rfl (by decide) (by decide) (by decide) rfl (fun H13 lo13 hP13 hD13 hS13 => ?_)
    clear hP hD hS
    refine lv_istore (lv' := [(7, .int r12), (0, .ref aP), (1, .int y1), (2, .int y2), (3, .int y3), (4, .int y4), (5, .int y5), (6, .int y6)]) hx hb dX2_blendedValue_64 hl (by decide) rfl (fun ls14 hl14 => ?_)
    refine lv_aload_n hx hb dX2_blendedValue_66 rfl (lv_at hl14 1 rfl) ?_
    refine lv_iload_n hx hb dX2_blendedValue_67 rfl (lv_at hl14 2 rfl) ?_
    refine lv_iload hx hb dX2_blendedValue_68 (lv_at hl14 5 rfl) ?_
    refine lv_iconst (v := (4 : Int32)) hx hb dX2_blendedValue_70 (by decide) ?_
    refine lv_ishr hx hb dX2_blendedValue_71 ?_
    refine lv_iconst (v := (1 : Int32)) hx hb dX2_blendedValue_72 (by decide) ?_
    refine lv_iand hx hb dX2_blendedValue_73 ?_
    refine lv_if_eq (tgt := 81) hx hb dX2_blendedValue_74 (by decide) (fun c15 => ?_) (fun c15 => ?_)
    · have hm16 := zz_if c15 hm12
      refine lv_iload_n hx hb dX2_blendedValue_81 rfl (lv_at hl14 3 rfl) ?_
      exact hk_82 y1 y2 y3 y4 y5 y6 r12 y1 y2 hm16 ls14 H13 lo13 (lv_sub hl14 [1, 2, 3, 4, 5, 6, 7, 0] rfl) hP13 hD13 hS13
    · have hm17 := zz_nf c15 hm12
      refine lv_iload_n hx hb dX2_blendedValue_77 rfl (lv_at hl14 4 rfl) ?_
      refine lv_goto (tgt := 82) hx hb dX2_blendedValue_78 (by decide) ?_
      exact hk_82 y1 y2 y3 y4 y5 y6 r12 y1 y3 hm17 ls14 H13 lo13 (lv_sub hl14 [1, 2, 3, 4, 5, 6, 7, 0] rfl) hP13 hD13 hS13
  have hk_38 : ∀ (y1 : Int32) (y2 : Int32) (y3 : Int32) (y4 : Int32) (y5 : Int32) (z1 : Int32) (z2 : Int32), k_X2_blendedValue_38 pf y1 y2 y3 y4 y5 z1 z2 = some r0 → ∀ (ls : Array Slot) (H : Heap) (lo : List Loc), lv_has ls 10 [(0, .ref aP), (1, .int y1), (2, .int y2), (3, .int y3), (4, .int y4), (5, .int y5)] → va_P D vwCl (w_Plan cI cB cZ aP aPp aPf pg ps pn pp pf) H → va_D A (w_Plan cI cB cZ aP aPp aPf pg ps pn pp pf) → va_S A s.heap H lo → W p l e (headSpec wsX2_blendedValue ({ frames := 1, cells := 0, slots := 0, locals := 23 } : Room)).room s m (([.ref aP, .int x1, .int x2, .int x3, .int x4] : List Value).toArray) below meth c H lo 0 0 (MQ below (QI D cI cB cZ A (w_Plan cI cB cZ aP aPp aPf pg ps pn pp pf) r0) (([.ref aP, .int x1, .int x2, .int x3, .int x4] : List Value).toArray) s 0 0 A) (F0 m 38 ls [.int z2, .int z1, .ref aP]) := by
    intro y1 y2 y3 y4 y5 z1 z2 hm ls H lo hl hP hD hS
    replace hm : (ob1 (m_X2_factorOf pf z1 z2 (2 : Int32)) (fun r18 => (if ((y4 >>> ((3 : Int32) &&& 31)) &&& (1 : Int32)) = 0 then (k_X2_blendedValue_60 pf y1 y2 y3 y4 y5 r18 y1 y2) else (k_X2_blendedValue_60 pf y1 y2 y3 y4 y5 r18 y1 y3)))) = some r0 := hm
    refine lv_iconst (v := (2 : Int32)) hx hb dX2_blendedValue_38 (by decide) ?_
    obtain ⟨r18, h18, hm18⟩ := ob1_e hm
    refine gcall_i (ws' := (w_Plan cI cB cZ aP aPp aPf pg ps pn pp pf)) (va_runV (As := [.int z1, .int z2, .int (2 : Int32)]) (rest := []) ⟨hx, hb, hml, hown, hts⟩ (c_X2_factorOf l D cI cB cZ ta aP aPp aPf H.size pg ps pn pp pf z1 z2 (2 : Int32) r18 h18) (cwV 3 hts gX2_blendedValue_X2_factorOf rfl rfl rfl (by decide +kernel) ⟨(Nat.le_of_ble_eq_true rfl), (Nat.le_of_ble_eq_true rfl)⟩) ⟨PW_blind, va_recv hK hP rfl (q0 := 0) rfl, PW_at hP hD hK hS hA hG [0, 1, 2] rfl (by decide)⟩ rfl rfl hl.1 rfl (lv_room (Nat.le_of_ble_eq_true rfl)) dX2_blendedValue_39 ⟨(Nat.le_of_ble_eq_true rfl), (Nat.le_of_ble_eq_true rfl)⟩) hP hD hS hA [0, 1, 2] [] [0, 1, 2] rfl rfl (by decide) (by decide) (by decide) rfl (fun H19 lo19 hP19 hD19 hS19 => ?_)
    clear hP hD hS
    refine lv_istore (lv' := [(6, .int r18), (0, .ref aP), (1, .int y1), (2, .int y2), (3, .int y3), (4, .int y4), (5, .int y5)]) hx hb dX2_blendedValue_42 hl (by decide) rfl (fun ls20 hl20 => ?_)
    refine lv_aload_n hx hb dX2_blendedValue_44 rfl (lv_at hl20 1 rfl) ?_
    refine lv_iload_n hx hb dX2_blendedValue_45 rfl (lv_at hl20 2 rfl) ?_
    refine lv_iload hx hb dX2_blendedValue_46 (lv_at hl20 5 rfl) ?_
    refine lv_iconst (v := (3 : Int32)) hx hb dX2_blendedValue_48 (by decide) ?_
    refine lv_ishr hx hb dX2_blendedValue_49 ?_
    refine lv_iconst (v := (1 : Int32)) hx hb dX2_blendedValue_50 (by decide) ?_
    refine lv_iand hx hb dX2_blendedValue_51 ?_
    refine lv_if_eq (tgt := 59) hx hb dX2_blendedValue_52 (by decide) (fun c21 => ?_) (fun c21 => ?_)
    · have hm22 := zz_if c21 hm18
      refine lv_iload_n hx hb dX2_blendedValue_59 rfl (lv_at hl20 3 rfl) ?_
      exact hk_60 y1 y2 y3 y4 y5 r18 y1 y2 hm22 ls20 H19 lo19 (lv_sub hl20 [1, 2, 3, 4, 5, 6, 0] rfl) hP19 hD19 hS19
    · have hm23 := zz_nf c21 hm18
      refine lv_iload_n hx hb dX2_blendedValue_55 rfl (lv_at hl20 4 rfl) ?_
      refine lv_goto (tgt := 60) hx hb dX2_blendedValue_56 (by decide) ?_
      exact hk_60 y1 y2 y3 y4 y5 r18 y1 y3 hm23 ls20 H19 lo19 (lv_sub hl20 [1, 2, 3, 4, 5, 6, 0] rfl) hP19 hD19 hS19
  have hk_16 : ∀ (y1 : Int32) (y2 : Int32) (y3 : Int32) (y4 : Int32) (z1 : Int32) (z2 : Int32), k_X2_blendedValue_16 pf y1 y2 y3 y4 z1 z2 = some r0 → ∀ (ls : Array Slot) (H : Heap) (lo : List Loc), lv_has ls 10 [(0, .ref aP), (1, .int y1), (2, .int y2), (3, .int y3), (4, .int y4)] → va_P D vwCl (w_Plan cI cB cZ aP aPp aPf pg ps pn pp pf) H → va_D A (w_Plan cI cB cZ aP aPp aPf pg ps pn pp pf) → va_S A s.heap H lo → W p l e (headSpec wsX2_blendedValue ({ frames := 1, cells := 0, slots := 0, locals := 23 } : Room)).room s m (([.ref aP, .int x1, .int x2, .int x3, .int x4] : List Value).toArray) below meth c H lo 0 0 (MQ below (QI D cI cB cZ A (w_Plan cI cB cZ aP aPp aPf pg ps pn pp pf) r0) (([.ref aP, .int x1, .int x2, .int x3, .int x4] : List Value).toArray) s 0 0 A) (F0 m 16 ls [.int z2, .int z1, .ref aP]) := by
    intro y1 y2 y3 y4 z1 z2 hm ls H lo hl hP hD hS
    replace hm : (ob1 (m_X2_factorOf pf z1 z2 (1 : Int32)) (fun r24 => (if ((y4 >>> ((2 : Int32) &&& 31)) &&& (1 : Int32)) = 0 then (k_X2_blendedValue_38 pf y1 y2 y3 y4 r24 y1 y2) else (k_X2_blendedValue_38 pf y1 y2 y3 y4 r24 y1 y3)))) = some r0 := hm
    refine lv_iconst (v := (1 : Int32)) hx hb dX2_blendedValue_16 (by decide) ?_
    obtain ⟨r24, h24, hm24⟩ := ob1_e hm
    refine gcall_i (ws' := (w_Plan cI cB cZ aP aPp aPf pg ps pn pp pf)) (va_runV (As := [.int z1, .int z2, .int (1 : Int32)]) (rest := []) ⟨hx, hb, hml, hown, hts⟩ (c_X2_factorOf l D cI cB cZ ta aP aPp aPf H.size pg ps pn pp pf z1 z2 (1 : Int32) r24 h24) (cwV 3 hts gX2_blendedValue_X2_factorOf rfl rfl rfl (by decide +kernel) ⟨(Nat.le_of_ble_eq_true rfl), (Nat.le_of_ble_eq_true rfl)⟩) ⟨PW_blind, va_recv hK hP rfl (q0 := 0) rfl, PW_at hP hD hK hS hA hG [0, 1, 2] rfl (by decide)⟩ rfl rfl hl.1 rfl (lv_room (Nat.le_of_ble_eq_true rfl)) dX2_blendedValue_17 ⟨(Nat.le_of_ble_eq_true rfl), (Nat.le_of_ble_eq_true rfl)⟩) hP hD hS hA [0, 1, 2] [] [0, 1, 2] rfl rfl (by decide) (by decide) (by decide) rfl (fun H25 lo25 hP25 hD25 hS25 => ?_)
    clear hP hD hS
    refine lv_istore (lv' := [(5, .int r24), (0, .ref aP), (1, .int y1), (2, .int y2), (3, .int y3), (4, .int y4)]) hx hb dX2_blendedValue_20 hl (by decide) rfl (fun ls26 hl26 => ?_)
    refine lv_aload_n hx hb dX2_blendedValue_22 rfl (lv_at hl26 1 rfl) ?_
    refine lv_iload_n hx hb dX2_blendedValue_23 rfl (lv_at hl26 2 rfl) ?_
    refine lv_iload hx hb dX2_blendedValue_24 (lv_at hl26 5 rfl) ?_
    refine lv_iconst (v := (2 : Int32)) hx hb dX2_blendedValue_26 (by decide) ?_
    refine lv_ishr hx hb dX2_blendedValue_27 ?_
    refine lv_iconst (v := (1 : Int32)) hx hb dX2_blendedValue_28 (by decide) ?_
    refine lv_iand hx hb dX2_blendedValue_29 ?_
    refine lv_if_eq (tgt := 37) hx hb dX2_blendedValue_30 (by decide) (fun c27 => ?_) (fun c27 => ?_)
    · have hm28 := zz_if c27 hm24
      refine lv_iload_n hx hb dX2_blendedValue_37 rfl (lv_at hl26 3 rfl) ?_
      exact hk_38 y1 y2 y3 y4 r24 y1 y2 hm28 ls26 H25 lo25 (lv_sub hl26 [1, 2, 3, 4, 5, 0] rfl) hP25 hD25 hS25
    · have hm29 := zz_nf c27 hm24
      refine lv_iload_n hx hb dX2_blendedValue_33 rfl (lv_at hl26 4 rfl) ?_
      refine lv_goto (tgt := 38) hx hb dX2_blendedValue_34 (by decide) ?_
      exact hk_38 y1 y2 y3 y4 r24 y1 y3 hm29 ls26 H25 lo25 (lv_sub hl26 [1, 2, 3, 4, 5, 0] rfl) hP25 hD25 hS25
  have hl := lv_entry ([.ref aP, .int x1, .int x2, .int x3, .int x4]) (n := 10) (Nat.le_of_ble_eq_true rfl)
  rw [lg_entry_eq]
  generalize (lg_sl ([.ref aP, .int x1, .int x2, .int x3, .int x4]) ++ List.replicate (10 - (lg_sl ([.ref aP, .int x1, .int x2, .int x3, .int x4])).length) Slot.unset).toArray = ls at hl ⊢
  have hl : lv_has ls 10 [(0, .ref aP), (1, .int x1), (2, .int x2), (3, .int x3), (4, .int x4)] := hl
  replace hm : (if ((x4 >>> ((1 : Int32) &&& 31)) &&& (1 : Int32)) = 0 then (k_X2_blendedValue_16 pf x1 x2 x3 x4 x1 x2) else (k_X2_blendedValue_16 pf x1 x2 x3 x4 x1 x3)) = some r0 := hm
  refine lv_aload_n hx hb dX2_blendedValue_0 rfl (lv_at hl 0 rfl) ?_
  refine lv_iload_n hx hb dX2_blendedValue_1 rfl (lv_at hl 1 rfl) ?_
  refine lv_iload hx hb dX2_blendedValue_2 (lv_at hl 4 rfl) ?_
  refine lv_iconst (v := (1 : Int32)) hx hb dX2_blendedValue_4 (by decide) ?_
  refine lv_ishr hx hb dX2_blendedValue_5 ?_
  refine lv_iconst (v := (1 : Int32)) hx hb dX2_blendedValue_6 (by decide) ?_
  refine lv_iand hx hb dX2_blendedValue_7 ?_
  refine lv_if_eq (tgt := 15) hx hb dX2_blendedValue_8 (by decide) (fun c30 => ?_) (fun c30 => ?_)
  · have hm31 := zz_if c30 hm
    refine lv_iload_n hx hb dX2_blendedValue_15 rfl (lv_at hl 2 rfl) ?_
    exact hk_16 x1 x2 x3 x4 x1 x2 hm31 ls s.heap [] (lv_sub hl [0, 1, 2, 3, 4] rfl) hP hD hS
  · have hm32 := zz_nf c30 hm
    refine lv_iload_n hx hb dX2_blendedValue_11 rfl (lv_at hl 3 rfl) ?_
    refine lv_goto (tgt := 16) hx hb dX2_blendedValue_12 (by decide) ?_
    exact hk_16 x1 x2 x3 x4 x1 x3 hm32 ls s.heap [] (lv_sub hl [0, 1, 2, 3, 4] rfl) hP hD hS
theorem iw_X0_addBlends_X0 : ∀ w ∈ wsX00, w ∈ wsX0_addBlends := by decide +kernel
set_option maxHeartbeats 4000000 in
set_option maxRecDepth 100000 in
theorem c_X0_addBlends (l : Launch) (D : va_G) (cI cB cZ : ClassId) (ta : Nat → Nat) (aB : Nat) (aBb : Nat) (aBs : Nat) (aP : Nat) (aPp : Nat) (aPf : Nat) (sz : Nat) (bb : (Nat → Int32)) (bs : (Nat → Int32)) (pg : Int32) (ps : Int32) (pn : Int32) (pp : (Nat → Int32)) (pf : (Nat → Int32)) (x1 : Int32) (x2 : Int32) (x3 : Int32) (u_bb : (Nat → Int32)) (hm : m_X0_addBlends bb pf x1 x2 x3 = some u_bb) : Met l yX0_addBlends wsX0_addBlends ({ frames := 2, cells := 0, slots := 0, locals := 52 } : Room) (va_Pc [.ref aB, .int x1, .int x2, .int x3] (PW D cI cB cZ ta (w_Bridge cI cB cZ aB aBb aBs aP aPp aPf bb bs pg ps pn pp pf) sz)) (QV D cI cB cZ (va_A (w_Bridge cI cB cZ aB aBb aBs aP aPp aPf bb bs pg ps pn pp pf) sz) (w_Bridge cI cB cZ aB aBb aBs aP aPp aPf u_bb bs pg ps pn pp pf)) 0 0 (va_A (w_Bridge cI cB cZ aB aBb aBs aP aPp aPf bb bs pg ps pn pp pf) sz) := by
  refine Met.ofW (cc := cX0_addBlends) (maxL := 5) (ret := none) (by decide) rfl ?_
  intro p e s m args below meth c s₁ B hml hv
  obtain ⟨rfl, hsz, hP, hK, hD0, hG⟩ := hv
  have hx := B.exec
  have hb := B.bytes
  have hr := B.returns
  have hts := atoms_spec (ws := wsX0_addBlends) B.pre
  have hown : s.vm.findClass RX0 = some m.cls := findClass_of_methodNamed B.named
  have hlocks := B.notSynchronized
  subst hsz
  have hD := hD0.self (sz := s.heap.size)
  clear hD0
  have hA0 : ∀ q : Nat, s.heap.size ≤ q → va_A (w_Bridge cI cB cZ aB aBb aBs aP aPp aPf bb bs pg ps pn pp pf) s.heap.size q := fun q h => Or.inr h
  generalize hAe : va_A (w_Bridge cI cB cZ aB aBb aBs aP aPp aPf bb bs pg ps pn pp pf) s.heap.size = A at hD hG hA0 ⊢
  have hA : ∀ q : Nat, s.heap.size ≤ q → A q := hA0
  clear hA0
  have hS : va_S A s.heap s.heap [] := va_S.rf
  have iw_X0 := iw_X0_addBlends_X0
  have hk_3 : ∀ (n : Nat) (bb : (Nat → Int32)) (y1 : Int32) (y2 : Int32) (y3 : Int32) (y4 : Int32), k_X0_addBlends_3 pf n bb y1 y2 y3 y4 = some u_bb → ∀ (ls : Array Slot) (H : Heap) (lo : List Loc), lv_has ls 5 [(0, .ref aB), (1, .int y1), (2, .int y2), (3, .int y3), (4, .int y4)] → va_P D vwCl (w_Bridge cI cB cZ aB aBb aBs aP aPp aPf bb bs pg ps pn pp pf) H → va_D A (w_Bridge cI cB cZ aB aBb aBs aP aPp aPf bb bs pg ps pn pp pf) → va_S A s.heap H lo → W p l e (headSpec wsX0_addBlends ({ frames := 2, cells := 0, slots := 0, locals := 52 } : Room)).room s m (([.ref aB, .int x1, .int x2, .int x3] : List Value).toArray) below meth c H lo 0 0 (MQ below (QV D cI cB cZ A (w_Bridge cI cB cZ aB aBb aBs aP aPp aPf u_bb bs pg ps pn pp pf)) (([.ref aB, .int x1, .int x2, .int x3] : List Value).toArray) s 0 0 A) (F0 m 3 ls []) := by
    intro n
    induction n with
    | zero => intro bb y1 y2 y3 y4 hm; exact zz_nn hm
    | succ n ih =>
      intro bb y1 y2 y3 y4 hm ls H lo hl hP hD hS
      replace hm := (k_X0_addBlends_3_s pf n bb y1 y2 y3 y4).symm.trans hm
      refine lv_iload hx hb dX0_addBlends_3 (lv_at hl 4 rfl) ?_
      refine lv_bipush (v := (32 : Int32)) hx hb dX0_addBlends_5 (by decide) ?_
      refine lv_icmp_ge (tgt := 38) hx hb dX0_addBlends_7 (by decide) (fun c1 => ?_) (fun c1 => ?_)
      · have hm2 := zz_if c1 hm
        have hq1 := Option.some.inj hm2
        subst hq1
        exact W.vret hx hb hr (fun t ht hW => ⟨⟨(), rfl, trivial, by rw [ht]; exact hP, va_K.moved hW.alike hK, hD⟩, hS.F ht⟩) hS.2.2 dX0_addBlends_38
      · have hm3 := zz_nf c1 hm
        refine lv_aload_n hx hb dX0_addBlends_10 rfl (lv_at hl 0 rfl) ?_
        refine va_get (D := D) (ci := 0) (v := .ref aBb) (C := RX0) (T := TX0) (N := 3) hx hb hts iw_X0 hown hK hP 0 rfl rfl 1 (by decide) (hts (.fieldLink RX0 11 "VarianceBridge$Bridge" "blends" "[I") (by decide +kernel)) (fun _ h9 => h9) rfl dX0_addBlends_11 ?_
        refine lv_iload hx hb dX0_addBlends_14 (lv_at hl 4 rfl) ?_
        refine lv_dup2_11 hx hb dX0_addBlends_16 rfl rfl ?_
        obtain ⟨c4, hm5⟩ := zz_no hm3
        refine va_iald hx hb hK hP 1 0 rfl rfl c4 dX0_addBlends_17 ?_
        refine lv_aload_n hx hb dX0_addBlends_18 rfl (lv_at hl 0 rfl) ?_
        refine va_get (D := D) (ci := 0) (v := .ref aP) (C := RX0) (T := TX0) (N := 3) hx hb hts iw_X0 hown hK hP 0 rfl rfl 0 (by decide) (hts (.fieldLink RX0 18 "VarianceBridge$Bridge" "plan" "LVarianceBridge$Plan;") (by decide +kernel)) (fun _ h9 => h9) rfl dX0_addBlends_19 ?_
        refine lv_iload_n hx hb dX0_addBlends_22 rfl (lv_at hl 1 rfl) ?_
        refine lv_iload_n hx hb dX0_addBlends_23 rfl (lv_at hl 2 rfl) ?_
        refine lv_iload_n hx hb dX0_addBlends_24 rfl (lv_at hl 3 rfl) ?_
        refine lv_iload hx hb dX0_addBlends_25 (lv_at hl 4 rfl) ?_
        obtain ⟨r6, h6, hm6⟩ := ob1_e hm5
        refine gcall_i (ws' := (w_Bridge cI cB cZ aB aBb aBs aP aPp aPf bb bs pg ps pn pp pf)) (va_runVN (As := [.int y1, .int y2, .int y3, .int y4]) (rest := [.int (bb y4.toNatClampNeg), .int y4, .ref aBb]) ⟨hx, hb, hml, hown, hts⟩ (c_X2_blendedValue l D cI cB cZ ta aP aPp aPf H.size pg ps pn pp pf y1 y2 y3 y4 r6 h6) ⟨va_cnB 4 hts gX0_addBlends_X2_blendedValue_n70 rfl rfl rfl (hG.1 (.methodLinkNest RX0 70 yX2_blendedValue RX6) (by decide +kernel)) (hts (.initialized RX2) (by decide +kernel)) (by decide +kernel) ⟨(Nat.le_of_ble_eq_true rfl), (Nat.le_of_ble_eq_true rfl)⟩, hts (.instanceMethod yX2_blendedValue) (by decide +kernel), hts (.selects RX2 yX2_blendedValue yX2_blendedValue) (by decide +kernel)⟩ ⟨PW_blind, va_recv hK hP rfl (q0 := 3) rfl, PW_at hP hD hK hS hA hG [3, 4, 5] rfl (by decide)⟩ rfl rfl hl.1 rfl (lv_room (Nat.le_of_ble_eq_true rfl)) dX0_addBlends_27 ⟨(Nat.le_of_ble_eq_true rfl), (Nat.le_of_ble_eq_true rfl)⟩) hP hD hS hA [3, 4, 5] [0, 1, 2] [0, 1, 2, 3, 4, 5] rfl rfl (by decide) (by decide) (by decide) rfl (fun H7 lo7 hP7 hD7 hS7 => ?_)
        clear hP hD hS
        refine lv_iadd hx hb dX0_addBlends_30 ?_
        obtain ⟨c8, hm9⟩ := zz_no hm6
        refine va_iast hx hb hK hP7 hD7 hS7 1 0 rfl rfl c8 dX0_addBlends_31 (fun H10 lo10 hP10 hD10 hS10 => ?_)
        replace hP10 : va_P D vwCl (w_Bridge cI cB cZ aB aBb aBs aP aPp aPf (upd bb y4.toNatClampNeg ((bb y4.toNatClampNeg) + r6)) bs pg ps pn pp pf) H10 := hP10
        replace hD10 : va_D A (w_Bridge cI cB cZ aB aBb aBs aP aPp aPf (upd bb y4.toNatClampNeg ((bb y4.toNatClampNeg) + r6)) bs pg ps pn pp pf) := hD10
        clear hP7 hD7 hS7
        refine lv_iinc (v := (y4 + (1 : Int32))) (lv' := [(4, .int (y4 + (1 : Int32))), (0, .ref aB), (1, .int y1), (2, .int y2), (3, .int y3)]) hx hb dX0_addBlends_32 hl (k := 4) rfl (by rfl) (by decide) rfl (fun ls11 hl11 => ?_)
        refine lv_goto (tgt := 3) hx hb dX0_addBlends_35 (by decide) ?_
        exact ih (upd bb y4.toNatClampNeg ((bb y4.toNatClampNeg) + r6)) y1 y2 y3 (y4 + (1 : Int32)) hm9 ls11 H10 lo10 (lv_sub hl11 [1, 2, 3, 4, 0] rfl) hP10 hD10 hS10
  have hl := lv_entry ([.ref aB, .int x1, .int x2, .int x3]) (n := 5) (Nat.le_of_ble_eq_true rfl)
  rw [lg_entry_eq]
  generalize (lg_sl ([.ref aB, .int x1, .int x2, .int x3]) ++ List.replicate (5 - (lg_sl ([.ref aB, .int x1, .int x2, .int x3])).length) Slot.unset).toArray = ls at hl ⊢
  have hl : lv_has ls 5 [(0, .ref aB), (1, .int x1), (2, .int x2), (3, .int x3)] := hl
  replace hm : (k_X0_addBlends_3 pf FU bb x1 x2 x3 (0 : Int32)) = some u_bb := hm
  refine lv_iconst (v := (0 : Int32)) hx hb dX0_addBlends_0 (by decide) ?_
  refine lv_istore (lv' := [(4, .int (0 : Int32)), (0, .ref aB), (1, .int x1), (2, .int x2), (3, .int x3)]) hx hb dX0_addBlends_1 hl (by decide) rfl (fun ls12 hl12 => ?_)
  exact hk_3 FU bb x1 x2 x3 (0 : Int32) hm ls12 s.heap [] (lv_sub hl12 [1, 2, 3, 4, 0] rfl) hP hD hS
theorem iw_X0_blendedDifference_X0 : ∀ w ∈ wsX00, w ∈ wsX0_blendedDifference := by decide +kernel
set_option maxHeartbeats 4000000 in
set_option maxRecDepth 100000 in
theorem c_X0_blendedDifference (l : Launch) (D : va_G) (cI cB cZ : ClassId) (ta : Nat → Nat) (aB : Nat) (aBb : Nat) (aBs : Nat) (aP : Nat) (aPp : Nat) (aPf : Nat) (sz : Nat) (bb : (Nat → Int32)) (bs : (Nat → Int32)) (pg : Int32) (ps : Int32) (pn : Int32) (pp : (Nat → Int32)) (pf : (Nat → Int32)) (r0 : Int32) (hm : m_X0_blendedDifference bb = some r0) : Met l yX0_blendedDifference wsX0_blendedDifference ({ frames := 0, cells := 0, slots := 0, locals := 0 } : Room) (va_Pc [.ref aB] (PW D cI cB cZ ta (w_Bridge cI cB cZ aB aBb aBs aP aPp aPf bb bs pg ps pn pp pf) sz)) (QI D cI cB cZ (va_A (w_Bridge cI cB cZ aB aBb aBs aP aPp aPf bb bs pg ps pn pp pf) sz) (w_Bridge cI cB cZ aB aBb aBs aP aPp aPf bb bs pg ps pn pp pf) r0) 0 0 (va_A (w_Bridge cI cB cZ aB aBb aBs aP aPp aPf bb bs pg ps pn pp pf) sz) := by
  refine Met.ofW (cc := cX0_blendedDifference) (maxL := 1) (ret := (some .int)) (by decide) rfl ?_
  intro p e s m args below meth c s₁ B hml hv
  obtain ⟨rfl, hsz, hP, hK, hD0, hG⟩ := hv
  have hx := B.exec
  have hb := B.bytes
  have hr := B.returns
  have hts := atoms_spec (ws := wsX0_blendedDifference) B.pre
  have hown : s.vm.findClass RX0 = some m.cls := findClass_of_methodNamed B.named
  have hlocks := B.notSynchronized
  subst hsz
  have hD := hD0.self (sz := s.heap.size)
  clear hD0
  have hA0 : ∀ q : Nat, s.heap.size ≤ q → va_A (w_Bridge cI cB cZ aB aBb aBs aP aPp aPf bb bs pg ps pn pp pf) s.heap.size q := fun q h => Or.inr h
  generalize hAe : va_A (w_Bridge cI cB cZ aB aBb aBs aP aPp aPf bb bs pg ps pn pp pf) s.heap.size = A at hD hG hA0 ⊢
  have hA : ∀ q : Nat, s.heap.size ≤ q → A q := hA0
  clear hA0
  have hS : va_S A s.heap s.heap [] := va_S.rf
  have iw_X0 := iw_X0_blendedDifference_X0
  have hl := lv_entry ([.ref aB]) (n := 1) (Nat.le_of_ble_eq_true rfl)
  rw [lg_entry_eq]
  generalize (lg_sl ([.ref aB]) ++ List.replicate (1 - (lg_sl ([.ref aB])).length) Slot.unset).toArray = ls at hl ⊢
  have hl : lv_has ls 1 [(0, .ref aB)] := hl
  replace hm : (if (31 : Int32) < 0 ∨ 32 ≤ (31 : Int32).toNatClampNeg then none else (if (0 : Int32) < 0 ∨ 32 ≤ (0 : Int32).toNatClampNeg then none else some ((bb (31 : Int32).toNatClampNeg) - (bb (0 : Int32).toNatClampNeg)))) = some r0 := hm
  refine lv_aload_n hx hb dX0_blendedDifference_0 rfl (lv_at hl 0 rfl) ?_
  refine va_get (D := D) (ci := 0) (v := .ref aBb) (C := RX0) (T := TX0) (N := 3) hx hb hts iw_X0 hown hK hP 0 rfl rfl 1 (by decide) (hts (.fieldLink RX0 11 "VarianceBridge$Bridge" "blends" "[I") (by decide +kernel)) (fun _ h9 => h9) rfl dX0_blendedDifference_1 ?_
  refine lv_bipush (v := (31 : Int32)) hx hb dX0_blendedDifference_4 (by decide) ?_
  obtain ⟨c1, hm2⟩ := zz_no hm
  refine va_iald hx hb hK hP 1 0 rfl rfl c1 dX0_blendedDifference_6 ?_
  refine lv_aload_n hx hb dX0_blendedDifference_7 rfl (lv_at hl 0 rfl) ?_
  refine va_get (D := D) (ci := 0) (v := .ref aBb) (C := RX0) (T := TX0) (N := 3) hx hb hts iw_X0 hown hK hP 0 rfl rfl 1 (by decide) (hts (.fieldLink RX0 11 "VarianceBridge$Bridge" "blends" "[I") (by decide +kernel)) (fun _ h9 => h9) rfl dX0_blendedDifference_8 ?_
  refine lv_iconst (v := (0 : Int32)) hx hb dX0_blendedDifference_11 (by decide) ?_
  obtain ⟨c3, hm4⟩ := zz_no hm2
  refine va_iald hx hb hK hP 1 0 rfl rfl c3 dX0_blendedDifference_12 ?_
  refine lv_isub hx hb dX0_blendedDifference_13 ?_
  have hq1 := Option.some.inj hm4
  subst hq1
  exact W.iret hx hb hr (fun t ht hW => ⟨⟨_, (), rfl, rfl, by rw [ht]; exact hP, va_K.moved hW.alike hK, hD⟩, hS.F ht⟩) hS.2.2 dX0_blendedDifference_14
set_option maxHeartbeats 4000000 in
set_option maxRecDepth 100000 in
theorem c_J6_bitCount_0f7a4 (l : Launch) (D : va_G) (cI cB cZ : ClassId) (ta : Nat → Nat) (sz : Nat) (x1 : Int32) (r0 : Int32) (hm : m_J6_bitCount_0f7a4 x1 = some r0) : Met l yJ6_bitCount_0f7a4 wsJ6_bitCount_0f7a4 ({ frames := 0, cells := 0, slots := 0, locals := 0 } : Room) (va_Pc [.int x1] (PW D cI cB cZ ta (w_none cI cB cZ) sz)) (QI D cI cB cZ (va_A (w_none cI cB cZ) sz) (w_none cI cB cZ) r0) 0 0 (va_A (w_none cI cB cZ) sz) := by
  refine Met.ofW (cc := cJ6_bitCount_0f7a4) (maxL := 1) (ret := (some .int)) (by decide) rfl ?_
  intro p e s m args below meth c s₁ B hml hv
  obtain ⟨rfl, hsz, hP, hK, hD0, hG⟩ := hv
  have hx := B.exec
  have hb := B.bytes
  have hr := B.returns
  have hts := atoms_spec (ws := wsJ6_bitCount_0f7a4) B.pre
  have hown : s.vm.findClass RJ6 = some m.cls := findClass_of_methodNamed B.named
  have hlocks := B.notSynchronized
  subst hsz
  have hD := hD0.self (sz := s.heap.size)
  clear hD0
  have hA0 : ∀ q : Nat, s.heap.size ≤ q → va_A (w_none cI cB cZ) s.heap.size q := fun q h => Or.inr h
  generalize hAe : va_A (w_none cI cB cZ) s.heap.size = A at hD hG hA0 ⊢
  have hA : ∀ q : Nat, s.heap.size ≤ q → A q := hA0
  clear hA0
  have hS : va_S A s.heap s.heap [] := va_S.rf
  have hl := lv_entry ([.int x1]) (n := 1) (Nat.le_of_ble_eq_true rfl)
  rw [lg_entry_eq]
  generalize (lg_sl ([.int x1]) ++ List.replicate (1 - (lg_sl ([.int x1])).length) Slot.unset).toArray = ls at hl ⊢
  have hl : lv_has ls 1 [(0, .int x1)] := hl
  replace hm : some ((((((((x1 - (((x1.toUInt32 >>> ((1 : Int32).toUInt32 &&& Int32.toUInt32 31)).toInt32) &&& (1431655765 : Int32))) &&& (858993459 : Int32)) + ((((x1 - (((x1.toUInt32 >>> ((1 : Int32).toUInt32 &&& Int32.toUInt32 31)).toInt32) &&& (1431655765 : Int32))).toUInt32 >>> ((2 : Int32).toUInt32 &&& Int32.toUInt32 31)).toInt32) &&& (858993459 : Int32))) + (((((x1 - (((x1.toUInt32 >>> ((1 : Int32).toUInt32 &&& Int32.toUInt32 31)).toInt32) &&& (1431655765 : Int32))) &&& (858993459 : Int32)) + ((((x1 - (((x1.toUInt32 >>> ((1 : Int32).toUInt32 &&& Int32.toUInt32 31)).toInt32) &&& (1431655765 : Int32))).toUInt32 >>> ((2 : Int32).toUInt32 &&& Int32.toUInt32 31)).toInt32) &&& (858993459 : Int32))).toUInt32 >>> ((4 : Int32).toUInt32 &&& Int32.toUInt32 31)).toInt32)) &&& (252645135 : Int32)) + (((((((x1 - (((x1.toUInt32 >>> ((1 : Int32).toUInt32 &&& Int32.toUInt32 31)).toInt32) &&& (1431655765 : Int32))) &&& (858993459 : Int32)) + ((((x1 - (((x1.toUInt32 >>> ((1 : Int32).toUInt32 &&& Int32.toUInt32 31)).toInt32) &&& (1431655765 : Int32))).toUInt32 >>> ((2 : Int32).toUInt32 &&& Int32.toUInt32 31)).toInt32) &&& (858993459 : Int32))) + (((((x1 - (((x1.toUInt32 >>> ((1 : Int32).toUInt32 &&& Int32.toUInt32 31)).toInt32) &&& (1431655765 : Int32))) &&& (858993459 : Int32)) + ((((x1 - (((x1.toUInt32 >>> ((1 : Int32).toUInt32 &&& Int32.toUInt32 31)).toInt32) &&& (1431655765 : Int32))).toUInt32 >>> ((2 : Int32).toUInt32 &&& Int32.toUInt32 31)).toInt32) &&& (858993459 : Int32))).toUInt32 >>> ((4 : Int32).toUInt32 &&& Int32.toUInt32 31)).toInt32)) &&& (252645135 : Int32)).toUInt32 >>> ((8 : Int32).toUInt32 &&& Int32.toUInt32 31)).toInt32)) + ((((((((x1 - (((x1.toUInt32 >>> ((1 : Int32).toUInt32 &&& Int32.toUInt32 31)).toInt32) &&& (1431655765 : Int32))) &&& (858993459 : Int32)) + ((((x1 - (((x1.toUInt32 >>> ((1 : Int32).toUInt32 &&& Int32.toUInt32 31)).toInt32) &&& (1431655765 : Int32))).toUInt32 >>> ((2 : Int32).toUInt32 &&& Int32.toUInt32 31)).toInt32) &&& (858993459 : Int32))) + (((((x1 - (((x1.toUInt32 >>> ((1 : Int32).toUInt32 &&& Int32.toUInt32 31)).toInt32) &&& (1431655765 : Int32))) &&& (858993459 : Int32)) + ((((x1 - (((x1.toUInt32 >>> ((1 : Int32).toUInt32 &&& Int32.toUInt32 31)).toInt32) &&& (1431655765 : Int32))).toUInt32 >>> ((2 : Int32).toUInt32 &&& Int32.toUInt32 31)).toInt32) &&& (858993459 : Int32))).toUInt32 >>> ((4 : Int32).toUInt32 &&& Int32.toUInt32 31)).toInt32)) &&& (252645135 : Int32)) + (((((((x1 - (((x1.toUInt32 >>> ((1 : Int32).toUInt32 &&& Int32.toUInt32 31)).toInt32) &&& (1431655765 : Int32))) &&& (858993459 : Int32)) + ((((x1 - (((x1.toUInt32 >>> ((1 : Int32).toUInt32 &&& Int32.toUInt32 31)).toInt32) &&& (1431655765 : Int32))).toUInt32 >>> ((2 : Int32).toUInt32 &&& Int32.toUInt32 31)).toInt32) &&& (858993459 : Int32))) + (((((x1 - (((x1.toUInt32 >>> ((1 : Int32).toUInt32 &&& Int32.toUInt32 31)).toInt32) &&& (1431655765 : Int32))) &&& (858993459 : Int32)) + ((((x1 - (((x1.toUInt32 >>> ((1 : Int32).toUInt32 &&& Int32.toUInt32 31)).toInt32) &&& (1431655765 : Int32))).toUInt32 >>> ((2 : Int32).toUInt32 &&& Int32.toUInt32 31)).toInt32) &&& (858993459 : Int32))).toUInt32 >>> ((4 : Int32).toUInt32 &&& Int32.toUInt32 31)).toInt32)) &&& (252645135 : Int32)).toUInt32 >>> ((8 : Int32).toUInt32 &&& Int32.toUInt32 31)).toInt32)).toUInt32 >>> ((16 : Int32).toUInt32 &&& Int32.toUInt32 31)).toInt32)) &&& (63 : Int32)) = some r0 := hm
  refine lv_iload_n hx hb dJ6_bitCount_0f7a4_0 rfl (lv_at hl 0 rfl) ?_
  refine lv_iload_n hx hb dJ6_bitCount_0f7a4_1 rfl (lv_at hl 0 rfl) ?_
  refine lv_iconst (v := (1 : Int32)) hx hb dJ6_bitCount_0f7a4_2 (by decide) ?_
  refine lv_iushr (v := (x1.toUInt32 >>> ((1 : Int32).toUInt32 &&& Int32.toUInt32 31)).toInt32) hx hb dJ6_bitCount_0f7a4_3 rfl ?_
  refine lv_ldcw (v := (1431655765 : Int32)) hx hb hown (hts (.constant RJ6 265 (1431655765)) (by decide +kernel)) dJ6_bitCount_0f7a4_4 ?_
  refine lv_iand hx hb dJ6_bitCount_0f7a4_7 ?_
  refine lv_isub hx hb dJ6_bitCount_0f7a4_8 ?_
  refine lv_istore_n (lv' := [(0, .int (x1 - (((x1.toUInt32 >>> ((1 : Int32).toUInt32 &&& Int32.toUInt32 31)).toInt32) &&& (1431655765 : Int32))))]) hx hb dJ6_bitCount_0f7a4_9 rfl hl (by decide) rfl (fun ls1 hl1 => ?_)
  refine lv_iload_n hx hb dJ6_bitCount_0f7a4_10 rfl (lv_at hl1 0 rfl) ?_
  refine lv_ldcw (v := (858993459 : Int32)) hx hb hown (hts (.constant RJ6 266 (858993459)) (by decide +kernel)) dJ6_bitCount_0f7a4_11 ?_
  refine lv_iand hx hb dJ6_bitCount_0f7a4_14 ?_
  refine lv_iload_n hx hb dJ6_bitCount_0f7a4_15 rfl (lv_at hl1 0 rfl) ?_
  refine lv_iconst (v := (2 : Int32)) hx hb dJ6_bitCount_0f7a4_16 (by decide) ?_
  refine lv_iushr (v := ((x1 - (((x1.toUInt32 >>> ((1 : Int32).toUInt32 &&& Int32.toUInt32 31)).toInt32) &&& (1431655765 : Int32))).toUInt32 >>> ((2 : Int32).toUInt32 &&& Int32.toUInt32 31)).toInt32) hx hb dJ6_bitCount_0f7a4_17 rfl ?_
  refine lv_ldcw (v := (858993459 : Int32)) hx hb hown (hts (.constant RJ6 266 (858993459)) (by decide +kernel)) dJ6_bitCount_0f7a4_18 ?_
  refine lv_iand hx hb dJ6_bitCount_0f7a4_21 ?_
  refine lv_iadd hx hb dJ6_bitCount_0f7a4_22 ?_
  refine lv_istore_n (lv' := [(0, .int (((x1 - (((x1.toUInt32 >>> ((1 : Int32).toUInt32 &&& Int32.toUInt32 31)).toInt32) &&& (1431655765 : Int32))) &&& (858993459 : Int32)) + ((((x1 - (((x1.toUInt32 >>> ((1 : Int32).toUInt32 &&& Int32.toUInt32 31)).toInt32) &&& (1431655765 : Int32))).toUInt32 >>> ((2 : Int32).toUInt32 &&& Int32.toUInt32 31)).toInt32) &&& (858993459 : Int32))))]) hx hb dJ6_bitCount_0f7a4_23 rfl hl1 (by decide) rfl (fun ls2 hl2 => ?_)
  refine lv_iload_n hx hb dJ6_bitCount_0f7a4_24 rfl (lv_at hl2 0 rfl) ?_
  refine lv_iload_n hx hb dJ6_bitCount_0f7a4_25 rfl (lv_at hl2 0 rfl) ?_
  refine lv_iconst (v := (4 : Int32)) hx hb dJ6_bitCount_0f7a4_26 (by decide) ?_
  refine lv_iushr (v := ((((x1 - (((x1.toUInt32 >>> ((1 : Int32).toUInt32 &&& Int32.toUInt32 31)).toInt32) &&& (1431655765 : Int32))) &&& (858993459 : Int32)) + ((((x1 - (((x1.toUInt32 >>> ((1 : Int32).toUInt32 &&& Int32.toUInt32 31)).toInt32) &&& (1431655765 : Int32))).toUInt32 >>> ((2 : Int32).toUInt32 &&& Int32.toUInt32 31)).toInt32) &&& (858993459 : Int32))).toUInt32 >>> ((4 : Int32).toUInt32 &&& Int32.toUInt32 31)).toInt32) hx hb dJ6_bitCount_0f7a4_27 rfl ?_
  refine lv_iadd hx hb dJ6_bitCount_0f7a4_28 ?_
  refine lv_ldcw (v := (252645135 : Int32)) hx hb hown (hts (.constant RJ6 267 (252645135)) (by decide +kernel)) dJ6_bitCount_0f7a4_29 ?_
  refine lv_iand hx hb dJ6_bitCount_0f7a4_32 ?_
  refine lv_istore_n (lv' := [(0, .int (((((x1 - (((x1.toUInt32 >>> ((1 : Int32).toUInt32 &&& Int32.toUInt32 31)).toInt32) &&& (1431655765 : Int32))) &&& (858993459 : Int32)) + ((((x1 - (((x1.toUInt32 >>> ((1 : Int32).toUInt32 &&& Int32.toUInt32 31)).toInt32) &&& (1431655765 : Int32))).toUInt32 >>> ((2 : Int32).toUInt32 &&& Int32.toUInt32 31)).toInt32) &&& (858993459 : Int32))) + (((((x1 - (((x1.toUInt32 >>> ((1 : Int32).toUInt32 &&& Int32.toUInt32 31)).toInt32) &&& (1431655765 : Int32))) &&& (858993459 : Int32)) + ((((x1 - (((x1.toUInt32 >>> ((1 : Int32).toUInt32 &&& Int32.toUInt32 31)).toInt32) &&& (1431655765 : Int32))).toUInt32 >>> ((2 : Int32).toUInt32 &&& Int32.toUInt32 31)).toInt32) &&& (858993459 : Int32))).toUInt32 >>> ((4 : Int32).toUInt32 &&& Int32.toUInt32 31)).toInt32)) &&& (252645135 : Int32)))]) hx hb dJ6_bitCount_0f7a4_33 rfl hl2 (by decide) rfl (fun ls3 hl3 => ?_)
  refine lv_iload_n hx hb dJ6_bitCount_0f7a4_34 rfl (lv_at hl3 0 rfl) ?_
  refine lv_iload_n hx hb dJ6_bitCount_0f7a4_35 rfl (lv_at hl3 0 rfl) ?_
  refine lv_bipush (v := (8 : Int32)) hx hb dJ6_bitCount_0f7a4_36 (by decide) ?_
  refine lv_iushr (v := ((((((x1 - (((x1.toUInt32 >>> ((1 : Int32).toUInt32 &&& Int32.toUInt32 31)).toInt32) &&& (1431655765 : Int32))) &&& (858993459 : Int32)) + ((((x1 - (((x1.toUInt32 >>> ((1 : Int32).toUInt32 &&& Int32.toUInt32 31)).toInt32) &&& (1431655765 : Int32))).toUInt32 >>> ((2 : Int32).toUInt32 &&& Int32.toUInt32 31)).toInt32) &&& (858993459 : Int32))) + (((((x1 - (((x1.toUInt32 >>> ((1 : Int32).toUInt32 &&& Int32.toUInt32 31)).toInt32) &&& (1431655765 : Int32))) &&& (858993459 : Int32)) + ((((x1 - (((x1.toUInt32 >>> ((1 : Int32).toUInt32 &&& Int32.toUInt32 31)).toInt32) &&& (1431655765 : Int32))).toUInt32 >>> ((2 : Int32).toUInt32 &&& Int32.toUInt32 31)).toInt32) &&& (858993459 : Int32))).toUInt32 >>> ((4 : Int32).toUInt32 &&& Int32.toUInt32 31)).toInt32)) &&& (252645135 : Int32)).toUInt32 >>> ((8 : Int32).toUInt32 &&& Int32.toUInt32 31)).toInt32) hx hb dJ6_bitCount_0f7a4_38 rfl ?_
  refine lv_iadd hx hb dJ6_bitCount_0f7a4_39 ?_
  refine lv_istore_n (lv' := [(0, .int ((((((x1 - (((x1.toUInt32 >>> ((1 : Int32).toUInt32 &&& Int32.toUInt32 31)).toInt32) &&& (1431655765 : Int32))) &&& (858993459 : Int32)) + ((((x1 - (((x1.toUInt32 >>> ((1 : Int32).toUInt32 &&& Int32.toUInt32 31)).toInt32) &&& (1431655765 : Int32))).toUInt32 >>> ((2 : Int32).toUInt32 &&& Int32.toUInt32 31)).toInt32) &&& (858993459 : Int32))) + (((((x1 - (((x1.toUInt32 >>> ((1 : Int32).toUInt32 &&& Int32.toUInt32 31)).toInt32) &&& (1431655765 : Int32))) &&& (858993459 : Int32)) + ((((x1 - (((x1.toUInt32 >>> ((1 : Int32).toUInt32 &&& Int32.toUInt32 31)).toInt32) &&& (1431655765 : Int32))).toUInt32 >>> ((2 : Int32).toUInt32 &&& Int32.toUInt32 31)).toInt32) &&& (858993459 : Int32))).toUInt32 >>> ((4 : Int32).toUInt32 &&& Int32.toUInt32 31)).toInt32)) &&& (252645135 : Int32)) + (((((((x1 - (((x1.toUInt32 >>> ((1 : Int32).toUInt32 &&& Int32.toUInt32 31)).toInt32) &&& (1431655765 : Int32))) &&& (858993459 : Int32)) + ((((x1 - (((x1.toUInt32 >>> ((1 : Int32).toUInt32 &&& Int32.toUInt32 31)).toInt32) &&& (1431655765 : Int32))).toUInt32 >>> ((2 : Int32).toUInt32 &&& Int32.toUInt32 31)).toInt32) &&& (858993459 : Int32))) + (((((x1 - (((x1.toUInt32 >>> ((1 : Int32).toUInt32 &&& Int32.toUInt32 31)).toInt32) &&& (1431655765 : Int32))) &&& (858993459 : Int32)) + ((((x1 - (((x1.toUInt32 >>> ((1 : Int32).toUInt32 &&& Int32.toUInt32 31)).toInt32) &&& (1431655765 : Int32))).toUInt32 >>> ((2 : Int32).toUInt32 &&& Int32.toUInt32 31)).toInt32) &&& (858993459 : Int32))).toUInt32 >>> ((4 : Int32).toUInt32 &&& Int32.toUInt32 31)).toInt32)) &&& (252645135 : Int32)).toUInt32 >>> ((8 : Int32).toUInt32 &&& Int32.toUInt32 31)).toInt32)))]) hx hb dJ6_bitCount_0f7a4_40 rfl hl3 (by decide) rfl (fun ls4 hl4 => ?_)
  refine lv_iload_n hx hb dJ6_bitCount_0f7a4_41 rfl (lv_at hl4 0 rfl) ?_
  refine lv_iload_n hx hb dJ6_bitCount_0f7a4_42 rfl (lv_at hl4 0 rfl) ?_
  refine lv_bipush (v := (16 : Int32)) hx hb dJ6_bitCount_0f7a4_43 (by decide) ?_
  refine lv_iushr (v := (((((((x1 - (((x1.toUInt32 >>> ((1 : Int32).toUInt32 &&& Int32.toUInt32 31)).toInt32) &&& (1431655765 : Int32))) &&& (858993459 : Int32)) + ((((x1 - (((x1.toUInt32 >>> ((1 : Int32).toUInt32 &&& Int32.toUInt32 31)).toInt32) &&& (1431655765 : Int32))).toUInt32 >>> ((2 : Int32).toUInt32 &&& Int32.toUInt32 31)).toInt32) &&& (858993459 : Int32))) + (((((x1 - (((x1.toUInt32 >>> ((1 : Int32).toUInt32 &&& Int32.toUInt32 31)).toInt32) &&& (1431655765 : Int32))) &&& (858993459 : Int32)) + ((((x1 - (((x1.toUInt32 >>> ((1 : Int32).toUInt32 &&& Int32.toUInt32 31)).toInt32) &&& (1431655765 : Int32))).toUInt32 >>> ((2 : Int32).toUInt32 &&& Int32.toUInt32 31)).toInt32) &&& (858993459 : Int32))).toUInt32 >>> ((4 : Int32).toUInt32 &&& Int32.toUInt32 31)).toInt32)) &&& (252645135 : Int32)) + (((((((x1 - (((x1.toUInt32 >>> ((1 : Int32).toUInt32 &&& Int32.toUInt32 31)).toInt32) &&& (1431655765 : Int32))) &&& (858993459 : Int32)) + ((((x1 - (((x1.toUInt32 >>> ((1 : Int32).toUInt32 &&& Int32.toUInt32 31)).toInt32) &&& (1431655765 : Int32))).toUInt32 >>> ((2 : Int32).toUInt32 &&& Int32.toUInt32 31)).toInt32) &&& (858993459 : Int32))) + (((((x1 - (((x1.toUInt32 >>> ((1 : Int32).toUInt32 &&& Int32.toUInt32 31)).toInt32) &&& (1431655765 : Int32))) &&& (858993459 : Int32)) + ((((x1 - (((x1.toUInt32 >>> ((1 : Int32).toUInt32 &&& Int32.toUInt32 31)).toInt32) &&& (1431655765 : Int32))).toUInt32 >>> ((2 : Int32).toUInt32 &&& Int32.toUInt32 31)).toInt32) &&& (858993459 : Int32))).toUInt32 >>> ((4 : Int32).toUInt32 &&& Int32.toUInt32 31)).toInt32)) &&& (252645135 : Int32)).toUInt32 >>> ((8 : Int32).toUInt32 &&& Int32.toUInt32 31)).toInt32)).toUInt32 >>> ((16 : Int32).toUInt32 &&& Int32.toUInt32 31)).toInt32) hx hb dJ6_bitCount_0f7a4_45 rfl ?_
  refine lv_iadd hx hb dJ6_bitCount_0f7a4_46 ?_
  refine lv_istore_n (lv' := [(0, .int (((((((x1 - (((x1.toUInt32 >>> ((1 : Int32).toUInt32 &&& Int32.toUInt32 31)).toInt32) &&& (1431655765 : Int32))) &&& (858993459 : Int32)) + ((((x1 - (((x1.toUInt32 >>> ((1 : Int32).toUInt32 &&& Int32.toUInt32 31)).toInt32) &&& (1431655765 : Int32))).toUInt32 >>> ((2 : Int32).toUInt32 &&& Int32.toUInt32 31)).toInt32) &&& (858993459 : Int32))) + (((((x1 - (((x1.toUInt32 >>> ((1 : Int32).toUInt32 &&& Int32.toUInt32 31)).toInt32) &&& (1431655765 : Int32))) &&& (858993459 : Int32)) + ((((x1 - (((x1.toUInt32 >>> ((1 : Int32).toUInt32 &&& Int32.toUInt32 31)).toInt32) &&& (1431655765 : Int32))).toUInt32 >>> ((2 : Int32).toUInt32 &&& Int32.toUInt32 31)).toInt32) &&& (858993459 : Int32))).toUInt32 >>> ((4 : Int32).toUInt32 &&& Int32.toUInt32 31)).toInt32)) &&& (252645135 : Int32)) + (((((((x1 - (((x1.toUInt32 >>> ((1 : Int32).toUInt32 &&& Int32.toUInt32 31)).toInt32) &&& (1431655765 : Int32))) &&& (858993459 : Int32)) + ((((x1 - (((x1.toUInt32 >>> ((1 : Int32).toUInt32 &&& Int32.toUInt32 31)).toInt32) &&& (1431655765 : Int32))).toUInt32 >>> ((2 : Int32).toUInt32 &&& Int32.toUInt32 31)).toInt32) &&& (858993459 : Int32))) + (((((x1 - (((x1.toUInt32 >>> ((1 : Int32).toUInt32 &&& Int32.toUInt32 31)).toInt32) &&& (1431655765 : Int32))) &&& (858993459 : Int32)) + ((((x1 - (((x1.toUInt32 >>> ((1 : Int32).toUInt32 &&& Int32.toUInt32 31)).toInt32) &&& (1431655765 : Int32))).toUInt32 >>> ((2 : Int32).toUInt32 &&& Int32.toUInt32 31)).toInt32) &&& (858993459 : Int32))).toUInt32 >>> ((4 : Int32).toUInt32 &&& Int32.toUInt32 31)).toInt32)) &&& (252645135 : Int32)).toUInt32 >>> ((8 : Int32).toUInt32 &&& Int32.toUInt32 31)).toInt32)) + ((((((((x1 - (((x1.toUInt32 >>> ((1 : Int32).toUInt32 &&& Int32.toUInt32 31)).toInt32) &&& (1431655765 : Int32))) &&& (858993459 : Int32)) + ((((x1 - (((x1.toUInt32 >>> ((1 : Int32).toUInt32 &&& Int32.toUInt32 31)).toInt32) &&& (1431655765 : Int32))).toUInt32 >>> ((2 : Int32).toUInt32 &&& Int32.toUInt32 31)).toInt32) &&& (858993459 : Int32))) + (((((x1 - (((x1.toUInt32 >>> ((1 : Int32).toUInt32 &&& Int32.toUInt32 31)).toInt32) &&& (1431655765 : Int32))) &&& (858993459 : Int32)) + ((((x1 - (((x1.toUInt32 >>> ((1 : Int32).toUInt32 &&& Int32.toUInt32 31)).toInt32) &&& (1431655765 : Int32))).toUInt32 >>> ((2 : Int32).toUInt32 &&& Int32.toUInt32 31)).toInt32) &&& (858993459 : Int32))).toUInt32 >>> ((4 : Int32).toUInt32 &&& Int32.toUInt32 31)).toInt32)) &&& (252645135 : Int32)) + (((((((x1 - (((x1.toUInt32 >>> ((1 : Int32).toUInt32 &&& Int32.toUInt32 31)).toInt32) &&& (1431655765 : Int32))) &&& (858993459 : Int32)) + ((((x1 - (((x1.toUInt32 >>> ((1 : Int32).toUInt32 &&& Int32.toUInt32 31)).toInt32) &&& (1431655765 : Int32))).toUInt32 >>> ((2 : Int32).toUInt32 &&& Int32.toUInt32 31)).toInt32) &&& (858993459 : Int32))) + (((((x1 - (((x1.toUInt32 >>> ((1 : Int32).toUInt32 &&& Int32.toUInt32 31)).toInt32) &&& (1431655765 : Int32))) &&& (858993459 : Int32)) + ((((x1 - (((x1.toUInt32 >>> ((1 : Int32).toUInt32 &&& Int32.toUInt32 31)).toInt32) &&& (1431655765 : Int32))).toUInt32 >>> ((2 : Int32).toUInt32 &&& Int32.toUInt32 31)).toInt32) &&& (858993459 : Int32))).toUInt32 >>> ((4 : Int32).toUInt32 &&& Int32.toUInt32 31)).toInt32)) &&& (252645135 : Int32)).toUInt32 >>> ((8 : Int32).toUInt32 &&& Int32.toUInt32 31)).toInt32)).toUInt32 >>> ((16 : Int32).toUInt32 &&& Int32.toUInt32 31)).toInt32)))]) hx hb dJ6_bitCount_0f7a4_47 rfl hl4 (by decide) rfl (fun ls5 hl5 => ?_)
  refine lv_iload_n hx hb dJ6_bitCount_0f7a4_48 rfl (lv_at hl5 0 rfl) ?_
  refine lv_bipush (v := (63 : Int32)) hx hb dJ6_bitCount_0f7a4_49 (by decide) ?_
  refine lv_iand hx hb dJ6_bitCount_0f7a4_51 ?_
  have hq1 := Option.some.inj hm
  subst hq1
  exact W.iret hx hb hr (fun t ht hW => ⟨⟨_, (), rfl, rfl, by rw [ht]; exact hP, va_K.moved hW.alike hK, hD⟩, hS.F ht⟩) hS.2.2 dJ6_bitCount_0f7a4_52
theorem iw_X0_stepEffect_X0 : ∀ w ∈ wsX00, w ∈ wsX0_stepEffect := by decide +kernel
set_option maxHeartbeats 4000000 in
set_option maxRecDepth 100000 in
theorem c_X0_stepEffect (l : Launch) (D : va_G) (cI cB cZ : ClassId) (ta : Nat → Nat) (aB : Nat) (aBb : Nat) (aBs : Nat) (aP : Nat) (aPp : Nat) (aPf : Nat) (sz : Nat) (bb : (Nat → Int32)) (bs : (Nat → Int32)) (pg : Int32) (ps : Int32) (pn : Int32) (pp : (Nat → Int32)) (pf : (Nat → Int32)) (x1 : Int32) (x2 : Int32) (r0 : Int32) (hm : m_X0_stepEffect bb x1 x2 = some r0) : Met l yX0_stepEffect wsX0_stepEffect ({ frames := 0, cells := 0, slots := 0, locals := 0 } : Room) (va_Pc [.ref aB, .int x1, .int x2] (PW D cI cB cZ ta (w_Bridge cI cB cZ aB aBb aBs aP aPp aPf bb bs pg ps pn pp pf) sz)) (QI D cI cB cZ (va_A (w_Bridge cI cB cZ aB aBb aBs aP aPp aPf bb bs pg ps pn pp pf) sz) (w_Bridge cI cB cZ aB aBb aBs aP aPp aPf bb bs pg ps pn pp pf) r0) 0 0 (va_A (w_Bridge cI cB cZ aB aBb aBs aP aPp aPf bb bs pg ps pn pp pf) sz) := by
  refine Met.ofW (cc := cX0_stepEffect) (maxL := 3) (ret := (some .int)) (by decide) rfl ?_
  intro p e s m args below meth c s₁ B hml hv
  obtain ⟨rfl, hsz, hP, hK, hD0, hG⟩ := hv
  have hx := B.exec
  have hb := B.bytes
  have hr := B.returns
  have hts := atoms_spec (ws := wsX0_stepEffect) B.pre
  have hown : s.vm.findClass RX0 = some m.cls := findClass_of_methodNamed B.named
  have hlocks := B.notSynchronized
  subst hsz
  have hD := hD0.self (sz := s.heap.size)
  clear hD0
  have hA0 : ∀ q : Nat, s.heap.size ≤ q → va_A (w_Bridge cI cB cZ aB aBb aBs aP aPp aPf bb bs pg ps pn pp pf) s.heap.size q := fun q h => Or.inr h
  generalize hAe : va_A (w_Bridge cI cB cZ aB aBb aBs aP aPp aPf bb bs pg ps pn pp pf) s.heap.size = A at hD hG hA0 ⊢
  have hA : ∀ q : Nat, s.heap.size ≤ q → A q := hA0
  clear hA0
  have hS : va_S A s.heap s.heap [] := va_S.rf
  have iw_X0 := iw_X0_stepEffect_X0
  have hl := lv_entry ([.ref aB, .int x1, .int x2]) (n := 3) (Nat.le_of_ble_eq_true rfl)
  rw [lg_entry_eq]
  generalize (lg_sl ([.ref aB, .int x1, .int x2]) ++ List.replicate (3 - (lg_sl ([.ref aB, .int x1, .int x2])).length) Slot.unset).toArray = ls at hl ⊢
  have hl : lv_has ls 3 [(0, .ref aB), (1, .int x1), (2, .int x2)] := hl
  replace hm : (if (x1 ||| ((1 : Int32) <<< (x2 &&& 31))) < 0 ∨ 32 ≤ (x1 ||| ((1 : Int32) <<< (x2 &&& 31))).toNatClampNeg then none else (if x1 < 0 ∨ 32 ≤ x1.toNatClampNeg then none else some ((bb (x1 ||| ((1 : Int32) <<< (x2 &&& 31))).toNatClampNeg) - (bb x1.toNatClampNeg)))) = some r0 := hm
  refine lv_aload_n hx hb dX0_stepEffect_0 rfl (lv_at hl 0 rfl) ?_
  refine va_get (D := D) (ci := 0) (v := .ref aBb) (C := RX0) (T := TX0) (N := 3) hx hb hts iw_X0 hown hK hP 0 rfl rfl 1 (by decide) (hts (.fieldLink RX0 11 "VarianceBridge$Bridge" "blends" "[I") (by decide +kernel)) (fun _ h9 => h9) rfl dX0_stepEffect_1 ?_
  refine lv_iload_n hx hb dX0_stepEffect_4 rfl (lv_at hl 1 rfl) ?_
  refine lv_iconst (v := (1 : Int32)) hx hb dX0_stepEffect_5 (by decide) ?_
  refine lv_iload_n hx hb dX0_stepEffect_6 rfl (lv_at hl 2 rfl) ?_
  refine lv_ishl hx hb dX0_stepEffect_7 ?_
  refine lv_ior hx hb dX0_stepEffect_8 ?_
  obtain ⟨c1, hm2⟩ := zz_no hm
  refine va_iald hx hb hK hP 1 0 rfl rfl c1 dX0_stepEffect_9 ?_
  refine lv_aload_n hx hb dX0_stepEffect_10 rfl (lv_at hl 0 rfl) ?_
  refine va_get (D := D) (ci := 0) (v := .ref aBb) (C := RX0) (T := TX0) (N := 3) hx hb hts iw_X0 hown hK hP 0 rfl rfl 1 (by decide) (hts (.fieldLink RX0 11 "VarianceBridge$Bridge" "blends" "[I") (by decide +kernel)) (fun _ h9 => h9) rfl dX0_stepEffect_11 ?_
  refine lv_iload_n hx hb dX0_stepEffect_14 rfl (lv_at hl 1 rfl) ?_
  obtain ⟨c3, hm4⟩ := zz_no hm2
  refine va_iald hx hb hK hP 1 0 rfl rfl c3 dX0_stepEffect_15 ?_
  refine lv_isub hx hb dX0_stepEffect_16 ?_
  have hq1 := Option.some.inj hm4
  subst hq1
  exact W.iret hx hb hr (fun t ht hW => ⟨⟨_, (), rfl, rfl, by rw [ht]; exact hP, va_K.moved hW.alike hK, hD⟩, hS.F ht⟩) hS.2.2 dX0_stepEffect_17
set_option maxHeartbeats 4000000 in
set_option maxRecDepth 100000 in
theorem c_X0_meanEffect (l : Launch) (D : va_G) (cI cB cZ : ClassId) (ta : Nat → Nat) (aB : Nat) (aBb : Nat) (aBs : Nat) (aP : Nat) (aPp : Nat) (aPf : Nat) (sz : Nat) (bb : (Nat → Int32)) (bs : (Nat → Int32)) (pg : Int32) (ps : Int32) (pn : Int32) (pp : (Nat → Int32)) (pf : (Nat → Int32)) (x1 : Int32) (r0 : Int32) (hm : m_X0_meanEffect bb x1 = some r0) : Met l yX0_meanEffect wsX0_meanEffect ({ frames := 1, cells := 0, slots := 0, locals := 22 } : Room) (va_Pc [.ref aB, .int x1] (PW D cI cB cZ ta (w_Bridge cI cB cZ aB aBb aBs aP aPp aPf bb bs pg ps pn pp pf) sz)) (QI D cI cB cZ (va_A (w_Bridge cI cB cZ aB aBb aBs aP aPp aPf bb bs pg ps pn pp pf) sz) (w_Bridge cI cB cZ aB aBb aBs aP aPp aPf bb bs pg ps pn pp pf) r0) 0 0 (va_A (w_Bridge cI cB cZ aB aBb aBs aP aPp aPf bb bs pg ps pn pp pf) sz) := by
  refine Met.ofW (cc := cX0_meanEffect) (maxL := 4) (ret := (some .int)) (by decide) rfl ?_
  intro p e s m args below meth c s₁ B hml hv
  obtain ⟨rfl, hsz, hP, hK, hD0, hG⟩ := hv
  have hx := B.exec
  have hb := B.bytes
  have hr := B.returns
  have hts := atoms_spec (ws := wsX0_meanEffect) B.pre
  have hown : s.vm.findClass RX0 = some m.cls := findClass_of_methodNamed B.named
  have hlocks := B.notSynchronized
  subst hsz
  have hD := hD0.self (sz := s.heap.size)
  clear hD0
  have hA0 : ∀ q : Nat, s.heap.size ≤ q → va_A (w_Bridge cI cB cZ aB aBb aBs aP aPp aPf bb bs pg ps pn pp pf) s.heap.size q := fun q h => Or.inr h
  generalize hAe : va_A (w_Bridge cI cB cZ aB aBb aBs aP aPp aPf bb bs pg ps pn pp pf) s.heap.size = A at hD hG hA0 ⊢
  have hA : ∀ q : Nat, s.heap.size ≤ q → A q := hA0
  clear hA0
  have hS : va_S A s.heap s.heap [] := va_S.rf
  have hk_4 : ∀ (n : Nat) (y1 : Int32) (y2 : Int32) (y3 : Int32), k_X0_meanEffect_4 bb n y1 y2 y3 = some r0 → ∀ (ls : Array Slot) (H : Heap) (lo : List Loc), lv_has ls 4 [(0, .ref aB), (1, .int y1), (2, .int y2), (3, .int y3)] → va_P D vwCl (w_Bridge cI cB cZ aB aBb aBs aP aPp aPf bb bs pg ps pn pp pf) H → va_D A (w_Bridge cI cB cZ aB aBb aBs aP aPp aPf bb bs pg ps pn pp pf) → va_S A s.heap H lo → W p l e (headSpec wsX0_meanEffect ({ frames := 1, cells := 0, slots := 0, locals := 22 } : Room)).room s m (([.ref aB, .int x1] : List Value).toArray) below meth c H lo 0 0 (MQ below (QI D cI cB cZ A (w_Bridge cI cB cZ aB aBb aBs aP aPp aPf bb bs pg ps pn pp pf) r0) (([.ref aB, .int x1] : List Value).toArray) s 0 0 A) (F0 m 4 ls []) := by
    intro n
    induction n with
    | zero => intro y1 y2 y3 hm; exact zz_nn hm
    | succ n ih =>
      intro y1 y2 y3 hm ls H lo hl hP hD hS
      replace hm := (k_X0_meanEffect_4_s bb n y1 y2 y3).symm.trans hm
      refine lv_iload_n hx hb dX0_meanEffect_4 rfl (lv_at hl 3 rfl) ?_
      refine lv_bipush (v := (32 : Int32)) hx hb dX0_meanEffect_5 (by decide) ?_
      refine lv_icmp_ge (tgt := 42) hx hb dX0_meanEffect_7 (by decide) (fun c1 => ?_) (fun c1 => ?_)
      · have hm2 := zz_if c1 hm
        refine lv_iload_n hx hb dX0_meanEffect_42 rfl (lv_at hl 2 rfl) ?_
        refine lv_bipush (v := (120 : Int32)) hx hb dX0_meanEffect_43 (by decide) ?_
        refine lv_idiv hx hb dX0_meanEffect_45 (by decide) ?_
        have hq1 := Option.some.inj hm2
        subst hq1
        exact W.iret hx hb hr (fun t ht hW => ⟨⟨_, (), rfl, rfl, by rw [ht]; exact hP, va_K.moved hW.alike hK, hD⟩, hS.F ht⟩) hS.2.2 dX0_meanEffect_46
      · have hm3 := zz_nf c1 hm
        refine lv_iload_n hx hb dX0_meanEffect_10 rfl (lv_at hl 3 rfl) ?_
        refine lv_iload_n hx hb dX0_meanEffect_11 rfl (lv_at hl 1 rfl) ?_
        refine lv_ishr hx hb dX0_meanEffect_12 ?_
        refine lv_iconst (v := (1 : Int32)) hx hb dX0_meanEffect_13 (by decide) ?_
        refine lv_iand hx hb dX0_meanEffect_14 ?_
        refine lv_if_ne (tgt := 36) hx hb dX0_meanEffect_15 (by decide) (fun c4 => ?_) (fun c4 => ?_)
        · have hm5 := zz_nf c4 hm3
          refine lv_iinc (v := (y3 + (1 : Int32))) (lv' := [(3, .int (y3 + (1 : Int32))), (0, .ref aB), (1, .int y1), (2, .int y2)]) hx hb dX0_meanEffect_36 hl (k := 3) rfl (by rfl) (by decide) rfl (fun ls7 hl7 => ?_)
          refine lv_goto (tgt := 4) hx hb dX0_meanEffect_39 (by decide) ?_
          exact ih y1 y2 (y3 + (1 : Int32)) hm5 ls7 H lo (lv_sub hl7 [1, 2, 3, 0] rfl) hP hD hS
        · have hm6 := zz_if c4 hm3
          refine lv_iload_n hx hb dX0_meanEffect_18 rfl (lv_at hl 2 rfl) ?_
          refine va_getsN hx hb hG.2.2.2.2.2.1.1 hS hown (va_Nw.use rfl (hG.1 (.fieldLinkNest RX0 74 RX6 "ORDERS_WITH_AHEAD" "[I" RX6) (by decide +kernel))) (fun _ h9 => h9) dX0_meanEffect_19 ?_
          refine lv_iload_n hx hb dX0_meanEffect_22 rfl (lv_at hl 3 rfl) ?_
          obtain ⟨r8, h8, hm8⟩ := ob1_e hm6
          refine gcall_i (ws' := (w_Bridge cI cB cZ aB aBb aBs aP aPp aPf bb bs pg ps pn pp pf)) (va_runS (As := [.int y3]) (rest := [.ref (ta 4), .int y2]) ⟨hx, hb, hml, hown, hts⟩ (c_J6_bitCount_0f7a4 l D cI cB cZ ta H.size y3 r8 h8) (va_cwS 1 hts gX0_meanEffect_J6_bitCount_0f7a4 rfl rfl rfl (by decide +kernel) ⟨(Nat.le_of_ble_eq_true rfl), (Nat.le_of_ble_eq_true rfl)⟩) ⟨PW_blind, PW_at hP hD hK hS hA hG [] rfl (by decide)⟩ rfl rfl hl.1 rfl (lv_room (Nat.le_of_ble_eq_true rfl)) dX0_meanEffect_23 ⟨(Nat.le_of_ble_eq_true rfl), (Nat.le_of_ble_eq_true rfl)⟩) hP hD hS hA [] [0, 1, 2, 3, 4, 5] [0, 1, 2, 3, 4, 5] rfl rfl (by decide) (by decide) (by decide) rfl (fun H9 lo9 hP9 hD9 hS9 => ?_)
          clear hP hD hS
          obtain ⟨c10, hm11⟩ := zz_no hm8
          refine va_ti hx hb hG.2.2.2.2.2.1.2 hS9 c10 rfl dX0_meanEffect_26 ?_
          refine lv_aload_n hx hb dX0_meanEffect_27 rfl (lv_at hl 0 rfl) ?_
          refine lv_iload_n hx hb dX0_meanEffect_28 rfl (lv_at hl 3 rfl) ?_
          refine lv_iload_n hx hb dX0_meanEffect_29 rfl (lv_at hl 1 rfl) ?_
          obtain ⟨r12, h12, hm12⟩ := ob1_e hm11
          refine gcall_i (ws' := (w_Bridge cI cB cZ aB aBb aBs aP aPp aPf bb bs pg ps pn pp pf)) (va_runV (As := [.int y3, .int y1]) (rest := [.int (T_AHEAD r8.toNatClampNeg), .int y2]) ⟨hx, hb, hml, hown, hts⟩ (c_X0_stepEffect l D cI cB cZ ta aB aBb aBs aP aPp aPf H9.size bb bs pg ps pn pp pf y3 y1 r12 h12) (cwV 2 hts gX0_meanEffect_X0_stepEffect rfl rfl rfl (by decide +kernel) ⟨(Nat.le_of_ble_eq_true rfl), (Nat.le_of_ble_eq_true rfl)⟩) ⟨PW_blind, va_recv hK hP9 rfl (q0 := 0) rfl, PW_at hP9 hD9 hK hS9 hA hG [0, 1, 2, 3, 4, 5] rfl (by decide)⟩ rfl rfl hl.1 rfl (lv_room (Nat.le_of_ble_eq_true rfl)) dX0_meanEffect_30 ⟨(Nat.le_of_ble_eq_true rfl), (Nat.le_of_ble_eq_true rfl)⟩) hP9 hD9 hS9 hA [0, 1, 2, 3, 4, 5] [] [0, 1, 2, 3, 4, 5] rfl rfl (by decide) (by decide) (by decide) rfl (fun H13 lo13 hP13 hD13 hS13 => ?_)
          clear hP9 hD9 hS9
          refine lv_imul hx hb dX0_meanEffect_33 ?_
          refine lv_iadd hx hb dX0_meanEffect_34 ?_
          refine lv_istore_n (lv' := [(2, .int (y2 + ((T_AHEAD r8.toNatClampNeg) * r12))), (0, .ref aB), (1, .int y1), (3, .int y3)]) hx hb dX0_meanEffect_35 rfl hl (by decide) rfl (fun ls14 hl14 => ?_)
          refine lv_iinc (v := (y3 + (1 : Int32))) (lv' := [(3, .int (y3 + (1 : Int32))), (2, .int (y2 + ((T_AHEAD r8.toNatClampNeg) * r12))), (0, .ref aB), (1, .int y1)]) hx hb dX0_meanEffect_36 hl14 (k := 3) rfl (by rfl) (by decide) rfl (fun ls15 hl15 => ?_)
          refine lv_goto (tgt := 4) hx hb dX0_meanEffect_39 (by decide) ?_
          exact ih y1 (y2 + ((T_AHEAD r8.toNatClampNeg) * r12)) (y3 + (1 : Int32)) hm12 ls15 H13 lo13 (lv_sub hl15 [2, 3, 1, 0] rfl) hP13 hD13 hS13
  have hl := lv_entry ([.ref aB, .int x1]) (n := 4) (Nat.le_of_ble_eq_true rfl)
  rw [lg_entry_eq]
  generalize (lg_sl ([.ref aB, .int x1]) ++ List.replicate (4 - (lg_sl ([.ref aB, .int x1])).length) Slot.unset).toArray = ls at hl ⊢
  have hl : lv_has ls 4 [(0, .ref aB), (1, .int x1)] := hl
  replace hm : (k_X0_meanEffect_4 bb FU x1 (0 : Int32) (0 : Int32)) = some r0 := hm
  refine lv_iconst (v := (0 : Int32)) hx hb dX0_meanEffect_0 (by decide) ?_
  refine lv_istore_n (lv' := [(2, .int (0 : Int32)), (0, .ref aB), (1, .int x1)]) hx hb dX0_meanEffect_1 rfl hl (by decide) rfl (fun ls16 hl16 => ?_)
  refine lv_iconst (v := (0 : Int32)) hx hb dX0_meanEffect_2 (by decide) ?_
  refine lv_istore_n (lv' := [(3, .int (0 : Int32)), (2, .int (0 : Int32)), (0, .ref aB), (1, .int x1)]) hx hb dX0_meanEffect_3 rfl hl16 (by decide) rfl (fun ls17 hl17 => ?_)
  exact hk_4 FU x1 (0 : Int32) (0 : Int32) hm ls17 s.heap [] (lv_sub hl17 [2, 3, 1, 0] rfl) hP hD hS
set_option maxHeartbeats 4000000 in
set_option maxRecDepth 100000 in
theorem c_X6_factorAt (l : Launch) (D : va_G) (cI cB cZ : ClassId) (ta : Nat → Nat) (sz : Nat) (x1 : Int32) (x2 : Int32) (x3 : Int32) (r0 : Int32) (hm : m_X6_factorAt x1 x2 x3 = some r0) : Met l yX6_factorAt wsX6_factorAt ({ frames := 0, cells := 0, slots := 0, locals := 0 } : Room) (va_Pc [.int x1, .int x2, .int x3] (PW D cI cB cZ ta (w_none cI cB cZ) sz)) (QI D cI cB cZ (va_A (w_none cI cB cZ) sz) (w_none cI cB cZ) r0) 0 0 (va_A (w_none cI cB cZ) sz) := by
  refine Met.ofW (cc := cX6_factorAt) (maxL := 6) (ret := (some .int)) (by decide) rfl ?_
  intro p e s m args below meth c s₁ B hml hv
  obtain ⟨rfl, hsz, hP, hK, hD0, hG⟩ := hv
  have hx := B.exec
  have hb := B.bytes
  have hr := B.returns
  have hts := atoms_spec (ws := wsX6_factorAt) B.pre
  have hown : s.vm.findClass RX6 = some m.cls := findClass_of_methodNamed B.named
  have hlocks := B.notSynchronized
  subst hsz
  have hD := hD0.self (sz := s.heap.size)
  clear hD0
  have hA0 : ∀ q : Nat, s.heap.size ≤ q → va_A (w_none cI cB cZ) s.heap.size q := fun q h => Or.inr h
  generalize hAe : va_A (w_none cI cB cZ) s.heap.size = A at hD hG hA0 ⊢
  have hA : ∀ q : Nat, s.heap.size ≤ q → A q := hA0
  clear hA0
  have hS : va_S A s.heap s.heap [] := va_S.rf
  have hk_53 : ∀ (y4 : Int32), k_X6_factorAt_53 y4 = some r0 → ∀ (ls : Array Slot) (H : Heap) (lo : List Loc), lv_has ls 6 [(4, .int y4)] → va_P D vwCl (w_none cI cB cZ) H → va_D A (w_none cI cB cZ) → va_S A s.heap H lo → W p l e (headSpec wsX6_factorAt ({ frames := 0, cells := 0, slots := 0, locals := 0 } : Room)).room s m (([.int x1, .int x2, .int x3] : List Value).toArray) below meth c H lo 0 0 (MQ below (QI D cI cB cZ A (w_none cI cB cZ) r0) (([.int x1, .int x2, .int x3] : List Value).toArray) s 0 0 A) (F0 m 53 ls []) := by
    intro y4 hm ls H lo hl hP hD hS
    replace hm : some y4 = some r0 := hm
    refine lv_iload hx hb dX6_factorAt_53 (lv_at hl 0 rfl) ?_
    have hq1 := Option.some.inj hm
    subst hq1
    exact W.iret hx hb hr (fun t ht hW => ⟨⟨_, (), rfl, rfl, by rw [ht]; exact hP, va_K.moved hW.alike hK, hD⟩, hS.F ht⟩) hS.2.2 dX6_factorAt_55
  have hk_18 : ∀ (n : Nat) (y2 : Int32) (y3 : Int32) (y4 : Int32) (y5 : Int32), k_X6_factorAt_18 n y2 y3 y4 y5 = some r0 → ∀ (ls : Array Slot) (H : Heap) (lo : List Loc), lv_has ls 6 [(2, .int y2), (3, .int y3), (4, .int y4), (5, .int y5)] → va_P D vwCl (w_none cI cB cZ) H → va_D A (w_none cI cB cZ) → va_S A s.heap H lo → W p l e (headSpec wsX6_factorAt ({ frames := 0, cells := 0, slots := 0, locals := 0 } : Room)).room s m (([.int x1, .int x2, .int x3] : List Value).toArray) below meth c H lo 0 0 (MQ below (QI D cI cB cZ A (w_none cI cB cZ) r0) (([.int x1, .int x2, .int x3] : List Value).toArray) s 0 0 A) (F0 m 18 ls []) := by
    intro n
    induction n with
    | zero => intro y2 y3 y4 y5 hm; exact zz_nn hm
    | succ n ih =>
      intro y2 y3 y4 y5 hm ls H lo hl hP hD hS
      replace hm := (k_X6_factorAt_18_s n y2 y3 y4 y5).symm.trans hm
      refine lv_iload hx hb dX6_factorAt_18 (lv_at hl 3 rfl) ?_
      refine lv_iconst (v := (5 : Int32)) hx hb dX6_factorAt_20 (by decide) ?_
      refine lv_icmp_ge (tgt := 53) hx hb dX6_factorAt_21 (by decide) (fun c1 => ?_) (fun c1 => ?_)
      · have hm2 := zz_if c1 hm
        exact hk_53 y4 hm2 ls H lo (lv_sub hl [2] rfl) hP hD hS
      · have hm3 := zz_nf c1 hm
        refine lv_iload_n hx hb dX6_factorAt_24 rfl (lv_at hl 0 rfl) ?_
        refine lv_iload hx hb dX6_factorAt_25 (lv_at hl 3 rfl) ?_
        refine lv_ishr hx hb dX6_factorAt_27 ?_
        refine lv_iconst (v := (1 : Int32)) hx hb dX6_factorAt_28 (by decide) ?_
        refine lv_iand hx hb dX6_factorAt_29 ?_
        refine lv_if_ne (tgt := 47) hx hb dX6_factorAt_30 (by decide) (fun c4 => ?_) (fun c4 => ?_)
        · have hm5 := zz_nf c4 hm3
          refine lv_iinc (v := (y5 + (1 : Int32))) (lv' := [(5, .int (y5 + (1 : Int32))), (2, .int y2), (3, .int y3), (4, .int y4)]) hx hb dX6_factorAt_47 hl (k := 3) rfl (by rfl) (by decide) rfl (fun ls7 hl7 => ?_)
          refine lv_goto (tgt := 18) hx hb dX6_factorAt_50 (by decide) ?_
          exact ih y2 y3 y4 (y5 + (1 : Int32)) hm5 ls7 H lo (lv_sub hl7 [1, 2, 3, 0] rfl) hP hD hS
        · have hm6 := zz_if c4 hm3
          refine lv_iload_n hx hb dX6_factorAt_33 rfl (lv_at hl 1 rfl) ?_
          refine lv_if_ne (tgt := 44) hx hb dX6_factorAt_34 (by decide) (fun c8 => ?_) (fun c8 => ?_)
          · have hm9 := zz_nf c8 hm6
            refine lv_iinc (v := (y3 + (-1 : Int32))) (lv' := [(3, .int (y3 + (-1 : Int32))), (2, .int y2), (4, .int y4), (5, .int y5)]) hx hb dX6_factorAt_44 hl (k := 1) rfl (by rfl) (by decide) rfl (fun ls11 hl11 => ?_)
            refine lv_iinc (v := (y5 + (1 : Int32))) (lv' := [(5, .int (y5 + (1 : Int32))), (3, .int (y3 + (-1 : Int32))), (2, .int y2), (4, .int y4)]) hx hb dX6_factorAt_47 hl11 (k := 3) rfl (by rfl) (by decide) rfl (fun ls12 hl12 => ?_)
            refine lv_goto (tgt := 18) hx hb dX6_factorAt_50 (by decide) ?_
            exact ih y2 (y3 + (-1 : Int32)) y4 (y5 + (1 : Int32)) hm9 ls12 H lo (lv_sub hl12 [2, 1, 3, 0] rfl) hP hD hS
          · have hm10 := zz_if c8 hm6
            refine lv_iload hx hb dX6_factorAt_37 (lv_at hl 3 rfl) ?_
            refine lv_istore (lv' := [(4, .int y5), (2, .int y2), (3, .int y3), (5, .int y5)]) hx hb dX6_factorAt_39 hl (by decide) rfl (fun ls13 hl13 => ?_)
            refine lv_goto (tgt := 53) hx hb dX6_factorAt_41 (by decide) ?_
            exact hk_53 y5 hm10 ls13 H lo (lv_sub hl13 [0] rfl) hP hD hS
  have hl := lv_entry ([.int x1, .int x2, .int x3]) (n := 6) (Nat.le_of_ble_eq_true rfl)
  rw [lg_entry_eq]
  generalize (lg_sl ([.int x1, .int x2, .int x3]) ++ List.replicate (6 - (lg_sl ([.int x1, .int x2, .int x3])).length) Slot.unset).toArray = ls at hl ⊢
  have hl : lv_has ls 6 [(0, .int x1), (1, .int x2), (2, .int x3)] := hl
  replace hm : (if x2 < 0 ∨ 5 ≤ x2.toNatClampNeg then none else (if (T_WAYS x2.toNatClampNeg) = 0 then none else (if ((5 : Int32) - x2) = 0 then none else (k_X6_factorAt_18 FU x3 ((x1 / (T_WAYS x2.toNatClampNeg)) - (x1 / (T_WAYS x2.toNatClampNeg)) / ((5 : Int32) - x2) * ((5 : Int32) - x2)) (0 : Int32) (0 : Int32))))) = some r0 := hm
  refine lv_iload_n hx hb dX6_factorAt_0 rfl (lv_at hl 0 rfl) ?_
  refine va_gets hx hb hG.2.2.2.2.1.1 hS hown (hts (.fieldLink RX6 207 "VarianceBridge" "WAYS_BEHIND" "[I") (by decide +kernel)) (fun _ h9 => h9) dX6_factorAt_1 ?_
  refine lv_iload_n hx hb dX6_factorAt_4 rfl (lv_at hl 1 rfl) ?_
  obtain ⟨c14, hm15⟩ := zz_no hm
  refine va_ti hx hb hG.2.2.2.2.1.2 hS c14 rfl dX6_factorAt_5 ?_
  obtain ⟨c16, hm17⟩ := zz_no hm15
  refine lv_idiv hx hb dX6_factorAt_6 c16 ?_
  refine lv_iconst (v := (5 : Int32)) hx hb dX6_factorAt_7 (by decide) ?_
  refine lv_iload_n hx hb dX6_factorAt_8 rfl (lv_at hl 1 rfl) ?_
  refine lv_isub hx hb dX6_factorAt_9 ?_
  obtain ⟨c18, hm19⟩ := zz_no hm17
  refine lv_irem hx hb dX6_factorAt_10 c18 ?_
  refine lv_istore_n (lv' := [(3, .int ((x1 / (T_WAYS x2.toNatClampNeg)) - (x1 / (T_WAYS x2.toNatClampNeg)) / ((5 : Int32) - x2) * ((5 : Int32) - x2))), (0, .int x1), (1, .int x2), (2, .int x3)]) hx hb dX6_factorAt_11 rfl hl (by decide) rfl (fun ls20 hl20 => ?_)
  refine lv_iconst (v := (0 : Int32)) hx hb dX6_factorAt_12 (by decide) ?_
  refine lv_istore (lv' := [(4, .int (0 : Int32)), (3, .int ((x1 / (T_WAYS x2.toNatClampNeg)) - (x1 / (T_WAYS x2.toNatClampNeg)) / ((5 : Int32) - x2) * ((5 : Int32) - x2))), (0, .int x1), (1, .int x2), (2, .int x3)]) hx hb dX6_factorAt_13 hl20 (by decide) rfl (fun ls21 hl21 => ?_)
  refine lv_iconst (v := (0 : Int32)) hx hb dX6_factorAt_15 (by decide) ?_
  refine lv_istore (lv' := [(5, .int (0 : Int32)), (4, .int (0 : Int32)), (3, .int ((x1 / (T_WAYS x2.toNatClampNeg)) - (x1 / (T_WAYS x2.toNatClampNeg)) / ((5 : Int32) - x2) * ((5 : Int32) - x2))), (0, .int x1), (1, .int x2), (2, .int x3)]) hx hb dX6_factorAt_16 hl21 (by decide) rfl (fun ls22 hl22 => ?_)
  exact hk_18 FU x3 ((x1 / (T_WAYS x2.toNatClampNeg)) - (x1 / (T_WAYS x2.toNatClampNeg)) / ((5 : Int32) - x2) * ((5 : Int32) - x2)) (0 : Int32) (0 : Int32) hm19 ls22 s.heap [] (lv_sub hl22 [5, 2, 1, 0] rfl) hP hD hS
set_option maxHeartbeats 4000000 in
set_option maxRecDepth 100000 in
theorem c_X6_aheadInOrder (l : Launch) (D : va_G) (cI cB cZ : ClassId) (ta : Nat → Nat) (sz : Nat) (x1 : Int32) (x2 : Int32) (r0 : Int32) (hm : m_X6_aheadInOrder x1 x2 = some r0) : Met l yX6_aheadInOrder wsX6_aheadInOrder ({ frames := 1, cells := 0, slots := 0, locals := 25 } : Room) (va_Pc [.int x1, .int x2] (PW D cI cB cZ ta (w_none cI cB cZ) sz)) (QI D cI cB cZ (va_A (w_none cI cB cZ) sz) (w_none cI cB cZ) r0) 0 0 (va_A (w_none cI cB cZ) sz) := by
  refine Met.ofW (cc := cX6_aheadInOrder) (maxL := 5) (ret := (some .int)) (by decide) rfl ?_
  intro p e s m args below meth c s₁ B hml hv
  obtain ⟨rfl, hsz, hP, hK, hD0, hG⟩ := hv
  have hx := B.exec
  have hb := B.bytes
  have hr := B.returns
  have hts := atoms_spec (ws := wsX6_aheadInOrder) B.pre
  have hown : s.vm.findClass RX6 = some m.cls := findClass_of_methodNamed B.named
  have hlocks := B.notSynchronized
  subst hsz
  have hD := hD0.self (sz := s.heap.size)
  clear hD0
  have hA0 : ∀ q : Nat, s.heap.size ≤ q → va_A (w_none cI cB cZ) s.heap.size q := fun q h => Or.inr h
  generalize hAe : va_A (w_none cI cB cZ) s.heap.size = A at hD hG hA0 ⊢
  have hA : ∀ q : Nat, s.heap.size ≤ q → A q := hA0
  clear hA0
  have hS : va_S A s.heap s.heap [] := va_S.rf
  have hk_39 : ∀ (y2 : Int32), k_X6_aheadInOrder_39 y2 = some r0 → ∀ (ls : Array Slot) (H : Heap) (lo : List Loc), lv_has ls 5 [(2, .int y2)] → va_P D vwCl (w_none cI cB cZ) H → va_D A (w_none cI cB cZ) → va_S A s.heap H lo → W p l e (headSpec wsX6_aheadInOrder ({ frames := 1, cells := 0, slots := 0, locals := 25 } : Room)).room s m (([.int x1, .int x2] : List Value).toArray) below meth c H lo 0 0 (MQ below (QI D cI cB cZ A (w_none cI cB cZ) r0) (([.int x1, .int x2] : List Value).toArray) s 0 0 A) (F0 m 39 ls []) := by
    intro y2 hm ls H lo hl hP hD hS
    replace hm : some y2 = some r0 := hm
    refine lv_iload_n hx hb dX6_aheadInOrder_39 rfl (lv_at hl 0 rfl) ?_
    have hq1 := Option.some.inj hm
    subst hq1
    exact W.iret hx hb hr (fun t ht hW => ⟨⟨_, (), rfl, rfl, by rw [ht]; exact hP, va_K.moved hW.alike hK, hD⟩, hS.F ht⟩) hS.2.2 dX6_aheadInOrder_40
  have hk_4 : ∀ (n : Nat) (y0 : Int32) (y1 : Int32) (y2 : Int32) (y3 : Int32), k_X6_aheadInOrder_4 n y0 y1 y2 y3 = some r0 → ∀ (ls : Array Slot) (H : Heap) (lo : List Loc), lv_has ls 5 [(0, .int y0), (1, .int y1), (2, .int y2), (3, .int y3)] → va_P D vwCl (w_none cI cB cZ) H → va_D A (w_none cI cB cZ) → va_S A s.heap H lo → W p l e (headSpec wsX6_aheadInOrder ({ frames := 1, cells := 0, slots := 0, locals := 25 } : Room)).room s m (([.int x1, .int x2] : List Value).toArray) below meth c H lo 0 0 (MQ below (QI D cI cB cZ A (w_none cI cB cZ) r0) (([.int x1, .int x2] : List Value).toArray) s 0 0 A) (F0 m 4 ls []) := by
    intro n
    induction n with
    | zero => intro y0 y1 y2 y3 hm; exact zz_nn hm
    | succ n ih =>
      intro y0 y1 y2 y3 hm ls H lo hl hP hD hS
      replace hm := (k_X6_aheadInOrder_4_s n y0 y1 y2 y3).symm.trans hm
      refine lv_iload_n hx hb dX6_aheadInOrder_4 rfl (lv_at hl 3 rfl) ?_
      refine lv_iconst (v := (5 : Int32)) hx hb dX6_aheadInOrder_5 (by decide) ?_
      refine lv_icmp_ge (tgt := 39) hx hb dX6_aheadInOrder_6 (by decide) (fun c1 => ?_) (fun c1 => ?_)
      · have hm2 := zz_if c1 hm
        exact hk_39 y2 hm2 ls H lo (lv_sub hl [2] rfl) hP hD hS
      · have hm3 := zz_nf c1 hm
        refine lv_iload_n hx hb dX6_aheadInOrder_9 rfl (lv_at hl 0 rfl) ?_
        refine lv_iload_n hx hb dX6_aheadInOrder_10 rfl (lv_at hl 3 rfl) ?_
        refine lv_iload_n hx hb dX6_aheadInOrder_11 rfl (lv_at hl 2 rfl) ?_
        obtain ⟨r4, h4, hm4⟩ := ob1_e hm3
        refine gcall_i (ws' := (w_none cI cB cZ)) (va_runS (As := [.int y0, .int y3, .int y2]) (rest := []) ⟨hx, hb, hml, hown, hts⟩ (c_X6_factorAt l D cI cB cZ ta H.size y0 y3 y2 r4 h4) (va_cwS 3 hts gX6_aheadInOrder_X6_factorAt rfl rfl rfl (by decide +kernel) ⟨(Nat.le_of_ble_eq_true rfl), (Nat.le_of_ble_eq_true rfl)⟩) ⟨PW_blind, PW_at hP hD hK hS hA hG [] rfl (by decide)⟩ rfl rfl hl.1 rfl (lv_room (Nat.le_of_ble_eq_true rfl)) dX6_aheadInOrder_12 ⟨(Nat.le_of_ble_eq_true rfl), (Nat.le_of_ble_eq_true rfl)⟩) hP hD hS hA [] [] [] rfl rfl (by decide) (by decide) (by decide) rfl (fun H5 lo5 hP5 hD5 hS5 => ?_)
        clear hP hD hS
        refine lv_istore (lv' := [(4, .int r4), (0, .int y0), (1, .int y1), (2, .int y2), (3, .int y3)]) hx hb dX6_aheadInOrder_15 hl (by decide) rfl (fun ls6 hl6 => ?_)
        refine lv_iload hx hb dX6_aheadInOrder_17 (lv_at hl6 0 rfl) ?_
        refine lv_iload_n hx hb dX6_aheadInOrder_19 rfl (lv_at hl6 2 rfl) ?_
        refine lv_icmp_ne (tgt := 26) hx hb dX6_aheadInOrder_20 (by decide) (fun c7 => ?_) (fun c7 => ?_)
        · have hm8 := zz_nf c7 hm4
          refine lv_iload_n hx hb dX6_aheadInOrder_26 rfl (lv_at hl6 3 rfl) ?_
          refine lv_iconst (v := (1 : Int32)) hx hb dX6_aheadInOrder_27 (by decide) ?_
          refine lv_iload hx hb dX6_aheadInOrder_28 (lv_at hl6 0 rfl) ?_
          refine lv_ishl hx hb dX6_aheadInOrder_30 ?_
          refine lv_ior hx hb dX6_aheadInOrder_31 ?_
          refine lv_istore_n (lv' := [(2, .int (y2 ||| ((1 : Int32) <<< (r4 &&& 31)))), (4, .int r4), (0, .int y0), (1, .int y1), (3, .int y3)]) hx hb dX6_aheadInOrder_32 rfl hl6 (by decide) rfl (fun ls10 hl10 => ?_)
          refine lv_iinc (v := (y3 + (1 : Int32))) (lv' := [(3, .int (y3 + (1 : Int32))), (2, .int (y2 ||| ((1 : Int32) <<< (r4 &&& 31)))), (4, .int r4), (0, .int y0), (1, .int y1)]) hx hb dX6_aheadInOrder_33 hl10 (k := 4) rfl (by rfl) (by decide) rfl (fun ls11 hl11 => ?_)
          refine lv_goto (tgt := 4) hx hb dX6_aheadInOrder_36 (by decide) ?_
          exact ih y0 y1 (y2 ||| ((1 : Int32) <<< (r4 &&& 31))) (y3 + (1 : Int32)) hm8 ls11 H5 lo5 (lv_sub hl11 [3, 4, 1, 0] rfl) hP5 hD5 hS5
        · have hm9 := zz_if c7 hm4
          refine lv_goto (tgt := 39) hx hb dX6_aheadInOrder_23 (by decide) ?_
          exact hk_39 y2 hm9 ls6 H5 lo5 (lv_sub hl6 [3] rfl) hP5 hD5 hS5
  have hl := lv_entry ([.int x1, .int x2]) (n := 5) (Nat.le_of_ble_eq_true rfl)
  rw [lg_entry_eq]
  generalize (lg_sl ([.int x1, .int x2]) ++ List.replicate (5 - (lg_sl ([.int x1, .int x2])).length) Slot.unset).toArray = ls at hl ⊢
  have hl : lv_has ls 5 [(0, .int x1), (1, .int x2)] := hl
  replace hm : (k_X6_aheadInOrder_4 FU x1 x2 (0 : Int32) (0 : Int32)) = some r0 := hm
  refine lv_iconst (v := (0 : Int32)) hx hb dX6_aheadInOrder_0 (by decide) ?_
  refine lv_istore_n (lv' := [(2, .int (0 : Int32)), (0, .int x1), (1, .int x2)]) hx hb dX6_aheadInOrder_1 rfl hl (by decide) rfl (fun ls12 hl12 => ?_)
  refine lv_iconst (v := (0 : Int32)) hx hb dX6_aheadInOrder_2 (by decide) ?_
  refine lv_istore_n (lv' := [(3, .int (0 : Int32)), (2, .int (0 : Int32)), (0, .int x1), (1, .int x2)]) hx hb dX6_aheadInOrder_3 rfl hl12 (by decide) rfl (fun ls13 hl13 => ?_)
  exact hk_4 FU x1 x2 (0 : Int32) (0 : Int32) hm ls13 s.heap [] (lv_sub hl13 [2, 3, 1, 0] rfl) hP hD hS
set_option maxHeartbeats 4000000 in
set_option maxRecDepth 100000 in
theorem c_X0_restOfMeans (l : Launch) (D : va_G) (cI cB cZ : ClassId) (ta : Nat → Nat) (aB : Nat) (aBb : Nat) (aBs : Nat) (aP : Nat) (aPp : Nat) (aPf : Nat) (sz : Nat) (bb : (Nat → Int32)) (bs : (Nat → Int32)) (pg : Int32) (ps : Int32) (pn : Int32) (pp : (Nat → Int32)) (pf : (Nat → Int32)) (r0 : Int32) (hm : m_X0_restOfMeans bb = some r0) : Met l yX0_restOfMeans wsX0_restOfMeans ({ frames := 2, cells := 0, slots := 0, locals := 45 } : Room) (va_Pc [.ref aB] (PW D cI cB cZ ta (w_Bridge cI cB cZ aB aBb aBs aP aPp aPf bb bs pg ps pn pp pf) sz)) (QI D cI cB cZ (va_A (w_Bridge cI cB cZ aB aBb aBs aP aPp aPf bb bs pg ps pn pp pf) sz) (w_Bridge cI cB cZ aB aBb aBs aP aPp aPf bb bs pg ps pn pp pf) r0) 0 0 (va_A (w_Bridge cI cB cZ aB aBb aBs aP aPp aPf bb bs pg ps pn pp pf) sz) := by
  refine Met.ofW (cc := cX0_restOfMeans) (maxL := 3) (ret := (some .int)) (by decide) rfl ?_
  intro p e s m args below meth c s₁ B hml hv
  obtain ⟨rfl, hsz, hP, hK, hD0, hG⟩ := hv
  have hx := B.exec
  have hb := B.bytes
  have hr := B.returns
  have hts := atoms_spec (ws := wsX0_restOfMeans) B.pre
  have hown : s.vm.findClass RX0 = some m.cls := findClass_of_methodNamed B.named
  have hlocks := B.notSynchronized
  subst hsz
  have hD := hD0.self (sz := s.heap.size)
  clear hD0
  have hA0 : ∀ q : Nat, s.heap.size ≤ q → va_A (w_Bridge cI cB cZ aB aBb aBs aP aPp aPf bb bs pg ps pn pp pf) s.heap.size q := fun q h => Or.inr h
  generalize hAe : va_A (w_Bridge cI cB cZ aB aBb aBs aP aPp aPf bb bs pg ps pn pp pf) s.heap.size = A at hD hG hA0 ⊢
  have hA : ∀ q : Nat, s.heap.size ≤ q → A q := hA0
  clear hA0
  have hS : va_S A s.heap s.heap [] := va_S.rf
  have hk_7 : ∀ (n : Nat) (y1 : Int32) (y2 : Int32), k_X0_restOfMeans_7 bb n y1 y2 = some r0 → ∀ (ls : Array Slot) (H : Heap) (lo : List Loc), lv_has ls 3 [(0, .ref aB), (1, .int y1), (2, .int y2)] → va_P D vwCl (w_Bridge cI cB cZ aB aBb aBs aP aPp aPf bb bs pg ps pn pp pf) H → va_D A (w_Bridge cI cB cZ aB aBb aBs aP aPp aPf bb bs pg ps pn pp pf) → va_S A s.heap H lo → W p l e (headSpec wsX0_restOfMeans ({ frames := 2, cells := 0, slots := 0, locals := 45 } : Room)).room s m (([.ref aB] : List Value).toArray) below meth c H lo 0 0 (MQ below (QI D cI cB cZ A (w_Bridge cI cB cZ aB aBb aBs aP aPp aPf bb bs pg ps pn pp pf) r0) (([.ref aB] : List Value).toArray) s 0 0 A) (F0 m 7 ls []) := by
    intro n
    induction n with
    | zero => intro y1 y2 hm; exact zz_nn hm
    | succ n ih =>
      intro y1 y2 hm ls H lo hl hP hD hS
      replace hm := (k_X0_restOfMeans_7_s bb n y1 y2).symm.trans hm
      refine lv_iload_n hx hb dX0_restOfMeans_7 rfl (lv_at hl 2 rfl) ?_
      refine lv_iconst (v := (5 : Int32)) hx hb dX0_restOfMeans_8 (by decide) ?_
      refine lv_icmp_ge (tgt := 26) hx hb dX0_restOfMeans_9 (by decide) (fun c1 => ?_) (fun c1 => ?_)
      · have hm2 := zz_if c1 hm
        refine lv_iload_n hx hb dX0_restOfMeans_26 rfl (lv_at hl 1 rfl) ?_
        have hq1 := Option.some.inj hm2
        subst hq1
        exact W.iret hx hb hr (fun t ht hW => ⟨⟨_, (), rfl, rfl, by rw [ht]; exact hP, va_K.moved hW.alike hK, hD⟩, hS.F ht⟩) hS.2.2 dX0_restOfMeans_27
      · have hm3 := zz_nf c1 hm
        refine lv_iload_n hx hb dX0_restOfMeans_12 rfl (lv_at hl 1 rfl) ?_
        refine lv_aload_n hx hb dX0_restOfMeans_13 rfl (lv_at hl 0 rfl) ?_
        refine lv_iload_n hx hb dX0_restOfMeans_14 rfl (lv_at hl 2 rfl) ?_
        obtain ⟨r4, h4, hm4⟩ := ob1_e hm3
        refine gcall_i (ws' := (w_Bridge cI cB cZ aB aBb aBs aP aPp aPf bb bs pg ps pn pp pf)) (va_runV (As := [.int y2]) (rest := [.int y1]) ⟨hx, hb, hml, hown, hts⟩ (c_X0_meanEffect l D cI cB cZ ta aB aBb aBs aP aPp aPf H.size bb bs pg ps pn pp pf y2 r4 h4) (cwV 1 hts gX0_restOfMeans_X0_meanEffect rfl rfl rfl (by decide +kernel) ⟨(Nat.le_of_ble_eq_true rfl), (Nat.le_of_ble_eq_true rfl)⟩) ⟨PW_blind, va_recv hK hP rfl (q0 := 0) rfl, PW_at hP hD hK hS hA hG [0, 1, 2, 3, 4, 5] rfl (by decide)⟩ rfl rfl hl.1 rfl (lv_room (Nat.le_of_ble_eq_true rfl)) dX0_restOfMeans_15 ⟨(Nat.le_of_ble_eq_true rfl), (Nat.le_of_ble_eq_true rfl)⟩) hP hD hS hA [0, 1, 2, 3, 4, 5] [] [0, 1, 2, 3, 4, 5] rfl rfl (by decide) (by decide) (by decide) rfl (fun H5 lo5 hP5 hD5 hS5 => ?_)
        clear hP hD hS
        refine lv_isub hx hb dX0_restOfMeans_18 ?_
        refine lv_istore_n (lv' := [(1, .int (y1 - r4)), (0, .ref aB), (2, .int y2)]) hx hb dX0_restOfMeans_19 rfl hl (by decide) rfl (fun ls6 hl6 => ?_)
        refine lv_iinc (v := (y2 + (1 : Int32))) (lv' := [(2, .int (y2 + (1 : Int32))), (1, .int (y1 - r4)), (0, .ref aB)]) hx hb dX0_restOfMeans_20 hl6 (k := 2) rfl (by rfl) (by decide) rfl (fun ls7 hl7 => ?_)
        refine lv_goto (tgt := 7) hx hb dX0_restOfMeans_23 (by decide) ?_
        exact ih (y1 - r4) (y2 + (1 : Int32)) hm4 ls7 H5 lo5 (lv_sub hl7 [2, 1, 0] rfl) hP5 hD5 hS5
  have hl := lv_entry ([.ref aB]) (n := 3) (Nat.le_of_ble_eq_true rfl)
  rw [lg_entry_eq]
  generalize (lg_sl ([.ref aB]) ++ List.replicate (3 - (lg_sl ([.ref aB])).length) Slot.unset).toArray = ls at hl ⊢
  have hl : lv_has ls 3 [(0, .ref aB)] := hl
  replace hm : (ob1 (m_X0_blendedDifference bb) (fun r8 => (k_X0_restOfMeans_7 bb FU r8 (0 : Int32)))) = some r0 := hm
  refine lv_aload_n hx hb dX0_restOfMeans_0 rfl (lv_at hl 0 rfl) ?_
  obtain ⟨r8, h8, hm8⟩ := ob1_e hm
  refine gcall_i (ws' := (w_Bridge cI cB cZ aB aBb aBs aP aPp aPf bb bs pg ps pn pp pf)) (va_runV (As := []) (rest := []) ⟨hx, hb, hml, hown, hts⟩ (c_X0_blendedDifference l D cI cB cZ ta aB aBb aBs aP aPp aPf s.heap.size bb bs pg ps pn pp pf r8 h8) (cwV 0 hts gX0_restOfMeans_X0_blendedDifference rfl rfl rfl (by decide +kernel) ⟨(Nat.le_of_ble_eq_true rfl), (Nat.le_of_ble_eq_true rfl)⟩) ⟨PW_blind, va_recv hK hP rfl (q0 := 0) rfl, PW_at hP hD hK hS hA hG [0, 1, 2, 3, 4, 5] rfl (by decide)⟩ rfl rfl hl.1 rfl (lv_room (Nat.le_of_ble_eq_true rfl)) dX0_restOfMeans_1 ⟨(Nat.le_of_ble_eq_true rfl), (Nat.le_of_ble_eq_true rfl)⟩) hP hD hS hA [0, 1, 2, 3, 4, 5] [] [0, 1, 2, 3, 4, 5] rfl rfl (by decide) (by decide) (by decide) rfl (fun H9 lo9 hP9 hD9 hS9 => ?_)
  clear hP hD hS
  refine lv_istore_n (lv' := [(1, .int r8), (0, .ref aB)]) hx hb dX0_restOfMeans_4 rfl hl (by decide) rfl (fun ls10 hl10 => ?_)
  refine lv_iconst (v := (0 : Int32)) hx hb dX0_restOfMeans_5 (by decide) ?_
  refine lv_istore_n (lv' := [(2, .int (0 : Int32)), (1, .int r8), (0, .ref aB)]) hx hb dX0_restOfMeans_6 rfl hl10 (by decide) rfl (fun ls11 hl11 => ?_)
  exact hk_7 FU r8 (0 : Int32) hm8 ls11 H9 lo9 (lv_sub hl11 [2, 1, 0] rfl) hP9 hD9 hS9
