def m_X2_isScene (ps : Int32) (x1 : Int32) : Option (Int32) := (if x1 < 0 then some (0 : Int32) else (if ps ≤ x1 then some (0 : Int32) else some (1 : Int32)))
theorem iw_X2_isScene_X2 : ∀ w ∈ wsX20, w ∈ wsX2_isScene := by decide +kernel
set_option maxHeartbeats 4000000 in
set_option maxRecDepth 100000 in
theorem c_X2_isScene (l : Launch) (D : va_G) (cI cB cZ : ClassId) (ta : Nat → Nat) (aP : Nat) (aPp : Nat) (aPf : Nat) (sz : Nat) (pg : Int32) (ps : Int32) (pn : Int32) (pp : (Nat → Int32)) (pf : (Nat → Int32)) (x1 : Int32) (r0 : Int32) (hm : m_X2_isScene ps x1 = some r0) : Met l yX2_isScene wsX2_isScene ({ frames := 0, cells := 0, slots := 0, locals := 0 } : Room) (va_Pc [.ref aP, .int x1] (PW D cI cB cZ ta (w_Plan cI cB cZ aP aPp aPf pg ps pn pp pf) sz)) (QZ D cI cB cZ (va_A (w_Plan cI cB cZ aP aPp aPf pg ps pn pp pf) sz) (w_Plan cI cB cZ aP aPp aPf pg ps pn pp pf) r0) 0 0 (va_A (w_Plan cI cB cZ aP aPp aPf pg ps pn pp pf) sz) := by
  refine Met.ofW (cc := cX2_isScene) (maxL := 2) (ret := (some .boolean)) (by decide) rfl ?_
  intro p e s m args below meth c s₁ B hml hv
  obtain ⟨rfl, hsz, hP, hK, hD0, hG⟩ := hv
  have hx := B.exec
  have hb := B.bytes
  have hr := B.returns
  have hts := atoms_spec (ws := wsX2_isScene) B.pre
  have hown : s.vm.findClass RX2 = some m.cls := findClass_of_methodNamed B.named
  have hlocks := B.notSynchronized
  subst hsz
  have hD := hD0.self (sz := s.heap.size)
  clear hD0
  have hA0 : ∀ q : Nat, s.heap.size ≤ q → va_A (w_Plan cI cB cZ aP aPp aPf pg ps pn pp pf) s.heap.size q := fun q h => Or.inr h
  generalize hAe : va_A (w_Plan cI cB cZ aP aPp aPf pg ps pn pp pf) s.heap.size = A at hD hG hA0 ⊢
  have hA : ∀ q : Nat, s.heap.size ≤ q → A q := hA0
  clear hA0
  have hS : va_S A s.heap s.heap [] := va_S.rf
  have iw_X2 := iw_X2_isScene_X2
  have hl := lv_entry ([.ref aP, .int x1]) (n := 2) (Nat.le_of_ble_eq_true rfl)
  rw [lg_entry_eq]
  generalize (lg_sl ([.ref aP, .int x1]) ++ List.replicate (2 - (lg_sl ([.ref aP, .int x1])).length) Slot.unset).toArray = ls at hl ⊢
  have hl : lv_has ls 2 [(0, .ref aP), (1, .int x1)] := hl
  replace hm : (if x1 < 0 then some (0 : Int32) else (if ps ≤ x1 then some (0 : Int32) else some (1 : Int32))) = some r0 := hm
  refine lv_iload_n hx hb dX2_isScene_0 rfl (lv_at hl 1 rfl) ?_
  refine lv_if_lt (tgt := 16) hx hb dX2_isScene_1 (by decide) (fun c1 => ?_) (fun c1 => ?_)
  · have hm2 := zz_if c1 hm
    refine lv_iconst (v := (0 : Int32)) hx hb dX2_isScene_16 (by decide) ?_
    cases hm2
    exact W.zret (v := (0 : Int32)) (ty := .boolean) hx hb hr (by decide) (fun t ht hW => ⟨⟨_, (), rfl, ⟨rfl, (by decide)⟩, by rw [ht]; exact hP, va_K.moved hW.alike hK, hD⟩, hS.F ht⟩) hS.2.2 dX2_isScene_17
  · have hm3 := zz_nf c1 hm
    refine lv_iload_n hx hb dX2_isScene_4 rfl (lv_at hl 1 rfl) ?_
    refine lv_aload_n hx hb dX2_isScene_5 rfl (lv_at hl 0 rfl) ?_
    refine va_get (D := D) (ci := 2) (v := .int ps) (C := RX2) (T := TX2) (N := 5) hx hb hts iw_X2 hown hK hP 0 rfl rfl 3 (by decide) (hts (.fieldLink RX2 22 "VarianceBridge$Plan" "scenes" "I") (by decide +kernel)) (fun _ h9 => h9) rfl dX2_isScene_6 ?_
    refine lv_icmp_ge (tgt := 16) hx hb dX2_isScene_9 (by decide) (fun c4 => ?_) (fun c4 => ?_)
    · have hm5 := zz_if c4 hm3
      refine lv_iconst (v := (0 : Int32)) hx hb dX2_isScene_16 (by decide) ?_
      cases hm5
      exact W.zret (v := (0 : Int32)) (ty := .boolean) hx hb hr (by decide) (fun t ht hW => ⟨⟨_, (), rfl, ⟨rfl, (by decide)⟩, by rw [ht]; exact hP, va_K.moved hW.alike hK, hD⟩, hS.F ht⟩) hS.2.2 dX2_isScene_17
    · have hm6 := zz_nf c4 hm3
      refine lv_iconst (v := (1 : Int32)) hx hb dX2_isScene_12 (by decide) ?_
      refine lv_goto (tgt := 17) hx hb dX2_isScene_13 (by decide) ?_
      cases hm6
      exact W.zret (v := (1 : Int32)) (ty := .boolean) hx hb hr (by decide) (fun t ht hW => ⟨⟨_, (), rfl, ⟨rfl, (by decide)⟩, by rw [ht]; exact hP, va_K.moved hW.alike hK, hD⟩, hS.F ht⟩) hS.2.2 dX2_isScene_17
def m_X2_isNode (pn : Int32) (x1 : Int32) : Option (Int32) := (if x1 < 0 then some (0 : Int32) else (if pn ≤ x1 then some (0 : Int32) else some (1 : Int32)))
theorem iw_X2_isNode_X2 : ∀ w ∈ wsX20, w ∈ wsX2_isNode := by decide +kernel
set_option maxHeartbeats 4000000 in
set_option maxRecDepth 100000 in
theorem c_X2_isNode (l : Launch) (D : va_G) (cI cB cZ : ClassId) (ta : Nat → Nat) (aP : Nat) (aPp : Nat) (aPf : Nat) (sz : Nat) (pg : Int32) (ps : Int32) (pn : Int32) (pp : (Nat → Int32)) (pf : (Nat → Int32)) (x1 : Int32) (r0 : Int32) (hm : m_X2_isNode pn x1 = some r0) : Met l yX2_isNode wsX2_isNode ({ frames := 0, cells := 0, slots := 0, locals := 0 } : Room) (va_Pc [.ref aP, .int x1] (PW D cI cB cZ ta (w_Plan cI cB cZ aP aPp aPf pg ps pn pp pf) sz)) (QZ D cI cB cZ (va_A (w_Plan cI cB cZ aP aPp aPf pg ps pn pp pf) sz) (w_Plan cI cB cZ aP aPp aPf pg ps pn pp pf) r0) 0 0 (va_A (w_Plan cI cB cZ aP aPp aPf pg ps pn pp pf) sz) := by
  refine Met.ofW (cc := cX2_isNode) (maxL := 2) (ret := (some .boolean)) (by decide) rfl ?_
  intro p e s m args below meth c s₁ B hml hv
  obtain ⟨rfl, hsz, hP, hK, hD0, hG⟩ := hv
  have hx := B.exec
  have hb := B.bytes
  have hr := B.returns
  have hts := atoms_spec (ws := wsX2_isNode) B.pre
  have hown : s.vm.findClass RX2 = some m.cls := findClass_of_methodNamed B.named
  have hlocks := B.notSynchronized
  subst hsz
  have hD := hD0.self (sz := s.heap.size)
  clear hD0
  have hA0 : ∀ q : Nat, s.heap.size ≤ q → va_A (w_Plan cI cB cZ aP aPp aPf pg ps pn pp pf) s.heap.size q := fun q h => Or.inr h
  generalize hAe : va_A (w_Plan cI cB cZ aP aPp aPf pg ps pn pp pf) s.heap.size = A at hD hG hA0 ⊢
  have hA : ∀ q : Nat, s.heap.size ≤ q → A q := hA0
  clear hA0
  have hS : va_S A s.heap s.heap [] := va_S.rf
  have iw_X2 := iw_X2_isNode_X2
  have hl := lv_entry ([.ref aP, .int x1]) (n := 2) (Nat.le_of_ble_eq_true rfl)
  rw [lg_entry_eq]
  generalize (lg_sl ([.ref aP, .int x1]) ++ List.replicate (2 - (lg_sl ([.ref aP, .int x1])).length) Slot.unset).toArray = ls at hl ⊢
  have hl : lv_has ls 2 [(0, .ref aP), (1, .int x1)] := hl
  replace hm : (if x1 < 0 then some (0 : Int32) else (if pn ≤ x1 then some (0 : Int32) else some (1 : Int32))) = some r0 := hm
  refine lv_iload_n hx hb dX2_isNode_0 rfl (lv_at hl 1 rfl) ?_
  refine lv_if_lt (tgt := 16) hx hb dX2_isNode_1 (by decide) (fun c1 => ?_) (fun c1 => ?_)
  · have hm2 := zz_if c1 hm
    refine lv_iconst (v := (0 : Int32)) hx hb dX2_isNode_16 (by decide) ?_
    cases hm2
    exact W.zret (v := (0 : Int32)) (ty := .boolean) hx hb hr (by decide) (fun t ht hW => ⟨⟨_, (), rfl, ⟨rfl, (by decide)⟩, by rw [ht]; exact hP, va_K.moved hW.alike hK, hD⟩, hS.F ht⟩) hS.2.2 dX2_isNode_17
  · have hm3 := zz_nf c1 hm
    refine lv_iload_n hx hb dX2_isNode_4 rfl (lv_at hl 1 rfl) ?_
    refine lv_aload_n hx hb dX2_isNode_5 rfl (lv_at hl 0 rfl) ?_
    refine va_get (D := D) (ci := 2) (v := .int pn) (C := RX2) (T := TX2) (N := 5) hx hb hts iw_X2 hown hK hP 0 rfl rfl 4 (by decide) (hts (.fieldLink RX2 26 "VarianceBridge$Plan" "nodes" "I") (by decide +kernel)) (fun _ h9 => h9) rfl dX2_isNode_6 ?_
    refine lv_icmp_ge (tgt := 16) hx hb dX2_isNode_9 (by decide) (fun c4 => ?_) (fun c4 => ?_)
    · have hm5 := zz_if c4 hm3
      refine lv_iconst (v := (0 : Int32)) hx hb dX2_isNode_16 (by decide) ?_
      cases hm5
      exact W.zret (v := (0 : Int32)) (ty := .boolean) hx hb hr (by decide) (fun t ht hW => ⟨⟨_, (), rfl, ⟨rfl, (by decide)⟩, by rw [ht]; exact hP, va_K.moved hW.alike hK, hD⟩, hS.F ht⟩) hS.2.2 dX2_isNode_17
    · have hm6 := zz_nf c4 hm3
      refine lv_iconst (v := (1 : Int32)) hx hb dX2_isNode_12 (by decide) ?_
      refine lv_goto (tgt := 17) hx hb dX2_isNode_13 (by decide) ?_
      cases hm6
      exact W.zret (v := (1 : Int32)) (ty := .boolean) hx hb hr (by decide) (fun t ht hW => ⟨⟨_, (), rfl, ⟨rfl, (by decide)⟩, by rw [ht]; exact hP, va_K.moved hW.alike hK, hD⟩, hS.F ht⟩) hS.2.2 dX2_isNode_17
def m_X2_isGroup (pg : Int32) (pn : Int32) (x1 : Int32) : Option (Int32) := (ob1 (m_X2_isNode pn x1) (fun r1 => (if r1 = 0 then some (0 : Int32) else (if ((pg >>> (x1 &&& 31)) &&& (1 : Int32)) = 0 then some (0 : Int32) else some (1 : Int32)))))
theorem iw_X2_isGroup_X2 : ∀ w ∈ wsX20, w ∈ wsX2_isGroup := by decide +kernel
set_option maxHeartbeats 4000000 in
set_option maxRecDepth 100000 in
theorem c_X2_isGroup (l : Launch) (D : va_G) (cI cB cZ : ClassId) (ta : Nat → Nat) (aP : Nat) (aPp : Nat) (aPf : Nat) (sz : Nat) (pg : Int32) (ps : Int32) (pn : Int32) (pp : (Nat → Int32)) (pf : (Nat → Int32)) (x1 : Int32) (r0 : Int32) (hm : m_X2_isGroup pg pn x1 = some r0) : Met l yX2_isGroup wsX2_isGroup ({ frames := 1, cells := 0, slots := 0, locals := 21 } : Room) (va_Pc [.ref aP, .int x1] (PW D cI cB cZ ta (w_Plan cI cB cZ aP aPp aPf pg ps pn pp pf) sz)) (QZ D cI cB cZ (va_A (w_Plan cI cB cZ aP aPp aPf pg ps pn pp pf) sz) (w_Plan cI cB cZ aP aPp aPf pg ps pn pp pf) r0) 0 0 (va_A (w_Plan cI cB cZ aP aPp aPf pg ps pn pp pf) sz) := by
  refine Met.ofW (cc := cX2_isGroup) (maxL := 2) (ret := (some .boolean)) (by decide) rfl ?_
  intro p e s m args below meth c s₁ B hml hv
  obtain ⟨rfl, hsz, hP, hK, hD0, hG⟩ := hv
  have hx := B.exec
  have hb := B.bytes
  have hr := B.returns
  have hts := atoms_spec (ws := wsX2_isGroup) B.pre
  have hown : s.vm.findClass RX2 = some m.cls := findClass_of_methodNamed B.named
  have hlocks := B.notSynchronized
  subst hsz
  have hD := hD0.self (sz := s.heap.size)
  clear hD0
  have hA0 : ∀ q : Nat, s.heap.size ≤ q → va_A (w_Plan cI cB cZ aP aPp aPf pg ps pn pp pf) s.heap.size q := fun q h => Or.inr h
  generalize hAe : va_A (w_Plan cI cB cZ aP aPp aPf pg ps pn pp pf) s.heap.size = A at hD hG hA0 ⊢
  have hA : ∀ q : Nat, s.heap.size ≤ q → A q := hA0
  clear hA0
  have hS : va_S A s.heap s.heap [] := va_S.rf
  have iw_X2 := iw_X2_isGroup_X2
  have hl := lv_entry ([.ref aP, .int x1]) (n := 2) (Nat.le_of_ble_eq_true rfl)
  rw [lg_entry_eq]
  generalize (lg_sl ([.ref aP, .int x1]) ++ List.replicate (2 - (lg_sl ([.ref aP, .int x1])).length) Slot.unset).toArray = ls at hl ⊢
  have hl : lv_has ls 2 [(0, .ref aP), (1, .int x1)] := hl
  replace hm : (ob1 (m_X2_isNode pn x1) (fun r1 => (if r1 = 0 then some (0 : Int32) else (if ((pg >>> (x1 &&& 31)) &&& (1 : Int32)) = 0 then some (0 : Int32) else some (1 : Int32))))) = some r0 := hm
  refine lv_aload_n hx hb dX2_isGroup_0 rfl (lv_at hl 0 rfl) ?_
  refine lv_iload_n hx hb dX2_isGroup_1 rfl (lv_at hl 1 rfl) ?_
  obtain ⟨r1, h1, hm1⟩ := ob1_e hm
  refine gcall_b (ws' := (w_Plan cI cB cZ aP aPp aPf pg ps pn pp pf)) (va_runV (As := [.int x1]) (rest := []) ⟨hx, hb, hml, hown, hts⟩ (c_X2_isNode l D cI cB cZ ta aP aPp aPf s.heap.size pg ps pn pp pf x1 r1 h1) (cwV 1 hts gX2_isGroup_X2_isNode rfl rfl rfl (by decide +kernel) ⟨(Nat.le_of_ble_eq_true rfl), (Nat.le_of_ble_eq_true rfl)⟩) ⟨PW_blind, va_recv hK hP rfl (q0 := 0) rfl, PW_at hP hD hK hS hA hG [0, 1, 2] rfl (by decide)⟩ rfl rfl hl.1 rfl (lv_room (Nat.le_of_ble_eq_true rfl)) dX2_isGroup_2 ⟨(Nat.le_of_ble_eq_true rfl), (Nat.le_of_ble_eq_true rfl)⟩) hP hD hS hA [0, 1, 2] [] [0, 1, 2] rfl rfl (by decide) (by decide) (by decide) rfl (fun H2 lo2 hz1 hP2 hD2 hS2 => ?_)
  clear hP hD hS
  refine lv_if_eq (tgt := 23) hx hb dX2_isGroup_5 (by decide) (fun c3 => ?_) (fun c3 => ?_)
  · have hm4 := zz_if c3 hm1
    refine lv_iconst (v := (0 : Int32)) hx hb dX2_isGroup_23 (by decide) ?_
    cases hm4
    exact W.zret (v := (0 : Int32)) (ty := .boolean) hx hb hr (by decide) (fun t ht hW => ⟨⟨_, (), rfl, ⟨rfl, (by decide)⟩, by rw [ht]; exact hP2, va_K.moved hW.alike hK, hD2⟩, hS2.F ht⟩) hS2.2.2 dX2_isGroup_24
  · have hm5 := zz_nf c3 hm1
    refine lv_aload_n hx hb dX2_isGroup_8 rfl (lv_at hl 0 rfl) ?_
    refine va_get (D := D) (ci := 2) (v := .int pg) (C := RX2) (T := TX2) (N := 5) hx hb hts iw_X2 hown hK hP2 0 rfl rfl 2 (by decide) (hts (.fieldLink RX2 29 "VarianceBridge$Plan" "groupBits" "I") (by decide +kernel)) (fun _ h9 => h9) rfl dX2_isGroup_9 ?_
    refine lv_iload_n hx hb dX2_isGroup_12 rfl (lv_at hl 1 rfl) ?_
    refine lv_ishr hx hb dX2_isGroup_13 ?_
    refine lv_iconst (v := (1 : Int32)) hx hb dX2_isGroup_14 (by decide) ?_
    refine lv_iand hx hb dX2_isGroup_15 ?_
    refine lv_if_eq (tgt := 23) hx hb dX2_isGroup_16 (by decide) (fun c6 => ?_) (fun c6 => ?_)
    · have hm7 := zz_if c6 hm5
      refine lv_iconst (v := (0 : Int32)) hx hb dX2_isGroup_23 (by decide) ?_
      cases hm7
      exact W.zret (v := (0 : Int32)) (ty := .boolean) hx hb hr (by decide) (fun t ht hW => ⟨⟨_, (), rfl, ⟨rfl, (by decide)⟩, by rw [ht]; exact hP2, va_K.moved hW.alike hK, hD2⟩, hS2.F ht⟩) hS2.2.2 dX2_isGroup_24
    · have hm8 := zz_nf c6 hm5
      refine lv_iconst (v := (1 : Int32)) hx hb dX2_isGroup_19 (by decide) ?_
      refine lv_goto (tgt := 24) hx hb dX2_isGroup_20 (by decide) ?_
      cases hm8
      exact W.zret (v := (1 : Int32)) (ty := .boolean) hx hb hr (by decide) (fun t ht hW => ⟨⟨_, (), rfl, ⟨rfl, (by decide)⟩, by rw [ht]; exact hP2, va_K.moved hW.alike hK, hD2⟩, hS2.F ht⟩) hS2.2.2 dX2_isGroup_24
def m_X2_isLeaf (pg : Int32) (pn : Int32) (x1 : Int32) : Option (Int32) := (ob1 (m_X2_isNode pn x1) (fun r1 => (if r1 = 0 then some (0 : Int32) else (if ¬ ((pg >>> (x1 &&& 31)) &&& (1 : Int32)) = 0 then some (0 : Int32) else some (1 : Int32)))))
theorem iw_X2_isLeaf_X2 : ∀ w ∈ wsX20, w ∈ wsX2_isLeaf := by decide +kernel
set_option maxHeartbeats 4000000 in
set_option maxRecDepth 100000 in
theorem c_X2_isLeaf (l : Launch) (D : va_G) (cI cB cZ : ClassId) (ta : Nat → Nat) (aP : Nat) (aPp : Nat) (aPf : Nat) (sz : Nat) (pg : Int32) (ps : Int32) (pn : Int32) (pp : (Nat → Int32)) (pf : (Nat → Int32)) (x1 : Int32) (r0 : Int32) (hm : m_X2_isLeaf pg pn x1 = some r0) : Met l yX2_isLeaf wsX2_isLeaf ({ frames := 1, cells := 0, slots := 0, locals := 21 } : Room) (va_Pc [.ref aP, .int x1] (PW D cI cB cZ ta (w_Plan cI cB cZ aP aPp aPf pg ps pn pp pf) sz)) (QZ D cI cB cZ (va_A (w_Plan cI cB cZ aP aPp aPf pg ps pn pp pf) sz) (w_Plan cI cB cZ aP aPp aPf pg ps pn pp pf) r0) 0 0 (va_A (w_Plan cI cB cZ aP aPp aPf pg ps pn pp pf) sz) := by
  refine Met.ofW (cc := cX2_isLeaf) (maxL := 2) (ret := (some .boolean)) (by decide) rfl ?_
  intro p e s m args below meth c s₁ B hml hv
  obtain ⟨rfl, hsz, hP, hK, hD0, hG⟩ := hv
  have hx := B.exec
  have hb := B.bytes
  have hr := B.returns
  have hts := atoms_spec (ws := wsX2_isLeaf) B.pre
  have hown : s.vm.findClass RX2 = some m.cls := findClass_of_methodNamed B.named
  have hlocks := B.notSynchronized
  subst hsz
  have hD := hD0.self (sz := s.heap.size)
  clear hD0
  have hA0 : ∀ q : Nat, s.heap.size ≤ q → va_A (w_Plan cI cB cZ aP aPp aPf pg ps pn pp pf) s.heap.size q := fun q h => Or.inr h
  generalize hAe : va_A (w_Plan cI cB cZ aP aPp aPf pg ps pn pp pf) s.heap.size = A at hD hG hA0 ⊢
  have hA : ∀ q : Nat, s.heap.size ≤ q → A q := hA0
  clear hA0
  have hS : va_S A s.heap s.heap [] := va_S.rf
  have iw_X2 := iw_X2_isLeaf_X2
  have hl := lv_entry ([.ref aP, .int x1]) (n := 2) (Nat.le_of_ble_eq_true rfl)
  rw [lg_entry_eq]
  generalize (lg_sl ([.ref aP, .int x1]) ++ List.replicate (2 - (lg_sl ([.ref aP, .int x1])).length) Slot.unset).toArray = ls at hl ⊢
  have hl : lv_has ls 2 [(0, .ref aP), (1, .int x1)] := hl
  replace hm : (ob1 (m_X2_isNode pn x1) (fun r1 => (if r1 = 0 then some (0 : Int32) else (if ¬ ((pg >>> (x1 &&& 31)) &&& (1 : Int32)) = 0 then some (0 : Int32) else some (1 : Int32))))) = some r0 := hm
  refine lv_aload_n hx hb dX2_isLeaf_0 rfl (lv_at hl 0 rfl) ?_
  refine lv_iload_n hx hb dX2_isLeaf_1 rfl (lv_at hl 1 rfl) ?_
  obtain ⟨r1, h1, hm1⟩ := ob1_e hm
  refine gcall_b (ws' := (w_Plan cI cB cZ aP aPp aPf pg ps pn pp pf)) (va_runV (As := [.int x1]) (rest := []) ⟨hx, hb, hml, hown, hts⟩ (c_X2_isNode l D cI cB cZ ta aP aPp aPf s.heap.size pg ps pn pp pf x1 r1 h1) (cwV 1 hts gX2_isLeaf_X2_isNode rfl rfl rfl (by decide +kernel) ⟨(Nat.le_of_ble_eq_true rfl), (Nat.le_of_ble_eq_true rfl)⟩) ⟨PW_blind, va_recv hK hP rfl (q0 := 0) rfl, PW_at hP hD hK hS hA hG [0, 1, 2] rfl (by decide)⟩ rfl rfl hl.1 rfl (lv_room (Nat.le_of_ble_eq_true rfl)) dX2_isLeaf_2 ⟨(Nat.le_of_ble_eq_true rfl), (Nat.le_of_ble_eq_true rfl)⟩) hP hD hS hA [0, 1, 2] [] [0, 1, 2] rfl rfl (by decide) (by decide) (by decide) rfl (fun H2 lo2 hz1 hP2 hD2 hS2 => ?_)
  clear hP hD hS
  refine lv_if_eq (tgt := 23) hx hb dX2_isLeaf_5 (by decide) (fun c3 => ?_) (fun c3 => ?_)
  · have hm4 := zz_if c3 hm1
    refine lv_iconst (v := (0 : Int32)) hx hb dX2_isLeaf_23 (by decide) ?_
    cases hm4
    exact W.zret (v := (0 : Int32)) (ty := .boolean) hx hb hr (by decide) (fun t ht hW => ⟨⟨_, (), rfl, ⟨rfl, (by decide)⟩, by rw [ht]; exact hP2, va_K.moved hW.alike hK, hD2⟩, hS2.F ht⟩) hS2.2.2 dX2_isLeaf_24
  · have hm5 := zz_nf c3 hm1
    refine lv_aload_n hx hb dX2_isLeaf_8 rfl (lv_at hl 0 rfl) ?_
    refine va_get (D := D) (ci := 2) (v := .int pg) (C := RX2) (T := TX2) (N := 5) hx hb hts iw_X2 hown hK hP2 0 rfl rfl 2 (by decide) (hts (.fieldLink RX2 29 "VarianceBridge$Plan" "groupBits" "I") (by decide +kernel)) (fun _ h9 => h9) rfl dX2_isLeaf_9 ?_
    refine lv_iload_n hx hb dX2_isLeaf_12 rfl (lv_at hl 1 rfl) ?_
    refine lv_ishr hx hb dX2_isLeaf_13 ?_
    refine lv_iconst (v := (1 : Int32)) hx hb dX2_isLeaf_14 (by decide) ?_
    refine lv_iand hx hb dX2_isLeaf_15 ?_
    refine lv_if_ne (tgt := 23) hx hb dX2_isLeaf_16 (by decide) (fun c6 => ?_) (fun c6 => ?_)
    · have hm7 := zz_if c6 hm5
      refine lv_iconst (v := (0 : Int32)) hx hb dX2_isLeaf_23 (by decide) ?_
      cases hm7
      exact W.zret (v := (0 : Int32)) (ty := .boolean) hx hb hr (by decide) (fun t ht hW => ⟨⟨_, (), rfl, ⟨rfl, (by decide)⟩, by rw [ht]; exact hP2, va_K.moved hW.alike hK, hD2⟩, hS2.F ht⟩) hS2.2.2 dX2_isLeaf_24
    · have hm8 := zz_nf c6 hm5
      refine lv_iconst (v := (1 : Int32)) hx hb dX2_isLeaf_19 (by decide) ?_
      refine lv_goto (tgt := 24) hx hb dX2_isLeaf_20 (by decide) ?_
      cases hm8
      exact W.zret (v := (1 : Int32)) (ty := .boolean) hx hb hr (by decide) (fun t ht hW => ⟨⟨_, (), rfl, ⟨rfl, (by decide)⟩, by rw [ht]; exact hP2, va_K.moved hW.alike hK, hD2⟩, hS2.F ht⟩) hS2.2.2 dX2_isLeaf_24
noncomputable def k_X2_isWithin_5 (pn : Int32) (pp : (Nat → Int32)) (n : Nat) : Int32 → Int32 → Int32 → Option (Int32) := Nat.rec (motive := fun _ => Int32 → Int32 → Int32 → Option (Int32)) (fun (_ : Int32) (_ : Int32) (_ : Int32) => none) (fun _ ih (y2 : Int32) (y3 : Int32) (y4 : Int32) => (if (20 : Int32) ≤ y4 then some (0 : Int32) else (ob1 (m_X2_isNode pn y3) (fun r4 => (if r4 = 0 then some (0 : Int32) else (if ¬ y3 = y2 then (if y3 < 0 ∨ 20 ≤ y3.toNatClampNeg then none else (ih y2 (pp y3.toNatClampNeg) (y4 + (1 : Int32)))) else some (1 : Int32))))))) n
theorem k_X2_isWithin_5_s (pn : Int32) (pp : (Nat → Int32)) (n : Nat) (y2 : Int32) (y3 : Int32) (y4 : Int32) : k_X2_isWithin_5 pn pp (n + 1) y2 y3 y4 = (if (20 : Int32) ≤ y4 then some (0 : Int32) else (ob1 (m_X2_isNode pn y3) (fun r4 => (if r4 = 0 then some (0 : Int32) else (if ¬ y3 = y2 then (if y3 < 0 ∨ 20 ≤ y3.toNatClampNeg then none else ((k_X2_isWithin_5 pn pp n) y2 (pp y3.toNatClampNeg) (y4 + (1 : Int32)))) else some (1 : Int32)))))) := rfl
theorem k_X2_isWithin_5_0 (pn : Int32) (pp : (Nat → Int32)) (y2 : Int32) (y3 : Int32) (y4 : Int32) : k_X2_isWithin_5 pn pp 0 y2 y3 y4 = none := rfl
def m_X2_isWithin (pn : Int32) (pp : (Nat → Int32)) (x1 : Int32) (x2 : Int32) : Option (Int32) := (k_X2_isWithin_5 pn pp FU x2 x1 (0 : Int32))
theorem iw_X2_isWithin_X2 : ∀ w ∈ wsX20, w ∈ wsX2_isWithin := by decide +kernel
set_option maxHeartbeats 4000000 in
set_option maxRecDepth 100000 in
theorem c_X2_isWithin (l : Launch) (D : va_G) (cI cB cZ : ClassId) (ta : Nat → Nat) (aP : Nat) (aPp : Nat) (aPf : Nat) (sz : Nat) (pg : Int32) (ps : Int32) (pn : Int32) (pp : (Nat → Int32)) (pf : (Nat → Int32)) (x1 : Int32) (x2 : Int32) (r0 : Int32) (hm : m_X2_isWithin pn pp x1 x2 = some r0) : Met l yX2_isWithin wsX2_isWithin ({ frames := 1, cells := 0, slots := 0, locals := 21 } : Room) (va_Pc [.ref aP, .int x1, .int x2] (PW D cI cB cZ ta (w_Plan cI cB cZ aP aPp aPf pg ps pn pp pf) sz)) (QZ D cI cB cZ (va_A (w_Plan cI cB cZ aP aPp aPf pg ps pn pp pf) sz) (w_Plan cI cB cZ aP aPp aPf pg ps pn pp pf) r0) 0 0 (va_A (w_Plan cI cB cZ aP aPp aPf pg ps pn pp pf) sz) := by
  refine Met.ofW (cc := cX2_isWithin) (maxL := 5) (ret := (some .boolean)) (by decide) rfl ?_
  intro p e s m args below meth c s₁ B hml hv
  obtain ⟨rfl, hsz, hP, hK, hD0, hG⟩ := hv
  have hx := B.exec
  have hb := B.bytes
  have hr := B.returns
  have hts := atoms_spec (ws := wsX2_isWithin) B.pre
  have hown : s.vm.findClass RX2 = some m.cls := findClass_of_methodNamed B.named
  have hlocks := B.notSynchronized
  subst hsz
  have hD := hD0.self (sz := s.heap.size)
  clear hD0
  have hA0 : ∀ q : Nat, s.heap.size ≤ q → va_A (w_Plan cI cB cZ aP aPp aPf pg ps pn pp pf) s.heap.size q := fun q h => Or.inr h
  generalize hAe : va_A (w_Plan cI cB cZ aP aPp aPf pg ps pn pp pf) s.heap.size = A at hD hG hA0 ⊢
  have hA : ∀ q : Nat, s.heap.size ≤ q → A q := hA0
  clear hA0
  have hS : va_S A s.heap s.heap [] := va_S.rf
  have iw_X2 := iw_X2_isWithin_X2
  have hk_5 : ∀ (n : Nat) (y2 : Int32) (y3 : Int32) (y4 : Int32), k_X2_isWithin_5 pn pp n y2 y3 y4 = some r0 → ∀ (ls : Array Slot) (H : Heap) (lo : List Loc), lv_has ls 5 [(0, .ref aP), (2, .int y2), (3, .int y3), (4, .int y4)] → va_P D vwCl (w_Plan cI cB cZ aP aPp aPf pg ps pn pp pf) H → va_D A (w_Plan cI cB cZ aP aPp aPf pg ps pn pp pf) → va_S A s.heap H lo → W p l e (headSpec wsX2_isWithin ({ frames := 1, cells := 0, slots := 0, locals := 21 } : Room)).room s m (([.ref aP, .int x1, .int x2] : List Value).toArray) below meth c H lo 0 0 (MQ below (QZ D cI cB cZ A (w_Plan cI cB cZ aP aPp aPf pg ps pn pp pf) r0) (([.ref aP, .int x1, .int x2] : List Value).toArray) s 0 0 A) (F0 m 5 ls []) := by
    intro n
    induction n with
    | zero => intro y2 y3 y4 hm; exact zz_nn hm
    | succ n ih =>
      intro y2 y3 y4 hm ls H lo hl hP hD hS
      replace hm := (k_X2_isWithin_5_s pn pp n y2 y3 y4).symm.trans hm
      refine lv_iload hx hb dX2_isWithin_5 (lv_at hl 3 rfl) ?_
      refine lv_bipush (v := (20 : Int32)) hx hb dX2_isWithin_7 (by decide) ?_
      refine lv_icmp_ge (tgt := 40) hx hb dX2_isWithin_9 (by decide) (fun c1 => ?_) (fun c1 => ?_)
      · have hm2 := zz_if c1 hm
        refine lv_iconst (v := (0 : Int32)) hx hb dX2_isWithin_40 (by decide) ?_
        cases hm2
        exact W.zret (v := (0 : Int32)) (ty := .boolean) hx hb hr (by decide) (fun t ht hW => ⟨⟨_, (), rfl, ⟨rfl, (by decide)⟩, by rw [ht]; exact hP, va_K.moved hW.alike hK, hD⟩, hS.F ht⟩) hS.2.2 dX2_isWithin_41
      · have hm3 := zz_nf c1 hm
        refine lv_aload_n hx hb dX2_isWithin_12 rfl (lv_at hl 0 rfl) ?_
        refine lv_iload_n hx hb dX2_isWithin_13 rfl (lv_at hl 2 rfl) ?_
        obtain ⟨r4, h4, hm4⟩ := ob1_e hm3
        refine gcall_b (ws' := (w_Plan cI cB cZ aP aPp aPf pg ps pn pp pf)) (va_runV (As := [.int y3]) (rest := []) ⟨hx, hb, hml, hown, hts⟩ (c_X2_isNode l D cI cB cZ ta aP aPp aPf H.size pg ps pn pp pf y3 r4 h4) (cwV 1 hts gX2_isWithin_X2_isNode rfl rfl rfl (by decide +kernel) ⟨(Nat.le_of_ble_eq_true rfl), (Nat.le_of_ble_eq_true rfl)⟩) ⟨PW_blind, va_recv hK hP rfl (q0 := 0) rfl, PW_at hP hD hK hS hA hG [0, 1, 2] rfl (by decide)⟩ rfl rfl hl.1 rfl (lv_room (Nat.le_of_ble_eq_true rfl)) dX2_isWithin_14 ⟨(Nat.le_of_ble_eq_true rfl), (Nat.le_of_ble_eq_true rfl)⟩) hP hD hS hA [0, 1, 2] [] [0, 1, 2] rfl rfl (by decide) (by decide) (by decide) rfl (fun H5 lo5 hz4 hP5 hD5 hS5 => ?_)
        clear hP hD hS
        refine lv_if_eq (tgt := 40) hx hb dX2_isWithin_17 (by decide) (fun c6 => ?_) (fun c6 => ?_)
        · have hm7 := zz_if c6 hm4
          refine lv_iconst (v := (0 : Int32)) hx hb dX2_isWithin_40 (by decide) ?_
          cases hm7
          exact W.zret (v := (0 : Int32)) (ty := .boolean) hx hb hr (by decide) (fun t ht hW => ⟨⟨_, (), rfl, ⟨rfl, (by decide)⟩, by rw [ht]; exact hP5, va_K.moved hW.alike hK, hD5⟩, hS5.F ht⟩) hS5.2.2 dX2_isWithin_41
        · have hm8 := zz_nf c6 hm4
          refine lv_iload_n hx hb dX2_isWithin_20 rfl (lv_at hl 2 rfl) ?_
          refine lv_iload_n hx hb dX2_isWithin_21 rfl (lv_at hl 1 rfl) ?_
          refine lv_icmp_ne (tgt := 27) hx hb dX2_isWithin_22 (by decide) (fun c9 => ?_) (fun c9 => ?_)
          · have hm10 := zz_if c9 hm8
            refine lv_aload_n hx hb dX2_isWithin_27 rfl (lv_at hl 0 rfl) ?_
            refine va_get (D := D) (ci := 2) (v := .ref aPp) (C := RX2) (T := TX2) (N := 5) hx hb hts iw_X2 hown hK hP5 0 rfl rfl 0 (by decide) (hts (.fieldLink RX2 9 "VarianceBridge$Plan" "parents" "[I") (by decide +kernel)) (fun _ h9 => h9) rfl dX2_isWithin_28 ?_
            refine lv_iload_n hx hb dX2_isWithin_31 rfl (lv_at hl 2 rfl) ?_
            obtain ⟨c12, hm13⟩ := zz_no hm10
            refine va_iald hx hb hK hP5 1 0 rfl rfl c12 dX2_isWithin_32 ?_
            refine lv_istore_n (lv' := [(3, .int (pp y3.toNatClampNeg)), (0, .ref aP), (2, .int y2), (4, .int y4)]) hx hb dX2_isWithin_33 rfl hl (by decide) rfl (fun ls14 hl14 => ?_)
            refine lv_iinc (v := (y4 + (1 : Int32))) (lv' := [(4, .int (y4 + (1 : Int32))), (3, .int (pp y3.toNatClampNeg)), (0, .ref aP), (2, .int y2)]) hx hb dX2_isWithin_34 hl14 (k := 3) rfl (by rfl) (by decide) rfl (fun ls15 hl15 => ?_)
            refine lv_goto (tgt := 5) hx hb dX2_isWithin_37 (by decide) ?_
            exact ih y2 (pp y3.toNatClampNeg) (y4 + (1 : Int32)) hm13 ls15 H5 lo5 (lv_sub hl15 [2, 3, 1, 0] rfl) hP5 hD5 hS5
          · have hm11 := zz_nf c9 hm8
            refine lv_iconst (v := (1 : Int32)) hx hb dX2_isWithin_25 (by decide) ?_
            cases hm11
            exact W.zret (v := (1 : Int32)) (ty := .boolean) hx hb hr (by decide) (fun t ht hW => ⟨⟨_, (), rfl, ⟨rfl, (by decide)⟩, by rw [ht]; exact hP5, va_K.moved hW.alike hK, hD5⟩, hS5.F ht⟩) hS5.2.2 dX2_isWithin_26
  have hl := lv_entry ([.ref aP, .int x1, .int x2]) (n := 5) (Nat.le_of_ble_eq_true rfl)
  rw [lg_entry_eq]
  generalize (lg_sl ([.ref aP, .int x1, .int x2]) ++ List.replicate (5 - (lg_sl ([.ref aP, .int x1, .int x2])).length) Slot.unset).toArray = ls at hl ⊢
  have hl : lv_has ls 5 [(0, .ref aP), (1, .int x1), (2, .int x2)] := hl
  replace hm : (k_X2_isWithin_5 pn pp FU x2 x1 (0 : Int32)) = some r0 := hm
  refine lv_iload_n hx hb dX2_isWithin_0 rfl (lv_at hl 1 rfl) ?_
  refine lv_istore_n (lv' := [(3, .int x1), (0, .ref aP), (1, .int x1), (2, .int x2)]) hx hb dX2_isWithin_1 rfl hl (by decide) rfl (fun ls16 hl16 => ?_)
  refine lv_iconst (v := (0 : Int32)) hx hb dX2_isWithin_2 (by decide) ?_
  refine lv_istore (lv' := [(4, .int (0 : Int32)), (3, .int x1), (0, .ref aP), (1, .int x1), (2, .int x2)]) hx hb dX2_isWithin_3 hl16 (by decide) rfl (fun ls17 hl17 => ?_)
  exact hk_5 FU x2 x1 (0 : Int32) hm ls17 s.heap [] (lv_sub hl17 [2, 4, 1, 0] rfl) hP hD hS
def k_X2_leavesBelow_35 (pg : Int32) (pn : Int32) (pp : (Nat → Int32)) (c4 : Int32 → Int32 → Int32 → Option (Int32)) (y1 : Int32) (y2 : Int32) (y3 : Int32) : Option (Int32) := (c4 y1 y2 (y3 + (1 : Int32)))
noncomputable def k_X2_leavesBelow_4 (pg : Int32) (pn : Int32) (pp : (Nat → Int32)) (n : Nat) : Int32 → Int32 → Int32 → Option (Int32) := Nat.rec (motive := fun _ => Int32 → Int32 → Int32 → Option (Int32)) (fun (_ : Int32) (_ : Int32) (_ : Int32) => none) (fun _ ih (y1 : Int32) (y2 : Int32) (y3 : Int32) => (if pn ≤ y3 then some y2 else (ob1 (m_X2_isLeaf pg pn y3) (fun r5 => (if r5 = 0 then (k_X2_leavesBelow_35 pg pn pp ih y1 y2 y3) else (ob1 (m_X2_isWithin pn pp y3 y1) (fun r10 => (if r10 = 0 then (k_X2_leavesBelow_35 pg pn pp ih y1 y2 y3) else (k_X2_leavesBelow_35 pg pn pp ih y1 (y2 ||| ((1 : Int32) <<< (y3 &&& 31))) y3))))))))) n
theorem k_X2_leavesBelow_4_s (pg : Int32) (pn : Int32) (pp : (Nat → Int32)) (n : Nat) (y1 : Int32) (y2 : Int32) (y3 : Int32) : k_X2_leavesBelow_4 pg pn pp (n + 1) y1 y2 y3 = (if pn ≤ y3 then some y2 else (ob1 (m_X2_isLeaf pg pn y3) (fun r5 => (if r5 = 0 then (k_X2_leavesBelow_35 pg pn pp (k_X2_leavesBelow_4 pg pn pp n) y1 y2 y3) else (ob1 (m_X2_isWithin pn pp y3 y1) (fun r10 => (if r10 = 0 then (k_X2_leavesBelow_35 pg pn pp (k_X2_leavesBelow_4 pg pn pp n) y1 y2 y3) else (k_X2_leavesBelow_35 pg pn pp (k_X2_leavesBelow_4 pg pn pp n) y1 (y2 ||| ((1 : Int32) <<< (y3 &&& 31))) y3)))))))) := rfl
theorem k_X2_leavesBelow_4_0 (pg : Int32) (pn : Int32) (pp : (Nat → Int32)) (y1 : Int32) (y2 : Int32) (y3 : Int32) : k_X2_leavesBelow_4 pg pn pp 0 y1 y2 y3 = none := rfl
def m_X2_leavesBelow (pg : Int32) (pn : Int32) (pp : (Nat → Int32)) (x1 : Int32) : Option (Int32) := (k_X2_leavesBelow_4 pg pn pp FU x1 (0 : Int32) (1 : Int32))
theorem iw_X2_leavesBelow_X2 : ∀ w ∈ wsX20, w ∈ wsX2_leavesBelow := by decide +kernel
set_option maxHeartbeats 4000000 in
set_option maxRecDepth 100000 in
theorem c_X2_leavesBelow (l : Launch) (D : va_G) (cI cB cZ : ClassId) (ta : Nat → Nat) (aP : Nat) (aPp : Nat) (aPf : Nat) (sz : Nat) (pg : Int32) (ps : Int32) (pn : Int32) (pp : (Nat → Int32)) (pf : (Nat → Int32)) (x1 : Int32) (r0 : Int32) (hm : m_X2_leavesBelow pg pn pp x1 = some r0) : Met l yX2_leavesBelow wsX2_leavesBelow ({ frames := 2, cells := 0, slots := 0, locals := 45 } : Room) (va_Pc [.ref aP, .int x1] (PW D cI cB cZ ta (w_Plan cI cB cZ aP aPp aPf pg ps pn pp pf) sz)) (QI D cI cB cZ (va_A (w_Plan cI cB cZ aP aPp aPf pg ps pn pp pf) sz) (w_Plan cI cB cZ aP aPp aPf pg ps pn pp pf) r0) 0 0 (va_A (w_Plan cI cB cZ aP aPp aPf pg ps pn pp pf) sz) := by
  refine Met.ofW (cc := cX2_leavesBelow) (maxL := 4) (ret := (some .int)) (by decide) rfl ?_
  intro p e s m args below meth c s₁ B hml hv
  obtain ⟨rfl, hsz, hP, hK, hD0, hG⟩ := hv
  have hx := B.exec
  have hb := B.bytes
  have hr := B.returns
  have hts := atoms_spec (ws := wsX2_leavesBelow) B.pre
  have hown : s.vm.findClass RX2 = some m.cls := findClass_of_methodNamed B.named
  have hlocks := B.notSynchronized
  subst hsz
  have hD := hD0.self (sz := s.heap.size)
  clear hD0
  have hA0 : ∀ q : Nat, s.heap.size ≤ q → va_A (w_Plan cI cB cZ aP aPp aPf pg ps pn pp pf) s.heap.size q := fun q h => Or.inr h
  generalize hAe : va_A (w_Plan cI cB cZ aP aPp aPf pg ps pn pp pf) s.heap.size = A at hD hG hA0 ⊢
  have hA : ∀ q : Nat, s.heap.size ≤ q → A q := hA0
  clear hA0
  have hS : va_S A s.heap s.heap [] := va_S.rf
  have iw_X2 := iw_X2_leavesBelow_X2
  have hk_35 : ∀ (c4 : Int32 → Int32 → Int32 → Option (Int32)) (hc4 : ∀ (y1 : Int32) (y2 : Int32) (y3 : Int32), c4 y1 y2 y3 = some r0 → ∀ (ls : Array Slot) (H : Heap) (lo : List Loc), lv_has ls 4 [(0, .ref aP), (1, .int y1), (2, .int y2), (3, .int y3)] → va_P D vwCl (w_Plan cI cB cZ aP aPp aPf pg ps pn pp pf) H → va_D A (w_Plan cI cB cZ aP aPp aPf pg ps pn pp pf) → va_S A s.heap H lo → W p l e (headSpec wsX2_leavesBelow ({ frames := 2, cells := 0, slots := 0, locals := 45 } : Room)).room s m (([.ref aP, .int x1] : List Value).toArray) below meth c H lo 0 0 (MQ below (QI D cI cB cZ A (w_Plan cI cB cZ aP aPp aPf pg ps pn pp pf) r0) (([.ref aP, .int x1] : List Value).toArray) s 0 0 A) (F0 m 4 ls [])) (y1 : Int32) (y2 : Int32) (y3 : Int32), k_X2_leavesBelow_35 pg pn pp c4 y1 y2 y3 = some r0 → ∀ (ls : Array Slot) (H : Heap) (lo : List Loc), lv_has ls 4 [(0, .ref aP), (1, .int y1), (2, .int y2), (3, .int y3)] → va_P D vwCl (w_Plan cI cB cZ aP aPp aPf pg ps pn pp pf) H → va_D A (w_Plan cI cB cZ aP aPp aPf pg ps pn pp pf) → va_S A s.heap H lo → W p l e (headSpec wsX2_leavesBelow ({ frames := 2, cells := 0, slots := 0, locals := 45 } : Room)).room s m (([.ref aP, .int x1] : List Value).toArray) below meth c H lo 0 0 (MQ below (QI D cI cB cZ A (w_Plan cI cB cZ aP aPp aPf pg ps pn pp pf) r0) (([.ref aP, .int x1] : List Value).toArray) s 0 0 A) (F0 m 35 ls []) := by
    intro c4 hc4 y1 y2 y3 hm ls H lo hl hP hD hS
    replace hm : (c4 y1 y2 (y3 + (1 : Int32))) = some r0 := hm
    refine lv_iinc (v := (y3 + (1 : Int32))) (lv' := [(3, .int (y3 + (1 : Int32))), (0, .ref aP), (1, .int y1), (2, .int y2)]) hx hb dX2_leavesBelow_35 hl (k := 3) rfl (by rfl) (by decide) rfl (fun ls1 hl1 => ?_)
    refine lv_goto (tgt := 4) hx hb dX2_leavesBelow_38 (by decide) ?_
    exact hc4 y1 y2 (y3 + (1 : Int32)) hm ls1 H lo (lv_sub hl1 [1, 2, 3, 0] rfl) hP hD hS
  have hk_4 : ∀ (n : Nat) (y1 : Int32) (y2 : Int32) (y3 : Int32), k_X2_leavesBelow_4 pg pn pp n y1 y2 y3 = some r0 → ∀ (ls : Array Slot) (H : Heap) (lo : List Loc), lv_has ls 4 [(0, .ref aP), (1, .int y1), (2, .int y2), (3, .int y3)] → va_P D vwCl (w_Plan cI cB cZ aP aPp aPf pg ps pn pp pf) H → va_D A (w_Plan cI cB cZ aP aPp aPf pg ps pn pp pf) → va_S A s.heap H lo → W p l e (headSpec wsX2_leavesBelow ({ frames := 2, cells := 0, slots := 0, locals := 45 } : Room)).room s m (([.ref aP, .int x1] : List Value).toArray) below meth c H lo 0 0 (MQ below (QI D cI cB cZ A (w_Plan cI cB cZ aP aPp aPf pg ps pn pp pf) r0) (([.ref aP, .int x1] : List Value).toArray) s 0 0 A) (F0 m 4 ls []) := by
    intro n
    induction n with
    | zero => intro y1 y2 y3 hm; exact zz_nn hm
    | succ n ih =>
      intro y1 y2 y3 hm ls H lo hl hP hD hS
      replace hm := (k_X2_leavesBelow_4_s pg pn pp n y1 y2 y3).symm.trans hm
      refine lv_iload_n hx hb dX2_leavesBelow_4 rfl (lv_at hl 3 rfl) ?_
      refine lv_aload_n hx hb dX2_leavesBelow_5 rfl (lv_at hl 0 rfl) ?_
      refine va_get (D := D) (ci := 2) (v := .int pn) (C := RX2) (T := TX2) (N := 5) hx hb hts iw_X2 hown hK hP 0 rfl rfl 4 (by decide) (hts (.fieldLink RX2 26 "VarianceBridge$Plan" "nodes" "I") (by decide +kernel)) (fun _ h9 => h9) rfl dX2_leavesBelow_6 ?_
      refine lv_icmp_ge (tgt := 41) hx hb dX2_leavesBelow_9 (by decide) (fun c2 => ?_) (fun c2 => ?_)
      · have hm3 := zz_if c2 hm
        refine lv_iload_n hx hb dX2_leavesBelow_41 rfl (lv_at hl 2 rfl) ?_
        cases hm3
        exact W.iret (v := y2) hx hb hr (fun t ht hW => ⟨⟨_, (), rfl, rfl, by rw [ht]; exact hP, va_K.moved hW.alike hK, hD⟩, hS.F ht⟩) hS.2.2 dX2_leavesBelow_42
      · have hm4 := zz_nf c2 hm
        refine lv_aload_n hx hb dX2_leavesBelow_12 rfl (lv_at hl 0 rfl) ?_
        refine lv_iload_n hx hb dX2_leavesBelow_13 rfl (lv_at hl 3 rfl) ?_
        obtain ⟨r5, h5, hm5⟩ := ob1_e hm4
        refine gcall_b (ws' := (w_Plan cI cB cZ aP aPp aPf pg ps pn pp pf)) (va_runV (As := [.int y3]) (rest := []) ⟨hx, hb, hml, hown, hts⟩ (c_X2_isLeaf l D cI cB cZ ta aP aPp aPf H.size pg ps pn pp pf y3 r5 h5) (cwV 1 hts gX2_leavesBelow_X2_isLeaf rfl rfl rfl (by decide +kernel) ⟨(Nat.le_of_ble_eq_true rfl), (Nat.le_of_ble_eq_true rfl)⟩) ⟨PW_blind, va_recv hK hP rfl (q0 := 0) rfl, PW_at hP hD hK hS hA hG [0, 1, 2] rfl (by decide)⟩ rfl rfl hl.1 rfl (lv_room (Nat.le_of_ble_eq_true rfl)) dX2_leavesBelow_14 ⟨(Nat.le_of_ble_eq_true rfl), (Nat.le_of_ble_eq_true rfl)⟩) hP hD hS hA [0, 1, 2] [] [0, 1, 2] rfl rfl (by decide) (by decide) (by decide) rfl (fun H6 lo6 hz5 hP6 hD6 hS6 => ?_)
        clear hP hD hS
        refine lv_if_eq (tgt := 35) hx hb dX2_leavesBelow_17 (by decide) (fun c7 => ?_) (fun c7 => ?_)
        · have hm8 := zz_if c7 hm5
          exact hk_35 (k_X2_leavesBelow_4 pg pn pp n) ih y1 y2 y3 hm8 ls H6 lo6 (lv_sub hl [0, 1, 2, 3] rfl) hP6 hD6 hS6
        · have hm9 := zz_nf c7 hm5
          refine lv_aload_n hx hb dX2_leavesBelow_20 rfl (lv_at hl 0 rfl) ?_
          refine lv_iload_n hx hb dX2_leavesBelow_21 rfl (lv_at hl 3 rfl) ?_
          refine lv_iload_n hx hb dX2_leavesBelow_22 rfl (lv_at hl 1 rfl) ?_
          obtain ⟨r10, h10, hm10⟩ := ob1_e hm9
          refine gcall_b (ws' := (w_Plan cI cB cZ aP aPp aPf pg ps pn pp pf)) (va_runV (As := [.int y3, .int y1]) (rest := []) ⟨hx, hb, hml, hown, hts⟩ (c_X2_isWithin l D cI cB cZ ta aP aPp aPf H6.size pg ps pn pp pf y3 y1 r10 h10) (cwV 2 hts gX2_leavesBelow_X2_isWithin rfl rfl rfl (by decide +kernel) ⟨(Nat.le_of_ble_eq_true rfl), (Nat.le_of_ble_eq_true rfl)⟩) ⟨PW_blind, va_recv hK hP6 rfl (q0 := 0) rfl, PW_at hP6 hD6 hK hS6 hA hG [0, 1, 2] rfl (by decide)⟩ rfl rfl hl.1 rfl (lv_room (Nat.le_of_ble_eq_true rfl)) dX2_leavesBelow_23 ⟨(Nat.le_of_ble_eq_true rfl), (Nat.le_of_ble_eq_true rfl)⟩) hP6 hD6 hS6 hA [0, 1, 2] [] [0, 1, 2] rfl rfl (by decide) (by decide) (by decide) rfl (fun H11 lo11 hz10 hP11 hD11 hS11 => ?_)
          clear hP6 hD6 hS6
          refine lv_if_eq (tgt := 35) hx hb dX2_leavesBelow_26 (by decide) (fun c12 => ?_) (fun c12 => ?_)
          · have hm13 := zz_if c12 hm10
            exact hk_35 (k_X2_leavesBelow_4 pg pn pp n) ih y1 y2 y3 hm13 ls H11 lo11 (lv_sub hl [0, 1, 2, 3] rfl) hP11 hD11 hS11
          · have hm14 := zz_nf c12 hm10
            refine lv_iload_n hx hb dX2_leavesBelow_29 rfl (lv_at hl 2 rfl) ?_
            refine lv_iconst (v := (1 : Int32)) hx hb dX2_leavesBelow_30 (by decide) ?_
            refine lv_iload_n hx hb dX2_leavesBelow_31 rfl (lv_at hl 3 rfl) ?_
            refine lv_ishl hx hb dX2_leavesBelow_32 ?_
            refine lv_ior hx hb dX2_leavesBelow_33 ?_
            refine lv_istore_n (lv' := [(2, .int (y2 ||| ((1 : Int32) <<< (y3 &&& 31)))), (0, .ref aP), (1, .int y1), (3, .int y3)]) hx hb dX2_leavesBelow_34 rfl hl (by decide) rfl (fun ls15 hl15 => ?_)
            exact hk_35 (k_X2_leavesBelow_4 pg pn pp n) ih y1 (y2 ||| ((1 : Int32) <<< (y3 &&& 31))) y3 hm14 ls15 H11 lo11 (lv_sub hl15 [1, 2, 0, 3] rfl) hP11 hD11 hS11
  have hl := lv_entry ([.ref aP, .int x1]) (n := 4) (Nat.le_of_ble_eq_true rfl)
  rw [lg_entry_eq]
  generalize (lg_sl ([.ref aP, .int x1]) ++ List.replicate (4 - (lg_sl ([.ref aP, .int x1])).length) Slot.unset).toArray = ls at hl ⊢
  have hl : lv_has ls 4 [(0, .ref aP), (1, .int x1)] := hl
  replace hm : (k_X2_leavesBelow_4 pg pn pp FU x1 (0 : Int32) (1 : Int32)) = some r0 := hm
  refine lv_iconst (v := (0 : Int32)) hx hb dX2_leavesBelow_0 (by decide) ?_
  refine lv_istore_n (lv' := [(2, .int (0 : Int32)), (0, .ref aP), (1, .int x1)]) hx hb dX2_leavesBelow_1 rfl hl (by decide) rfl (fun ls16 hl16 => ?_)
  refine lv_iconst (v := (1 : Int32)) hx hb dX2_leavesBelow_2 (by decide) ?_
  refine lv_istore_n (lv' := [(3, .int (1 : Int32)), (2, .int (0 : Int32)), (0, .ref aP), (1, .int x1)]) hx hb dX2_leavesBelow_3 rfl hl16 (by decide) rfl (fun ls17 hl17 => ?_)
  exact hk_4 FU x1 (0 : Int32) (1 : Int32) hm ls17 s.heap [] (lv_sub hl17 [2, 3, 1, 0] rfl) hP hD hS
def m_X2_factorOf (pf : (Nat → Int32)) (x1 : Int32) (x2 : Int32) (x3 : Int32) : Option (Int32) := (if (((x2 * (100 : Int32)) + (x1 * (5 : Int32))) + x3) < 0 ∨ 400 ≤ (((x2 * (100 : Int32)) + (x1 * (5 : Int32))) + x3).toNatClampNeg then none else some (pf (((x2 * (100 : Int32)) + (x1 * (5 : Int32))) + x3).toNatClampNeg))
theorem iw_X2_factorOf_X2 : ∀ w ∈ wsX20, w ∈ wsX2_factorOf := by decide +kernel
set_option maxHeartbeats 4000000 in
set_option maxRecDepth 100000 in
theorem c_X2_factorOf (l : Launch) (D : va_G) (cI cB cZ : ClassId) (ta : Nat → Nat) (aP : Nat) (aPp : Nat) (aPf : Nat) (sz : Nat) (pg : Int32) (ps : Int32) (pn : Int32) (pp : (Nat → Int32)) (pf : (Nat → Int32)) (x1 : Int32) (x2 : Int32) (x3 : Int32) (r0 : Int32) (hm : m_X2_factorOf pf x1 x2 x3 = some r0) : Met l yX2_factorOf wsX2_factorOf ({ frames := 0, cells := 0, slots := 0, locals := 0 } : Room) (va_Pc [.ref aP, .int x1, .int x2, .int x3] (PW D cI cB cZ ta (w_Plan cI cB cZ aP aPp aPf pg ps pn pp pf) sz)) (QI D cI cB cZ (va_A (w_Plan cI cB cZ aP aPp aPf pg ps pn pp pf) sz) (w_Plan cI cB cZ aP aPp aPf pg ps pn pp pf) r0) 0 0 (va_A (w_Plan cI cB cZ aP aPp aPf pg ps pn pp pf) sz) := by
  refine Met.ofW (cc := cX2_factorOf) (maxL := 4) (ret := (some .int)) (by decide) rfl ?_
  intro p e s m args below meth c s₁ B hml hv
  obtain ⟨rfl, hsz, hP, hK, hD0, hG⟩ := hv
  have hx := B.exec
  have hb := B.bytes
  have hr := B.returns
  have hts := atoms_spec (ws := wsX2_factorOf) B.pre
  have hown : s.vm.findClass RX2 = some m.cls := findClass_of_methodNamed B.named
  have hlocks := B.notSynchronized
  subst hsz
  have hD := hD0.self (sz := s.heap.size)
  clear hD0
  have hA0 : ∀ q : Nat, s.heap.size ≤ q → va_A (w_Plan cI cB cZ aP aPp aPf pg ps pn pp pf) s.heap.size q := fun q h => Or.inr h
  generalize hAe : va_A (w_Plan cI cB cZ aP aPp aPf pg ps pn pp pf) s.heap.size = A at hD hG hA0 ⊢
  have hA : ∀ q : Nat, s.heap.size ≤ q → A q := hA0
  clear hA0
  have hS : va_S A s.heap s.heap [] := va_S.rf
  have iw_X2 := iw_X2_factorOf_X2
  have hl := lv_entry ([.ref aP, .int x1, .int x2, .int x3]) (n := 4) (Nat.le_of_ble_eq_true rfl)
  rw [lg_entry_eq]
  generalize (lg_sl ([.ref aP, .int x1, .int x2, .int x3]) ++ List.replicate (4 - (lg_sl ([.ref aP, .int x1, .int x2, .int x3])).length) Slot.unset).toArray = ls at hl ⊢
  have hl : lv_has ls 4 [(0, .ref aP), (1, .int x1), (2, .int x2), (3, .int x3)] := hl
  replace hm : (if (((x2 * (100 : Int32)) + (x1 * (5 : Int32))) + x3) < 0 ∨ 400 ≤ (((x2 * (100 : Int32)) + (x1 * (5 : Int32))) + x3).toNatClampNeg then none else some (pf (((x2 * (100 : Int32)) + (x1 * (5 : Int32))) + x3).toNatClampNeg)) = some r0 := hm
  refine lv_aload_n hx hb dX2_factorOf_0 rfl (lv_at hl 0 rfl) ?_
  refine va_get (D := D) (ci := 2) (v := .ref aPf) (C := RX2) (T := TX2) (N := 5) hx hb hts iw_X2 hown hK hP 0 rfl rfl 1 (by decide) (hts (.fieldLink RX2 15 "VarianceBridge$Plan" "factors" "[I") (by decide +kernel)) (fun _ h9 => h9) rfl dX2_factorOf_1 ?_
  refine lv_iload_n hx hb dX2_factorOf_4 rfl (lv_at hl 2 rfl) ?_
  refine lv_bipush (v := (100 : Int32)) hx hb dX2_factorOf_5 (by decide) ?_
  refine lv_imul hx hb dX2_factorOf_7 ?_
  refine lv_iload_n hx hb dX2_factorOf_8 rfl (lv_at hl 1 rfl) ?_
  refine lv_iconst (v := (5 : Int32)) hx hb dX2_factorOf_9 (by decide) ?_
  refine lv_imul hx hb dX2_factorOf_10 ?_
  refine lv_iadd hx hb dX2_factorOf_11 ?_
  refine lv_iload_n hx hb dX2_factorOf_12 rfl (lv_at hl 3 rfl) ?_
  refine lv_iadd hx hb dX2_factorOf_13 ?_
  obtain ⟨c1, hm2⟩ := zz_no hm
  refine va_iald hx hb hK hP 2 0 rfl rfl c1 dX2_factorOf_14 ?_
  cases hm2
  exact W.iret (v := (pf (((x2 * (100 : Int32)) + (x1 * (5 : Int32))) + x3).toNatClampNeg)) hx hb hr (fun t ht hW => ⟨⟨_, (), rfl, rfl, by rw [ht]; exact hP, va_K.moved hW.alike hK, hD⟩, hS.F ht⟩) hS.2.2 dX2_factorOf_15
def m_X2_putFactor (pf : (Nat → Int32)) (x1 : Int32) (x2 : Int32) (x3 : Int32) (x4 : Int32) : Option ((Nat → Int32)) := (if (((x2 * (100 : Int32)) + (x1 * (5 : Int32))) + x3) < 0 ∨ 400 ≤ (((x2 * (100 : Int32)) + (x1 * (5 : Int32))) + x3).toNatClampNeg then none else some (upd pf (((x2 * (100 : Int32)) + (x1 * (5 : Int32))) + x3).toNatClampNeg x4))
theorem iw_X2_putFactor_X2 : ∀ w ∈ wsX20, w ∈ wsX2_putFactor := by decide +kernel
set_option maxHeartbeats 4000000 in
set_option maxRecDepth 100000 in
theorem c_X2_putFactor (l : Launch) (D : va_G) (cI cB cZ : ClassId) (ta : Nat → Nat) (aP : Nat) (aPp : Nat) (aPf : Nat) (sz : Nat) (pg : Int32) (ps : Int32) (pn : Int32) (pp : (Nat → Int32)) (pf : (Nat → Int32)) (x1 : Int32) (x2 : Int32) (x3 : Int32) (x4 : Int32) (u_pf : (Nat → Int32)) (hm : m_X2_putFactor pf x1 x2 x3 x4 = some u_pf) : Met l yX2_putFactor wsX2_putFactor ({ frames := 0, cells := 0, slots := 0, locals := 0 } : Room) (va_Pc [.ref aP, .int x1, .int x2, .int x3, .int x4] (PW D cI cB cZ ta (w_Plan cI cB cZ aP aPp aPf pg ps pn pp pf) sz)) (QV D cI cB cZ (va_A (w_Plan cI cB cZ aP aPp aPf pg ps pn pp pf) sz) (w_Plan cI cB cZ aP aPp aPf pg ps pn pp u_pf)) 0 0 (va_A (w_Plan cI cB cZ aP aPp aPf pg ps pn pp pf) sz) := by
  refine Met.ofW (cc := cX2_putFactor) (maxL := 5) (ret := none) (by decide) rfl ?_
  intro p e s m args below meth c s₁ B hml hv
  obtain ⟨rfl, hsz, hP, hK, hD0, hG⟩ := hv
  have hx := B.exec
  have hb := B.bytes
  have hr := B.returns
  have hts := atoms_spec (ws := wsX2_putFactor) B.pre
  have hown : s.vm.findClass RX2 = some m.cls := findClass_of_methodNamed B.named
  have hlocks := B.notSynchronized
  subst hsz
  have hD := hD0.self (sz := s.heap.size)
  clear hD0
  have hA0 : ∀ q : Nat, s.heap.size ≤ q → va_A (w_Plan cI cB cZ aP aPp aPf pg ps pn pp pf) s.heap.size q := fun q h => Or.inr h
  generalize hAe : va_A (w_Plan cI cB cZ aP aPp aPf pg ps pn pp pf) s.heap.size = A at hD hG hA0 ⊢
  have hA : ∀ q : Nat, s.heap.size ≤ q → A q := hA0
  clear hA0
  have hS : va_S A s.heap s.heap [] := va_S.rf
  have iw_X2 := iw_X2_putFactor_X2
  have hl := lv_entry ([.ref aP, .int x1, .int x2, .int x3, .int x4]) (n := 5) (Nat.le_of_ble_eq_true rfl)
  rw [lg_entry_eq]
  generalize (lg_sl ([.ref aP, .int x1, .int x2, .int x3, .int x4]) ++ List.replicate (5 - (lg_sl ([.ref aP, .int x1, .int x2, .int x3, .int x4])).length) Slot.unset).toArray = ls at hl ⊢
  have hl : lv_has ls 5 [(0, .ref aP), (1, .int x1), (2, .int x2), (3, .int x3), (4, .int x4)] := hl
  replace hm : (if (((x2 * (100 : Int32)) + (x1 * (5 : Int32))) + x3) < 0 ∨ 400 ≤ (((x2 * (100 : Int32)) + (x1 * (5 : Int32))) + x3).toNatClampNeg then none else some (upd pf (((x2 * (100 : Int32)) + (x1 * (5 : Int32))) + x3).toNatClampNeg x4)) = some u_pf := hm
  refine lv_aload_n hx hb dX2_putFactor_0 rfl (lv_at hl 0 rfl) ?_
  refine va_get (D := D) (ci := 2) (v := .ref aPf) (C := RX2) (T := TX2) (N := 5) hx hb hts iw_X2 hown hK hP 0 rfl rfl 1 (by decide) (hts (.fieldLink RX2 15 "VarianceBridge$Plan" "factors" "[I") (by decide +kernel)) (fun _ h9 => h9) rfl dX2_putFactor_1 ?_
  refine lv_iload_n hx hb dX2_putFactor_4 rfl (lv_at hl 2 rfl) ?_
  refine lv_bipush (v := (100 : Int32)) hx hb dX2_putFactor_5 (by decide) ?_
  refine lv_imul hx hb dX2_putFactor_7 ?_
  refine lv_iload_n hx hb dX2_putFactor_8 rfl (lv_at hl 1 rfl) ?_
  refine lv_iconst (v := (5 : Int32)) hx hb dX2_putFactor_9 (by decide) ?_
  refine lv_imul hx hb dX2_putFactor_10 ?_
  refine lv_iadd hx hb dX2_putFactor_11 ?_
  refine lv_iload_n hx hb dX2_putFactor_12 rfl (lv_at hl 3 rfl) ?_
  refine lv_iadd hx hb dX2_putFactor_13 ?_
  refine lv_iload hx hb dX2_putFactor_14 (lv_at hl 4 rfl) ?_
  obtain ⟨c1, hm2⟩ := zz_no hm
  refine va_iast hx hb hK hP hD hS 2 0 rfl rfl c1 dX2_putFactor_16 (fun H3 lo3 hP3 hD3 hS3 => ?_)
  replace hP3 : va_P D vwCl (w_Plan cI cB cZ aP aPp aPf pg ps pn pp (upd pf (((x2 * (100 : Int32)) + (x1 * (5 : Int32))) + x3).toNatClampNeg x4)) H3 := hP3
  replace hD3 : va_D A (w_Plan cI cB cZ aP aPp aPf pg ps pn pp (upd pf (((x2 * (100 : Int32)) + (x1 * (5 : Int32))) + x3).toNatClampNeg x4)) := hD3
  clear hP hD hS
  cases hm2
  exact W.vret hx hb hr (fun t ht hW => ⟨⟨(), rfl, trivial, by rw [ht]; exact hP3, va_K.moved hW.alike hK, hD3⟩, hS3.F ht⟩) hS3.2.2 dX2_putFactor_17
