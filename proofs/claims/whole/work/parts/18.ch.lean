theorem iw_X6_grow_X2 : ∀ w ∈ wsX20, w ∈ wsX6_grow := by decide +kernel
theorem iw_X6_grow_X6 : ∀ w ∈ wsX60, w ∈ wsX6_grow := by decide +kernel
set_option maxHeartbeats 4000000 in
set_option maxRecDepth 100000 in
theorem c_X6_grow (l : Launch) (D : va_G) (cI cB cZ : ClassId) (ta : Nat → Nat) (aV : Nat) (aT : Nat) (aTb : Nat) (aP : Nat) (aPp : Nat) (aPf : Nat) (aD : Nat) (aDp : Nat) (aDf : Nat) (aR : Nat) (aRt : Nat) (aK : Nat) (aB : Nat) (aBb : Nat) (aBs : Nat) (aH : Nat) (aHk : Nat) (aHp : Nat) (aHb : Nat) (aHr : Nat) (sz : Nat) (tl : Int32) (tb : (Nat → Int32)) (pg : Int32) (ps : Int32) (pn : Int32) (pp : (Nat → Int32)) (pf : (Nat → Int32)) (dg : Int32) (ds : Int32) (dn : Int32) (dp : (Nat → Int32)) (df : (Nat → Int32)) (rl : Int32) (rk : Int32) (rp : Int32) (rt : (Nat → Int32)) (kp : Int32) (kb : Int32) (kk : Int32) (kn : Int32) (bb : (Nat → Int32)) (bs : (Nat → Int32)) (jl : Int32) (jn : Int32) (jk : (Nat → Int32)) (jp : (Nat → Int32)) (jb : (Nat → Int32)) (jr : (Nat → Int32)) (x1 : Int32) (r0 : Int32) (u_pn : Int32) (u_pp : (Nat → Int32)) (u_pf : (Nat → Int32)) (u_jl : Int32) (u_jn : Int32) (u_jk : (Nat → Int32)) (u_jp : (Nat → Int32)) (hm : m_X6_grow pg pn pp pf jl jn jk jp x1 = some (r0, u_pn, u_pp, u_pf, u_jl, u_jn, u_jk, u_jp)) : Met l yX6_grow wsX6_grow ({ frames := 3, cells := 0, slots := 0, locals := 63 } : Room) (va_Pc [.ref aV, .int x1] (PW D cI cB cZ ta (w_VB cI cB cZ aV aT aTb aP aPp aPf aD aDp aDf aR aRt aK aB aBb aBs aH aHk aHp aHb aHr tl tb pg ps pn pp pf dg ds dn dp df rl rk rp rt kp kb kk kn bb bs jl jn jk jp jb jr) sz)) (QI D cI cB cZ (va_A (w_VB cI cB cZ aV aT aTb aP aPp aPf aD aDp aDf aR aRt aK aB aBb aBs aH aHk aHp aHb aHr tl tb pg ps pn pp pf dg ds dn dp df rl rk rp rt kp kb kk kn bb bs jl jn jk jp jb jr) sz) (w_VB cI cB cZ aV aT aTb aP aPp aPf aD aDp aDf aR aRt aK aB aBb aBs aH aHk aHp aHb aHr tl tb pg ps u_pn u_pp u_pf dg ds dn dp df rl rk rp rt kp kb kk kn bb bs u_jl u_jn u_jk u_jp jb jr) r0) 0 0 (va_A (w_VB cI cB cZ aV aT aTb aP aPp aPf aD aDp aDf aR aRt aK aB aBb aBs aH aHk aHp aHb aHr tl tb pg ps pn pp pf dg ds dn dp df rl rk rp rt kp kb kk kn bb bs jl jn jk jp jb jr) sz) := by
  refine Met.ofW (cc := cX6_grow) (maxL := 2) (ret := (some .int)) (by decide) rfl ?_
  intro p e s m args below meth c s₁ B hml hv
  obtain ⟨rfl, hsz, hP, hK, hD0, hG⟩ := hv
  have hx := B.exec
  have hb := B.bytes
  have hr := B.returns
  have hts := atoms_spec (ws := wsX6_grow) B.pre
  have hown : s.vm.findClass RX6 = some m.cls := findClass_of_methodNamed B.named
  have hlocks := B.notSynchronized
  subst hsz
  have hD := hD0.self (sz := s.heap.size)
  clear hD0
  have hA0 : ∀ q : Nat, s.heap.size ≤ q → va_A (w_VB cI cB cZ aV aT aTb aP aPp aPf aD aDp aDf aR aRt aK aB aBb aBs aH aHk aHp aHb aHr tl tb pg ps pn pp pf dg ds dn dp df rl rk rp rt kp kb kk kn bb bs jl jn jk jp jb jr) s.heap.size q := fun q h => Or.inr h
  generalize hAe : va_A (w_VB cI cB cZ aV aT aTb aP aPp aPf aD aDp aDf aR aRt aK aB aBb aBs aH aHk aHp aHb aHr tl tb pg ps pn pp pf dg ds dn dp df rl rk rp rt kp kb kk kn bb bs jl jn jk jp jb jr) s.heap.size = A at hD hG hA0 ⊢
  have hA : ∀ q : Nat, s.heap.size ≤ q → A q := hA0
  clear hA0
  have hS : va_S A s.heap s.heap [] := va_S.rf
  have iw_X2 := iw_X6_grow_X2
  have iw_X6 := iw_X6_grow_X6
  have hl := lv_entry ([.ref aV, .int x1]) (n := 2) (Nat.le_of_ble_eq_true rfl)
  rw [lg_entry_eq]
  generalize (lg_sl ([.ref aV, .int x1]) ++ List.replicate (2 - (lg_sl ([.ref aV, .int x1])).length) Slot.unset).toArray = ls at hl ⊢
  have hl : lv_has ls 2 [(0, .ref aV), (1, .int x1)] := hl
  replace hm : (ob1 (m_X2_isGroup pg pn x1) (fun r1 => (if r1 = 0 then some ((-1 : Int32), pn, pp, pf, jl, jn, jk, jp) else (if pn < (20 : Int32) then (ob4 (m_X1_keepGrowth jl jn jk jp) (fun jl_9 jn_9 jk_9 jp_9 => (ob4 (m_X2_addLeaf pn pp pf x1) (fun r11 pn_11 pp_11 pf_11 => some (r11, pn_11, pp_11, pf_11, jl_9, jn_9, jk_9, jp_9))))) else some ((-2 : Int32), pn, pp, pf, jl, jn, jk, jp))))) = some (r0, u_pn, u_pp, u_pf, u_jl, u_jn, u_jk, u_jp) := hm
  refine lv_aload_n hx hb dX6_grow_0 rfl (lv_at hl 0 rfl) ?_
  refine va_get (D := D) (ci := 6) (v := .ref aP) (C := RX6) (T := TX6) (N := 6) hx hb hts iw_X6 hown hK hP 0 rfl rfl 1 (by decide) (hts (.fieldLink RX6 19 "VarianceBridge" "plan" "LVarianceBridge$Plan;") (by decide +kernel)) (fun _ h9 => h9) rfl dX6_grow_1 ?_
  refine lv_iload_n hx hb dX6_grow_4 rfl (lv_at hl 1 rfl) ?_
  obtain ⟨r1, h1, hm1⟩ := ob1_e hm
  refine gcall_b (ws' := (w_VB cI cB cZ aV aT aTb aP aPp aPf aD aDp aDf aR aRt aK aB aBb aBs aH aHk aHp aHb aHr tl tb pg ps pn pp pf dg ds dn dp df rl rk rp rt kp kb kk kn bb bs jl jn jk jp jb jr)) (va_runVN (As := [.int x1]) (rest := []) ⟨hx, hb, hml, hown, hts⟩ (c_X2_isGroup l D cI cB cZ ta aP aPp aPf s.heap.size pg ps pn pp pf x1 r1 h1) ⟨va_cnB 1 hts gX6_grow_X2_isGroup_n111 rfl rfl rfl (hG.1 (.methodLinkNest RX6 111 yX2_isGroup RX6) (by decide +kernel)) (hts (.initialized RX2) (by decide +kernel)) (by decide +kernel) ⟨(Nat.le_of_ble_eq_true rfl), (Nat.le_of_ble_eq_true rfl)⟩, hts (.instanceMethod yX2_isGroup) (by decide +kernel), hts (.selects RX2 yX2_isGroup yX2_isGroup) (by decide +kernel)⟩ ⟨PW_blind, va_recv hK hP rfl (q0 := 3) rfl, PW_at hP hD hK hS hA hG [3, 4, 5] rfl (by decide)⟩ rfl rfl hl.1 rfl (lv_room (Nat.le_of_ble_eq_true rfl)) dX6_grow_5 ⟨(Nat.le_of_ble_eq_true rfl), (Nat.le_of_ble_eq_true rfl)⟩) hP hD hS hA [3, 4, 5] [0, 1, 2, 6, 7, 8, 9, 10, 11, 12, 13, 14, 15, 16, 17, 18, 19] [0, 1, 2, 17, 18, 19, 3, 4, 5, 6, 7, 8, 9, 10, 11, 12, 13, 14, 15, 16] rfl rfl (by decide) (by decide) (by decide) rfl (fun H2 lo2 hz1 hP2 hD2 hS2 => ?_)
  clear hP hD hS
  refine lv_if_ne (tgt := 13) hx hb dX6_grow_8 (by decide) (fun c3 => ?_) (fun c3 => ?_)
  · have hm4 := zz_nf c3 hm1
    refine lv_aload_n hx hb dX6_grow_13 rfl (lv_at hl 0 rfl) ?_
    refine va_get (D := D) (ci := 6) (v := .ref aP) (C := RX6) (T := TX6) (N := 6) hx hb hts iw_X6 hown hK hP2 0 rfl rfl 1 (by decide) (hts (.fieldLink RX6 19 "VarianceBridge" "plan" "LVarianceBridge$Plan;") (by decide +kernel)) (fun _ h9 => h9) rfl dX6_grow_14 ?_
    refine va_getN (D := D) (ci := 2) (v := .int pn) (C := RX2) (T := TX2) (N := 5) hx hb hts iw_X2 hown hK hP2 3 rfl rfl 4 (by decide) (va_Nw.use rfl (hG.1 (.fieldLinkNest RX6 81 RX2 "nodes" "I" RX6) (by decide +kernel))) (fun _ h9 => h9) rfl dX6_grow_17 ?_
    refine lv_bipush (v := (20 : Int32)) hx hb dX6_grow_20 (by decide) ?_
    refine lv_icmp_lt (tgt := 28) hx hb dX6_grow_22 (by decide) (fun c6 => ?_) (fun c6 => ?_)
    · have hm7 := zz_if c6 hm4
      refine lv_aload_n hx hb dX6_grow_28 rfl (lv_at hl 0 rfl) ?_
      refine va_get (D := D) (ci := 6) (v := .ref aH) (C := RX6) (T := TX6) (N := 6) hx hb hts iw_X6 hown hK hP2 0 rfl rfl 5 (by decide) (hts (.fieldLink RX6 47 "VarianceBridge" "history" "LVarianceBridge$History;") (by decide +kernel)) (fun _ h9 => h9) rfl dX6_grow_29 ?_
      obtain ⟨jl_9, jn_9, jk_9, jp_9, h9, hm9⟩ := ob4_e hm7
      refine gcall_v (ws' := (w_VB cI cB cZ aV aT aTb aP aPp aPf aD aDp aDf aR aRt aK aB aBb aBs aH aHk aHp aHb aHr tl tb pg ps pn pp pf dg ds dn dp df rl rk rp rt kp kb kk kn bb bs jl_9 jn_9 jk_9 jp_9 jb jr)) (va_runVN (As := []) (rest := []) ⟨hx, hb, hml, hown, hts⟩ (c_X1_keepGrowth l D cI cB cZ ta aH aHk aHp aHb aHr aP aPp aPf H2.size jl jn jk jp jb jr pg ps pn pp pf jl_9 jn_9 jk_9 jp_9 h9) ⟨va_cnB 0 hts gX6_grow_X1_keepGrowth_n189 rfl rfl rfl (hG.1 (.methodLinkNest RX6 189 yX1_keepGrowth RX6) (by decide +kernel)) (hts (.initialized RX1) (by decide +kernel)) (by decide +kernel) ⟨(Nat.le_of_ble_eq_true rfl), (Nat.le_of_ble_eq_true rfl)⟩, hts (.instanceMethod yX1_keepGrowth) (by decide +kernel), hts (.selects RX1 yX1_keepGrowth yX1_keepGrowth) (by decide +kernel)⟩ ⟨PW_blind, va_recv hK hP2 rfl (q0 := 15) rfl, PW_at hP2 hD2 hK hS2 hA hG [15, 16, 17, 18, 19, 3, 4, 5] rfl (by decide)⟩ rfl rfl hl.1 rfl (lv_room (Nat.le_of_ble_eq_true rfl)) dX6_grow_32 ⟨(Nat.le_of_ble_eq_true rfl), (Nat.le_of_ble_eq_true rfl)⟩) hP2 hD2 hS2 hA [15, 16, 17, 18, 19, 3, 4, 5] [0, 1, 2, 6, 7, 8, 9, 10, 11, 12, 13, 14] [0, 1, 2, 17, 18, 19, 3, 4, 5, 6, 7, 8, 9, 10, 11, 12, 13, 14, 15, 16] rfl rfl (by decide) (by decide) (by decide) rfl (fun H10 lo10 hP10 hD10 hS10 => ?_)
      clear hP2 hD2 hS2
      refine lv_aload_n hx hb dX6_grow_35 rfl (lv_at hl 0 rfl) ?_
      refine va_get (D := D) (ci := 6) (v := .ref aP) (C := RX6) (T := TX6) (N := 6) hx hb hts iw_X6 hown hK hP10 0 rfl rfl 1 (by decide) (hts (.fieldLink RX6 19 "VarianceBridge" "plan" "LVarianceBridge$Plan;") (by decide +kernel)) (fun _ h9 => h9) rfl dX6_grow_36 ?_
      refine lv_iload_n hx hb dX6_grow_39 rfl (lv_at hl 1 rfl) ?_
      obtain ⟨r11, pn_11, pp_11, pf_11, h11, hm11⟩ := ob4_e hm9
      refine gcall_i (ws' := (w_VB cI cB cZ aV aT aTb aP aPp aPf aD aDp aDf aR aRt aK aB aBb aBs aH aHk aHp aHb aHr tl tb pg ps pn_11 pp_11 pf_11 dg ds dn dp df rl rk rp rt kp kb kk kn bb bs jl_9 jn_9 jk_9 jp_9 jb jr)) (va_runVN (As := [.int x1]) (rest := []) ⟨hx, hb, hml, hown, hts⟩ (c_X2_addLeaf l D cI cB cZ ta aP aPp aPf H10.size pg ps pn pp pf x1 r11 pn_11 pp_11 pf_11 h11) ⟨va_cnB 1 hts gX6_grow_X2_addLeaf_n192 rfl rfl rfl (hG.1 (.methodLinkNest RX6 192 yX2_addLeaf RX6) (by decide +kernel)) (hts (.initialized RX2) (by decide +kernel)) (by decide +kernel) ⟨(Nat.le_of_ble_eq_true rfl), (Nat.le_of_ble_eq_true rfl)⟩, hts (.instanceMethod yX2_addLeaf) (by decide +kernel), hts (.selects RX2 yX2_addLeaf yX2_addLeaf) (by decide +kernel)⟩ ⟨PW_blind, va_recv hK hP10 rfl (q0 := 3) rfl, PW_at hP10 hD10 hK hS10 hA hG [3, 4, 5] rfl (by decide)⟩ rfl rfl hl.1 rfl (lv_room (Nat.le_of_ble_eq_true rfl)) dX6_grow_40 ⟨(Nat.le_of_ble_eq_true rfl), (Nat.le_of_ble_eq_true rfl)⟩) hP10 hD10 hS10 hA [3, 4, 5] [0, 1, 2, 6, 7, 8, 9, 10, 11, 12, 13, 14, 15, 16, 17, 18, 19] [0, 1, 2, 17, 18, 19, 3, 4, 5, 6, 7, 8, 9, 10, 11, 12, 13, 14, 15, 16] rfl rfl (by decide) (by decide) (by decide) rfl (fun H12 lo12 hP12 hD12 hS12 => ?_)
      clear hP10 hD10 hS10
      obtain ⟨hq1, hq99⟩ := Prod.mk.inj (Option.some.inj hm11)
      obtain ⟨hq2, hq99⟩ := Prod.mk.inj (hq99)
      obtain ⟨hq3, hq99⟩ := Prod.mk.inj (hq99)
      obtain ⟨hq4, hq99⟩ := Prod.mk.inj (hq99)
      obtain ⟨hq5, hq99⟩ := Prod.mk.inj (hq99)
      obtain ⟨hq6, hq99⟩ := Prod.mk.inj (hq99)
      obtain ⟨hq7, hq8⟩ := Prod.mk.inj (hq99)
      subst hq1
      subst hq2
      subst hq3
      subst hq4
      subst hq5
      subst hq6
      subst hq7
      subst hq8
      exact W.iret hx hb hr (fun t ht hW => ⟨⟨_, (), rfl, rfl, by rw [ht]; exact hP12, va_K.moved hW.alike hK, hD12⟩, hS12.F ht⟩) hS12.2.2 dX6_grow_43
    · have hm8 := zz_nf c6 hm4
      refine lv_bipush (v := (-2 : Int32)) hx hb dX6_grow_25 (by decide) ?_
      obtain ⟨hq1, hq99⟩ := Prod.mk.inj (Option.some.inj hm8)
      obtain ⟨hq2, hq99⟩ := Prod.mk.inj (hq99)
      obtain ⟨hq3, hq99⟩ := Prod.mk.inj (hq99)
      obtain ⟨hq4, hq99⟩ := Prod.mk.inj (hq99)
      obtain ⟨hq5, hq99⟩ := Prod.mk.inj (hq99)
      obtain ⟨hq6, hq99⟩ := Prod.mk.inj (hq99)
      obtain ⟨hq7, hq8⟩ := Prod.mk.inj (hq99)
      subst hq1
      subst hq2
      subst hq3
      subst hq4
      subst hq5
      subst hq6
      subst hq7
      subst hq8
      exact W.iret hx hb hr (fun t ht hW => ⟨⟨_, (), rfl, rfl, by rw [ht]; exact hP2, va_K.moved hW.alike hK, hD2⟩, hS2.F ht⟩) hS2.2.2 dX6_grow_27
  · have hm5 := zz_if c3 hm1
    refine lv_iconst (v := (-1 : Int32)) hx hb dX6_grow_11 (by decide) ?_
    obtain ⟨hq1, hq99⟩ := Prod.mk.inj (Option.some.inj hm5)
    obtain ⟨hq2, hq99⟩ := Prod.mk.inj (hq99)
    obtain ⟨hq3, hq99⟩ := Prod.mk.inj (hq99)
    obtain ⟨hq4, hq99⟩ := Prod.mk.inj (hq99)
    obtain ⟨hq5, hq99⟩ := Prod.mk.inj (hq99)
    obtain ⟨hq6, hq99⟩ := Prod.mk.inj (hq99)
    obtain ⟨hq7, hq8⟩ := Prod.mk.inj (hq99)
    subst hq1
    subst hq2
    subst hq3
    subst hq4
    subst hq5
    subst hq6
    subst hq7
    subst hq8
    exact W.iret hx hb hr (fun t ht hW => ⟨⟨_, (), rfl, rfl, by rw [ht]; exact hP2, va_K.moved hW.alike hK, hD2⟩, hS2.F ht⟩) hS2.2.2 dX6_grow_12
theorem iw_X6_undo_X1 : ∀ w ∈ wsX10, w ∈ wsX6_undo := by decide +kernel
theorem iw_X6_undo_X6 : ∀ w ∈ wsX60, w ∈ wsX6_undo := by decide +kernel
set_option maxHeartbeats 4000000 in
set_option maxRecDepth 100000 in
theorem c_X6_undo (l : Launch) (D : va_G) (cI cB cZ : ClassId) (ta : Nat → Nat) (aV : Nat) (aT : Nat) (aTb : Nat) (aP : Nat) (aPp : Nat) (aPf : Nat) (aD : Nat) (aDp : Nat) (aDf : Nat) (aR : Nat) (aRt : Nat) (aK : Nat) (aB : Nat) (aBb : Nat) (aBs : Nat) (aH : Nat) (aHk : Nat) (aHp : Nat) (aHb : Nat) (aHr : Nat) (sz : Nat) (tl : Int32) (tb : (Nat → Int32)) (pg : Int32) (ps : Int32) (pn : Int32) (pp : (Nat → Int32)) (pf : (Nat → Int32)) (dg : Int32) (ds : Int32) (dn : Int32) (dp : (Nat → Int32)) (df : (Nat → Int32)) (rl : Int32) (rk : Int32) (rp : Int32) (rt : (Nat → Int32)) (kp : Int32) (kb : Int32) (kk : Int32) (kn : Int32) (bb : (Nat → Int32)) (bs : (Nat → Int32)) (jl : Int32) (jn : Int32) (jk : (Nat → Int32)) (jp : (Nat → Int32)) (jb : (Nat → Int32)) (jr : (Nat → Int32)) (r0 : Int32) (u_pn : Int32) (u_pp : (Nat → Int32)) (u_pf : (Nat → Int32)) (u_jl : Int32) (u_jn : Int32) (hm : m_X6_undo pn pp pf jl jn jk jp jb jr = some (r0, u_pn, u_pp, u_pf, u_jl, u_jn)) : Met l yX6_undo wsX6_undo ({ frames := 2, cells := 0, slots := 0, locals := 69 } : Room) (va_Pc [.ref aV] (PW D cI cB cZ ta (w_VB cI cB cZ aV aT aTb aP aPp aPf aD aDp aDf aR aRt aK aB aBb aBs aH aHk aHp aHb aHr tl tb pg ps pn pp pf dg ds dn dp df rl rk rp rt kp kb kk kn bb bs jl jn jk jp jb jr) sz)) (QI D cI cB cZ (va_A (w_VB cI cB cZ aV aT aTb aP aPp aPf aD aDp aDf aR aRt aK aB aBb aBs aH aHk aHp aHb aHr tl tb pg ps pn pp pf dg ds dn dp df rl rk rp rt kp kb kk kn bb bs jl jn jk jp jb jr) sz) (w_VB cI cB cZ aV aT aTb aP aPp aPf aD aDp aDf aR aRt aK aB aBb aBs aH aHk aHp aHb aHr tl tb pg ps u_pn u_pp u_pf dg ds dn dp df rl rk rp rt kp kb kk kn bb bs u_jl u_jn jk jp jb jr) r0) 0 0 (va_A (w_VB cI cB cZ aV aT aTb aP aPp aPf aD aDp aDf aR aRt aK aB aBb aBs aH aHk aHp aHb aHr tl tb pg ps pn pp pf dg ds dn dp df rl rk rp rt kp kb kk kn bb bs jl jn jk jp jb jr) sz) := by
  refine Met.ofW (cc := cX6_undo) (maxL := 1) (ret := (some .int)) (by decide) rfl ?_
  intro p e s m args below meth c s₁ B hml hv
  obtain ⟨rfl, hsz, hP, hK, hD0, hG⟩ := hv
  have hx := B.exec
  have hb := B.bytes
  have hr := B.returns
  have hts := atoms_spec (ws := wsX6_undo) B.pre
  have hown : s.vm.findClass RX6 = some m.cls := findClass_of_methodNamed B.named
  have hlocks := B.notSynchronized
  subst hsz
  have hD := hD0.self (sz := s.heap.size)
  clear hD0
  have hA0 : ∀ q : Nat, s.heap.size ≤ q → va_A (w_VB cI cB cZ aV aT aTb aP aPp aPf aD aDp aDf aR aRt aK aB aBb aBs aH aHk aHp aHb aHr tl tb pg ps pn pp pf dg ds dn dp df rl rk rp rt kp kb kk kn bb bs jl jn jk jp jb jr) s.heap.size q := fun q h => Or.inr h
  generalize hAe : va_A (w_VB cI cB cZ aV aT aTb aP aPp aPf aD aDp aDf aR aRt aK aB aBb aBs aH aHk aHp aHb aHr tl tb pg ps pn pp pf dg ds dn dp df rl rk rp rt kp kb kk kn bb bs jl jn jk jp jb jr) s.heap.size = A at hD hG hA0 ⊢
  have hA : ∀ q : Nat, s.heap.size ≤ q → A q := hA0
  clear hA0
  have hS : va_S A s.heap s.heap [] := va_S.rf
  have iw_X1 := iw_X6_undo_X1
  have iw_X6 := iw_X6_undo_X6
  have hl := lv_entry ([.ref aV]) (n := 1) (Nat.le_of_ble_eq_true rfl)
  rw [lg_entry_eq]
  generalize (lg_sl ([.ref aV]) ++ List.replicate (1 - (lg_sl ([.ref aV])).length) Slot.unset).toArray = ls at hl ⊢
  have hl : lv_has ls 1 [(0, .ref aV)] := hl
  replace hm : (if jn = 0 then some ((-1 : Int32), pn, pp, pf, jl, jn) else (ob5 (m_X1_takeBack jl jn jk jp jb jr pn pp pf) (fun jl_4 jn_4 pn_4 pp_4 pf_4 => some (jn_4, pn_4, pp_4, pf_4, jl_4, jn_4)))) = some (r0, u_pn, u_pp, u_pf, u_jl, u_jn) := hm
  refine lv_aload_n hx hb dX6_undo_0 rfl (lv_at hl 0 rfl) ?_
  refine va_get (D := D) (ci := 6) (v := .ref aH) (C := RX6) (T := TX6) (N := 6) hx hb hts iw_X6 hown hK hP 0 rfl rfl 5 (by decide) (hts (.fieldLink RX6 47 "VarianceBridge" "history" "LVarianceBridge$History;") (by decide +kernel)) (fun _ h9 => h9) rfl dX6_undo_1 ?_
  refine va_getN (D := D) (ci := 1) (v := .int jn) (C := RX1) (T := TX1) (N := 7) hx hb hts iw_X1 hown hK hP 15 rfl rfl 6 (by decide) (va_Nw.use rfl (hG.1 (.fieldLinkNest RX6 93 RX1 "kept" "I" RX6) (by decide +kernel))) (fun _ h9 => h9) rfl dX6_undo_4 ?_
  refine lv_if_ne (tgt := 12) hx hb dX6_undo_7 (by decide) (fun c1 => ?_) (fun c1 => ?_)
  · have hm2 := zz_nf c1 hm
    refine lv_aload_n hx hb dX6_undo_12 rfl (lv_at hl 0 rfl) ?_
    refine va_get (D := D) (ci := 6) (v := .ref aH) (C := RX6) (T := TX6) (N := 6) hx hb hts iw_X6 hown hK hP 0 rfl rfl 5 (by decide) (hts (.fieldLink RX6 47 "VarianceBridge" "history" "LVarianceBridge$History;") (by decide +kernel)) (fun _ h9 => h9) rfl dX6_undo_13 ?_
    obtain ⟨jl_4, jn_4, pn_4, pp_4, pf_4, h4, hm4⟩ := ob5_e hm2
    refine gcall_v (ws' := (w_VB cI cB cZ aV aT aTb aP aPp aPf aD aDp aDf aR aRt aK aB aBb aBs aH aHk aHp aHb aHr tl tb pg ps pn_4 pp_4 pf_4 dg ds dn dp df rl rk rp rt kp kb kk kn bb bs jl_4 jn_4 jk jp jb jr)) (va_runVN (As := []) (rest := []) ⟨hx, hb, hml, hown, hts⟩ (c_X1_takeBack l D cI cB cZ ta aH aHk aHp aHb aHr aP aPp aPf s.heap.size jl jn jk jp jb jr pg ps pn pp pf jl_4 jn_4 pn_4 pp_4 pf_4 h4) ⟨va_cnB 0 hts gX6_undo_X1_takeBack_n195 rfl rfl rfl (hG.1 (.methodLinkNest RX6 195 yX1_takeBack RX6) (by decide +kernel)) (hts (.initialized RX1) (by decide +kernel)) (by decide +kernel) ⟨(Nat.le_of_ble_eq_true rfl), (Nat.le_of_ble_eq_true rfl)⟩, hts (.instanceMethod yX1_takeBack) (by decide +kernel), hts (.selects RX1 yX1_takeBack yX1_takeBack) (by decide +kernel)⟩ ⟨PW_blind, va_recv hK hP rfl (q0 := 15) rfl, PW_at hP hD hK hS hA hG [15, 16, 17, 18, 19, 3, 4, 5] rfl (by decide)⟩ rfl rfl hl.1 rfl (lv_room (Nat.le_of_ble_eq_true rfl)) dX6_undo_16 ⟨(Nat.le_of_ble_eq_true rfl), (Nat.le_of_ble_eq_true rfl)⟩) hP hD hS hA [15, 16, 17, 18, 19, 3, 4, 5] [0, 1, 2, 6, 7, 8, 9, 10, 11, 12, 13, 14] [0, 1, 2, 17, 18, 19, 3, 4, 5, 6, 7, 8, 9, 10, 11, 12, 13, 14, 15, 16] rfl rfl (by decide) (by decide) (by decide) rfl (fun H5 lo5 hP5 hD5 hS5 => ?_)
    clear hP hD hS
    refine lv_aload_n hx hb dX6_undo_19 rfl (lv_at hl 0 rfl) ?_
    refine va_get (D := D) (ci := 6) (v := .ref aH) (C := RX6) (T := TX6) (N := 6) hx hb hts iw_X6 hown hK hP5 0 rfl rfl 5 (by decide) (hts (.fieldLink RX6 47 "VarianceBridge" "history" "LVarianceBridge$History;") (by decide +kernel)) (fun _ h9 => h9) rfl dX6_undo_20 ?_
    refine va_getN (D := D) (ci := 1) (v := .int jn_4) (C := RX1) (T := TX1) (N := 7) hx hb hts iw_X1 hown hK hP5 15 rfl rfl 6 (by decide) (va_Nw.use rfl (hG.1 (.fieldLinkNest RX6 93 RX1 "kept" "I" RX6) (by decide +kernel))) (fun _ h9 => h9) rfl dX6_undo_23 ?_
    obtain ⟨hq1, hq99⟩ := Prod.mk.inj (Option.some.inj hm4)
    obtain ⟨hq2, hq99⟩ := Prod.mk.inj (hq99)
    obtain ⟨hq3, hq99⟩ := Prod.mk.inj (hq99)
    obtain ⟨hq4, hq99⟩ := Prod.mk.inj (hq99)
    obtain ⟨hq5, hq6⟩ := Prod.mk.inj (hq99)
    subst hq1
    subst hq2
    subst hq3
    subst hq4
    subst hq5
    subst hq6
    exact W.iret hx hb hr (fun t ht hW => ⟨⟨_, (), rfl, rfl, by rw [ht]; exact hP5, va_K.moved hW.alike hK, hD5⟩, hS5.F ht⟩) hS5.2.2 dX6_undo_26
  · have hm3 := zz_if c1 hm
    refine lv_iconst (v := (-1 : Int32)) hx hb dX6_undo_10 (by decide) ?_
    obtain ⟨hq1, hq99⟩ := Prod.mk.inj (Option.some.inj hm3)
    obtain ⟨hq2, hq99⟩ := Prod.mk.inj (hq99)
    obtain ⟨hq3, hq99⟩ := Prod.mk.inj (hq99)
    obtain ⟨hq4, hq99⟩ := Prod.mk.inj (hq99)
    obtain ⟨hq5, hq6⟩ := Prod.mk.inj (hq99)
    subst hq1
    subst hq2
    subst hq3
    subst hq4
    subst hq5
    subst hq6
    exact W.iret hx hb hr (fun t ht hW => ⟨⟨_, (), rfl, rfl, by rw [ht]; exact hP, va_K.moved hW.alike hK, hD⟩, hS.F ht⟩) hS.2.2 dX6_undo_11
theorem iw_X7_thrown_X7 : ∀ w ∈ wsX70, w ∈ wsX7_thrown := by decide +kernel
set_option maxHeartbeats 4000000 in
set_option maxRecDepth 100000 in
theorem c_X7_thrown (l : Launch) (D : va_G) (cI cB cZ : ClassId) (ta : Nat → Nat) (aM : Nat) (aMt : Nat) (aMn : Nat) (aMr : Nat) (aMs : Nat) (aMi : Nat) (sz : Nat) (mth : Int32) (mtd : Int32) (msz : Int32) (mto : Int32) (mfr : Int32) (mso : Int32) (mnu : Int32) (mfa : Int32) (mpl : Int32) (mwo : Int64) (msm : Int32) (mgo : Int32) (mt : (Nat → Int32)) (mno : (Nat → Int32)) (mre : (Nat → Int32)) (msn : (Nat → Int32)) (mis : (Nat → Int32)) (r0 : Int32) (hm : m_X7_thrown mth = some r0) : Met l yX7_thrown wsX7_thrown ({ frames := 0, cells := 0, slots := 0, locals := 0 } : Room) (va_Pc [.ref aM] (PW D cI cB cZ ta (w_Model cI cB cZ aM aMt aMn aMr aMs aMi mth mtd msz mto mfr mso mnu mfa mpl mwo msm mgo mt mno mre msn mis) sz)) (QI D cI cB cZ (va_A (w_Model cI cB cZ aM aMt aMn aMr aMs aMi mth mtd msz mto mfr mso mnu mfa mpl mwo msm mgo mt mno mre msn mis) sz) (w_Model cI cB cZ aM aMt aMn aMr aMs aMi mth mtd msz mto mfr mso mnu mfa mpl mwo msm mgo mt mno mre msn mis) r0) 0 0 (va_A (w_Model cI cB cZ aM aMt aMn aMr aMs aMi mth mtd msz mto mfr mso mnu mfa mpl mwo msm mgo mt mno mre msn mis) sz) := by
  refine Met.ofW (cc := cX7_thrown) (maxL := 1) (ret := (some .int)) (by decide) rfl ?_
  intro p e s m args below meth c s₁ B hml hv
  obtain ⟨rfl, hsz, hP, hK, hD0, hG⟩ := hv
  have hx := B.exec
  have hb := B.bytes
  have hr := B.returns
  have hts := atoms_spec (ws := wsX7_thrown) B.pre
  have hown : s.vm.findClass RX7 = some m.cls := findClass_of_methodNamed B.named
  have hlocks := B.notSynchronized
  subst hsz
  have hD := hD0.self (sz := s.heap.size)
  clear hD0
  have hA0 : ∀ q : Nat, s.heap.size ≤ q → va_A (w_Model cI cB cZ aM aMt aMn aMr aMs aMi mth mtd msz mto mfr mso mnu mfa mpl mwo msm mgo mt mno mre msn mis) s.heap.size q := fun q h => Or.inr h
  generalize hAe : va_A (w_Model cI cB cZ aM aMt aMn aMr aMs aMi mth mtd msz mto mfr mso mnu mfa mpl mwo msm mgo mt mno mre msn mis) s.heap.size = A at hD hG hA0 ⊢
  have hA : ∀ q : Nat, s.heap.size ≤ q → A q := hA0
  clear hA0
  have hS : va_S A s.heap s.heap [] := va_S.rf
  have iw_X7 := iw_X7_thrown_X7
  have hl := lv_entry ([.ref aM]) (n := 1) (Nat.le_of_ble_eq_true rfl)
  rw [lg_entry_eq]
  generalize (lg_sl ([.ref aM]) ++ List.replicate (1 - (lg_sl ([.ref aM])).length) Slot.unset).toArray = ls at hl ⊢
  have hl : lv_has ls 1 [(0, .ref aM)] := hl
  replace hm : some mth = some r0 := hm
  refine lv_aload_n hx hb dX7_thrown_0 rfl (lv_at hl 0 rfl) ?_
  refine va_get (D := D) (ci := 7) (v := .int mth) (C := RX7) (T := TX7) (N := 17) hx hb hts iw_X7 hown hK hP 0 rfl rfl 0 (by decide) (hts (.fieldLink RX7 1 "VarianceBridgeModel" "thrown" "I") (by decide +kernel)) (fun _ h9 => h9) rfl dX7_thrown_1 ?_
  have hq1 := Option.some.inj hm
  subst hq1
  exact W.iret hx hb hr (fun t ht hW => ⟨⟨_, (), rfl, rfl, by rw [ht]; exact hP, va_K.moved hW.alike hK, hD⟩, hS.F ht⟩) hS.2.2 dX7_thrown_4
theorem iw_X7_refuse_X7 : ∀ w ∈ wsX70, w ∈ wsX7_refuse := by decide +kernel
set_option maxHeartbeats 4000000 in
set_option maxRecDepth 100000 in
theorem c_X7_refuse (l : Launch) (D : va_G) (cI cB cZ : ClassId) (ta : Nat → Nat) (aM : Nat) (aMt : Nat) (aMn : Nat) (aMr : Nat) (aMs : Nat) (aMi : Nat) (sz : Nat) (mth : Int32) (mtd : Int32) (msz : Int32) (mto : Int32) (mfr : Int32) (mso : Int32) (mnu : Int32) (mfa : Int32) (mpl : Int32) (mwo : Int64) (msm : Int32) (mgo : Int32) (mt : (Nat → Int32)) (mno : (Nat → Int32)) (mre : (Nat → Int32)) (msn : (Nat → Int32)) (mis : (Nat → Int32)) (r0 : Int32) (u_mth : Int32) (hm : m_X7_refuse mth = some (r0, u_mth)) : Met l yX7_refuse wsX7_refuse ({ frames := 0, cells := 0, slots := 0, locals := 0 } : Room) (va_Pc [.ref aM] (PW D cI cB cZ ta (w_Model cI cB cZ aM aMt aMn aMr aMs aMi mth mtd msz mto mfr mso mnu mfa mpl mwo msm mgo mt mno mre msn mis) sz)) (QI D cI cB cZ (va_A (w_Model cI cB cZ aM aMt aMn aMr aMs aMi mth mtd msz mto mfr mso mnu mfa mpl mwo msm mgo mt mno mre msn mis) sz) (w_Model cI cB cZ aM aMt aMn aMr aMs aMi u_mth mtd msz mto mfr mso mnu mfa mpl mwo msm mgo mt mno mre msn mis) r0) 0 0 (va_A (w_Model cI cB cZ aM aMt aMn aMr aMs aMi mth mtd msz mto mfr mso mnu mfa mpl mwo msm mgo mt mno mre msn mis) sz) := by
  refine Met.ofW (cc := cX7_refuse) (maxL := 1) (ret := (some .int)) (by decide) rfl ?_
  intro p e s m args below meth c s₁ B hml hv
  obtain ⟨rfl, hsz, hP, hK, hD0, hG⟩ := hv
  have hx := B.exec
  have hb := B.bytes
  have hr := B.returns
  have hts := atoms_spec (ws := wsX7_refuse) B.pre
  have hown : s.vm.findClass RX7 = some m.cls := findClass_of_methodNamed B.named
  have hlocks := B.notSynchronized
  subst hsz
  have hD := hD0.self (sz := s.heap.size)
  clear hD0
  have hA0 : ∀ q : Nat, s.heap.size ≤ q → va_A (w_Model cI cB cZ aM aMt aMn aMr aMs aMi mth mtd msz mto mfr mso mnu mfa mpl mwo msm mgo mt mno mre msn mis) s.heap.size q := fun q h => Or.inr h
  generalize hAe : va_A (w_Model cI cB cZ aM aMt aMn aMr aMs aMi mth mtd msz mto mfr mso mnu mfa mpl mwo msm mgo mt mno mre msn mis) s.heap.size = A at hD hG hA0 ⊢
  have hA : ∀ q : Nat, s.heap.size ≤ q → A q := hA0
  clear hA0
  have hS : va_S A s.heap s.heap [] := va_S.rf
  have iw_X7 := iw_X7_refuse_X7
  have hl := lv_entry ([.ref aM]) (n := 1) (Nat.le_of_ble_eq_true rfl)
  rw [lg_entry_eq]
  generalize (lg_sl ([.ref aM]) ++ List.replicate (1 - (lg_sl ([.ref aM])).length) Slot.unset).toArray = ls at hl ⊢
  have hl : lv_has ls 1 [(0, .ref aM)] := hl
  replace hm : some ((0 : Int32), (1 : Int32)) = some (r0, u_mth) := hm
  refine lv_aload_n hx hb dX7_refuse_0 rfl (lv_at hl 0 rfl) ?_
  refine lv_iconst (v := (1 : Int32)) hx hb dX7_refuse_1 (by decide) ?_
  refine va_put (D := D) (ci := 7) (v := .int (1 : Int32)) (ty := .int) (C := RX7) (T := TX7) (N := 17) hx hb hts iw_X7 tyX7 tyX7_ok nmX7 hown hK hP hD hS 0 rfl rfl 0 (by decide) (hts (.fieldLink RX7 1 "VarianceBridgeModel" "thrown" "I") (by decide +kernel)) (fun _ h9 => h9) rfl (by decide +kernel) rfl rfl (Nat.le_of_ble_eq_true rfl) dX7_refuse_2 (fun H1 lo1 hP1 hD1 hS1 => ?_)
  replace hP1 : va_P D vwCl (w_Model cI cB cZ aM aMt aMn aMr aMs aMi (1 : Int32) mtd msz mto mfr mso mnu mfa mpl mwo msm mgo mt mno mre msn mis) H1 := hP1
  replace hD1 : va_D A (w_Model cI cB cZ aM aMt aMn aMr aMs aMi (1 : Int32) mtd msz mto mfr mso mnu mfa mpl mwo msm mgo mt mno mre msn mis) := hD1
  clear hP hD hS
  refine lv_iconst (v := (0 : Int32)) hx hb dX7_refuse_5 (by decide) ?_
  obtain ⟨hq1, hq2⟩ := Prod.mk.inj (Option.some.inj hm)
  subst hq1
  subst hq2
  exact W.iret hx hb hr (fun t ht hW => ⟨⟨_, (), rfl, rfl, by rw [ht]; exact hP1, va_K.moved hW.alike hK, hD1⟩, hS1.F ht⟩) hS1.2.2 dX7_refuse_6
set_option maxHeartbeats 4000000 in
set_option maxRecDepth 100000 in
theorem c_X7_isIn (l : Launch) (D : va_G) (cI cB cZ : ClassId) (ta : Nat → Nat) (sz : Nat) (x1 : Int32) (x2 : Int32) (x3 : Int32) (r0 : Int32) (hm : m_X7_isIn x1 x2 x3 = some r0) : Met l yX7_isIn wsX7_isIn ({ frames := 0, cells := 0, slots := 0, locals := 0 } : Room) (va_Pc [.int x1, .int x2, .int x3] (PW D cI cB cZ ta (w_none cI cB cZ) sz)) (QZ .boolean D cI cB cZ (va_A (w_none cI cB cZ) sz) (w_none cI cB cZ) r0) 0 0 (va_A (w_none cI cB cZ) sz) := by
  refine Met.ofW (cc := cX7_isIn) (maxL := 3) (ret := (some .boolean)) (by decide) rfl ?_
  intro p e s m args below meth c s₁ B hml hv
  obtain ⟨rfl, hsz, hP, hK, hD0, hG⟩ := hv
  have hx := B.exec
  have hb := B.bytes
  have hr := B.returns
  have hts := atoms_spec (ws := wsX7_isIn) B.pre
  have hown : s.vm.findClass RX7 = some m.cls := findClass_of_methodNamed B.named
  have hlocks := B.notSynchronized
  subst hsz
  have hD := hD0.self (sz := s.heap.size)
  clear hD0
  have hA0 : ∀ q : Nat, s.heap.size ≤ q → va_A (w_none cI cB cZ) s.heap.size q := fun q h => Or.inr h
  generalize hAe : va_A (w_none cI cB cZ) s.heap.size = A at hD hG hA0 ⊢
  have hA : ∀ q : Nat, s.heap.size ≤ q → A q := hA0
  clear hA0
  have hS : va_S A s.heap s.heap [] := va_S.rf
  have hl := lv_entry ([.int x1, .int x2, .int x3]) (n := 3) (Nat.le_of_ble_eq_true rfl)
  rw [lg_entry_eq]
  generalize (lg_sl ([.int x1, .int x2, .int x3]) ++ List.replicate (3 - (lg_sl ([.int x1, .int x2, .int x3])).length) Slot.unset).toArray = ls at hl ⊢
  have hl : lv_has ls 3 [(0, .int x1), (1, .int x2), (2, .int x3)] := hl
  replace hm : (if x1 < x2 then some (0 : Int32) else (if x3 < x1 then some (0 : Int32) else some (1 : Int32))) = some r0 := hm
  refine lv_iload_n hx hb dX7_isIn_0 rfl (lv_at hl 0 rfl) ?_
  refine lv_iload_n hx hb dX7_isIn_1 rfl (lv_at hl 1 rfl) ?_
  refine lv_icmp_lt (tgt := 14) hx hb dX7_isIn_2 (by decide) (fun c1 => ?_) (fun c1 => ?_)
  · have hm2 := zz_if c1 hm
    refine lv_iconst (v := (0 : Int32)) hx hb dX7_isIn_14 (by decide) ?_
    have hq1 := Option.some.inj hm2
    subst hq1
    exact W.zret (ty := .boolean) hx hb hr (by decide) (fun t ht hW => ⟨⟨_, (), rfl, ⟨rfl, (by decide)⟩, by rw [ht]; exact hP, va_K.moved hW.alike hK, hD⟩, hS.F ht⟩) hS.2.2 dX7_isIn_15
  · have hm3 := zz_nf c1 hm
    refine lv_iload_n hx hb dX7_isIn_5 rfl (lv_at hl 0 rfl) ?_
    refine lv_iload_n hx hb dX7_isIn_6 rfl (lv_at hl 2 rfl) ?_
    refine lv_icmp_gt (tgt := 14) hx hb dX7_isIn_7 (by decide) (fun c4 => ?_) (fun c4 => ?_)
    · have hm5 := zz_if c4 hm3
      refine lv_iconst (v := (0 : Int32)) hx hb dX7_isIn_14 (by decide) ?_
      have hq1 := Option.some.inj hm5
      subst hq1
      exact W.zret (ty := .boolean) hx hb hr (by decide) (fun t ht hW => ⟨⟨_, (), rfl, ⟨rfl, (by decide)⟩, by rw [ht]; exact hP, va_K.moved hW.alike hK, hD⟩, hS.F ht⟩) hS.2.2 dX7_isIn_15
    · have hm6 := zz_nf c4 hm3
      refine lv_iconst (v := (1 : Int32)) hx hb dX7_isIn_10 (by decide) ?_
      refine lv_goto (tgt := 15) hx hb dX7_isIn_11 (by decide) ?_
      have hq1 := Option.some.inj hm6
      subst hq1
      exact W.zret (ty := .boolean) hx hb hr (by decide) (fun t ht hW => ⟨⟨_, (), rfl, ⟨rfl, (by decide)⟩, by rw [ht]; exact hP, va_K.moved hW.alike hK, hD⟩, hS.F ht⟩) hS.2.2 dX7_isIn_15
theorem iw_X7_lays_X7 : ∀ w ∈ wsX70, w ∈ wsX7_lays := by decide +kernel
set_option maxHeartbeats 4000000 in
set_option maxRecDepth 100000 in
theorem c_X7_lays (l : Launch) (D : va_G) (cI cB cZ : ClassId) (ta : Nat → Nat) (aM : Nat) (aMt : Nat) (aMn : Nat) (aMr : Nat) (aMs : Nat) (aMi : Nat) (sz : Nat) (mth : Int32) (mtd : Int32) (msz : Int32) (mto : Int32) (mfr : Int32) (mso : Int32) (mnu : Int32) (mfa : Int32) (mpl : Int32) (mwo : Int64) (msm : Int32) (mgo : Int32) (mt : (Nat → Int32)) (mno : (Nat → Int32)) (mre : (Nat → Int32)) (msn : (Nat → Int32)) (mis : (Nat → Int32)) (x1 : Int32) (u_mtd : Int32) (u_mt : (Nat → Int32)) (hm : m_X7_lays mtd mt x1 = some (u_mtd, u_mt)) : Met l yX7_lays wsX7_lays ({ frames := 0, cells := 0, slots := 0, locals := 0 } : Room) (va_Pc [.ref aM, .int x1] (PW D cI cB cZ ta (w_Model cI cB cZ aM aMt aMn aMr aMs aMi mth mtd msz mto mfr mso mnu mfa mpl mwo msm mgo mt mno mre msn mis) sz)) (QV D cI cB cZ (va_A (w_Model cI cB cZ aM aMt aMn aMr aMs aMi mth mtd msz mto mfr mso mnu mfa mpl mwo msm mgo mt mno mre msn mis) sz) (w_Model cI cB cZ aM aMt aMn aMr aMs aMi mth u_mtd msz mto mfr mso mnu mfa mpl mwo msm mgo u_mt mno mre msn mis)) 0 0 (va_A (w_Model cI cB cZ aM aMt aMn aMr aMs aMi mth mtd msz mto mfr mso mnu mfa mpl mwo msm mgo mt mno mre msn mis) sz) := by
  refine Met.ofW (cc := cX7_lays) (maxL := 3) (ret := none) (by decide) rfl ?_
  intro p e s m args below meth c s₁ B hml hv
  obtain ⟨rfl, hsz, hP, hK, hD0, hG⟩ := hv
  have hx := B.exec
  have hb := B.bytes
  have hr := B.returns
  have hts := atoms_spec (ws := wsX7_lays) B.pre
  have hown : s.vm.findClass RX7 = some m.cls := findClass_of_methodNamed B.named
  have hlocks := B.notSynchronized
  subst hsz
  have hD := hD0.self (sz := s.heap.size)
  clear hD0
  have hA0 : ∀ q : Nat, s.heap.size ≤ q → va_A (w_Model cI cB cZ aM aMt aMn aMr aMs aMi mth mtd msz mto mfr mso mnu mfa mpl mwo msm mgo mt mno mre msn mis) s.heap.size q := fun q h => Or.inr h
  generalize hAe : va_A (w_Model cI cB cZ aM aMt aMn aMr aMs aMi mth mtd msz mto mfr mso mnu mfa mpl mwo msm mgo mt mno mre msn mis) s.heap.size = A at hD hG hA0 ⊢
  have hA : ∀ q : Nat, s.heap.size ≤ q → A q := hA0
  clear hA0
  have hS : va_S A s.heap s.heap [] := va_S.rf
  have iw_X7 := iw_X7_lays_X7
  have hk_3 : ∀ (n : Nat) (mtd : Int32) (mt : (Nat → Int32)) (y1 : Int32) (y2 : Int32), k_X7_lays_3 n mtd mt y1 y2 = some (u_mtd, u_mt) → ∀ (ls : Array Slot) (H : Heap) (lo : List Loc), lv_has ls 3 [(0, .ref aM), (1, .int y1), (2, .int y2)] → va_P D vwCl (w_Model cI cB cZ aM aMt aMn aMr aMs aMi mth mtd msz mto mfr mso mnu mfa mpl mwo msm mgo mt mno mre msn mis) H → va_D A (w_Model cI cB cZ aM aMt aMn aMr aMs aMi mth mtd msz mto mfr mso mnu mfa mpl mwo msm mgo mt mno mre msn mis) → va_S A s.heap H lo → W p l e (headSpec wsX7_lays ({ frames := 0, cells := 0, slots := 0, locals := 0 } : Room)).room s m (([.ref aM, .int x1] : List Value).toArray) below meth c H lo 0 0 (MQ below (QV D cI cB cZ A (w_Model cI cB cZ aM aMt aMn aMr aMs aMi mth u_mtd msz mto mfr mso mnu mfa mpl mwo msm mgo u_mt mno mre msn mis)) (([.ref aM, .int x1] : List Value).toArray) s 0 0 A) (F0 m 3 ls []) := by
    intro n
    induction n with
    | zero => intro mtd mt y1 y2 hm; exact zz_nn hm
    | succ n ih =>
      intro mtd mt y1 y2 hm ls H lo hl hP hD hS
      replace hm := (k_X7_lays_3_s n mtd mt y1 y2).symm.trans hm
      refine lv_iload_n hx hb dX7_lays_3 rfl (lv_at hl 2 rfl) ?_
      refine lv_if_lt (tgt := 39) hx hb dX7_lays_4 (by decide) (fun c1 => ?_) (fun c1 => ?_)
      · have hm2 := zz_if c1 hm
        obtain ⟨hq1, hq2⟩ := Prod.mk.inj (Option.some.inj hm2)
        subst hq1
        subst hq2
        exact W.vret hx hb hr (fun t ht hW => ⟨⟨(), rfl, trivial, by rw [ht]; exact hP, va_K.moved hW.alike hK, hD⟩, hS.F ht⟩) hS.2.2 dX7_lays_39
      · have hm3 := zz_nf c1 hm
        refine lv_aload_n hx hb dX7_lays_7 rfl (lv_at hl 0 rfl) ?_
        refine va_get (D := D) (ci := 7) (v := .ref aMt) (C := RX7) (T := TX7) (N := 17) hx hb hts iw_X7 hown hK hP 0 rfl rfl 1 (by decide) (hts (.fieldLink RX7 7 "VarianceBridgeModel" "tape" "[I") (by decide +kernel)) (fun _ h9 => h9) rfl dX7_lays_8 ?_
        refine lv_aload_n hx hb dX7_lays_11 rfl (lv_at hl 0 rfl) ?_
        refine va_get (D := D) (ci := 7) (v := .int mtd) (C := RX7) (T := TX7) (N := 17) hx hb hts iw_X7 hown hK hP 0 rfl rfl 2 (by decide) (hts (.fieldLink RX7 11 "VarianceBridgeModel" "taped" "I") (by decide +kernel)) (fun _ h9 => h9) rfl dX7_lays_12 ?_
        refine lv_iload_n hx hb dX7_lays_15 rfl (lv_at hl 1 rfl) ?_
        refine lv_iload_n hx hb dX7_lays_16 rfl (lv_at hl 2 rfl) ?_
        refine lv_iushr (v := (y1.toUInt32 >>> (y2.toUInt32 &&& Int32.toUInt32 31)).toInt32) hx hb dX7_lays_17 rfl ?_
        refine lv_sipush (v := (255 : Int32)) hx hb dX7_lays_18 (by decide) ?_
        refine lv_iand hx hb dX7_lays_21 ?_
        obtain ⟨c4, hm5⟩ := zz_no hm3
        refine va_iast hx hb hK hP hD hS 1 0 rfl rfl c4 dX7_lays_22 (fun H6 lo6 hP6 hD6 hS6 => ?_)
        replace hP6 : va_P D vwCl (w_Model cI cB cZ aM aMt aMn aMr aMs aMi mth mtd msz mto mfr mso mnu mfa mpl mwo msm mgo (upd mt mtd.toNatClampNeg (((y1.toUInt32 >>> (y2.toUInt32 &&& Int32.toUInt32 31)).toInt32) &&& (255 : Int32))) mno mre msn mis) H6 := hP6
        replace hD6 : va_D A (w_Model cI cB cZ aM aMt aMn aMr aMs aMi mth mtd msz mto mfr mso mnu mfa mpl mwo msm mgo (upd mt mtd.toNatClampNeg (((y1.toUInt32 >>> (y2.toUInt32 &&& Int32.toUInt32 31)).toInt32) &&& (255 : Int32))) mno mre msn mis) := hD6
        clear hP hD hS
        refine lv_aload_n hx hb dX7_lays_23 rfl (lv_at hl 0 rfl) ?_
        refine lv_dup hx hb dX7_lays_24 rfl ?_
        refine va_get (D := D) (ci := 7) (v := .int mtd) (C := RX7) (T := TX7) (N := 17) hx hb hts iw_X7 hown hK hP6 0 rfl rfl 2 (by decide) (hts (.fieldLink RX7 11 "VarianceBridgeModel" "taped" "I") (by decide +kernel)) (fun _ h9 => h9) rfl dX7_lays_25 ?_
        refine lv_iconst (v := (1 : Int32)) hx hb dX7_lays_28 (by decide) ?_
        refine lv_iadd hx hb dX7_lays_29 ?_
        refine va_put (D := D) (ci := 7) (v := .int (mtd + (1 : Int32))) (ty := .int) (C := RX7) (T := TX7) (N := 17) hx hb hts iw_X7 tyX7 tyX7_ok nmX7 hown hK hP6 hD6 hS6 0 rfl rfl 2 (by decide) (hts (.fieldLink RX7 11 "VarianceBridgeModel" "taped" "I") (by decide +kernel)) (fun _ h9 => h9) rfl (by decide +kernel) rfl rfl (Nat.le_of_ble_eq_true rfl) dX7_lays_30 (fun H7 lo7 hP7 hD7 hS7 => ?_)
        replace hP7 : va_P D vwCl (w_Model cI cB cZ aM aMt aMn aMr aMs aMi mth (mtd + (1 : Int32)) msz mto mfr mso mnu mfa mpl mwo msm mgo (upd mt mtd.toNatClampNeg (((y1.toUInt32 >>> (y2.toUInt32 &&& Int32.toUInt32 31)).toInt32) &&& (255 : Int32))) mno mre msn mis) H7 := hP7
        replace hD7 : va_D A (w_Model cI cB cZ aM aMt aMn aMr aMs aMi mth (mtd + (1 : Int32)) msz mto mfr mso mnu mfa mpl mwo msm mgo (upd mt mtd.toNatClampNeg (((y1.toUInt32 >>> (y2.toUInt32 &&& Int32.toUInt32 31)).toInt32) &&& (255 : Int32))) mno mre msn mis) := hD7
        clear hP6 hD6 hS6
        refine lv_iinc (v := (y2 + (-8 : Int32))) (lv' := [(2, .int (y2 + (-8 : Int32))), (0, .ref aM), (1, .int y1)]) hx hb dX7_lays_33 hl (k := 2) rfl (by rfl) (by decide) rfl (fun ls8 hl8 => ?_)
        refine lv_goto (tgt := 3) hx hb dX7_lays_36 (by decide) ?_
        exact ih (mtd + (1 : Int32)) (upd mt mtd.toNatClampNeg (((y1.toUInt32 >>> (y2.toUInt32 &&& Int32.toUInt32 31)).toInt32) &&& (255 : Int32))) y1 (y2 + (-8 : Int32)) hm5 ls8 H7 lo7 (lv_sub hl8 [1, 2, 0] rfl) hP7 hD7 hS7
  have hl := lv_entry ([.ref aM, .int x1]) (n := 3) (Nat.le_of_ble_eq_true rfl)
  rw [lg_entry_eq]
  generalize (lg_sl ([.ref aM, .int x1]) ++ List.replicate (3 - (lg_sl ([.ref aM, .int x1])).length) Slot.unset).toArray = ls at hl ⊢
  have hl : lv_has ls 3 [(0, .ref aM), (1, .int x1)] := hl
  replace hm : (k_X7_lays_3 FU mtd mt x1 (24 : Int32)) = some (u_mtd, u_mt) := hm
  refine lv_bipush (v := (24 : Int32)) hx hb dX7_lays_0 (by decide) ?_
  refine lv_istore_n (lv' := [(2, .int (24 : Int32)), (0, .ref aM), (1, .int x1)]) hx hb dX7_lays_2 rfl hl (by decide) rfl (fun ls9 hl9 => ?_)
  exact hk_3 FU mtd mt x1 (24 : Int32) hm ls9 s.heap [] (lv_sub hl9 [1, 2, 0] rfl) hP hD hS
theorem iw_X7_feed_X7 : ∀ w ∈ wsX70, w ∈ wsX7_feed := by decide +kernel
set_option maxHeartbeats 4000000 in
set_option maxRecDepth 100000 in
theorem c_X7_feed (l : Launch) (D : va_G) (cI cB cZ : ClassId) (ta : Nat → Nat) (aM : Nat) (aMt : Nat) (aMn : Nat) (aMr : Nat) (aMs : Nat) (aMi : Nat) (sz : Nat) (mth : Int32) (mtd : Int32) (msz : Int32) (mto : Int32) (mfr : Int32) (mso : Int32) (mnu : Int32) (mfa : Int32) (mpl : Int32) (mwo : Int64) (msm : Int32) (mgo : Int32) (mt : (Nat → Int32)) (mno : (Nat → Int32)) (mre : (Nat → Int32)) (msn : (Nat → Int32)) (mis : (Nat → Int32)) (x1 : Int32) (x2 : Int32) (x3 : Int32) (x4 : Int32) (x5 : Int32) (r0 : Int32) (u_mth : Int32) (u_mtd : Int32) (u_mt : (Nat → Int32)) (hm : m_X7_feed mth mtd mt x1 x2 x3 x4 x5 = some (r0, u_mth, u_mtd, u_mt)) : Met l yX7_feed wsX7_feed ({ frames := 1, cells := 0, slots := 0, locals := 22 } : Room) (va_Pc [.ref aM, .int x1, .int x2, .int x3, .int x4, .int x5] (PW D cI cB cZ ta (w_Model cI cB cZ aM aMt aMn aMr aMs aMi mth mtd msz mto mfr mso mnu mfa mpl mwo msm mgo mt mno mre msn mis) sz)) (QI D cI cB cZ (va_A (w_Model cI cB cZ aM aMt aMn aMr aMs aMi mth mtd msz mto mfr mso mnu mfa mpl mwo msm mgo mt mno mre msn mis) sz) (w_Model cI cB cZ aM aMt aMn aMr aMs aMi u_mth u_mtd msz mto mfr mso mnu mfa mpl mwo msm mgo u_mt mno mre msn mis) r0) 0 0 (va_A (w_Model cI cB cZ aM aMt aMn aMr aMs aMi mth mtd msz mto mfr mso mnu mfa mpl mwo msm mgo mt mno mre msn mis) sz) := by
  refine Met.ofW (cc := cX7_feed) (maxL := 6) (ret := (some .int)) (by decide) rfl ?_
  intro p e s m args below meth c s₁ B hml hv
  obtain ⟨rfl, hsz, hP, hK, hD0, hG⟩ := hv
  have hx := B.exec
  have hb := B.bytes
  have hr := B.returns
  have hts := atoms_spec (ws := wsX7_feed) B.pre
  have hown : s.vm.findClass RX7 = some m.cls := findClass_of_methodNamed B.named
  have hlocks := B.notSynchronized
  subst hsz
  have hD := hD0.self (sz := s.heap.size)
  clear hD0
  have hA0 : ∀ q : Nat, s.heap.size ≤ q → va_A (w_Model cI cB cZ aM aMt aMn aMr aMs aMi mth mtd msz mto mfr mso mnu mfa mpl mwo msm mgo mt mno mre msn mis) s.heap.size q := fun q h => Or.inr h
  generalize hAe : va_A (w_Model cI cB cZ aM aMt aMn aMr aMs aMi mth mtd msz mto mfr mso mnu mfa mpl mwo msm mgo mt mno mre msn mis) s.heap.size = A at hD hG hA0 ⊢
  have hA : ∀ q : Nat, s.heap.size ≤ q → A q := hA0
  clear hA0
  have hS : va_S A s.heap s.heap [] := va_S.rf
  have iw_X7 := iw_X7_feed_X7
  have hl := lv_entry ([.ref aM, .int x1, .int x2, .int x3, .int x4, .int x5]) (n := 6) (Nat.le_of_ble_eq_true rfl)
  rw [lg_entry_eq]
  generalize (lg_sl ([.ref aM, .int x1, .int x2, .int x3, .int x4, .int x5]) ++ List.replicate (6 - (lg_sl ([.ref aM, .int x1, .int x2, .int x3, .int x4, .int x5])).length) Slot.unset).toArray = ls at hl ⊢
  have hl : lv_has ls 6 [(0, .ref aM), (1, .int x1), (2, .int x2), (3, .int x3), (4, .int x4), (5, .int x5)] := hl
  replace hm : (if (mtd + (20 : Int32)) ≤ (640 : Int32) then (ob2 (m_X7_lays mtd mt x1) (fun mtd_5 mt_5 => (ob2 (m_X7_lays mtd_5 mt_5 x2) (fun mtd_7 mt_7 => (ob2 (m_X7_lays mtd_7 mt_7 x3) (fun mtd_9 mt_9 => (ob2 (m_X7_lays mtd_9 mt_9 x4) (fun mtd_11 mt_11 => (ob2 (m_X7_lays mtd_11 mt_11 x5) (fun mtd_13 mt_13 => some (mtd_13, (0 : Int32), mtd_13, mt_13))))))))))) else some ((-1 : Int32), (0 : Int32), mtd, mt)) = some (r0, u_mth, u_mtd, u_mt) := hm
  refine lv_aload_n hx hb dX7_feed_0 rfl (lv_at hl 0 rfl) ?_
  refine lv_iconst (v := (0 : Int32)) hx hb dX7_feed_1 (by decide) ?_
  refine va_put (D := D) (ci := 7) (v := .int (0 : Int32)) (ty := .int) (C := RX7) (T := TX7) (N := 17) hx hb hts iw_X7 tyX7 tyX7_ok nmX7 hown hK hP hD hS 0 rfl rfl 0 (by decide) (hts (.fieldLink RX7 1 "VarianceBridgeModel" "thrown" "I") (by decide +kernel)) (fun _ h9 => h9) rfl (by decide +kernel) rfl rfl (Nat.le_of_ble_eq_true rfl) dX7_feed_2 (fun H1 lo1 hP1 hD1 hS1 => ?_)
  replace hP1 : va_P D vwCl (w_Model cI cB cZ aM aMt aMn aMr aMs aMi (0 : Int32) mtd msz mto mfr mso mnu mfa mpl mwo msm mgo mt mno mre msn mis) H1 := hP1
  replace hD1 : va_D A (w_Model cI cB cZ aM aMt aMn aMr aMs aMi (0 : Int32) mtd msz mto mfr mso mnu mfa mpl mwo msm mgo mt mno mre msn mis) := hD1
  clear hP hD hS
  refine lv_aload_n hx hb dX7_feed_5 rfl (lv_at hl 0 rfl) ?_
  refine va_get (D := D) (ci := 7) (v := .int mtd) (C := RX7) (T := TX7) (N := 17) hx hb hts iw_X7 hown hK hP1 0 rfl rfl 2 (by decide) (hts (.fieldLink RX7 11 "VarianceBridgeModel" "taped" "I") (by decide +kernel)) (fun _ h9 => h9) rfl dX7_feed_6 ?_
  refine lv_bipush (v := (20 : Int32)) hx hb dX7_feed_9 (by decide) ?_
  refine lv_iadd hx hb dX7_feed_11 ?_
  refine lv_sipush (v := (640 : Int32)) hx hb dX7_feed_12 (by decide) ?_
  refine lv_icmp_le (tgt := 20) hx hb dX7_feed_15 (by decide) (fun c2 => ?_) (fun c2 => ?_)
  · have hm3 := zz_if c2 hm
    refine lv_aload_n hx hb dX7_feed_20 rfl (lv_at hl 0 rfl) ?_
    refine lv_iload_n hx hb dX7_feed_21 rfl (lv_at hl 1 rfl) ?_
    obtain ⟨mtd_5, mt_5, h5, hm5⟩ := ob2_e hm3
    refine gcall_v (ws' := (w_Model cI cB cZ aM aMt aMn aMr aMs aMi (0 : Int32) mtd_5 msz mto mfr mso mnu mfa mpl mwo msm mgo mt_5 mno mre msn mis)) (va_runV (As := [.int x1]) (rest := []) ⟨hx, hb, hml, hown, hts⟩ (c_X7_lays l D cI cB cZ ta aM aMt aMn aMr aMs aMi H1.size (0 : Int32) mtd msz mto mfr mso mnu mfa mpl mwo msm mgo mt mno mre msn mis x1 mtd_5 mt_5 h5) (cwV 1 hts gX7_feed_X7_lays rfl rfl rfl (by decide +kernel) ⟨(Nat.le_of_ble_eq_true rfl), (Nat.le_of_ble_eq_true rfl)⟩) ⟨PW_blind, va_recv hK hP1 rfl (q0 := 0) rfl, PW_at hP1 hD1 hK hS1 hA hG [0, 1, 2, 3, 4, 5] rfl (by decide)⟩ rfl rfl hl.1 rfl (lv_room (Nat.le_of_ble_eq_true rfl)) dX7_feed_22 ⟨(Nat.le_of_ble_eq_true rfl), (Nat.le_of_ble_eq_true rfl)⟩) hP1 hD1 hS1 hA [0, 1, 2, 3, 4, 5] [] [0, 1, 2, 3, 4, 5] rfl rfl (by decide) (by decide) (by decide) rfl (fun H6 lo6 hP6 hD6 hS6 => ?_)
    clear hP1 hD1 hS1
    refine lv_aload_n hx hb dX7_feed_25 rfl (lv_at hl 0 rfl) ?_
    refine lv_iload_n hx hb dX7_feed_26 rfl (lv_at hl 2 rfl) ?_
    obtain ⟨mtd_7, mt_7, h7, hm7⟩ := ob2_e hm5
    refine gcall_v (ws' := (w_Model cI cB cZ aM aMt aMn aMr aMs aMi (0 : Int32) mtd_7 msz mto mfr mso mnu mfa mpl mwo msm mgo mt_7 mno mre msn mis)) (va_runV (As := [.int x2]) (rest := []) ⟨hx, hb, hml, hown, hts⟩ (c_X7_lays l D cI cB cZ ta aM aMt aMn aMr aMs aMi H6.size (0 : Int32) mtd_5 msz mto mfr mso mnu mfa mpl mwo msm mgo mt_5 mno mre msn mis x2 mtd_7 mt_7 h7) (cwV 1 hts gX7_feed_X7_lays rfl rfl rfl (by decide +kernel) ⟨(Nat.le_of_ble_eq_true rfl), (Nat.le_of_ble_eq_true rfl)⟩) ⟨PW_blind, va_recv hK hP6 rfl (q0 := 0) rfl, PW_at hP6 hD6 hK hS6 hA hG [0, 1, 2, 3, 4, 5] rfl (by decide)⟩ rfl rfl hl.1 rfl (lv_room (Nat.le_of_ble_eq_true rfl)) dX7_feed_27 ⟨(Nat.le_of_ble_eq_true rfl), (Nat.le_of_ble_eq_true rfl)⟩) hP6 hD6 hS6 hA [0, 1, 2, 3, 4, 5] [] [0, 1, 2, 3, 4, 5] rfl rfl (by decide) (by decide) (by decide) rfl (fun H8 lo8 hP8 hD8 hS8 => ?_)
    clear hP6 hD6 hS6
    refine lv_aload_n hx hb dX7_feed_30 rfl (lv_at hl 0 rfl) ?_
    refine lv_iload_n hx hb dX7_feed_31 rfl (lv_at hl 3 rfl) ?_
    obtain ⟨mtd_9, mt_9, h9, hm9⟩ := ob2_e hm7
    refine gcall_v (ws' := (w_Model cI cB cZ aM aMt aMn aMr aMs aMi (0 : Int32) mtd_9 msz mto mfr mso mnu mfa mpl mwo msm mgo mt_9 mno mre msn mis)) (va_runV (As := [.int x3]) (rest := []) ⟨hx, hb, hml, hown, hts⟩ (c_X7_lays l D cI cB cZ ta aM aMt aMn aMr aMs aMi H8.size (0 : Int32) mtd_7 msz mto mfr mso mnu mfa mpl mwo msm mgo mt_7 mno mre msn mis x3 mtd_9 mt_9 h9) (cwV 1 hts gX7_feed_X7_lays rfl rfl rfl (by decide +kernel) ⟨(Nat.le_of_ble_eq_true rfl), (Nat.le_of_ble_eq_true rfl)⟩) ⟨PW_blind, va_recv hK hP8 rfl (q0 := 0) rfl, PW_at hP8 hD8 hK hS8 hA hG [0, 1, 2, 3, 4, 5] rfl (by decide)⟩ rfl rfl hl.1 rfl (lv_room (Nat.le_of_ble_eq_true rfl)) dX7_feed_32 ⟨(Nat.le_of_ble_eq_true rfl), (Nat.le_of_ble_eq_true rfl)⟩) hP8 hD8 hS8 hA [0, 1, 2, 3, 4, 5] [] [0, 1, 2, 3, 4, 5] rfl rfl (by decide) (by decide) (by decide) rfl (fun H10 lo10 hP10 hD10 hS10 => ?_)
    clear hP8 hD8 hS8
    refine lv_aload_n hx hb dX7_feed_35 rfl (lv_at hl 0 rfl) ?_
    refine lv_iload hx hb dX7_feed_36 (lv_at hl 4 rfl) ?_
    obtain ⟨mtd_11, mt_11, h11, hm11⟩ := ob2_e hm9
    refine gcall_v (ws' := (w_Model cI cB cZ aM aMt aMn aMr aMs aMi (0 : Int32) mtd_11 msz mto mfr mso mnu mfa mpl mwo msm mgo mt_11 mno mre msn mis)) (va_runV (As := [.int x4]) (rest := []) ⟨hx, hb, hml, hown, hts⟩ (c_X7_lays l D cI cB cZ ta aM aMt aMn aMr aMs aMi H10.size (0 : Int32) mtd_9 msz mto mfr mso mnu mfa mpl mwo msm mgo mt_9 mno mre msn mis x4 mtd_11 mt_11 h11) (cwV 1 hts gX7_feed_X7_lays rfl rfl rfl (by decide +kernel) ⟨(Nat.le_of_ble_eq_true rfl), (Nat.le_of_ble_eq_true rfl)⟩) ⟨PW_blind, va_recv hK hP10 rfl (q0 := 0) rfl, PW_at hP10 hD10 hK hS10 hA hG [0, 1, 2, 3, 4, 5] rfl (by decide)⟩ rfl rfl hl.1 rfl (lv_room (Nat.le_of_ble_eq_true rfl)) dX7_feed_38 ⟨(Nat.le_of_ble_eq_true rfl), (Nat.le_of_ble_eq_true rfl)⟩) hP10 hD10 hS10 hA [0, 1, 2, 3, 4, 5] [] [0, 1, 2, 3, 4, 5] rfl rfl (by decide) (by decide) (by decide) rfl (fun H12 lo12 hP12 hD12 hS12 => ?_)
    clear hP10 hD10 hS10
    refine lv_aload_n hx hb dX7_feed_41 rfl (lv_at hl 0 rfl) ?_
    refine lv_iload hx hb dX7_feed_42 (lv_at hl 5 rfl) ?_
    obtain ⟨mtd_13, mt_13, h13, hm13⟩ := ob2_e hm11
    refine gcall_v (ws' := (w_Model cI cB cZ aM aMt aMn aMr aMs aMi (0 : Int32) mtd_13 msz mto mfr mso mnu mfa mpl mwo msm mgo mt_13 mno mre msn mis)) (va_runV (As := [.int x5]) (rest := []) ⟨hx, hb, hml, hown, hts⟩ (c_X7_lays l D cI cB cZ ta aM aMt aMn aMr aMs aMi H12.size (0 : Int32) mtd_11 msz mto mfr mso mnu mfa mpl mwo msm mgo mt_11 mno mre msn mis x5 mtd_13 mt_13 h13) (cwV 1 hts gX7_feed_X7_lays rfl rfl rfl (by decide +kernel) ⟨(Nat.le_of_ble_eq_true rfl), (Nat.le_of_ble_eq_true rfl)⟩) ⟨PW_blind, va_recv hK hP12 rfl (q0 := 0) rfl, PW_at hP12 hD12 hK hS12 hA hG [0, 1, 2, 3, 4, 5] rfl (by decide)⟩ rfl rfl hl.1 rfl (lv_room (Nat.le_of_ble_eq_true rfl)) dX7_feed_44 ⟨(Nat.le_of_ble_eq_true rfl), (Nat.le_of_ble_eq_true rfl)⟩) hP12 hD12 hS12 hA [0, 1, 2, 3, 4, 5] [] [0, 1, 2, 3, 4, 5] rfl rfl (by decide) (by decide) (by decide) rfl (fun H14 lo14 hP14 hD14 hS14 => ?_)
    clear hP12 hD12 hS12
    refine lv_aload_n hx hb dX7_feed_47 rfl (lv_at hl 0 rfl) ?_
    refine va_get (D := D) (ci := 7) (v := .int mtd_13) (C := RX7) (T := TX7) (N := 17) hx hb hts iw_X7 hown hK hP14 0 rfl rfl 2 (by decide) (hts (.fieldLink RX7 11 "VarianceBridgeModel" "taped" "I") (by decide +kernel)) (fun _ h9 => h9) rfl dX7_feed_48 ?_
    obtain ⟨hq1, hq99⟩ := Prod.mk.inj (Option.some.inj hm13)
    obtain ⟨hq2, hq99⟩ := Prod.mk.inj (hq99)
    obtain ⟨hq3, hq4⟩ := Prod.mk.inj (hq99)
    subst hq1
    subst hq2
    subst hq3
    subst hq4
    exact W.iret hx hb hr (fun t ht hW => ⟨⟨_, (), rfl, rfl, by rw [ht]; exact hP14, va_K.moved hW.alike hK, hD14⟩, hS14.F ht⟩) hS14.2.2 dX7_feed_51
  · have hm4 := zz_nf c2 hm
    refine lv_iconst (v := (-1 : Int32)) hx hb dX7_feed_18 (by decide) ?_
    obtain ⟨hq1, hq99⟩ := Prod.mk.inj (Option.some.inj hm4)
    obtain ⟨hq2, hq99⟩ := Prod.mk.inj (hq99)
    obtain ⟨hq3, hq4⟩ := Prod.mk.inj (hq99)
    subst hq1
    subst hq2
    subst hq3
    subst hq4
    exact W.iret hx hb hr (fun t ht hW => ⟨⟨_, (), rfl, rfl, by rw [ht]; exact hP1, va_K.moved hW.alike hK, hD1⟩, hS1.F ht⟩) hS1.2.2 dX7_feed_19
theorem iw_X7_end_X7 : ∀ w ∈ wsX70, w ∈ wsX7_end := by decide +kernel
set_option maxHeartbeats 4000000 in
set_option maxRecDepth 100000 in
theorem c_X7_end (l : Launch) (D : va_G) (cI cB cZ : ClassId) (ta : Nat → Nat) (aM : Nat) (aMt : Nat) (aMn : Nat) (aMr : Nat) (aMs : Nat) (aMi : Nat) (sz : Nat) (mth : Int32) (mtd : Int32) (msz : Int32) (mto : Int32) (mfr : Int32) (mso : Int32) (mnu : Int32) (mfa : Int32) (mpl : Int32) (mwo : Int64) (msm : Int32) (mgo : Int32) (mt : (Nat → Int32)) (mno : (Nat → Int32)) (mre : (Nat → Int32)) (msn : (Nat → Int32)) (mis : (Nat → Int32)) (x1 : Int32) (r0 : Int32) (u_mth : Int32) (u_mtd : Int32) (hm : m_X7_end mth mtd x1 = some (r0, u_mth, u_mtd)) : Met l yX7_end wsX7_end ({ frames := 0, cells := 0, slots := 0, locals := 0 } : Room) (va_Pc [.ref aM, .int x1] (PW D cI cB cZ ta (w_Model cI cB cZ aM aMt aMn aMr aMs aMi mth mtd msz mto mfr mso mnu mfa mpl mwo msm mgo mt mno mre msn mis) sz)) (QZ .boolean D cI cB cZ (va_A (w_Model cI cB cZ aM aMt aMn aMr aMs aMi mth mtd msz mto mfr mso mnu mfa mpl mwo msm mgo mt mno mre msn mis) sz) (w_Model cI cB cZ aM aMt aMn aMr aMs aMi u_mth u_mtd msz mto mfr mso mnu mfa mpl mwo msm mgo mt mno mre msn mis) r0) 0 0 (va_A (w_Model cI cB cZ aM aMt aMn aMr aMs aMi mth mtd msz mto mfr mso mnu mfa mpl mwo msm mgo mt mno mre msn mis) sz) := by
  refine Met.ofW (cc := cX7_end) (maxL := 2) (ret := (some .boolean)) (by decide) rfl ?_
  intro p e s m args below meth c s₁ B hml hv
  obtain ⟨rfl, hsz, hP, hK, hD0, hG⟩ := hv
  have hx := B.exec
  have hb := B.bytes
  have hr := B.returns
  have hts := atoms_spec (ws := wsX7_end) B.pre
  have hown : s.vm.findClass RX7 = some m.cls := findClass_of_methodNamed B.named
  have hlocks := B.notSynchronized
  subst hsz
  have hD := hD0.self (sz := s.heap.size)
  clear hD0
  have hA0 : ∀ q : Nat, s.heap.size ≤ q → va_A (w_Model cI cB cZ aM aMt aMn aMr aMs aMi mth mtd msz mto mfr mso mnu mfa mpl mwo msm mgo mt mno mre msn mis) s.heap.size q := fun q h => Or.inr h
  generalize hAe : va_A (w_Model cI cB cZ aM aMt aMn aMr aMs aMi mth mtd msz mto mfr mso mnu mfa mpl mwo msm mgo mt mno mre msn mis) s.heap.size = A at hD hG hA0 ⊢
  have hA : ∀ q : Nat, s.heap.size ≤ q → A q := hA0
  clear hA0
  have hS : va_S A s.heap s.heap [] := va_S.rf
  have iw_X7 := iw_X7_end_X7
  have hl := lv_entry ([.ref aM, .int x1]) (n := 2) (Nat.le_of_ble_eq_true rfl)
  rw [lg_entry_eq]
  generalize (lg_sl ([.ref aM, .int x1]) ++ List.replicate (2 - (lg_sl ([.ref aM, .int x1])).length) Slot.unset).toArray = ls at hl ⊢
  have hl : lv_has ls 2 [(0, .ref aM), (1, .int x1)] := hl
  replace hm : (if x1 < 0 then some ((0 : Int32), (0 : Int32), mtd) else (if x1 ≤ mtd then some ((1 : Int32), (0 : Int32), x1) else some ((0 : Int32), (0 : Int32), mtd))) = some (r0, u_mth, u_mtd) := hm
  refine lv_aload_n hx hb dX7_end_0 rfl (lv_at hl 0 rfl) ?_
  refine lv_iconst (v := (0 : Int32)) hx hb dX7_end_1 (by decide) ?_
  refine va_put (D := D) (ci := 7) (v := .int (0 : Int32)) (ty := .int) (C := RX7) (T := TX7) (N := 17) hx hb hts iw_X7 tyX7 tyX7_ok nmX7 hown hK hP hD hS 0 rfl rfl 0 (by decide) (hts (.fieldLink RX7 1 "VarianceBridgeModel" "thrown" "I") (by decide +kernel)) (fun _ h9 => h9) rfl (by decide +kernel) rfl rfl (Nat.le_of_ble_eq_true rfl) dX7_end_2 (fun H1 lo1 hP1 hD1 hS1 => ?_)
  replace hP1 : va_P D vwCl (w_Model cI cB cZ aM aMt aMn aMr aMs aMi (0 : Int32) mtd msz mto mfr mso mnu mfa mpl mwo msm mgo mt mno mre msn mis) H1 := hP1
  replace hD1 : va_D A (w_Model cI cB cZ aM aMt aMn aMr aMs aMi (0 : Int32) mtd msz mto mfr mso mnu mfa mpl mwo msm mgo mt mno mre msn mis) := hD1
  clear hP hD hS
  refine lv_iload_n hx hb dX7_end_5 rfl (lv_at hl 1 rfl) ?_
  refine lv_if_lt (tgt := 17) hx hb dX7_end_6 (by decide) (fun c2 => ?_) (fun c2 => ?_)
  · have hm3 := zz_if c2 hm
    refine lv_iconst (v := (0 : Int32)) hx hb dX7_end_17 (by decide) ?_
    obtain ⟨hq1, hq99⟩ := Prod.mk.inj (Option.some.inj hm3)
    obtain ⟨hq2, hq3⟩ := Prod.mk.inj (hq99)
    subst hq1
    subst hq2
    subst hq3
    exact W.zret (ty := .boolean) hx hb hr (by decide) (fun t ht hW => ⟨⟨_, (), rfl, ⟨rfl, (by decide)⟩, by rw [ht]; exact hP1, va_K.moved hW.alike hK, hD1⟩, hS1.F ht⟩) hS1.2.2 dX7_end_18
  · have hm4 := zz_nf c2 hm
    refine lv_iload_n hx hb dX7_end_9 rfl (lv_at hl 1 rfl) ?_
    refine lv_aload_n hx hb dX7_end_10 rfl (lv_at hl 0 rfl) ?_
    refine va_get (D := D) (ci := 7) (v := .int mtd) (C := RX7) (T := TX7) (N := 17) hx hb hts iw_X7 hown hK hP1 0 rfl rfl 2 (by decide) (hts (.fieldLink RX7 11 "VarianceBridgeModel" "taped" "I") (by decide +kernel)) (fun _ h9 => h9) rfl dX7_end_11 ?_
    refine lv_icmp_le (tgt := 19) hx hb dX7_end_14 (by decide) (fun c5 => ?_) (fun c5 => ?_)
    · have hm6 := zz_if c5 hm4
      refine lv_aload_n hx hb dX7_end_19 rfl (lv_at hl 0 rfl) ?_
      refine lv_iload_n hx hb dX7_end_20 rfl (lv_at hl 1 rfl) ?_
      refine va_put (D := D) (ci := 7) (v := .int x1) (ty := .int) (C := RX7) (T := TX7) (N := 17) hx hb hts iw_X7 tyX7 tyX7_ok nmX7 hown hK hP1 hD1 hS1 0 rfl rfl 2 (by decide) (hts (.fieldLink RX7 11 "VarianceBridgeModel" "taped" "I") (by decide +kernel)) (fun _ h9 => h9) rfl (by decide +kernel) rfl rfl (Nat.le_of_ble_eq_true rfl) dX7_end_21 (fun H8 lo8 hP8 hD8 hS8 => ?_)
      replace hP8 : va_P D vwCl (w_Model cI cB cZ aM aMt aMn aMr aMs aMi (0 : Int32) x1 msz mto mfr mso mnu mfa mpl mwo msm mgo mt mno mre msn mis) H8 := hP8
      replace hD8 : va_D A (w_Model cI cB cZ aM aMt aMn aMr aMs aMi (0 : Int32) x1 msz mto mfr mso mnu mfa mpl mwo msm mgo mt mno mre msn mis) := hD8
      clear hP1 hD1 hS1
      refine lv_iconst (v := (1 : Int32)) hx hb dX7_end_24 (by decide) ?_
      obtain ⟨hq1, hq99⟩ := Prod.mk.inj (Option.some.inj hm6)
      obtain ⟨hq2, hq3⟩ := Prod.mk.inj (hq99)
      subst hq1
      subst hq2
      subst hq3
      exact W.zret (ty := .boolean) hx hb hr (by decide) (fun t ht hW => ⟨⟨_, (), rfl, ⟨rfl, (by decide)⟩, by rw [ht]; exact hP8, va_K.moved hW.alike hK, hD8⟩, hS8.F ht⟩) hS8.2.2 dX7_end_25
    · have hm7 := zz_nf c5 hm4
      refine lv_iconst (v := (0 : Int32)) hx hb dX7_end_17 (by decide) ?_
      obtain ⟨hq1, hq99⟩ := Prod.mk.inj (Option.some.inj hm7)
      obtain ⟨hq2, hq3⟩ := Prod.mk.inj (hq99)
      subst hq1
      subst hq2
      subst hq3
      exact W.zret (ty := .boolean) hx hb hr (by decide) (fun t ht hW => ⟨⟨_, (), rfl, ⟨rfl, (by decide)⟩, by rw [ht]; exact hP1, va_K.moved hW.alike hK, hD1⟩, hS1.F ht⟩) hS1.2.2 dX7_end_18
theorem iw_X7_tapeAt_X7 : ∀ w ∈ wsX70, w ∈ wsX7_tapeAt := by decide +kernel
set_option maxHeartbeats 4000000 in
set_option maxRecDepth 100000 in
theorem c_X7_tapeAt (l : Launch) (D : va_G) (cI cB cZ : ClassId) (ta : Nat → Nat) (aM : Nat) (aMt : Nat) (aMn : Nat) (aMr : Nat) (aMs : Nat) (aMi : Nat) (sz : Nat) (mth : Int32) (mtd : Int32) (msz : Int32) (mto : Int32) (mfr : Int32) (mso : Int32) (mnu : Int32) (mfa : Int32) (mpl : Int32) (mwo : Int64) (msm : Int32) (mgo : Int32) (mt : (Nat → Int32)) (mno : (Nat → Int32)) (mre : (Nat → Int32)) (msn : (Nat → Int32)) (mis : (Nat → Int32)) (x1 : Int32) (r0 : Int32) (hm : m_X7_tapeAt msz mt x1 = some r0) : Met l yX7_tapeAt wsX7_tapeAt ({ frames := 0, cells := 0, slots := 0, locals := 0 } : Room) (va_Pc [.ref aM, .int x1] (PW D cI cB cZ ta (w_Model cI cB cZ aM aMt aMn aMr aMs aMi mth mtd msz mto mfr mso mnu mfa mpl mwo msm mgo mt mno mre msn mis) sz)) (QI D cI cB cZ (va_A (w_Model cI cB cZ aM aMt aMn aMr aMs aMi mth mtd msz mto mfr mso mnu mfa mpl mwo msm mgo mt mno mre msn mis) sz) (w_Model cI cB cZ aM aMt aMn aMr aMs aMi mth mtd msz mto mfr mso mnu mfa mpl mwo msm mgo mt mno mre msn mis) r0) 0 0 (va_A (w_Model cI cB cZ aM aMt aMn aMr aMs aMi mth mtd msz mto mfr mso mnu mfa mpl mwo msm mgo mt mno mre msn mis) sz) := by
  refine Met.ofW (cc := cX7_tapeAt) (maxL := 2) (ret := (some .int)) (by decide) rfl ?_
  intro p e s m args below meth c s₁ B hml hv
  obtain ⟨rfl, hsz, hP, hK, hD0, hG⟩ := hv
  have hx := B.exec
  have hb := B.bytes
  have hr := B.returns
  have hts := atoms_spec (ws := wsX7_tapeAt) B.pre
  have hown : s.vm.findClass RX7 = some m.cls := findClass_of_methodNamed B.named
  have hlocks := B.notSynchronized
  subst hsz
  have hD := hD0.self (sz := s.heap.size)
  clear hD0
  have hA0 : ∀ q : Nat, s.heap.size ≤ q → va_A (w_Model cI cB cZ aM aMt aMn aMr aMs aMi mth mtd msz mto mfr mso mnu mfa mpl mwo msm mgo mt mno mre msn mis) s.heap.size q := fun q h => Or.inr h
  generalize hAe : va_A (w_Model cI cB cZ aM aMt aMn aMr aMs aMi mth mtd msz mto mfr mso mnu mfa mpl mwo msm mgo mt mno mre msn mis) s.heap.size = A at hD hG hA0 ⊢
  have hA : ∀ q : Nat, s.heap.size ≤ q → A q := hA0
  clear hA0
  have hS : va_S A s.heap s.heap [] := va_S.rf
  have iw_X7 := iw_X7_tapeAt_X7
  have hl := lv_entry ([.ref aM, .int x1]) (n := 2) (Nat.le_of_ble_eq_true rfl)
  rw [lg_entry_eq]
  generalize (lg_sl ([.ref aM, .int x1]) ++ List.replicate (2 - (lg_sl ([.ref aM, .int x1])).length) Slot.unset).toArray = ls at hl ⊢
  have hl : lv_has ls 2 [(0, .ref aM), (1, .int x1)] := hl
  replace hm : (if msz ≤ x1 then some (0 : Int32) else (if x1 < 0 ∨ 640 ≤ x1.toNatClampNeg then none else some (mt x1.toNatClampNeg))) = some r0 := hm
  refine lv_iload_n hx hb dX7_tapeAt_0 rfl (lv_at hl 1 rfl) ?_
  refine lv_aload_n hx hb dX7_tapeAt_1 rfl (lv_at hl 0 rfl) ?_
  refine va_get (D := D) (ci := 7) (v := .int msz) (C := RX7) (T := TX7) (N := 17) hx hb hts iw_X7 hown hK hP 0 rfl rfl 3 (by decide) (hts (.fieldLink RX7 18 "VarianceBridgeModel" "size" "I") (by decide +kernel)) (fun _ h9 => h9) rfl dX7_tapeAt_2 ?_
  refine lv_icmp_ge (tgt := 17) hx hb dX7_tapeAt_5 (by decide) (fun c1 => ?_) (fun c1 => ?_)
  · have hm2 := zz_if c1 hm
    refine lv_iconst (v := (0 : Int32)) hx hb dX7_tapeAt_17 (by decide) ?_
    have hq1 := Option.some.inj hm2
    subst hq1
    exact W.iret hx hb hr (fun t ht hW => ⟨⟨_, (), rfl, rfl, by rw [ht]; exact hP, va_K.moved hW.alike hK, hD⟩, hS.F ht⟩) hS.2.2 dX7_tapeAt_18
  · have hm3 := zz_nf c1 hm
    refine lv_aload_n hx hb dX7_tapeAt_8 rfl (lv_at hl 0 rfl) ?_
    refine va_get (D := D) (ci := 7) (v := .ref aMt) (C := RX7) (T := TX7) (N := 17) hx hb hts iw_X7 hown hK hP 0 rfl rfl 1 (by decide) (hts (.fieldLink RX7 7 "VarianceBridgeModel" "tape" "[I") (by decide +kernel)) (fun _ h9 => h9) rfl dX7_tapeAt_9 ?_
    refine lv_iload_n hx hb dX7_tapeAt_12 rfl (lv_at hl 1 rfl) ?_
    obtain ⟨c4, hm5⟩ := zz_no hm3
    refine va_iald hx hb hK hP 1 0 rfl rfl c4 dX7_tapeAt_13 ?_
    refine lv_goto (tgt := 18) hx hb dX7_tapeAt_14 (by decide) ?_
    have hq1 := Option.some.inj hm5
    subst hq1
    exact W.iret hx hb hr (fun t ht hW => ⟨⟨_, (), rfl, rfl, by rw [ht]; exact hP, va_K.moved hW.alike hK, hD⟩, hS.F ht⟩) hS.2.2 dX7_tapeAt_18
set_option maxHeartbeats 4000000 in
set_option maxRecDepth 100000 in
theorem c_X7_isDigit (l : Launch) (D : va_G) (cI cB cZ : ClassId) (ta : Nat → Nat) (sz : Nat) (x1 : Int32) (r0 : Int32) (hm : m_X7_isDigit x1 = some r0) : Met l yX7_isDigit wsX7_isDigit ({ frames := 0, cells := 0, slots := 0, locals := 0 } : Room) (va_Pc [.int x1] (PW D cI cB cZ ta (w_none cI cB cZ) sz)) (QZ .boolean D cI cB cZ (va_A (w_none cI cB cZ) sz) (w_none cI cB cZ) r0) 0 0 (va_A (w_none cI cB cZ) sz) := by
  refine Met.ofW (cc := cX7_isDigit) (maxL := 1) (ret := (some .boolean)) (by decide) rfl ?_
  intro p e s m args below meth c s₁ B hml hv
  obtain ⟨rfl, hsz, hP, hK, hD0, hG⟩ := hv
  have hx := B.exec
  have hb := B.bytes
  have hr := B.returns
  have hts := atoms_spec (ws := wsX7_isDigit) B.pre
  have hown : s.vm.findClass RX7 = some m.cls := findClass_of_methodNamed B.named
  have hlocks := B.notSynchronized
  subst hsz
  have hD := hD0.self (sz := s.heap.size)
  clear hD0
  have hA0 : ∀ q : Nat, s.heap.size ≤ q → va_A (w_none cI cB cZ) s.heap.size q := fun q h => Or.inr h
  generalize hAe : va_A (w_none cI cB cZ) s.heap.size = A at hD hG hA0 ⊢
  have hA : ∀ q : Nat, s.heap.size ≤ q → A q := hA0
  clear hA0
  have hS : va_S A s.heap s.heap [] := va_S.rf
  have hl := lv_entry ([.int x1]) (n := 1) (Nat.le_of_ble_eq_true rfl)
  rw [lg_entry_eq]
  generalize (lg_sl ([.int x1]) ++ List.replicate (1 - (lg_sl ([.int x1])).length) Slot.unset).toArray = ls at hl ⊢
  have hl : lv_has ls 1 [(0, .int x1)] := hl
  replace hm : (if x1 < (48 : Int32) then some (0 : Int32) else (if (57 : Int32) < x1 then some (0 : Int32) else some (1 : Int32))) = some r0 := hm
  refine lv_iload_n hx hb dX7_isDigit_0 rfl (lv_at hl 0 rfl) ?_
  refine lv_bipush (v := (48 : Int32)) hx hb dX7_isDigit_1 (by decide) ?_
  refine lv_icmp_lt (tgt := 16) hx hb dX7_isDigit_3 (by decide) (fun c1 => ?_) (fun c1 => ?_)
  · have hm2 := zz_if c1 hm
    refine lv_iconst (v := (0 : Int32)) hx hb dX7_isDigit_16 (by decide) ?_
    have hq1 := Option.some.inj hm2
    subst hq1
    exact W.zret (ty := .boolean) hx hb hr (by decide) (fun t ht hW => ⟨⟨_, (), rfl, ⟨rfl, (by decide)⟩, by rw [ht]; exact hP, va_K.moved hW.alike hK, hD⟩, hS.F ht⟩) hS.2.2 dX7_isDigit_17
  · have hm3 := zz_nf c1 hm
    refine lv_iload_n hx hb dX7_isDigit_6 rfl (lv_at hl 0 rfl) ?_
    refine lv_bipush (v := (57 : Int32)) hx hb dX7_isDigit_7 (by decide) ?_
    refine lv_icmp_gt (tgt := 16) hx hb dX7_isDigit_9 (by decide) (fun c4 => ?_) (fun c4 => ?_)
    · have hm5 := zz_if c4 hm3
      refine lv_iconst (v := (0 : Int32)) hx hb dX7_isDigit_16 (by decide) ?_
      have hq1 := Option.some.inj hm5
      subst hq1
      exact W.zret (ty := .boolean) hx hb hr (by decide) (fun t ht hW => ⟨⟨_, (), rfl, ⟨rfl, (by decide)⟩, by rw [ht]; exact hP, va_K.moved hW.alike hK, hD⟩, hS.F ht⟩) hS.2.2 dX7_isDigit_17
    · have hm6 := zz_nf c4 hm3
      refine lv_iconst (v := (1 : Int32)) hx hb dX7_isDigit_12 (by decide) ?_
      refine lv_goto (tgt := 17) hx hb dX7_isDigit_13 (by decide) ?_
      have hq1 := Option.some.inj hm6
      subst hq1
      exact W.zret (ty := .boolean) hx hb hr (by decide) (fun t ht hW => ⟨⟨_, (), rfl, ⟨rfl, (by decide)⟩, by rw [ht]; exact hP, va_K.moved hW.alike hK, hD⟩, hS.F ht⟩) hS.2.2 dX7_isDigit_17
set_option maxHeartbeats 4000000 in
set_option maxRecDepth 100000 in
theorem c_X7_isLetter (l : Launch) (D : va_G) (cI cB cZ : ClassId) (ta : Nat → Nat) (sz : Nat) (x1 : Int32) (r0 : Int32) (hm : m_X7_isLetter x1 = some r0) : Met l yX7_isLetter wsX7_isLetter ({ frames := 0, cells := 0, slots := 0, locals := 0 } : Room) (va_Pc [.int x1] (PW D cI cB cZ ta (w_none cI cB cZ) sz)) (QZ .boolean D cI cB cZ (va_A (w_none cI cB cZ) sz) (w_none cI cB cZ) r0) 0 0 (va_A (w_none cI cB cZ) sz) := by
  refine Met.ofW (cc := cX7_isLetter) (maxL := 1) (ret := (some .boolean)) (by decide) rfl ?_
  intro p e s m args below meth c s₁ B hml hv
  obtain ⟨rfl, hsz, hP, hK, hD0, hG⟩ := hv
  have hx := B.exec
  have hb := B.bytes
  have hr := B.returns
  have hts := atoms_spec (ws := wsX7_isLetter) B.pre
  have hown : s.vm.findClass RX7 = some m.cls := findClass_of_methodNamed B.named
  have hlocks := B.notSynchronized
  subst hsz
  have hD := hD0.self (sz := s.heap.size)
  clear hD0
  have hA0 : ∀ q : Nat, s.heap.size ≤ q → va_A (w_none cI cB cZ) s.heap.size q := fun q h => Or.inr h
  generalize hAe : va_A (w_none cI cB cZ) s.heap.size = A at hD hG hA0 ⊢
  have hA : ∀ q : Nat, s.heap.size ≤ q → A q := hA0
  clear hA0
  have hS : va_S A s.heap s.heap [] := va_S.rf
  have hl := lv_entry ([.int x1]) (n := 1) (Nat.le_of_ble_eq_true rfl)
  rw [lg_entry_eq]
  generalize (lg_sl ([.int x1]) ++ List.replicate (1 - (lg_sl ([.int x1])).length) Slot.unset).toArray = ls at hl ⊢
  have hl : lv_has ls 1 [(0, .int x1)] := hl
  replace hm : (if x1 < (97 : Int32) then some (0 : Int32) else (if (122 : Int32) < x1 then some (0 : Int32) else some (1 : Int32))) = some r0 := hm
  refine lv_iload_n hx hb dX7_isLetter_0 rfl (lv_at hl 0 rfl) ?_
  refine lv_bipush (v := (97 : Int32)) hx hb dX7_isLetter_1 (by decide) ?_
  refine lv_icmp_lt (tgt := 16) hx hb dX7_isLetter_3 (by decide) (fun c1 => ?_) (fun c1 => ?_)
  · have hm2 := zz_if c1 hm
    refine lv_iconst (v := (0 : Int32)) hx hb dX7_isLetter_16 (by decide) ?_
    have hq1 := Option.some.inj hm2
    subst hq1
    exact W.zret (ty := .boolean) hx hb hr (by decide) (fun t ht hW => ⟨⟨_, (), rfl, ⟨rfl, (by decide)⟩, by rw [ht]; exact hP, va_K.moved hW.alike hK, hD⟩, hS.F ht⟩) hS.2.2 dX7_isLetter_17
  · have hm3 := zz_nf c1 hm
    refine lv_iload_n hx hb dX7_isLetter_6 rfl (lv_at hl 0 rfl) ?_
    refine lv_bipush (v := (122 : Int32)) hx hb dX7_isLetter_7 (by decide) ?_
    refine lv_icmp_gt (tgt := 16) hx hb dX7_isLetter_9 (by decide) (fun c4 => ?_) (fun c4 => ?_)
    · have hm5 := zz_if c4 hm3
      refine lv_iconst (v := (0 : Int32)) hx hb dX7_isLetter_16 (by decide) ?_
      have hq1 := Option.some.inj hm5
      subst hq1
      exact W.zret (ty := .boolean) hx hb hr (by decide) (fun t ht hW => ⟨⟨_, (), rfl, ⟨rfl, (by decide)⟩, by rw [ht]; exact hP, va_K.moved hW.alike hK, hD⟩, hS.F ht⟩) hS.2.2 dX7_isLetter_17
    · have hm6 := zz_nf c4 hm3
      refine lv_iconst (v := (1 : Int32)) hx hb dX7_isLetter_12 (by decide) ?_
      refine lv_goto (tgt := 17) hx hb dX7_isLetter_13 (by decide) ?_
      have hq1 := Option.some.inj hm6
      subst hq1
      exact W.zret (ty := .boolean) hx hb hr (by decide) (fun t ht hW => ⟨⟨_, (), rfl, ⟨rfl, (by decide)⟩, by rw [ht]; exact hP, va_K.moved hW.alike hK, hD⟩, hS.F ht⟩) hS.2.2 dX7_isLetter_17
theorem iw_X7_go_X7 : ∀ w ∈ wsX70, w ∈ wsX7_go := by decide +kernel
set_option maxHeartbeats 4000000 in
set_option maxRecDepth 100000 in
theorem c_X7_go (l : Launch) (D : va_G) (cI cB cZ : ClassId) (ta : Nat → Nat) (aM : Nat) (aMt : Nat) (aMn : Nat) (aMr : Nat) (aMs : Nat) (aMi : Nat) (sz : Nat) (mth : Int32) (mtd : Int32) (msz : Int32) (mto : Int32) (mfr : Int32) (mso : Int32) (mnu : Int32) (mfa : Int32) (mpl : Int32) (mwo : Int64) (msm : Int32) (mgo : Int32) (mt : (Nat → Int32)) (mno : (Nat → Int32)) (mre : (Nat → Int32)) (msn : (Nat → Int32)) (mis : (Nat → Int32)) (u_mto : Int32) (u_mfr : Int32) (u_mso : Int32) (u_mnu : Int32) (u_mwo : Int64) (hm : m_X7_go msz mto mfr mso mnu mwo mt = some (u_mto, u_mfr, u_mso, u_mnu, u_mwo)) : Met l yX7_go wsX7_go ({ frames := 1, cells := 0, slots := 0, locals := 21 } : Room) (va_Pc [.ref aM] (PW D cI cB cZ ta (w_Model cI cB cZ aM aMt aMn aMr aMs aMi mth mtd msz mto mfr mso mnu mfa mpl mwo msm mgo mt mno mre msn mis) sz)) (QV D cI cB cZ (va_A (w_Model cI cB cZ aM aMt aMn aMr aMs aMi mth mtd msz mto mfr mso mnu mfa mpl mwo msm mgo mt mno mre msn mis) sz) (w_Model cI cB cZ aM aMt aMn aMr aMs aMi mth mtd msz u_mto u_mfr u_mso u_mnu mfa mpl u_mwo msm mgo mt mno mre msn mis)) 0 0 (va_A (w_Model cI cB cZ aM aMt aMn aMr aMs aMi mth mtd msz mto mfr mso mnu mfa mpl mwo msm mgo mt mno mre msn mis) sz) := by
  refine Met.ofW (cc := cX7_go) (maxL := 5) (ret := none) (by decide) rfl ?_
  intro p e s m args below meth c s₁ B hml hv
  obtain ⟨rfl, hsz, hP, hK, hD0, hG⟩ := hv
  have hx := B.exec
  have hb := B.bytes
  have hr := B.returns
  have hts := atoms_spec (ws := wsX7_go) B.pre
  have hown : s.vm.findClass RX7 = some m.cls := findClass_of_methodNamed B.named
  have hlocks := B.notSynchronized
  subst hsz
  have hD := hD0.self (sz := s.heap.size)
  clear hD0
  have hA0 : ∀ q : Nat, s.heap.size ≤ q → va_A (w_Model cI cB cZ aM aMt aMn aMr aMs aMi mth mtd msz mto mfr mso mnu mfa mpl mwo msm mgo mt mno mre msn mis) s.heap.size q := fun q h => Or.inr h
  generalize hAe : va_A (w_Model cI cB cZ aM aMt aMn aMr aMs aMi mth mtd msz mto mfr mso mnu mfa mpl mwo msm mgo mt mno mre msn mis) s.heap.size = A at hD hG hA0 ⊢
  have hA : ∀ q : Nat, s.heap.size ≤ q → A q := hA0
  clear hA0
  have hS : va_S A s.heap s.heap [] := va_S.rf
  have iw_X7 := iw_X7_go_X7
  have hk_39 : ∀ (ct0 : Int32 → Int32 → Int32 → Int32 → Int64 → Option (Int32 × Int32 × Int32 × Int32 × Int64)) (hct0 : ∀ (mto : Int32) (mfr : Int32) (mso : Int32) (mnu : Int32) (mwo : Int64), ct0 mto mfr mso mnu mwo = some (u_mto, u_mfr, u_mso, u_mnu, u_mwo) → ∀ (ls : Array Slot) (H : Heap) (lo : List Loc), lv_has ls 5 [(0, .ref aM)] → va_P D vwCl (w_Model cI cB cZ aM aMt aMn aMr aMs aMi mth mtd msz mto mfr mso mnu mfa mpl mwo msm mgo mt mno mre msn mis) H → va_D A (w_Model cI cB cZ aM aMt aMn aMr aMs aMi mth mtd msz mto mfr mso mnu mfa mpl mwo msm mgo mt mno mre msn mis) → va_S A s.heap H lo → W p l e (headSpec wsX7_go ({ frames := 1, cells := 0, slots := 0, locals := 21 } : Room)).room s m (([.ref aM] : List Value).toArray) below meth c H lo 0 0 (MQ below (QV D cI cB cZ A (w_Model cI cB cZ aM aMt aMn aMr aMs aMi mth mtd msz u_mto u_mfr u_mso u_mnu mfa mpl u_mwo msm mgo mt mno mre msn mis)) (([.ref aM] : List Value).toArray) s 0 0 A) (F0 m 0 ls [])) (mto : Int32) (mfr : Int32) (mso : Int32) (mnu : Int32) (mwo : Int64), k_X7_go_39 msz mt ct0 mto mfr mso mnu mwo = some (u_mto, u_mfr, u_mso, u_mnu, u_mwo) → ∀ (ls : Array Slot) (H : Heap) (lo : List Loc), lv_has ls 5 [(0, .ref aM)] → va_P D vwCl (w_Model cI cB cZ aM aMt aMn aMr aMs aMi mth mtd msz mto mfr mso mnu mfa mpl mwo msm mgo mt mno mre msn mis) H → va_D A (w_Model cI cB cZ aM aMt aMn aMr aMs aMi mth mtd msz mto mfr mso mnu mfa mpl mwo msm mgo mt mno mre msn mis) → va_S A s.heap H lo → W p l e (headSpec wsX7_go ({ frames := 1, cells := 0, slots := 0, locals := 21 } : Room)).room s m (([.ref aM] : List Value).toArray) below meth c H lo 0 0 (MQ below (QV D cI cB cZ A (w_Model cI cB cZ aM aMt aMn aMr aMs aMi mth mtd msz u_mto u_mfr u_mso u_mnu mfa mpl u_mwo msm mgo mt mno mre msn mis)) (([.ref aM] : List Value).toArray) s 0 0 A) (F0 m 39 ls []) := by
    intro ct0 hct0 mto mfr mso mnu mwo hm ls H lo hl hP hD hS
    replace hm : (ct0 (mto + (1 : Int32)) mfr mso mnu mwo) = some (u_mto, u_mfr, u_mso, u_mnu, u_mwo) := hm
    refine lv_aload_n hx hb dX7_go_39 rfl (lv_at hl 0 rfl) ?_
    refine lv_dup hx hb dX7_go_40 rfl ?_
    refine va_get (D := D) (ci := 7) (v := .int mto) (C := RX7) (T := TX7) (N := 17) hx hb hts iw_X7 hown hK hP 0 rfl rfl 4 (by decide) (hts (.fieldLink RX7 21 "VarianceBridgeModel" "to" "I") (by decide +kernel)) (fun _ h9 => h9) rfl dX7_go_41 ?_
    refine lv_iconst (v := (1 : Int32)) hx hb dX7_go_44 (by decide) ?_
    refine lv_iadd hx hb dX7_go_45 ?_
    refine va_put (D := D) (ci := 7) (v := .int (mto + (1 : Int32))) (ty := .int) (C := RX7) (T := TX7) (N := 17) hx hb hts iw_X7 tyX7 tyX7_ok nmX7 hown hK hP hD hS 0 rfl rfl 4 (by decide) (hts (.fieldLink RX7 21 "VarianceBridgeModel" "to" "I") (by decide +kernel)) (fun _ h9 => h9) rfl (by decide +kernel) rfl rfl (Nat.le_of_ble_eq_true rfl) dX7_go_46 (fun H1 lo1 hP1 hD1 hS1 => ?_)
    replace hP1 : va_P D vwCl (w_Model cI cB cZ aM aMt aMn aMr aMs aMi mth mtd msz (mto + (1 : Int32)) mfr mso mnu mfa mpl mwo msm mgo mt mno mre msn mis) H1 := hP1
    replace hD1 : va_D A (w_Model cI cB cZ aM aMt aMn aMr aMs aMi mth mtd msz (mto + (1 : Int32)) mfr mso mnu mfa mpl mwo msm mgo mt mno mre msn mis) := hD1
    clear hP hD hS
    refine lv_goto (tgt := 0) hx hb dX7_go_49 (by decide) ?_
    exact hct0 (mto + (1 : Int32)) mfr mso mnu mwo hm ls H1 lo1 (lv_sub hl [0] rfl) hP1 hD1 hS1
  have hk_146 : ∀ (mto : Int32) (mfr : Int32) (mso : Int32) (mnu : Int32) (mwo : Int64) (z1 : Int32), k_X7_go_146 msz mt mto mfr mso mnu mwo z1 = some (u_mto, u_mfr, u_mso, u_mnu, u_mwo) → ∀ (ls : Array Slot) (H : Heap) (lo : List Loc), lv_has ls 5 [(0, .ref aM)] → va_P D vwCl (w_Model cI cB cZ aM aMt aMn aMr aMs aMi mth mtd msz mto mfr mso mnu mfa mpl mwo msm mgo mt mno mre msn mis) H → va_D A (w_Model cI cB cZ aM aMt aMn aMr aMs aMi mth mtd msz mto mfr mso mnu mfa mpl mwo msm mgo mt mno mre msn mis) → va_S A s.heap H lo → W p l e (headSpec wsX7_go ({ frames := 1, cells := 0, slots := 0, locals := 21 } : Room)).room s m (([.ref aM] : List Value).toArray) below meth c H lo 0 0 (MQ below (QV D cI cB cZ A (w_Model cI cB cZ aM aMt aMn aMr aMs aMi mth mtd msz u_mto u_mfr u_mso u_mnu mfa mpl u_mwo msm mgo mt mno mre msn mis)) (([.ref aM] : List Value).toArray) s 0 0 A) (F0 m 146 ls [.int z1, .ref aM]) := by
    intro mto mfr mso mnu mwo z1 hm ls H lo hl hP hD hS
    replace hm : some ((mto + (1 : Int32)), mfr, z1, mnu, mwo) = some (u_mto, u_mfr, u_mso, u_mnu, u_mwo) := hm
    refine va_put (D := D) (ci := 7) (v := .int z1) (ty := .int) (C := RX7) (T := TX7) (N := 17) hx hb hts iw_X7 tyX7 tyX7_ok nmX7 hown hK hP hD hS 0 rfl rfl 6 (by decide) (hts (.fieldLink RX7 27 "VarianceBridgeModel" "sort" "I") (by decide +kernel)) (fun _ h9 => h9) rfl (by decide +kernel) rfl rfl (Nat.le_of_ble_eq_true rfl) dX7_go_146 (fun H2 lo2 hP2 hD2 hS2 => ?_)
    replace hP2 : va_P D vwCl (w_Model cI cB cZ aM aMt aMn aMr aMs aMi mth mtd msz mto mfr z1 mnu mfa mpl mwo msm mgo mt mno mre msn mis) H2 := hP2
    replace hD2 : va_D A (w_Model cI cB cZ aM aMt aMn aMr aMs aMi mth mtd msz mto mfr z1 mnu mfa mpl mwo msm mgo mt mno mre msn mis) := hD2
    clear hP hD hS
    refine lv_aload_n hx hb dX7_go_149 rfl (lv_at hl 0 rfl) ?_
    refine lv_dup hx hb dX7_go_150 rfl ?_
    refine va_get (D := D) (ci := 7) (v := .int mto) (C := RX7) (T := TX7) (N := 17) hx hb hts iw_X7 hown hK hP2 0 rfl rfl 4 (by decide) (hts (.fieldLink RX7 21 "VarianceBridgeModel" "to" "I") (by decide +kernel)) (fun _ h9 => h9) rfl dX7_go_151 ?_
    refine lv_iconst (v := (1 : Int32)) hx hb dX7_go_154 (by decide) ?_
    refine lv_iadd hx hb dX7_go_155 ?_
    refine va_put (D := D) (ci := 7) (v := .int (mto + (1 : Int32))) (ty := .int) (C := RX7) (T := TX7) (N := 17) hx hb hts iw_X7 tyX7 tyX7_ok nmX7 hown hK hP2 hD2 hS2 0 rfl rfl 4 (by decide) (hts (.fieldLink RX7 21 "VarianceBridgeModel" "to" "I") (by decide +kernel)) (fun _ h9 => h9) rfl (by decide +kernel) rfl rfl (Nat.le_of_ble_eq_true rfl) dX7_go_156 (fun H3 lo3 hP3 hD3 hS3 => ?_)
    replace hP3 : va_P D vwCl (w_Model cI cB cZ aM aMt aMn aMr aMs aMi mth mtd msz (mto + (1 : Int32)) mfr z1 mnu mfa mpl mwo msm mgo mt mno mre msn mis) H3 := hP3
    replace hD3 : va_D A (w_Model cI cB cZ aM aMt aMn aMr aMs aMi mth mtd msz (mto + (1 : Int32)) mfr z1 mnu mfa mpl mwo msm mgo mt mno mre msn mis) := hD3
    clear hP2 hD2 hS2
    obtain ⟨hq1, hq99⟩ := Prod.mk.inj (Option.some.inj hm)
    obtain ⟨hq2, hq99⟩ := Prod.mk.inj (hq99)
    obtain ⟨hq3, hq99⟩ := Prod.mk.inj (hq99)
    obtain ⟨hq4, hq5⟩ := Prod.mk.inj (hq99)
    subst hq1
    subst hq2
    subst hq3
    subst hq4
    subst hq5
    exact W.vret hx hb hr (fun t ht hW => ⟨⟨(), rfl, trivial, by rw [ht]; exact hP3, va_K.moved hW.alike hK, hD3⟩, hS3.F ht⟩) hS3.2.2 dX7_go_159
  have hk_299 : ∀ (ct177 : Int32 → Int32 → Int32 → Int32 → Int64 → Int32 → Int32 → Option (Int32 × Int32 × Int32 × Int32 × Int64)) (hct177 : ∀ (mto : Int32) (mfr : Int32) (mso : Int32) (mnu : Int32) (mwo : Int64) (y2 : Int32) (y3 : Int32), ct177 mto mfr mso mnu mwo y2 y3 = some (u_mto, u_mfr, u_mso, u_mnu, u_mwo) → ∀ (ls : Array Slot) (H : Heap) (lo : List Loc), lv_has ls 5 [(0, .ref aM), (2, .int y2), (3, .int y3)] → va_P D vwCl (w_Model cI cB cZ aM aMt aMn aMr aMs aMi mth mtd msz mto mfr mso mnu mfa mpl mwo msm mgo mt mno mre msn mis) H → va_D A (w_Model cI cB cZ aM aMt aMn aMr aMs aMi mth mtd msz mto mfr mso mnu mfa mpl mwo msm mgo mt mno mre msn mis) → va_S A s.heap H lo → W p l e (headSpec wsX7_go ({ frames := 1, cells := 0, slots := 0, locals := 21 } : Room)).room s m (([.ref aM] : List Value).toArray) below meth c H lo 0 0 (MQ below (QV D cI cB cZ A (w_Model cI cB cZ aM aMt aMn aMr aMs aMi mth mtd msz u_mto u_mfr u_mso u_mnu mfa mpl u_mwo msm mgo mt mno mre msn mis)) (([.ref aM] : List Value).toArray) s 0 0 A) (F0 m 177 ls [])) (mto : Int32) (mfr : Int32) (mso : Int32) (mnu : Int32) (mwo : Int64) (y2 : Int32) (y3 : Int32), k_X7_go_299 msz mt ct177 mto mfr mso mnu mwo y2 y3 = some (u_mto, u_mfr, u_mso, u_mnu, u_mwo) → ∀ (ls : Array Slot) (H : Heap) (lo : List Loc), lv_has ls 5 [(0, .ref aM), (2, .int y2), (3, .int y3)] → va_P D vwCl (w_Model cI cB cZ aM aMt aMn aMr aMs aMi mth mtd msz mto mfr mso mnu mfa mpl mwo msm mgo mt mno mre msn mis) H → va_D A (w_Model cI cB cZ aM aMt aMn aMr aMs aMi mth mtd msz mto mfr mso mnu mfa mpl mwo msm mgo mt mno mre msn mis) → va_S A s.heap H lo → W p l e (headSpec wsX7_go ({ frames := 1, cells := 0, slots := 0, locals := 21 } : Room)).room s m (([.ref aM] : List Value).toArray) below meth c H lo 0 0 (MQ below (QV D cI cB cZ A (w_Model cI cB cZ aM aMt aMn aMr aMs aMi mth mtd msz u_mto u_mfr u_mso u_mnu mfa mpl u_mwo msm mgo mt mno mre msn mis)) (([.ref aM] : List Value).toArray) s 0 0 A) (F0 m 299 ls []) := by
    intro ct177 hct177 mto mfr mso mnu mwo y2 y3 hm ls H lo hl hP hD hS
    replace hm : (ct177 (mto + (1 : Int32)) mfr mso mnu mwo y2 y3) = some (u_mto, u_mfr, u_mso, u_mnu, u_mwo) := hm
    refine lv_aload_n hx hb dX7_go_299 rfl (lv_at hl 0 rfl) ?_
    refine lv_dup hx hb dX7_go_300 rfl ?_
    refine va_get (D := D) (ci := 7) (v := .int mto) (C := RX7) (T := TX7) (N := 17) hx hb hts iw_X7 hown hK hP 0 rfl rfl 4 (by decide) (hts (.fieldLink RX7 21 "VarianceBridgeModel" "to" "I") (by decide +kernel)) (fun _ h9 => h9) rfl dX7_go_301 ?_
    refine lv_iconst (v := (1 : Int32)) hx hb dX7_go_304 (by decide) ?_
    refine lv_iadd hx hb dX7_go_305 ?_
    refine va_put (D := D) (ci := 7) (v := .int (mto + (1 : Int32))) (ty := .int) (C := RX7) (T := TX7) (N := 17) hx hb hts iw_X7 tyX7 tyX7_ok nmX7 hown hK hP hD hS 0 rfl rfl 4 (by decide) (hts (.fieldLink RX7 21 "VarianceBridgeModel" "to" "I") (by decide +kernel)) (fun _ h9 => h9) rfl (by decide +kernel) rfl rfl (Nat.le_of_ble_eq_true rfl) dX7_go_306 (fun H4 lo4 hP4 hD4 hS4 => ?_)
    replace hP4 : va_P D vwCl (w_Model cI cB cZ aM aMt aMn aMr aMs aMi mth mtd msz (mto + (1 : Int32)) mfr mso mnu mfa mpl mwo msm mgo mt mno mre msn mis) H4 := hP4
    replace hD4 : va_D A (w_Model cI cB cZ aM aMt aMn aMr aMs aMi mth mtd msz (mto + (1 : Int32)) mfr mso mnu mfa mpl mwo msm mgo mt mno mre msn mis) := hD4
    clear hP hD hS
    refine lv_goto (tgt := 177) hx hb dX7_go_309 (by decide) ?_
    exact hct177 (mto + (1 : Int32)) mfr mso mnu mwo y2 y3 hm ls H4 lo4 (lv_sub hl [0, 1, 2] rfl) hP4 hD4 hS4
  have hk_269 : ∀ (ct177 : Int32 → Int32 → Int32 → Int32 → Int64 → Int32 → Int32 → Option (Int32 × Int32 × Int32 × Int32 × Int64)) (hct177 : ∀ (mto : Int32) (mfr : Int32) (mso : Int32) (mnu : Int32) (mwo : Int64) (y2 : Int32) (y3 : Int32), ct177 mto mfr mso mnu mwo y2 y3 = some (u_mto, u_mfr, u_mso, u_mnu, u_mwo) → ∀ (ls : Array Slot) (H : Heap) (lo : List Loc), lv_has ls 5 [(0, .ref aM), (2, .int y2), (3, .int y3)] → va_P D vwCl (w_Model cI cB cZ aM aMt aMn aMr aMs aMi mth mtd msz mto mfr mso mnu mfa mpl mwo msm mgo mt mno mre msn mis) H → va_D A (w_Model cI cB cZ aM aMt aMn aMr aMs aMi mth mtd msz mto mfr mso mnu mfa mpl mwo msm mgo mt mno mre msn mis) → va_S A s.heap H lo → W p l e (headSpec wsX7_go ({ frames := 1, cells := 0, slots := 0, locals := 21 } : Room)).room s m (([.ref aM] : List Value).toArray) below meth c H lo 0 0 (MQ below (QV D cI cB cZ A (w_Model cI cB cZ aM aMt aMn aMr aMs aMi mth mtd msz u_mto u_mfr u_mso u_mnu mfa mpl u_mwo msm mgo mt mno mre msn mis)) (([.ref aM] : List Value).toArray) s 0 0 A) (F0 m 177 ls [])) (mto : Int32) (mfr : Int32) (mso : Int32) (mnu : Int32) (mwo : Int64) (y2 : Int32) (y3 : Int32) (y4 : Int32), k_X7_go_269 msz mt ct177 mto mfr mso mnu mwo y2 y3 y4 = some (u_mto, u_mfr, u_mso, u_mnu, u_mwo) → ∀ (ls : Array Slot) (H : Heap) (lo : List Loc), lv_has ls 5 [(0, .ref aM), (2, .int y2), (3, .int y3), (4, .int y4)] → va_P D vwCl (w_Model cI cB cZ aM aMt aMn aMr aMs aMi mth mtd msz mto mfr mso mnu mfa mpl mwo msm mgo mt mno mre msn mis) H → va_D A (w_Model cI cB cZ aM aMt aMn aMr aMs aMi mth mtd msz mto mfr mso mnu mfa mpl mwo msm mgo mt mno mre msn mis) → va_S A s.heap H lo → W p l e (headSpec wsX7_go ({ frames := 1, cells := 0, slots := 0, locals := 21 } : Room)).room s m (([.ref aM] : List Value).toArray) below meth c H lo 0 0 (MQ below (QV D cI cB cZ A (w_Model cI cB cZ aM aMt aMn aMr aMs aMi mth mtd msz u_mto u_mfr u_mso u_mnu mfa mpl u_mwo msm mgo mt mno mre msn mis)) (([.ref aM] : List Value).toArray) s 0 0 A) (F0 m 269 ls []) := by
    intro ct177 hct177 mto mfr mso mnu mwo y2 y3 y4 hm ls H lo hl hP hD hS
    replace hm : (if (4 : Int32) ≤ (mto - mfr) then (k_X7_go_299 msz mt ct177 mto mfr mso mnu mwo y2 y3) else (k_X7_go_299 msz mt ct177 mto mfr mso ((((10 : Int32) * mnu) + y4) - (48 : Int32)) mwo y2 y3)) = some (u_mto, u_mfr, u_mso, u_mnu, u_mwo) := hm
    refine lv_aload_n hx hb dX7_go_269 rfl (lv_at hl 0 rfl) ?_
    refine va_get (D := D) (ci := 7) (v := .int mto) (C := RX7) (T := TX7) (N := 17) hx hb hts iw_X7 hown hK hP 0 rfl rfl 4 (by decide) (hts (.fieldLink RX7 21 "VarianceBridgeModel" "to" "I") (by decide +kernel)) (fun _ h9 => h9) rfl dX7_go_270 ?_
    refine lv_aload_n hx hb dX7_go_273 rfl (lv_at hl 0 rfl) ?_
    refine va_get (D := D) (ci := 7) (v := .int mfr) (C := RX7) (T := TX7) (N := 17) hx hb hts iw_X7 hown hK hP 0 rfl rfl 5 (by decide) (hts (.fieldLink RX7 24 "VarianceBridgeModel" "from" "I") (by decide +kernel)) (fun _ h9 => h9) rfl dX7_go_274 ?_
    refine lv_isub hx hb dX7_go_277 ?_
    refine lv_iconst (v := (4 : Int32)) hx hb dX7_go_278 (by decide) ?_
    refine lv_icmp_ge (tgt := 299) hx hb dX7_go_279 (by decide) (fun c5 => ?_) (fun c5 => ?_)
    · have hm6 := zz_if c5 hm
      exact hk_299 ct177 hct177 mto mfr mso mnu mwo y2 y3 hm6 ls H lo (lv_sub hl [0, 1, 2] rfl) hP hD hS
    · have hm7 := zz_nf c5 hm
      refine lv_aload_n hx hb dX7_go_282 rfl (lv_at hl 0 rfl) ?_
      refine lv_bipush (v := (10 : Int32)) hx hb dX7_go_283 (by decide) ?_
      refine lv_aload_n hx hb dX7_go_285 rfl (lv_at hl 0 rfl) ?_
      refine va_get (D := D) (ci := 7) (v := .int mnu) (C := RX7) (T := TX7) (N := 17) hx hb hts iw_X7 hown hK hP 0 rfl rfl 7 (by decide) (hts (.fieldLink RX7 41 "VarianceBridgeModel" "number" "I") (by decide +kernel)) (fun _ h9 => h9) rfl dX7_go_286 ?_
      refine lv_imul hx hb dX7_go_289 ?_
      refine lv_iload hx hb dX7_go_290 (lv_at hl 3 rfl) ?_
      refine lv_iadd hx hb dX7_go_292 ?_
      refine lv_bipush (v := (48 : Int32)) hx hb dX7_go_293 (by decide) ?_
      refine lv_isub hx hb dX7_go_295 ?_
      refine va_put (D := D) (ci := 7) (v := .int ((((10 : Int32) * mnu) + y4) - (48 : Int32))) (ty := .int) (C := RX7) (T := TX7) (N := 17) hx hb hts iw_X7 tyX7 tyX7_ok nmX7 hown hK hP hD hS 0 rfl rfl 7 (by decide) (hts (.fieldLink RX7 41 "VarianceBridgeModel" "number" "I") (by decide +kernel)) (fun _ h9 => h9) rfl (by decide +kernel) rfl rfl (Nat.le_of_ble_eq_true rfl) dX7_go_296 (fun H8 lo8 hP8 hD8 hS8 => ?_)
      replace hP8 : va_P D vwCl (w_Model cI cB cZ aM aMt aMn aMr aMs aMi mth mtd msz mto mfr mso ((((10 : Int32) * mnu) + y4) - (48 : Int32)) mfa mpl mwo msm mgo mt mno mre msn mis) H8 := hP8
      replace hD8 : va_D A (w_Model cI cB cZ aM aMt aMn aMr aMs aMi mth mtd msz mto mfr mso ((((10 : Int32) * mnu) + y4) - (48 : Int32)) mfa mpl mwo msm mgo mt mno mre msn mis) := hD8
      clear hP hD hS
      exact hk_299 ct177 hct177 mto mfr mso ((((10 : Int32) * mnu) + y4) - (48 : Int32)) mwo y2 y3 hm7 ls H8 lo8 (lv_sub hl [0, 1, 2] rfl) hP8 hD8 hS8
  have hk_234 : ∀ (ct177 : Int32 → Int32 → Int32 → Int32 → Int64 → Int32 → Int32 → Option (Int32 × Int32 × Int32 × Int32 × Int64)) (hct177 : ∀ (mto : Int32) (mfr : Int32) (mso : Int32) (mnu : Int32) (mwo : Int64) (y2 : Int32) (y3 : Int32), ct177 mto mfr mso mnu mwo y2 y3 = some (u_mto, u_mfr, u_mso, u_mnu, u_mwo) → ∀ (ls : Array Slot) (H : Heap) (lo : List Loc), lv_has ls 5 [(0, .ref aM), (2, .int y2), (3, .int y3)] → va_P D vwCl (w_Model cI cB cZ aM aMt aMn aMr aMs aMi mth mtd msz mto mfr mso mnu mfa mpl mwo msm mgo mt mno mre msn mis) H → va_D A (w_Model cI cB cZ aM aMt aMn aMr aMs aMi mth mtd msz mto mfr mso mnu mfa mpl mwo msm mgo mt mno mre msn mis) → va_S A s.heap H lo → W p l e (headSpec wsX7_go ({ frames := 1, cells := 0, slots := 0, locals := 21 } : Room)).room s m (([.ref aM] : List Value).toArray) below meth c H lo 0 0 (MQ below (QV D cI cB cZ A (w_Model cI cB cZ aM aMt aMn aMr aMs aMi mth mtd msz u_mto u_mfr u_mso u_mnu mfa mpl u_mwo msm mgo mt mno mre msn mis)) (([.ref aM] : List Value).toArray) s 0 0 A) (F0 m 177 ls [])) (mto : Int32) (mfr : Int32) (mso : Int32) (mnu : Int32) (mwo : Int64) (y2 : Int32) (y4 : Int32) (z0 : Int32), k_X7_go_234 msz mt ct177 mto mfr mso mnu mwo y2 y4 z0 = some (u_mto, u_mfr, u_mso, u_mnu, u_mwo) → ∀ (ls : Array Slot) (H : Heap) (lo : List Loc), lv_has ls 5 [(0, .ref aM), (2, .int y2), (4, .int y4)] → va_P D vwCl (w_Model cI cB cZ aM aMt aMn aMr aMs aMi mth mtd msz mto mfr mso mnu mfa mpl mwo msm mgo mt mno mre msn mis) H → va_D A (w_Model cI cB cZ aM aMt aMn aMr aMs aMi mth mtd msz mto mfr mso mnu mfa mpl mwo msm mgo mt mno mre msn mis) → va_S A s.heap H lo → W p l e (headSpec wsX7_go ({ frames := 1, cells := 0, slots := 0, locals := 21 } : Room)).room s m (([.ref aM] : List Value).toArray) below meth c H lo 0 0 (MQ below (QV D cI cB cZ A (w_Model cI cB cZ aM aMt aMn aMr aMs aMi mth mtd msz u_mto u_mfr u_mso u_mnu mfa mpl u_mwo msm mgo mt mno mre msn mis)) (([.ref aM] : List Value).toArray) s 0 0 A) (F0 m 234 ls [.int z0]) := by
    intro ct177 hct177 mto mfr mso mnu mwo y2 y4 z0 hm ls H lo hl hP hD hS
    replace hm : (if (7 : Int32) ≤ (mto - mfr) then (k_X7_go_269 msz mt ct177 mto mfr mso mnu mwo y2 z0 y4) else (k_X7_go_269 msz mt ct177 mto mfr mso mnu ((((27 : Int64) * mwo) + (y4.toInt64)) - (96 : Int64)) y2 z0 y4)) = some (u_mto, u_mfr, u_mso, u_mnu, u_mwo) := hm
    refine lv_istore_n (lv' := [(3, .int z0), (0, .ref aM), (2, .int y2), (4, .int y4)]) hx hb dX7_go_234 rfl hl (by decide) rfl (fun ls9 hl9 => ?_)
    refine lv_aload_n hx hb dX7_go_235 rfl (lv_at hl9 1 rfl) ?_
    refine va_get (D := D) (ci := 7) (v := .int mto) (C := RX7) (T := TX7) (N := 17) hx hb hts iw_X7 hown hK hP 0 rfl rfl 4 (by decide) (hts (.fieldLink RX7 21 "VarianceBridgeModel" "to" "I") (by decide +kernel)) (fun _ h9 => h9) rfl dX7_go_236 ?_
    refine lv_aload_n hx hb dX7_go_239 rfl (lv_at hl9 1 rfl) ?_
    refine va_get (D := D) (ci := 7) (v := .int mfr) (C := RX7) (T := TX7) (N := 17) hx hb hts iw_X7 hown hK hP 0 rfl rfl 5 (by decide) (hts (.fieldLink RX7 24 "VarianceBridgeModel" "from" "I") (by decide +kernel)) (fun _ h9 => h9) rfl dX7_go_240 ?_
    refine lv_isub hx hb dX7_go_243 ?_
    refine lv_bipush (v := (7 : Int32)) hx hb dX7_go_244 (by decide) ?_
    refine lv_icmp_ge (tgt := 269) hx hb dX7_go_246 (by decide) (fun c10 => ?_) (fun c10 => ?_)
    · have hm11 := zz_if c10 hm
      exact hk_269 ct177 hct177 mto mfr mso mnu mwo y2 z0 y4 hm11 ls9 H lo (lv_sub hl9 [1, 2, 0, 3] rfl) hP hD hS
    · have hm12 := zz_nf c10 hm
      refine lv_aload_n hx hb dX7_go_249 rfl (lv_at hl9 1 rfl) ?_
      refine lv_ldc2 (v := (27 : Int64)) hx hb hown (hts (.constantLong RX7 48 (27)) (by decide +kernel)) dX7_go_250 ?_
      refine lv_aload_n hx hb dX7_go_253 rfl (lv_at hl9 1 rfl) ?_
      refine va_get (D := D) (ci := 7) (v := .long mwo) (C := RX7) (T := TX7) (N := 17) hx hb hts iw_X7 hown hK hP 0 rfl rfl 10 (by decide) (hts (.fieldLink RX7 37 "VarianceBridgeModel" "word" "J") (by decide +kernel)) (fun _ h9 => h9) rfl dX7_go_254 ?_
      refine lv_lmul hx hb dX7_go_257 ?_
      refine lv_iload hx hb dX7_go_258 (lv_at hl9 3 rfl) ?_
      refine lv_i2l (v := y4.toInt64) hx hb dX7_go_260 rfl ?_
      refine lv_ladd hx hb dX7_go_261 ?_
      refine lv_ldc2 (v := (96 : Int64)) hx hb hown (hts (.constantLong RX7 50 (96)) (by decide +kernel)) dX7_go_262 ?_
      refine lv_lsub hx hb dX7_go_265 ?_
      refine va_put (D := D) (ci := 7) (v := .long ((((27 : Int64) * mwo) + (y4.toInt64)) - (96 : Int64))) (ty := .long) (C := RX7) (T := TX7) (N := 17) hx hb hts iw_X7 tyX7 tyX7_ok nmX7 hown hK hP hD hS 0 rfl rfl 10 (by decide) (hts (.fieldLink RX7 37 "VarianceBridgeModel" "word" "J") (by decide +kernel)) (fun _ h9 => h9) rfl (by decide +kernel) rfl rfl (Nat.le_of_ble_eq_true rfl) dX7_go_266 (fun H13 lo13 hP13 hD13 hS13 => ?_)
      replace hP13 : va_P D vwCl (w_Model cI cB cZ aM aMt aMn aMr aMs aMi mth mtd msz mto mfr mso mnu mfa mpl ((((27 : Int64) * mwo) + (y4.toInt64)) - (96 : Int64)) msm mgo mt mno mre msn mis) H13 := hP13
      replace hD13 : va_D A (w_Model cI cB cZ aM aMt aMn aMr aMs aMi mth mtd msz mto mfr mso mnu mfa mpl ((((27 : Int64) * mwo) + (y4.toInt64)) - (96 : Int64)) msm mgo mt mno mre msn mis) := hD13
      clear hP hD hS
      exact hk_269 ct177 hct177 mto mfr mso mnu ((((27 : Int64) * mwo) + (y4.toInt64)) - (96 : Int64)) y2 z0 y4 hm12 ls9 H13 lo13 (lv_sub hl9 [1, 2, 0, 3] rfl) hP13 hD13 hS13
  have hk_233 : ∀ (ct177 : Int32 → Int32 → Int32 → Int32 → Int64 → Int32 → Int32 → Option (Int32 × Int32 × Int32 × Int32 × Int64)) (hct177 : ∀ (mto : Int32) (mfr : Int32) (mso : Int32) (mnu : Int32) (mwo : Int64) (y2 : Int32) (y3 : Int32), ct177 mto mfr mso mnu mwo y2 y3 = some (u_mto, u_mfr, u_mso, u_mnu, u_mwo) → ∀ (ls : Array Slot) (H : Heap) (lo : List Loc), lv_has ls 5 [(0, .ref aM), (2, .int y2), (3, .int y3)] → va_P D vwCl (w_Model cI cB cZ aM aMt aMn aMr aMs aMi mth mtd msz mto mfr mso mnu mfa mpl mwo msm mgo mt mno mre msn mis) H → va_D A (w_Model cI cB cZ aM aMt aMn aMr aMs aMi mth mtd msz mto mfr mso mnu mfa mpl mwo msm mgo mt mno mre msn mis) → va_S A s.heap H lo → W p l e (headSpec wsX7_go ({ frames := 1, cells := 0, slots := 0, locals := 21 } : Room)).room s m (([.ref aM] : List Value).toArray) below meth c H lo 0 0 (MQ below (QV D cI cB cZ A (w_Model cI cB cZ aM aMt aMn aMr aMs aMi mth mtd msz u_mto u_mfr u_mso u_mnu mfa mpl u_mwo msm mgo mt mno mre msn mis)) (([.ref aM] : List Value).toArray) s 0 0 A) (F0 m 177 ls [])) (mto : Int32) (mfr : Int32) (mso : Int32) (mnu : Int32) (mwo : Int64) (y2 : Int32) (y4 : Int32), k_X7_go_233 msz mt ct177 mto mfr mso mnu mwo y2 y4 = some (u_mto, u_mfr, u_mso, u_mnu, u_mwo) → ∀ (ls : Array Slot) (H : Heap) (lo : List Loc), lv_has ls 5 [(0, .ref aM), (2, .int y2), (4, .int y4)] → va_P D vwCl (w_Model cI cB cZ aM aMt aMn aMr aMs aMi mth mtd msz mto mfr mso mnu mfa mpl mwo msm mgo mt mno mre msn mis) H → va_D A (w_Model cI cB cZ aM aMt aMn aMr aMs aMi mth mtd msz mto mfr mso mnu mfa mpl mwo msm mgo mt mno mre msn mis) → va_S A s.heap H lo → W p l e (headSpec wsX7_go ({ frames := 1, cells := 0, slots := 0, locals := 21 } : Room)).room s m (([.ref aM] : List Value).toArray) below meth c H lo 0 0 (MQ below (QV D cI cB cZ A (w_Model cI cB cZ aM aMt aMn aMr aMs aMi mth mtd msz u_mto u_mfr u_mso u_mnu mfa mpl u_mwo msm mgo mt mno mre msn mis)) (([.ref aM] : List Value).toArray) s 0 0 A) (F0 m 233 ls []) := by
    intro ct177 hct177 mto mfr mso mnu mwo y2 y4 hm ls H lo hl hP hD hS
    replace hm : (k_X7_go_234 msz mt ct177 mto mfr mso mnu mwo y2 y4 (0 : Int32)) = some (u_mto, u_mfr, u_mso, u_mnu, u_mwo) := hm
    refine lv_iconst (v := (0 : Int32)) hx hb dX7_go_233 (by decide) ?_
    exact hk_234 ct177 hct177 mto mfr mso mnu mwo y2 y4 (0 : Int32) hm ls H lo (lv_sub hl [0, 1, 2] rfl) hP hD hS
  have hk_205 : ∀ (ct177 : Int32 → Int32 → Int32 → Int32 → Int64 → Int32 → Int32 → Option (Int32 × Int32 × Int32 × Int32 × Int64)) (hct177 : ∀ (mto : Int32) (mfr : Int32) (mso : Int32) (mnu : Int32) (mwo : Int64) (y2 : Int32) (y3 : Int32), ct177 mto mfr mso mnu mwo y2 y3 = some (u_mto, u_mfr, u_mso, u_mnu, u_mwo) → ∀ (ls : Array Slot) (H : Heap) (lo : List Loc), lv_has ls 5 [(0, .ref aM), (2, .int y2), (3, .int y3)] → va_P D vwCl (w_Model cI cB cZ aM aMt aMn aMr aMs aMi mth mtd msz mto mfr mso mnu mfa mpl mwo msm mgo mt mno mre msn mis) H → va_D A (w_Model cI cB cZ aM aMt aMn aMr aMs aMi mth mtd msz mto mfr mso mnu mfa mpl mwo msm mgo mt mno mre msn mis) → va_S A s.heap H lo → W p l e (headSpec wsX7_go ({ frames := 1, cells := 0, slots := 0, locals := 21 } : Room)).room s m (([.ref aM] : List Value).toArray) below meth c H lo 0 0 (MQ below (QV D cI cB cZ A (w_Model cI cB cZ aM aMt aMn aMr aMs aMi mth mtd msz u_mto u_mfr u_mso u_mnu mfa mpl u_mwo msm mgo mt mno mre msn mis)) (([.ref aM] : List Value).toArray) s 0 0 A) (F0 m 177 ls [])) (mto : Int32) (mfr : Int32) (mso : Int32) (mnu : Int32) (mwo : Int64) (y2 : Int32) (y3 : Int32), k_X7_go_205 msz mt ct177 mto mfr mso mnu mwo y2 y3 = some (u_mto, u_mfr, u_mso, u_mnu, u_mwo) → ∀ (ls : Array Slot) (H : Heap) (lo : List Loc), lv_has ls 5 [(0, .ref aM), (2, .int y2), (3, .int y3)] → va_P D vwCl (w_Model cI cB cZ aM aMt aMn aMr aMs aMi mth mtd msz mto mfr mso mnu mfa mpl mwo msm mgo mt mno mre msn mis) H → va_D A (w_Model cI cB cZ aM aMt aMn aMr aMs aMi mth mtd msz mto mfr mso mnu mfa mpl mwo msm mgo mt mno mre msn mis) → va_S A s.heap H lo → W p l e (headSpec wsX7_go ({ frames := 1, cells := 0, slots := 0, locals := 21 } : Room)).room s m (([.ref aM] : List Value).toArray) below meth c H lo 0 0 (MQ below (QV D cI cB cZ A (w_Model cI cB cZ aM aMt aMn aMr aMs aMi mth mtd msz u_mto u_mfr u_mso u_mnu mfa mpl u_mwo msm mgo mt mno mre msn mis)) (([.ref aM] : List Value).toArray) s 0 0 A) (F0 m 205 ls []) := by
    intro ct177 hct177 mto mfr mso mnu mwo y2 y3 hm ls H lo hl hP hD hS
    replace hm : (if mto < 0 ∨ 640 ≤ mto.toNatClampNeg then none else (if y3 = 0 then (k_X7_go_233 msz mt ct177 mto mfr mso mnu mwo y2 (mt mto.toNatClampNeg)) else (ob1 (m_X7_isLetter (mt mto.toNatClampNeg)) (fun r20 => (if r20 = y2 then (k_X7_go_234 msz mt ct177 mto mfr mso mnu mwo y2 (mt mto.toNatClampNeg) (1 : Int32)) else (k_X7_go_233 msz mt ct177 mto mfr mso mnu mwo y2 (mt mto.toNatClampNeg))))))) = some (u_mto, u_mfr, u_mso, u_mnu, u_mwo) := hm
    refine lv_aload_n hx hb dX7_go_205 rfl (lv_at hl 0 rfl) ?_
    refine va_get (D := D) (ci := 7) (v := .ref aMt) (C := RX7) (T := TX7) (N := 17) hx hb hts iw_X7 hown hK hP 0 rfl rfl 1 (by decide) (hts (.fieldLink RX7 7 "VarianceBridgeModel" "tape" "[I") (by decide +kernel)) (fun _ h9 => h9) rfl dX7_go_206 ?_
    refine lv_aload_n hx hb dX7_go_209 rfl (lv_at hl 0 rfl) ?_
    refine va_get (D := D) (ci := 7) (v := .int mto) (C := RX7) (T := TX7) (N := 17) hx hb hts iw_X7 hown hK hP 0 rfl rfl 4 (by decide) (hts (.fieldLink RX7 21 "VarianceBridgeModel" "to" "I") (by decide +kernel)) (fun _ h9 => h9) rfl dX7_go_210 ?_
    obtain ⟨c14, hm15⟩ := zz_no hm
    refine va_iald hx hb hK hP 1 0 rfl rfl c14 dX7_go_213 ?_
    refine lv_istore (lv' := [(4, .int (mt mto.toNatClampNeg)), (0, .ref aM), (2, .int y2), (3, .int y3)]) hx hb dX7_go_214 hl (by decide) rfl (fun ls16 hl16 => ?_)
    refine lv_iload_n hx hb dX7_go_216 rfl (lv_at hl16 3 rfl) ?_
    refine lv_if_eq (tgt := 233) hx hb dX7_go_217 (by decide) (fun c17 => ?_) (fun c17 => ?_)
    · have hm18 := zz_if c17 hm15
      exact hk_233 ct177 hct177 mto mfr mso mnu mwo y2 (mt mto.toNatClampNeg) hm18 ls16 H lo (lv_sub hl16 [1, 2, 0] rfl) hP hD hS
    · have hm19 := zz_nf c17 hm15
      refine lv_iload hx hb dX7_go_220 (lv_at hl16 0 rfl) ?_
      obtain ⟨r20, h20, hm20⟩ := ob1_e hm19
      refine gcall_b (ws' := (w_Model cI cB cZ aM aMt aMn aMr aMs aMi mth mtd msz mto mfr mso mnu mfa mpl mwo msm mgo mt mno mre msn mis)) (va_runS (As := [.int (mt mto.toNatClampNeg)]) (rest := []) ⟨hx, hb, hml, hown, hts⟩ (c_X7_isLetter l D cI cB cZ ta H.size (mt mto.toNatClampNeg) r20 h20) (va_cwS 1 hts gX7_go_X7_isLetter rfl rfl rfl (by decide +kernel) ⟨(Nat.le_of_ble_eq_true rfl), (Nat.le_of_ble_eq_true rfl)⟩) ⟨PW_blind, PW_at hP hD hK hS hA hG [] rfl (by decide)⟩ rfl rfl hl16.1 rfl (lv_room (Nat.le_of_ble_eq_true rfl)) dX7_go_222 ⟨(Nat.le_of_ble_eq_true rfl), (Nat.le_of_ble_eq_true rfl)⟩) hP hD hS hA [] [0, 1, 2, 3, 4, 5] [0, 1, 2, 3, 4, 5] rfl rfl (by decide) (by decide) (by decide) rfl (fun H21 lo21 hz20 hP21 hD21 hS21 => ?_)
      clear hP hD hS
      refine lv_iload_n hx hb dX7_go_225 rfl (lv_at hl16 2 rfl) ?_
      refine lv_icmp_ne (tgt := 233) hx hb dX7_go_226 (by decide) (fun c22 => ?_) (fun c22 => ?_)
      · have hm23 := zz_nf c22 hm20
        exact hk_233 ct177 hct177 mto mfr mso mnu mwo y2 (mt mto.toNatClampNeg) hm23 ls16 H21 lo21 (lv_sub hl16 [1, 2, 0] rfl) hP21 hD21 hS21
      · have hm24 := zz_if c22 hm20
        refine lv_iconst (v := (1 : Int32)) hx hb dX7_go_229 (by decide) ?_
        refine lv_goto (tgt := 234) hx hb dX7_go_230 (by decide) ?_
        exact hk_234 ct177 hct177 mto mfr mso mnu mwo y2 (mt mto.toNatClampNeg) (1 : Int32) hm24 ls16 H21 lo21 (lv_sub hl16 [1, 2, 0] rfl) hP21 hD21 hS21
  have hk_347 : ∀ (mto : Int32) (mfr : Int32) (mso : Int32) (mnu : Int32) (mwo : Int64) (z1 : Int32), k_X7_go_347 msz mt mto mfr mso mnu mwo z1 = some (u_mto, u_mfr, u_mso, u_mnu, u_mwo) → ∀ (ls : Array Slot) (H : Heap) (lo : List Loc), lv_has ls 5 [] → va_P D vwCl (w_Model cI cB cZ aM aMt aMn aMr aMs aMi mth mtd msz mto mfr mso mnu mfa mpl mwo msm mgo mt mno mre msn mis) H → va_D A (w_Model cI cB cZ aM aMt aMn aMr aMs aMi mth mtd msz mto mfr mso mnu mfa mpl mwo msm mgo mt mno mre msn mis) → va_S A s.heap H lo → W p l e (headSpec wsX7_go ({ frames := 1, cells := 0, slots := 0, locals := 21 } : Room)).room s m (([.ref aM] : List Value).toArray) below meth c H lo 0 0 (MQ below (QV D cI cB cZ A (w_Model cI cB cZ aM aMt aMn aMr aMs aMi mth mtd msz u_mto u_mfr u_mso u_mnu mfa mpl u_mwo msm mgo mt mno mre msn mis)) (([.ref aM] : List Value).toArray) s 0 0 A) (F0 m 347 ls [.int z1, .ref aM]) := by
    intro mto mfr mso mnu mwo z1 hm ls H lo hl hP hD hS
    replace hm : some (mto, mfr, z1, mnu, mwo) = some (u_mto, u_mfr, u_mso, u_mnu, u_mwo) := hm
    refine va_put (D := D) (ci := 7) (v := .int z1) (ty := .int) (C := RX7) (T := TX7) (N := 17) hx hb hts iw_X7 tyX7 tyX7_ok nmX7 hown hK hP hD hS 0 rfl rfl 6 (by decide) (hts (.fieldLink RX7 27 "VarianceBridgeModel" "sort" "I") (by decide +kernel)) (fun _ h9 => h9) rfl (by decide +kernel) rfl rfl (Nat.le_of_ble_eq_true rfl) dX7_go_347 (fun H25 lo25 hP25 hD25 hS25 => ?_)
    replace hP25 : va_P D vwCl (w_Model cI cB cZ aM aMt aMn aMr aMs aMi mth mtd msz mto mfr z1 mnu mfa mpl mwo msm mgo mt mno mre msn mis) H25 := hP25
    replace hD25 : va_D A (w_Model cI cB cZ aM aMt aMn aMr aMs aMi mth mtd msz mto mfr z1 mnu mfa mpl mwo msm mgo mt mno mre msn mis) := hD25
    clear hP hD hS
    obtain ⟨hq1, hq99⟩ := Prod.mk.inj (Option.some.inj hm)
    obtain ⟨hq2, hq99⟩ := Prod.mk.inj (hq99)
    obtain ⟨hq3, hq99⟩ := Prod.mk.inj (hq99)
    obtain ⟨hq4, hq5⟩ := Prod.mk.inj (hq99)
    subst hq1
    subst hq2
    subst hq3
    subst hq4
    subst hq5
    exact W.vret hx hb hr (fun t ht hW => ⟨⟨(), rfl, trivial, by rw [ht]; exact hP25, va_K.moved hW.alike hK, hD25⟩, hS25.F ht⟩) hS25.2.2 dX7_go_350
  have hk_334 : ∀ (mto : Int32) (mfr : Int32) (mso : Int32) (mnu : Int32) (mwo : Int64), k_X7_go_334 msz mt mto mfr mso mnu mwo = some (u_mto, u_mfr, u_mso, u_mnu, u_mwo) → ∀ (ls : Array Slot) (H : Heap) (lo : List Loc), lv_has ls 5 [] → va_P D vwCl (w_Model cI cB cZ aM aMt aMn aMr aMs aMi mth mtd msz mto mfr mso mnu mfa mpl mwo msm mgo mt mno mre msn mis) H → va_D A (w_Model cI cB cZ aM aMt aMn aMr aMs aMi mth mtd msz mto mfr mso mnu mfa mpl mwo msm mgo mt mno mre msn mis) → va_S A s.heap H lo → W p l e (headSpec wsX7_go ({ frames := 1, cells := 0, slots := 0, locals := 21 } : Room)).room s m (([.ref aM] : List Value).toArray) below meth c H lo 0 0 (MQ below (QV D cI cB cZ A (w_Model cI cB cZ aM aMt aMn aMr aMs aMi mth mtd msz u_mto u_mfr u_mso u_mnu mfa mpl u_mwo msm mgo mt mno mre msn mis)) (([.ref aM] : List Value).toArray) s 0 0 A) (F0 m 334 ls [.ref aM]) := by
    intro mto mfr mso mnu mwo hm ls H lo hl hP hD hS
    replace hm : (k_X7_go_347 msz mt mto mfr mso mnu mwo (1 : Int32)) = some (u_mto, u_mfr, u_mso, u_mnu, u_mwo) := hm
    refine lv_iconst (v := (1 : Int32)) hx hb dX7_go_334 (by decide) ?_
    refine lv_goto (tgt := 347) hx hb dX7_go_335 (by decide) ?_
    exact hk_347 mto mfr mso mnu mwo (1 : Int32) hm ls H lo (lv_sub hl [] rfl) hP hD hS
  have hk_338 : ∀ (mto : Int32) (mfr : Int32) (mso : Int32) (mnu : Int32) (mwo : Int64) (y2 : Int32), k_X7_go_338 msz mt mto mfr mso mnu mwo y2 = some (u_mto, u_mfr, u_mso, u_mnu, u_mwo) → ∀ (ls : Array Slot) (H : Heap) (lo : List Loc), lv_has ls 5 [(2, .int y2)] → va_P D vwCl (w_Model cI cB cZ aM aMt aMn aMr aMs aMi mth mtd msz mto mfr mso mnu mfa mpl mwo msm mgo mt mno mre msn mis) H → va_D A (w_Model cI cB cZ aM aMt aMn aMr aMs aMi mth mtd msz mto mfr mso mnu mfa mpl mwo msm mgo mt mno mre msn mis) → va_S A s.heap H lo → W p l e (headSpec wsX7_go ({ frames := 1, cells := 0, slots := 0, locals := 21 } : Room)).room s m (([.ref aM] : List Value).toArray) below meth c H lo 0 0 (MQ below (QV D cI cB cZ A (w_Model cI cB cZ aM aMt aMn aMr aMs aMi mth mtd msz u_mto u_mfr u_mso u_mnu mfa mpl u_mwo msm mgo mt mno mre msn mis)) (([.ref aM] : List Value).toArray) s 0 0 A) (F0 m 338 ls [.ref aM]) := by
    intro mto mfr mso mnu mwo y2 hm ls H lo hl hP hD hS
    replace hm : (if y2 = 0 then (k_X7_go_347 msz mt mto mfr mso mnu mwo (3 : Int32)) else (k_X7_go_347 msz mt mto mfr mso mnu mwo (2 : Int32))) = some (u_mto, u_mfr, u_mso, u_mnu, u_mwo) := hm
    refine lv_iload_n hx hb dX7_go_338 rfl (lv_at hl 0 rfl) ?_
    refine lv_if_eq (tgt := 346) hx hb dX7_go_339 (by decide) (fun c26 => ?_) (fun c26 => ?_)
    · have hm27 := zz_if c26 hm
      refine lv_iconst (v := (3 : Int32)) hx hb dX7_go_346 (by decide) ?_
      exact hk_347 mto mfr mso mnu mwo (3 : Int32) hm27 ls H lo (lv_sub hl [] rfl) hP hD hS
    · have hm28 := zz_nf c26 hm
      refine lv_iconst (v := (2 : Int32)) hx hb dX7_go_342 (by decide) ?_
      refine lv_goto (tgt := 347) hx hb dX7_go_343 (by decide) ?_
      exact hk_347 mto mfr mso mnu mwo (2 : Int32) hm28 ls H lo (lv_sub hl [] rfl) hP hD hS
  have hk_177 : ∀ (n : Nat) (mto : Int32) (mfr : Int32) (mso : Int32) (mnu : Int32) (mwo : Int64) (y2 : Int32) (y3 : Int32), k_X7_go_177 msz mt n mto mfr mso mnu mwo y2 y3 = some (u_mto, u_mfr, u_mso, u_mnu, u_mwo) → ∀ (ls : Array Slot) (H : Heap) (lo : List Loc), lv_has ls 5 [(0, .ref aM), (2, .int y2), (3, .int y3)] → va_P D vwCl (w_Model cI cB cZ aM aMt aMn aMr aMs aMi mth mtd msz mto mfr mso mnu mfa mpl mwo msm mgo mt mno mre msn mis) H → va_D A (w_Model cI cB cZ aM aMt aMn aMr aMs aMi mth mtd msz mto mfr mso mnu mfa mpl mwo msm mgo mt mno mre msn mis) → va_S A s.heap H lo → W p l e (headSpec wsX7_go ({ frames := 1, cells := 0, slots := 0, locals := 21 } : Room)).room s m (([.ref aM] : List Value).toArray) below meth c H lo 0 0 (MQ below (QV D cI cB cZ A (w_Model cI cB cZ aM aMt aMn aMr aMs aMi mth mtd msz u_mto u_mfr u_mso u_mnu mfa mpl u_mwo msm mgo mt mno mre msn mis)) (([.ref aM] : List Value).toArray) s 0 0 A) (F0 m 177 ls []) := by
    intro n
    induction n with
    | zero => intro mto mfr mso mnu mwo y2 y3 hm; exact zz_nn hm
    | succ n ih =>
      intro mto mfr mso mnu mwo y2 y3 hm ls H lo hl hP hD hS
      replace hm := (k_X7_go_177_s msz mt n mto mfr mso mnu mwo y2 y3).symm.trans hm
      refine lv_aload_n hx hb dX7_go_177 rfl (lv_at hl 0 rfl) ?_
      refine lv_aload_n hx hb dX7_go_178 rfl (lv_at hl 0 rfl) ?_
      refine va_get (D := D) (ci := 7) (v := .int mto) (C := RX7) (T := TX7) (N := 17) hx hb hts iw_X7 hown hK hP 0 rfl rfl 4 (by decide) (hts (.fieldLink RX7 21 "VarianceBridgeModel" "to" "I") (by decide +kernel)) (fun _ h9 => h9) rfl dX7_go_179 ?_
      obtain ⟨r29, h29, hm29⟩ := ob1_e hm
      refine gcall_i (ws' := (w_Model cI cB cZ aM aMt aMn aMr aMs aMi mth mtd msz mto mfr mso mnu mfa mpl mwo msm mgo mt mno mre msn mis)) (va_runV (As := [.int mto]) (rest := []) ⟨hx, hb, hml, hown, hts⟩ (c_X7_tapeAt l D cI cB cZ ta aM aMt aMn aMr aMs aMi H.size mth mtd msz mto mfr mso mnu mfa mpl mwo msm mgo mt mno mre msn mis mto r29 h29) (cwV 1 hts gX7_go_X7_tapeAt rfl rfl rfl (by decide +kernel) ⟨(Nat.le_of_ble_eq_true rfl), (Nat.le_of_ble_eq_true rfl)⟩) ⟨PW_blind, va_recv hK hP rfl (q0 := 0) rfl, PW_at hP hD hK hS hA hG [0, 1, 2, 3, 4, 5] rfl (by decide)⟩ rfl rfl hl.1 rfl (lv_room (Nat.le_of_ble_eq_true rfl)) dX7_go_182 ⟨(Nat.le_of_ble_eq_true rfl), (Nat.le_of_ble_eq_true rfl)⟩) hP hD hS hA [0, 1, 2, 3, 4, 5] [] [0, 1, 2, 3, 4, 5] rfl rfl (by decide) (by decide) (by decide) rfl (fun H30 lo30 hP30 hD30 hS30 => ?_)
      clear hP hD hS
      obtain ⟨r31, h31, hm31⟩ := ob1_e hm29
      refine gcall_b (ws' := (w_Model cI cB cZ aM aMt aMn aMr aMs aMi mth mtd msz mto mfr mso mnu mfa mpl mwo msm mgo mt mno mre msn mis)) (va_runS (As := [.int r29]) (rest := []) ⟨hx, hb, hml, hown, hts⟩ (c_X7_isLetter l D cI cB cZ ta H30.size r29 r31 h31) (va_cwS 1 hts gX7_go_X7_isLetter rfl rfl rfl (by decide +kernel) ⟨(Nat.le_of_ble_eq_true rfl), (Nat.le_of_ble_eq_true rfl)⟩) ⟨PW_blind, PW_at hP30 hD30 hK hS30 hA hG [] rfl (by decide)⟩ rfl rfl hl.1 rfl (lv_room (Nat.le_of_ble_eq_true rfl)) dX7_go_185 ⟨(Nat.le_of_ble_eq_true rfl), (Nat.le_of_ble_eq_true rfl)⟩) hP30 hD30 hS30 hA [] [0, 1, 2, 3, 4, 5] [0, 1, 2, 3, 4, 5] rfl rfl (by decide) (by decide) (by decide) rfl (fun H32 lo32 hz31 hP32 hD32 hS32 => ?_)
      clear hP30 hD30 hS30
      refine lv_if_ne (tgt := 205) hx hb dX7_go_188 (by decide) (fun c33 => ?_) (fun c33 => ?_)
      · have hm34 := zz_nf c33 hm31
        exact hk_205 (k_X7_go_177 msz mt n) ih mto mfr mso mnu mwo y2 y3 hm34 ls H32 lo32 (lv_sub hl [0, 1, 2] rfl) hP32 hD32 hS32
      · have hm35 := zz_if c33 hm31
        refine lv_aload_n hx hb dX7_go_191 rfl (lv_at hl 0 rfl) ?_
        refine lv_aload_n hx hb dX7_go_192 rfl (lv_at hl 0 rfl) ?_
        refine va_get (D := D) (ci := 7) (v := .int mto) (C := RX7) (T := TX7) (N := 17) hx hb hts iw_X7 hown hK hP32 0 rfl rfl 4 (by decide) (hts (.fieldLink RX7 21 "VarianceBridgeModel" "to" "I") (by decide +kernel)) (fun _ h9 => h9) rfl dX7_go_193 ?_
        obtain ⟨r36, h36, hm36⟩ := ob1_e hm35
        refine gcall_i (ws' := (w_Model cI cB cZ aM aMt aMn aMr aMs aMi mth mtd msz mto mfr mso mnu mfa mpl mwo msm mgo mt mno mre msn mis)) (va_runV (As := [.int mto]) (rest := []) ⟨hx, hb, hml, hown, hts⟩ (c_X7_tapeAt l D cI cB cZ ta aM aMt aMn aMr aMs aMi H32.size mth mtd msz mto mfr mso mnu mfa mpl mwo msm mgo mt mno mre msn mis mto r36 h36) (cwV 1 hts gX7_go_X7_tapeAt rfl rfl rfl (by decide +kernel) ⟨(Nat.le_of_ble_eq_true rfl), (Nat.le_of_ble_eq_true rfl)⟩) ⟨PW_blind, va_recv hK hP32 rfl (q0 := 0) rfl, PW_at hP32 hD32 hK hS32 hA hG [0, 1, 2, 3, 4, 5] rfl (by decide)⟩ rfl rfl hl.1 rfl (lv_room (Nat.le_of_ble_eq_true rfl)) dX7_go_196 ⟨(Nat.le_of_ble_eq_true rfl), (Nat.le_of_ble_eq_true rfl)⟩) hP32 hD32 hS32 hA [0, 1, 2, 3, 4, 5] [] [0, 1, 2, 3, 4, 5] rfl rfl (by decide) (by decide) (by decide) rfl (fun H37 lo37 hP37 hD37 hS37 => ?_)
        clear hP32 hD32 hS32
        obtain ⟨r38, h38, hm38⟩ := ob1_e hm36
        refine gcall_b (ws' := (w_Model cI cB cZ aM aMt aMn aMr aMs aMi mth mtd msz mto mfr mso mnu mfa mpl mwo msm mgo mt mno mre msn mis)) (va_runS (As := [.int r36]) (rest := []) ⟨hx, hb, hml, hown, hts⟩ (c_X7_isDigit l D cI cB cZ ta H37.size r36 r38 h38) (va_cwS 1 hts gX7_go_X7_isDigit rfl rfl rfl (by decide +kernel) ⟨(Nat.le_of_ble_eq_true rfl), (Nat.le_of_ble_eq_true rfl)⟩) ⟨PW_blind, PW_at hP37 hD37 hK hS37 hA hG [] rfl (by decide)⟩ rfl rfl hl.1 rfl (lv_room (Nat.le_of_ble_eq_true rfl)) dX7_go_199 ⟨(Nat.le_of_ble_eq_true rfl), (Nat.le_of_ble_eq_true rfl)⟩) hP37 hD37 hS37 hA [] [0, 1, 2, 3, 4, 5] [0, 1, 2, 3, 4, 5] rfl rfl (by decide) (by decide) (by decide) rfl (fun H39 lo39 hz38 hP39 hD39 hS39 => ?_)
        clear hP37 hD37 hS37
        refine lv_if_eq (tgt := 312) hx hb dX7_go_202 (by decide) (fun c40 => ?_) (fun c40 => ?_)
        · have hm41 := zz_if c40 hm38
          refine lv_aload_n hx hb dX7_go_312 rfl (lv_at hl 0 rfl) ?_
          refine lv_iload_n hx hb dX7_go_313 rfl (lv_at hl 2 rfl) ?_
          refine lv_if_eq (tgt := 334) hx hb dX7_go_314 (by decide) (fun c43 => ?_) (fun c43 => ?_)
          · have hm44 := zz_if c43 hm41
            exact hk_334 mto mfr mso mnu mwo hm44 ls H39 lo39 (lv_sub hl [] rfl) hP39 hD39 hS39
          · have hm45 := zz_nf c43 hm41
            refine lv_iload_n hx hb dX7_go_317 rfl (lv_at hl 1 rfl) ?_
            refine lv_if_ne (tgt := 338) hx hb dX7_go_318 (by decide) (fun c46 => ?_) (fun c46 => ?_)
            · have hm47 := zz_nf c46 hm45
              exact hk_338 mto mfr mso mnu mwo y2 hm47 ls H39 lo39 (lv_sub hl [1] rfl) hP39 hD39 hS39
            · have hm48 := zz_if c46 hm45
              refine lv_aload_n hx hb dX7_go_321 rfl (lv_at hl 0 rfl) ?_
              refine va_get (D := D) (ci := 7) (v := .int mto) (C := RX7) (T := TX7) (N := 17) hx hb hts iw_X7 hown hK hP39 0 rfl rfl 4 (by decide) (hts (.fieldLink RX7 21 "VarianceBridgeModel" "to" "I") (by decide +kernel)) (fun _ h9 => h9) rfl dX7_go_322 ?_
              refine lv_aload_n hx hb dX7_go_325 rfl (lv_at hl 0 rfl) ?_
              refine va_get (D := D) (ci := 7) (v := .int mfr) (C := RX7) (T := TX7) (N := 17) hx hb hts iw_X7 hown hK hP39 0 rfl rfl 5 (by decide) (hts (.fieldLink RX7 24 "VarianceBridgeModel" "from" "I") (by decide +kernel)) (fun _ h9 => h9) rfl dX7_go_326 ?_
              refine lv_isub hx hb dX7_go_329 ?_
              refine lv_iconst (v := (4 : Int32)) hx hb dX7_go_330 (by decide) ?_
              refine lv_icmp_le (tgt := 338) hx hb dX7_go_331 (by decide) (fun c49 => ?_) (fun c49 => ?_)
              · have hm50 := zz_if c49 hm48
                exact hk_338 mto mfr mso mnu mwo y2 hm50 ls H39 lo39 (lv_sub hl [1] rfl) hP39 hD39 hS39
              · have hm51 := zz_nf c49 hm48
                exact hk_334 mto mfr mso mnu mwo hm51 ls H39 lo39 (lv_sub hl [] rfl) hP39 hD39 hS39
        · have hm42 := zz_nf c40 hm38
          exact hk_205 (k_X7_go_177 msz mt n) ih mto mfr mso mnu mwo y2 y3 hm42 ls H39 lo39 (lv_sub hl [0, 1, 2] rfl) hP39 hD39 hS39
  have hk_160 : ∀ (mto : Int32) (mfr : Int32) (mso : Int32) (mnu : Int32) (mwo : Int64) (y1 : Int32), k_X7_go_160 msz mt mto mfr mso mnu mwo y1 = some (u_mto, u_mfr, u_mso, u_mnu, u_mwo) → ∀ (ls : Array Slot) (H : Heap) (lo : List Loc), lv_has ls 5 [(0, .ref aM), (1, .int y1)] → va_P D vwCl (w_Model cI cB cZ aM aMt aMn aMr aMs aMi mth mtd msz mto mfr mso mnu mfa mpl mwo msm mgo mt mno mre msn mis) H → va_D A (w_Model cI cB cZ aM aMt aMn aMr aMs aMi mth mtd msz mto mfr mso mnu mfa mpl mwo msm mgo mt mno mre msn mis) → va_S A s.heap H lo → W p l e (headSpec wsX7_go ({ frames := 1, cells := 0, slots := 0, locals := 21 } : Room)).room s m (([.ref aM] : List Value).toArray) below meth c H lo 0 0 (MQ below (QV D cI cB cZ A (w_Model cI cB cZ aM aMt aMn aMr aMs aMi mth mtd msz u_mto u_mfr u_mso u_mnu mfa mpl u_mwo msm mgo mt mno mre msn mis)) (([.ref aM] : List Value).toArray) s 0 0 A) (F0 m 160 ls []) := by
    intro mto mfr mso mnu mwo y1 hm ls H lo hl hP hD hS
    replace hm : (ob1 (m_X7_isLetter y1) (fun r52 => (k_X7_go_177 msz mt FU mto mfr mso (0 : Int32) (0 : Int64) r52 (1 : Int32)))) = some (u_mto, u_mfr, u_mso, u_mnu, u_mwo) := hm
    refine lv_iload_n hx hb dX7_go_160 rfl (lv_at hl 1 rfl) ?_
    obtain ⟨r52, h52, hm52⟩ := ob1_e hm
    refine gcall_b (ws' := (w_Model cI cB cZ aM aMt aMn aMr aMs aMi mth mtd msz mto mfr mso mnu mfa mpl mwo msm mgo mt mno mre msn mis)) (va_runS (As := [.int y1]) (rest := []) ⟨hx, hb, hml, hown, hts⟩ (c_X7_isLetter l D cI cB cZ ta H.size y1 r52 h52) (va_cwS 1 hts gX7_go_X7_isLetter rfl rfl rfl (by decide +kernel) ⟨(Nat.le_of_ble_eq_true rfl), (Nat.le_of_ble_eq_true rfl)⟩) ⟨PW_blind, PW_at hP hD hK hS hA hG [] rfl (by decide)⟩ rfl rfl hl.1 rfl (lv_room (Nat.le_of_ble_eq_true rfl)) dX7_go_161 ⟨(Nat.le_of_ble_eq_true rfl), (Nat.le_of_ble_eq_true rfl)⟩) hP hD hS hA [] [0, 1, 2, 3, 4, 5] [0, 1, 2, 3, 4, 5] rfl rfl (by decide) (by decide) (by decide) rfl (fun H53 lo53 hz52 hP53 hD53 hS53 => ?_)
    clear hP hD hS
    refine lv_istore_n (lv' := [(2, .int r52), (0, .ref aM), (1, .int y1)]) hx hb dX7_go_164 rfl hl (by decide) rfl (fun ls54 hl54 => ?_)
    refine lv_iconst (v := (1 : Int32)) hx hb dX7_go_165 (by decide) ?_
    refine lv_istore_n (lv' := [(3, .int (1 : Int32)), (2, .int r52), (0, .ref aM), (1, .int y1)]) hx hb dX7_go_166 rfl hl54 (by decide) rfl (fun ls55 hl55 => ?_)
    refine lv_aload_n hx hb dX7_go_167 rfl (lv_at hl55 2 rfl) ?_
    refine lv_lconst (v := (0 : Int64)) hx hb dX7_go_168 (by decide) ?_
    refine va_put (D := D) (ci := 7) (v := .long (0 : Int64)) (ty := .long) (C := RX7) (T := TX7) (N := 17) hx hb hts iw_X7 tyX7 tyX7_ok nmX7 hown hK hP53 hD53 hS53 0 rfl rfl 10 (by decide) (hts (.fieldLink RX7 37 "VarianceBridgeModel" "word" "J") (by decide +kernel)) (fun _ h9 => h9) rfl (by decide +kernel) rfl rfl (Nat.le_of_ble_eq_true rfl) dX7_go_169 (fun H56 lo56 hP56 hD56 hS56 => ?_)
    replace hP56 : va_P D vwCl (w_Model cI cB cZ aM aMt aMn aMr aMs aMi mth mtd msz mto mfr mso mnu mfa mpl (0 : Int64) msm mgo mt mno mre msn mis) H56 := hP56
    replace hD56 : va_D A (w_Model cI cB cZ aM aMt aMn aMr aMs aMi mth mtd msz mto mfr mso mnu mfa mpl (0 : Int64) msm mgo mt mno mre msn mis) := hD56
    clear hP53 hD53 hS53
    refine lv_aload_n hx hb dX7_go_172 rfl (lv_at hl55 2 rfl) ?_
    refine lv_iconst (v := (0 : Int32)) hx hb dX7_go_173 (by decide) ?_
    refine va_put (D := D) (ci := 7) (v := .int (0 : Int32)) (ty := .int) (C := RX7) (T := TX7) (N := 17) hx hb hts iw_X7 tyX7 tyX7_ok nmX7 hown hK hP56 hD56 hS56 0 rfl rfl 7 (by decide) (hts (.fieldLink RX7 41 "VarianceBridgeModel" "number" "I") (by decide +kernel)) (fun _ h9 => h9) rfl (by decide +kernel) rfl rfl (Nat.le_of_ble_eq_true rfl) dX7_go_174 (fun H57 lo57 hP57 hD57 hS57 => ?_)
    replace hP57 : va_P D vwCl (w_Model cI cB cZ aM aMt aMn aMr aMs aMi mth mtd msz mto mfr mso (0 : Int32) mfa mpl (0 : Int64) msm mgo mt mno mre msn mis) H57 := hP57
    replace hD57 : va_D A (w_Model cI cB cZ aM aMt aMn aMr aMs aMi mth mtd msz mto mfr mso (0 : Int32) mfa mpl (0 : Int64) msm mgo mt mno mre msn mis) := hD57
    clear hP56 hD56 hS56
    exact hk_177 FU mto mfr mso (0 : Int32) (0 : Int64) r52 (1 : Int32) hm52 ls55 H57 lo57 (lv_sub hl55 [2, 1, 0] rfl) hP57 hD57 hS57
  have hk_93 : ∀ (mto : Int32) (mfr : Int32) (mso : Int32) (mnu : Int32) (mwo : Int64), k_X7_go_93 msz mt mto mfr mso mnu mwo = some (u_mto, u_mfr, u_mso, u_mnu, u_mwo) → ∀ (ls : Array Slot) (H : Heap) (lo : List Loc), lv_has ls 5 [(0, .ref aM)] → va_P D vwCl (w_Model cI cB cZ aM aMt aMn aMr aMs aMi mth mtd msz mto mfr mso mnu mfa mpl mwo msm mgo mt mno mre msn mis) H → va_D A (w_Model cI cB cZ aM aMt aMn aMr aMs aMi mth mtd msz mto mfr mso mnu mfa mpl mwo msm mgo mt mno mre msn mis) → va_S A s.heap H lo → W p l e (headSpec wsX7_go ({ frames := 1, cells := 0, slots := 0, locals := 21 } : Room)).room s m (([.ref aM] : List Value).toArray) below meth c H lo 0 0 (MQ below (QV D cI cB cZ A (w_Model cI cB cZ aM aMt aMn aMr aMs aMi mth mtd msz u_mto u_mfr u_mso u_mnu mfa mpl u_mwo msm mgo mt mno mre msn mis)) (([.ref aM] : List Value).toArray) s 0 0 A) (F0 m 93 ls []) := by
    intro mto mfr mso mnu mwo hm ls H lo hl hP hD hS
    replace hm : (if mto < msz then (if mto < 0 ∨ 640 ≤ mto.toNatClampNeg then none else (ob1 (m_X7_isLetter (mt mto.toNatClampNeg)) (fun r64 => (if r64 = 0 then (ob1 (m_X7_isDigit (mt mto.toNatClampNeg)) (fun r69 => (if r69 = 0 then (if (mt mto.toNatClampNeg) = (59 : Int32) then (k_X7_go_146 msz mt mto mfr mso mnu mwo (4 : Int32)) else (k_X7_go_146 msz mt mto mfr mso mnu mwo (1 : Int32))) else (k_X7_go_160 msz mt mto mfr mso mnu mwo (mt mto.toNatClampNeg))))) else (k_X7_go_160 msz mt mto mfr mso mnu mwo (mt mto.toNatClampNeg)))))) else some (mto, mfr, (0 : Int32), mnu, mwo)) = some (u_mto, u_mfr, u_mso, u_mnu, u_mwo) := hm
    refine lv_aload_n hx hb dX7_go_93 rfl (lv_at hl 0 rfl) ?_
    refine va_get (D := D) (ci := 7) (v := .int mto) (C := RX7) (T := TX7) (N := 17) hx hb hts iw_X7 hown hK hP 0 rfl rfl 4 (by decide) (hts (.fieldLink RX7 21 "VarianceBridgeModel" "to" "I") (by decide +kernel)) (fun _ h9 => h9) rfl dX7_go_94 ?_
    refine lv_aload_n hx hb dX7_go_97 rfl (lv_at hl 0 rfl) ?_
    refine va_get (D := D) (ci := 7) (v := .int msz) (C := RX7) (T := TX7) (N := 17) hx hb hts iw_X7 hown hK hP 0 rfl rfl 3 (by decide) (hts (.fieldLink RX7 18 "VarianceBridgeModel" "size" "I") (by decide +kernel)) (fun _ h9 => h9) rfl dX7_go_98 ?_
    refine lv_icmp_lt (tgt := 110) hx hb dX7_go_101 (by decide) (fun c58 => ?_) (fun c58 => ?_)
    · have hm59 := zz_if c58 hm
      refine lv_aload_n hx hb dX7_go_110 rfl (lv_at hl 0 rfl) ?_
      refine va_get (D := D) (ci := 7) (v := .ref aMt) (C := RX7) (T := TX7) (N := 17) hx hb hts iw_X7 hown hK hP 0 rfl rfl 1 (by decide) (hts (.fieldLink RX7 7 "VarianceBridgeModel" "tape" "[I") (by decide +kernel)) (fun _ h9 => h9) rfl dX7_go_111 ?_
      refine lv_aload_n hx hb dX7_go_114 rfl (lv_at hl 0 rfl) ?_
      refine va_get (D := D) (ci := 7) (v := .int mto) (C := RX7) (T := TX7) (N := 17) hx hb hts iw_X7 hown hK hP 0 rfl rfl 4 (by decide) (hts (.fieldLink RX7 21 "VarianceBridgeModel" "to" "I") (by decide +kernel)) (fun _ h9 => h9) rfl dX7_go_115 ?_
      obtain ⟨c61, hm62⟩ := zz_no hm59
      refine va_iald hx hb hK hP 1 0 rfl rfl c61 dX7_go_118 ?_
      refine lv_istore_n (lv' := [(1, .int (mt mto.toNatClampNeg)), (0, .ref aM)]) hx hb dX7_go_119 rfl hl (by decide) rfl (fun ls63 hl63 => ?_)
      refine lv_iload_n hx hb dX7_go_120 rfl (lv_at hl63 0 rfl) ?_
      obtain ⟨r64, h64, hm64⟩ := ob1_e hm62
      refine gcall_b (ws' := (w_Model cI cB cZ aM aMt aMn aMr aMs aMi mth mtd msz mto mfr mso mnu mfa mpl mwo msm mgo mt mno mre msn mis)) (va_runS (As := [.int (mt mto.toNatClampNeg)]) (rest := []) ⟨hx, hb, hml, hown, hts⟩ (c_X7_isLetter l D cI cB cZ ta H.size (mt mto.toNatClampNeg) r64 h64) (va_cwS 1 hts gX7_go_X7_isLetter rfl rfl rfl (by decide +kernel) ⟨(Nat.le_of_ble_eq_true rfl), (Nat.le_of_ble_eq_true rfl)⟩) ⟨PW_blind, PW_at hP hD hK hS hA hG [] rfl (by decide)⟩ rfl rfl hl63.1 rfl (lv_room (Nat.le_of_ble_eq_true rfl)) dX7_go_121 ⟨(Nat.le_of_ble_eq_true rfl), (Nat.le_of_ble_eq_true rfl)⟩) hP hD hS hA [] [0, 1, 2, 3, 4, 5] [0, 1, 2, 3, 4, 5] rfl rfl (by decide) (by decide) (by decide) rfl (fun H65 lo65 hz64 hP65 hD65 hS65 => ?_)
      clear hP hD hS
      refine lv_if_ne (tgt := 160) hx hb dX7_go_124 (by decide) (fun c66 => ?_) (fun c66 => ?_)
      · have hm67 := zz_nf c66 hm64
        exact hk_160 mto mfr mso mnu mwo (mt mto.toNatClampNeg) hm67 ls63 H65 lo65 (lv_sub hl63 [1, 0] rfl) hP65 hD65 hS65
      · have hm68 := zz_if c66 hm64
        refine lv_iload_n hx hb dX7_go_127 rfl (lv_at hl63 0 rfl) ?_
        obtain ⟨r69, h69, hm69⟩ := ob1_e hm68
        refine gcall_b (ws' := (w_Model cI cB cZ aM aMt aMn aMr aMs aMi mth mtd msz mto mfr mso mnu mfa mpl mwo msm mgo mt mno mre msn mis)) (va_runS (As := [.int (mt mto.toNatClampNeg)]) (rest := []) ⟨hx, hb, hml, hown, hts⟩ (c_X7_isDigit l D cI cB cZ ta H65.size (mt mto.toNatClampNeg) r69 h69) (va_cwS 1 hts gX7_go_X7_isDigit rfl rfl rfl (by decide +kernel) ⟨(Nat.le_of_ble_eq_true rfl), (Nat.le_of_ble_eq_true rfl)⟩) ⟨PW_blind, PW_at hP65 hD65 hK hS65 hA hG [] rfl (by decide)⟩ rfl rfl hl63.1 rfl (lv_room (Nat.le_of_ble_eq_true rfl)) dX7_go_128 ⟨(Nat.le_of_ble_eq_true rfl), (Nat.le_of_ble_eq_true rfl)⟩) hP65 hD65 hS65 hA [] [0, 1, 2, 3, 4, 5] [0, 1, 2, 3, 4, 5] rfl rfl (by decide) (by decide) (by decide) rfl (fun H70 lo70 hz69 hP70 hD70 hS70 => ?_)
        clear hP65 hD65 hS65
        refine lv_if_ne (tgt := 160) hx hb dX7_go_131 (by decide) (fun c71 => ?_) (fun c71 => ?_)
        · have hm72 := zz_nf c71 hm69
          exact hk_160 mto mfr mso mnu mwo (mt mto.toNatClampNeg) hm72 ls63 H70 lo70 (lv_sub hl63 [1, 0] rfl) hP70 hD70 hS70
        · have hm73 := zz_if c71 hm69
          refine lv_aload_n hx hb dX7_go_134 rfl (lv_at hl63 1 rfl) ?_
          refine lv_iload_n hx hb dX7_go_135 rfl (lv_at hl63 0 rfl) ?_
          refine lv_bipush (v := (59 : Int32)) hx hb dX7_go_136 (by decide) ?_
          refine lv_icmp_ne (tgt := 145) hx hb dX7_go_138 (by decide) (fun c74 => ?_) (fun c74 => ?_)
          · have hm75 := zz_nf c74 hm73
            refine lv_iconst (v := (1 : Int32)) hx hb dX7_go_145 (by decide) ?_
            exact hk_146 mto mfr mso mnu mwo (1 : Int32) hm75 ls63 H70 lo70 (lv_sub hl63 [1] rfl) hP70 hD70 hS70
          · have hm76 := zz_if c74 hm73
            refine lv_iconst (v := (4 : Int32)) hx hb dX7_go_141 (by decide) ?_
            refine lv_goto (tgt := 146) hx hb dX7_go_142 (by decide) ?_
            exact hk_146 mto mfr mso mnu mwo (4 : Int32) hm76 ls63 H70 lo70 (lv_sub hl63 [1] rfl) hP70 hD70 hS70
    · have hm60 := zz_nf c58 hm
      refine lv_aload_n hx hb dX7_go_104 rfl (lv_at hl 0 rfl) ?_
      refine lv_iconst (v := (0 : Int32)) hx hb dX7_go_105 (by decide) ?_
      refine va_put (D := D) (ci := 7) (v := .int (0 : Int32)) (ty := .int) (C := RX7) (T := TX7) (N := 17) hx hb hts iw_X7 tyX7 tyX7_ok nmX7 hown hK hP hD hS 0 rfl rfl 6 (by decide) (hts (.fieldLink RX7 27 "VarianceBridgeModel" "sort" "I") (by decide +kernel)) (fun _ h9 => h9) rfl (by decide +kernel) rfl rfl (Nat.le_of_ble_eq_true rfl) dX7_go_106 (fun H77 lo77 hP77 hD77 hS77 => ?_)
      replace hP77 : va_P D vwCl (w_Model cI cB cZ aM aMt aMn aMr aMs aMi mth mtd msz mto mfr (0 : Int32) mnu mfa mpl mwo msm mgo mt mno mre msn mis) H77 := hP77
      replace hD77 : va_D A (w_Model cI cB cZ aM aMt aMn aMr aMs aMi mth mtd msz mto mfr (0 : Int32) mnu mfa mpl mwo msm mgo mt mno mre msn mis) := hD77
      clear hP hD hS
      obtain ⟨hq1, hq99⟩ := Prod.mk.inj (Option.some.inj hm60)
      obtain ⟨hq2, hq99⟩ := Prod.mk.inj (hq99)
      obtain ⟨hq3, hq99⟩ := Prod.mk.inj (hq99)
      obtain ⟨hq4, hq5⟩ := Prod.mk.inj (hq99)
      subst hq1
      subst hq2
      subst hq3
      subst hq4
      subst hq5
      exact W.vret hx hb hr (fun t ht hW => ⟨⟨(), rfl, trivial, by rw [ht]; exact hP77, va_K.moved hW.alike hK, hD77⟩, hS77.F ht⟩) hS77.2.2 dX7_go_109
  have hk_52 : ∀ (mto : Int32) (mfr : Int32) (mso : Int32) (mnu : Int32) (mwo : Int64), k_X7_go_52 msz mt mto mfr mso mnu mwo = some (u_mto, u_mfr, u_mso, u_mnu, u_mwo) → ∀ (ls : Array Slot) (H : Heap) (lo : List Loc), lv_has ls 5 [(0, .ref aM)] → va_P D vwCl (w_Model cI cB cZ aM aMt aMn aMr aMs aMi mth mtd msz mto mfr mso mnu mfa mpl mwo msm mgo mt mno mre msn mis) H → va_D A (w_Model cI cB cZ aM aMt aMn aMr aMs aMi mth mtd msz mto mfr mso mnu mfa mpl mwo msm mgo mt mno mre msn mis) → va_S A s.heap H lo → W p l e (headSpec wsX7_go ({ frames := 1, cells := 0, slots := 0, locals := 21 } : Room)).room s m (([.ref aM] : List Value).toArray) below meth c H lo 0 0 (MQ below (QV D cI cB cZ A (w_Model cI cB cZ aM aMt aMn aMr aMs aMi mth mtd msz u_mto u_mfr u_mso u_mnu mfa mpl u_mwo msm mgo mt mno mre msn mis)) (([.ref aM] : List Value).toArray) s 0 0 A) (F0 m 52 ls []) := by
    intro mto mfr mso mnu mwo hm ls H lo hl hP hD hS
    replace hm : (if msz ≤ (600 : Int32) then (k_X7_go_93 msz mt mto mto mso mnu mwo) else (if mto < (600 : Int32) then (k_X7_go_93 msz mt mto mto mso mnu mwo) else some (mto, (600 : Int32), (1 : Int32), mnu, mwo))) = some (u_mto, u_mfr, u_mso, u_mnu, u_mwo) := hm
    refine lv_aload_n hx hb dX7_go_52 rfl (lv_at hl 0 rfl) ?_
    refine lv_aload_n hx hb dX7_go_53 rfl (lv_at hl 0 rfl) ?_
    refine va_get (D := D) (ci := 7) (v := .int mto) (C := RX7) (T := TX7) (N := 17) hx hb hts iw_X7 hown hK hP 0 rfl rfl 4 (by decide) (hts (.fieldLink RX7 21 "VarianceBridgeModel" "to" "I") (by decide +kernel)) (fun _ h9 => h9) rfl dX7_go_54 ?_
    refine va_put (D := D) (ci := 7) (v := .int mto) (ty := .int) (C := RX7) (T := TX7) (N := 17) hx hb hts iw_X7 tyX7 tyX7_ok nmX7 hown hK hP hD hS 0 rfl rfl 5 (by decide) (hts (.fieldLink RX7 24 "VarianceBridgeModel" "from" "I") (by decide +kernel)) (fun _ h9 => h9) rfl (by decide +kernel) rfl rfl (Nat.le_of_ble_eq_true rfl) dX7_go_57 (fun H78 lo78 hP78 hD78 hS78 => ?_)
    replace hP78 : va_P D vwCl (w_Model cI cB cZ aM aMt aMn aMr aMs aMi mth mtd msz mto mto mso mnu mfa mpl mwo msm mgo mt mno mre msn mis) H78 := hP78
    replace hD78 : va_D A (w_Model cI cB cZ aM aMt aMn aMr aMs aMi mth mtd msz mto mto mso mnu mfa mpl mwo msm mgo mt mno mre msn mis) := hD78
    clear hP hD hS
    refine lv_aload_n hx hb dX7_go_60 rfl (lv_at hl 0 rfl) ?_
    refine va_get (D := D) (ci := 7) (v := .int msz) (C := RX7) (T := TX7) (N := 17) hx hb hts iw_X7 hown hK hP78 0 rfl rfl 3 (by decide) (hts (.fieldLink RX7 18 "VarianceBridgeModel" "size" "I") (by decide +kernel)) (fun _ h9 => h9) rfl dX7_go_61 ?_
    refine lv_sipush (v := (600 : Int32)) hx hb dX7_go_64 (by decide) ?_
    refine lv_icmp_le (tgt := 93) hx hb dX7_go_67 (by decide) (fun c79 => ?_) (fun c79 => ?_)
    · have hm80 := zz_if c79 hm
      exact hk_93 mto mto mso mnu mwo hm80 ls H78 lo78 (lv_sub hl [0] rfl) hP78 hD78 hS78
    · have hm81 := zz_nf c79 hm
      refine lv_aload_n hx hb dX7_go_70 rfl (lv_at hl 0 rfl) ?_
      refine va_get (D := D) (ci := 7) (v := .int mto) (C := RX7) (T := TX7) (N := 17) hx hb hts iw_X7 hown hK hP78 0 rfl rfl 5 (by decide) (hts (.fieldLink RX7 24 "VarianceBridgeModel" "from" "I") (by decide +kernel)) (fun _ h9 => h9) rfl dX7_go_71 ?_
      refine lv_sipush (v := (600 : Int32)) hx hb dX7_go_74 (by decide) ?_
      refine lv_icmp_lt (tgt := 93) hx hb dX7_go_77 (by decide) (fun c82 => ?_) (fun c82 => ?_)
      · have hm83 := zz_if c82 hm81
        exact hk_93 mto mto mso mnu mwo hm83 ls H78 lo78 (lv_sub hl [0] rfl) hP78 hD78 hS78
      · have hm84 := zz_nf c82 hm81
        refine lv_aload_n hx hb dX7_go_80 rfl (lv_at hl 0 rfl) ?_
        refine lv_sipush (v := (600 : Int32)) hx hb dX7_go_81 (by decide) ?_
        refine va_put (D := D) (ci := 7) (v := .int (600 : Int32)) (ty := .int) (C := RX7) (T := TX7) (N := 17) hx hb hts iw_X7 tyX7 tyX7_ok nmX7 hown hK hP78 hD78 hS78 0 rfl rfl 5 (by decide) (hts (.fieldLink RX7 24 "VarianceBridgeModel" "from" "I") (by decide +kernel)) (fun _ h9 => h9) rfl (by decide +kernel) rfl rfl (Nat.le_of_ble_eq_true rfl) dX7_go_84 (fun H85 lo85 hP85 hD85 hS85 => ?_)
        replace hP85 : va_P D vwCl (w_Model cI cB cZ aM aMt aMn aMr aMs aMi mth mtd msz mto (600 : Int32) mso mnu mfa mpl mwo msm mgo mt mno mre msn mis) H85 := hP85
        replace hD85 : va_D A (w_Model cI cB cZ aM aMt aMn aMr aMs aMi mth mtd msz mto (600 : Int32) mso mnu mfa mpl mwo msm mgo mt mno mre msn mis) := hD85
        clear hP78 hD78 hS78
        refine lv_aload_n hx hb dX7_go_87 rfl (lv_at hl 0 rfl) ?_
        refine lv_iconst (v := (1 : Int32)) hx hb dX7_go_88 (by decide) ?_
        refine va_put (D := D) (ci := 7) (v := .int (1 : Int32)) (ty := .int) (C := RX7) (T := TX7) (N := 17) hx hb hts iw_X7 tyX7 tyX7_ok nmX7 hown hK hP85 hD85 hS85 0 rfl rfl 6 (by decide) (hts (.fieldLink RX7 27 "VarianceBridgeModel" "sort" "I") (by decide +kernel)) (fun _ h9 => h9) rfl (by decide +kernel) rfl rfl (Nat.le_of_ble_eq_true rfl) dX7_go_89 (fun H86 lo86 hP86 hD86 hS86 => ?_)
        replace hP86 : va_P D vwCl (w_Model cI cB cZ aM aMt aMn aMr aMs aMi mth mtd msz mto (600 : Int32) (1 : Int32) mnu mfa mpl mwo msm mgo mt mno mre msn mis) H86 := hP86
        replace hD86 : va_D A (w_Model cI cB cZ aM aMt aMn aMr aMs aMi mth mtd msz mto (600 : Int32) (1 : Int32) mnu mfa mpl mwo msm mgo mt mno mre msn mis) := hD86
        clear hP85 hD85 hS85
        obtain ⟨hq1, hq99⟩ := Prod.mk.inj (Option.some.inj hm84)
        obtain ⟨hq2, hq99⟩ := Prod.mk.inj (hq99)
        obtain ⟨hq3, hq99⟩ := Prod.mk.inj (hq99)
        obtain ⟨hq4, hq5⟩ := Prod.mk.inj (hq99)
        subst hq1
        subst hq2
        subst hq3
        subst hq4
        subst hq5
        exact W.vret hx hb hr (fun t ht hW => ⟨⟨(), rfl, trivial, by rw [ht]; exact hP86, va_K.moved hW.alike hK, hD86⟩, hS86.F ht⟩) hS86.2.2 dX7_go_92
  have hk_0 : ∀ (n : Nat) (mto : Int32) (mfr : Int32) (mso : Int32) (mnu : Int32) (mwo : Int64), k_X7_go_0 msz mt n mto mfr mso mnu mwo = some (u_mto, u_mfr, u_mso, u_mnu, u_mwo) → ∀ (ls : Array Slot) (H : Heap) (lo : List Loc), lv_has ls 5 [(0, .ref aM)] → va_P D vwCl (w_Model cI cB cZ aM aMt aMn aMr aMs aMi mth mtd msz mto mfr mso mnu mfa mpl mwo msm mgo mt mno mre msn mis) H → va_D A (w_Model cI cB cZ aM aMt aMn aMr aMs aMi mth mtd msz mto mfr mso mnu mfa mpl mwo msm mgo mt mno mre msn mis) → va_S A s.heap H lo → W p l e (headSpec wsX7_go ({ frames := 1, cells := 0, slots := 0, locals := 21 } : Room)).room s m (([.ref aM] : List Value).toArray) below meth c H lo 0 0 (MQ below (QV D cI cB cZ A (w_Model cI cB cZ aM aMt aMn aMr aMs aMi mth mtd msz u_mto u_mfr u_mso u_mnu mfa mpl u_mwo msm mgo mt mno mre msn mis)) (([.ref aM] : List Value).toArray) s 0 0 A) (F0 m 0 ls []) := by
    intro n
    induction n with
    | zero => intro mto mfr mso mnu mwo hm; exact zz_nn hm
    | succ n ih =>
      intro mto mfr mso mnu mwo hm ls H lo hl hP hD hS
      replace hm := (k_X7_go_0_s msz mt n mto mfr mso mnu mwo).symm.trans hm
      refine lv_aload_n hx hb dX7_go_0 rfl (lv_at hl 0 rfl) ?_
      refine va_get (D := D) (ci := 7) (v := .int mto) (C := RX7) (T := TX7) (N := 17) hx hb hts iw_X7 hown hK hP 0 rfl rfl 4 (by decide) (hts (.fieldLink RX7 21 "VarianceBridgeModel" "to" "I") (by decide +kernel)) (fun _ h9 => h9) rfl dX7_go_1 ?_
      refine lv_aload_n hx hb dX7_go_4 rfl (lv_at hl 0 rfl) ?_
      refine va_get (D := D) (ci := 7) (v := .int msz) (C := RX7) (T := TX7) (N := 17) hx hb hts iw_X7 hown hK hP 0 rfl rfl 3 (by decide) (hts (.fieldLink RX7 18 "VarianceBridgeModel" "size" "I") (by decide +kernel)) (fun _ h9 => h9) rfl dX7_go_5 ?_
      refine lv_icmp_ge (tgt := 52) hx hb dX7_go_8 (by decide) (fun c87 => ?_) (fun c87 => ?_)
      · have hm88 := zz_if c87 hm
        exact hk_52 mto mfr mso mnu mwo hm88 ls H lo (lv_sub hl [0] rfl) hP hD hS
      · have hm89 := zz_nf c87 hm
        refine lv_aload_n hx hb dX7_go_11 rfl (lv_at hl 0 rfl) ?_
        refine va_get (D := D) (ci := 7) (v := .ref aMt) (C := RX7) (T := TX7) (N := 17) hx hb hts iw_X7 hown hK hP 0 rfl rfl 1 (by decide) (hts (.fieldLink RX7 7 "VarianceBridgeModel" "tape" "[I") (by decide +kernel)) (fun _ h9 => h9) rfl dX7_go_12 ?_
        refine lv_aload_n hx hb dX7_go_15 rfl (lv_at hl 0 rfl) ?_
        refine va_get (D := D) (ci := 7) (v := .int mto) (C := RX7) (T := TX7) (N := 17) hx hb hts iw_X7 hown hK hP 0 rfl rfl 4 (by decide) (hts (.fieldLink RX7 21 "VarianceBridgeModel" "to" "I") (by decide +kernel)) (fun _ h9 => h9) rfl dX7_go_16 ?_
        obtain ⟨c90, hm91⟩ := zz_no hm89
        refine va_iald hx hb hK hP 1 0 rfl rfl c90 dX7_go_19 ?_
        refine lv_bipush (v := (32 : Int32)) hx hb dX7_go_20 (by decide) ?_
        refine lv_icmp_eq (tgt := 39) hx hb dX7_go_22 (by decide) (fun c92 => ?_) (fun c92 => ?_)
        · have hm93 := zz_if c92 hm91
          exact hk_39 (k_X7_go_0 msz mt n) ih mto mfr mso mnu mwo hm93 ls H lo (lv_sub hl [0] rfl) hP hD hS
        · have hm94 := zz_nf c92 hm91
          refine lv_aload_n hx hb dX7_go_25 rfl (lv_at hl 0 rfl) ?_
          refine va_get (D := D) (ci := 7) (v := .ref aMt) (C := RX7) (T := TX7) (N := 17) hx hb hts iw_X7 hown hK hP 0 rfl rfl 1 (by decide) (hts (.fieldLink RX7 7 "VarianceBridgeModel" "tape" "[I") (by decide +kernel)) (fun _ h9 => h9) rfl dX7_go_26 ?_
          refine lv_aload_n hx hb dX7_go_29 rfl (lv_at hl 0 rfl) ?_
          refine va_get (D := D) (ci := 7) (v := .int mto) (C := RX7) (T := TX7) (N := 17) hx hb hts iw_X7 hown hK hP 0 rfl rfl 4 (by decide) (hts (.fieldLink RX7 21 "VarianceBridgeModel" "to" "I") (by decide +kernel)) (fun _ h9 => h9) rfl dX7_go_30 ?_
          obtain ⟨c95, hm96⟩ := zz_no hm94
          refine va_iald hx hb hK hP 1 0 rfl rfl c95 dX7_go_33 ?_
          refine lv_bipush (v := (10 : Int32)) hx hb dX7_go_34 (by decide) ?_
          refine lv_icmp_ne (tgt := 52) hx hb dX7_go_36 (by decide) (fun c97 => ?_) (fun c97 => ?_)
          · have hm98 := zz_nf c97 hm96
            exact hk_52 mto mfr mso mnu mwo hm98 ls H lo (lv_sub hl [0] rfl) hP hD hS
          · have hm99 := zz_if c97 hm96
            exact hk_39 (k_X7_go_0 msz mt n) ih mto mfr mso mnu mwo hm99 ls H lo (lv_sub hl [0] rfl) hP hD hS
  have hl := lv_entry ([.ref aM]) (n := 5) (Nat.le_of_ble_eq_true rfl)
  rw [lg_entry_eq]
  generalize (lg_sl ([.ref aM]) ++ List.replicate (5 - (lg_sl ([.ref aM])).length) Slot.unset).toArray = ls at hl ⊢
  have hl : lv_has ls 5 [(0, .ref aM)] := hl
  replace hm : (k_X7_go_0 msz mt FU mto mfr mso mnu mwo) = some (u_mto, u_mfr, u_mso, u_mnu, u_mwo) := hm
  exact hk_0 FU mto mfr mso mnu mwo hm ls s.heap [] (lv_sub hl [0] rfl) hP hD hS
set_option maxHeartbeats 4000000 in
set_option maxRecDepth 100000 in
theorem c_X7_three (l : Launch) (D : va_G) (cI cB cZ : ClassId) (ta : Nat → Nat) (sz : Nat) (x1 : Int32) (x2 : Int32) (x3 : Int32) (r0 : Int64) (hm : m_X7_three x1 x2 x3 = some r0) : Met l yX7_three wsX7_three ({ frames := 0, cells := 0, slots := 0, locals := 0 } : Room) (va_Pc [.int x1, .int x2, .int x3] (PW D cI cB cZ ta (w_none cI cB cZ) sz)) (QJ D cI cB cZ (va_A (w_none cI cB cZ) sz) (w_none cI cB cZ) r0) 0 0 (va_A (w_none cI cB cZ) sz) := by
  refine Met.ofW (cc := cX7_three) (maxL := 3) (ret := (some .long)) (by decide) rfl ?_
  intro p e s m args below meth c s₁ B hml hv
  obtain ⟨rfl, hsz, hP, hK, hD0, hG⟩ := hv
  have hx := B.exec
  have hb := B.bytes
  have hr := B.returns
  have hts := atoms_spec (ws := wsX7_three) B.pre
  have hown : s.vm.findClass RX7 = some m.cls := findClass_of_methodNamed B.named
  have hlocks := B.notSynchronized
  subst hsz
  have hD := hD0.self (sz := s.heap.size)
  clear hD0
  have hA0 : ∀ q : Nat, s.heap.size ≤ q → va_A (w_none cI cB cZ) s.heap.size q := fun q h => Or.inr h
  generalize hAe : va_A (w_none cI cB cZ) s.heap.size = A at hD hG hA0 ⊢
  have hA : ∀ q : Nat, s.heap.size ≤ q → A q := hA0
  clear hA0
  have hS : va_S A s.heap s.heap [] := va_S.rf
  have hl := lv_entry ([.int x1, .int x2, .int x3]) (n := 3) (Nat.le_of_ble_eq_true rfl)
  rw [lg_entry_eq]
  generalize (lg_sl ([.int x1, .int x2, .int x3]) ++ List.replicate (3 - (lg_sl ([.int x1, .int x2, .int x3])).length) Slot.unset).toArray = ls at hl ⊢
  have hl : lv_has ls 3 [(0, .int x1), (1, .int x2), (2, .int x3)] := hl
  replace hm : some ((((27 : Int64) * ((((27 : Int64) * ((x1.toInt64) - (96 : Int64))) + (x2.toInt64)) - (96 : Int64))) + (x3.toInt64)) - (96 : Int64)) = some r0 := hm
  refine lv_ldc2 (v := (27 : Int64)) hx hb hown (hts (.constantLong RX7 48 (27)) (by decide +kernel)) dX7_three_0 ?_
  refine lv_ldc2 (v := (27 : Int64)) hx hb hown (hts (.constantLong RX7 48 (27)) (by decide +kernel)) dX7_three_3 ?_
  refine lv_iload_n hx hb dX7_three_6 rfl (lv_at hl 0 rfl) ?_
  refine lv_i2l (v := x1.toInt64) hx hb dX7_three_7 rfl ?_
  refine lv_ldc2 (v := (96 : Int64)) hx hb hown (hts (.constantLong RX7 50 (96)) (by decide +kernel)) dX7_three_8 ?_
  refine lv_lsub hx hb dX7_three_11 ?_
  refine lv_lmul hx hb dX7_three_12 ?_
  refine lv_iload_n hx hb dX7_three_13 rfl (lv_at hl 1 rfl) ?_
  refine lv_i2l (v := x2.toInt64) hx hb dX7_three_14 rfl ?_
  refine lv_ladd hx hb dX7_three_15 ?_
  refine lv_ldc2 (v := (96 : Int64)) hx hb hown (hts (.constantLong RX7 50 (96)) (by decide +kernel)) dX7_three_16 ?_
  refine lv_lsub hx hb dX7_three_19 ?_
  refine lv_lmul hx hb dX7_three_20 ?_
  refine lv_iload_n hx hb dX7_three_21 rfl (lv_at hl 2 rfl) ?_
  refine lv_i2l (v := x3.toInt64) hx hb dX7_three_22 rfl ?_
  refine lv_ladd hx hb dX7_three_23 ?_
  refine lv_ldc2 (v := (96 : Int64)) hx hb hown (hts (.constantLong RX7 50 (96)) (by decide +kernel)) dX7_three_24 ?_
  refine lv_lsub hx hb dX7_three_27 ?_
  have hq1 := Option.some.inj hm
  subst hq1
  exact W.lret hx hb hr (fun t ht hW => ⟨⟨_, (), rfl, rfl, by rw [ht]; exact hP, va_K.moved hW.alike hK, hD⟩, hS.F ht⟩) hS.2.2 dX7_three_28
theorem iw_X7_isWord_X7 : ∀ w ∈ wsX70, w ∈ wsX7_isWord := by decide +kernel
set_option maxHeartbeats 4000000 in
set_option maxRecDepth 100000 in
theorem c_X7_isWord (l : Launch) (D : va_G) (cI cB cZ : ClassId) (ta : Nat → Nat) (aM : Nat) (aMt : Nat) (aMn : Nat) (aMr : Nat) (aMs : Nat) (aMi : Nat) (sz : Nat) (mth : Int32) (mtd : Int32) (msz : Int32) (mto : Int32) (mfr : Int32) (mso : Int32) (mnu : Int32) (mfa : Int32) (mpl : Int32) (mwo : Int64) (msm : Int32) (mgo : Int32) (mt : (Nat → Int32)) (mno : (Nat → Int32)) (mre : (Nat → Int32)) (msn : (Nat → Int32)) (mis : (Nat → Int32)) (x1 : Int64) (r0 : Int32) (hm : m_X7_isWord mso mwo x1 = some r0) : Met l yX7_isWord wsX7_isWord ({ frames := 0, cells := 0, slots := 0, locals := 0 } : Room) (va_Pc [.ref aM, .long x1] (PW D cI cB cZ ta (w_Model cI cB cZ aM aMt aMn aMr aMs aMi mth mtd msz mto mfr mso mnu mfa mpl mwo msm mgo mt mno mre msn mis) sz)) (QZ .boolean D cI cB cZ (va_A (w_Model cI cB cZ aM aMt aMn aMr aMs aMi mth mtd msz mto mfr mso mnu mfa mpl mwo msm mgo mt mno mre msn mis) sz) (w_Model cI cB cZ aM aMt aMn aMr aMs aMi mth mtd msz mto mfr mso mnu mfa mpl mwo msm mgo mt mno mre msn mis) r0) 0 0 (va_A (w_Model cI cB cZ aM aMt aMn aMr aMs aMi mth mtd msz mto mfr mso mnu mfa mpl mwo msm mgo mt mno mre msn mis) sz) := by
  refine Met.ofW (cc := cX7_isWord) (maxL := 3) (ret := (some .boolean)) (by decide) rfl ?_
  intro p e s m args below meth c s₁ B hml hv
  obtain ⟨rfl, hsz, hP, hK, hD0, hG⟩ := hv
  have hx := B.exec
  have hb := B.bytes
  have hr := B.returns
  have hts := atoms_spec (ws := wsX7_isWord) B.pre
  have hown : s.vm.findClass RX7 = some m.cls := findClass_of_methodNamed B.named
  have hlocks := B.notSynchronized
  subst hsz
  have hD := hD0.self (sz := s.heap.size)
  clear hD0
  have hA0 : ∀ q : Nat, s.heap.size ≤ q → va_A (w_Model cI cB cZ aM aMt aMn aMr aMs aMi mth mtd msz mto mfr mso mnu mfa mpl mwo msm mgo mt mno mre msn mis) s.heap.size q := fun q h => Or.inr h
  generalize hAe : va_A (w_Model cI cB cZ aM aMt aMn aMr aMs aMi mth mtd msz mto mfr mso mnu mfa mpl mwo msm mgo mt mno mre msn mis) s.heap.size = A at hD hG hA0 ⊢
  have hA : ∀ q : Nat, s.heap.size ≤ q → A q := hA0
  clear hA0
  have hS : va_S A s.heap s.heap [] := va_S.rf
  have iw_X7 := iw_X7_isWord_X7
  have hl := lv_entry ([.ref aM, .long x1]) (n := 3) (Nat.le_of_ble_eq_true rfl)
  rw [lg_entry_eq]
  generalize (lg_sl ([.ref aM, .long x1]) ++ List.replicate (3 - (lg_sl ([.ref aM, .long x1])).length) Slot.unset).toArray = ls at hl ⊢
  have hl : lv_has ls 3 [(0, .ref aM), (1, .long x1)] := hl
  replace hm : (if mso = (2 : Int32) then (if (lg_cmp mwo x1) = 0 then some (1 : Int32) else some (0 : Int32)) else some (0 : Int32)) = some r0 := hm
  refine lv_aload_n hx hb dX7_isWord_0 rfl (lv_at hl 0 rfl) ?_
  refine va_get (D := D) (ci := 7) (v := .int mso) (C := RX7) (T := TX7) (N := 17) hx hb hts iw_X7 hown hK hP 0 rfl rfl 6 (by decide) (hts (.fieldLink RX7 27 "VarianceBridgeModel" "sort" "I") (by decide +kernel)) (fun _ h9 => h9) rfl dX7_isWord_1 ?_
  refine lv_iconst (v := (2 : Int32)) hx hb dX7_isWord_4 (by decide) ?_
  refine lv_icmp_ne (tgt := 21) hx hb dX7_isWord_5 (by decide) (fun c1 => ?_) (fun c1 => ?_)
  · have hm2 := zz_nf c1 hm
    refine lv_iconst (v := (0 : Int32)) hx hb dX7_isWord_21 (by decide) ?_
    have hq1 := Option.some.inj hm2
    subst hq1
    exact W.zret (ty := .boolean) hx hb hr (by decide) (fun t ht hW => ⟨⟨_, (), rfl, ⟨rfl, (by decide)⟩, by rw [ht]; exact hP, va_K.moved hW.alike hK, hD⟩, hS.F ht⟩) hS.2.2 dX7_isWord_22
  · have hm3 := zz_if c1 hm
    refine lv_aload_n hx hb dX7_isWord_8 rfl (lv_at hl 0 rfl) ?_
    refine va_get (D := D) (ci := 7) (v := .long mwo) (C := RX7) (T := TX7) (N := 17) hx hb hts iw_X7 hown hK hP 0 rfl rfl 10 (by decide) (hts (.fieldLink RX7 37 "VarianceBridgeModel" "word" "J") (by decide +kernel)) (fun _ h9 => h9) rfl dX7_isWord_9 ?_
    refine lv_lload_n hx hb dX7_isWord_12 rfl (lv_at hl 1 rfl) ?_
    refine W.lcmp hx hb dX7_isWord_13 ?_
    refine lv_if_ne (tgt := 21) hx hb dX7_isWord_14 (by decide) (fun c4 => ?_) (fun c4 => ?_)
    · have hm5 := zz_nf c4 hm3
      refine lv_iconst (v := (0 : Int32)) hx hb dX7_isWord_21 (by decide) ?_
      have hq1 := Option.some.inj hm5
      subst hq1
      exact W.zret (ty := .boolean) hx hb hr (by decide) (fun t ht hW => ⟨⟨_, (), rfl, ⟨rfl, (by decide)⟩, by rw [ht]; exact hP, va_K.moved hW.alike hK, hD⟩, hS.F ht⟩) hS.2.2 dX7_isWord_22
    · have hm6 := zz_if c4 hm3
      refine lv_iconst (v := (1 : Int32)) hx hb dX7_isWord_17 (by decide) ?_
      refine lv_goto (tgt := 22) hx hb dX7_isWord_18 (by decide) ?_
      have hq1 := Option.some.inj hm6
      subst hq1
      exact W.zret (ty := .boolean) hx hb hr (by decide) (fun t ht hW => ⟨⟨_, (), rfl, ⟨rfl, (by decide)⟩, by rw [ht]; exact hP, va_K.moved hW.alike hK, hD⟩, hS.F ht⟩) hS.2.2 dX7_isWord_22
