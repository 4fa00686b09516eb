theorem iw_X6_effect_X6 : ∀ w ∈ wsX60, w ∈ wsX6_effect := by decide +kernel
set_option maxHeartbeats 4000000 in
set_option maxRecDepth 100000 in
theorem c_X6_effect (l : Launch) (D : va_G) (cI cB cZ : ClassId) (ta : Nat → Nat) (aV : Nat) (aT : Nat) (aTb : Nat) (aP : Nat) (aPp : Nat) (aPf : Nat) (aD : Nat) (aDp : Nat) (aDf : Nat) (aR : Nat) (aRt : Nat) (aK : Nat) (aB : Nat) (aBb : Nat) (aBs : Nat) (aH : Nat) (aHk : Nat) (aHp : Nat) (aHb : Nat) (aHr : Nat) (sz : Nat) (tl : Int32) (tb : (Nat → Int32)) (pg : Int32) (ps : Int32) (pn : Int32) (pp : (Nat → Int32)) (pf : (Nat → Int32)) (dg : Int32) (ds : Int32) (dn : Int32) (dp : (Nat → Int32)) (df : (Nat → Int32)) (rl : Int32) (rk : Int32) (rp : Int32) (rt : (Nat → Int32)) (kp : Int32) (kb : Int32) (kk : Int32) (kn : Int32) (bb : (Nat → Int32)) (bs : (Nat → Int32)) (jl : Int32) (jn : Int32) (jk : (Nat → Int32)) (jp : (Nat → Int32)) (jb : (Nat → Int32)) (jr : (Nat → Int32)) (x1 : Int32) (x2 : Int32) (x3 : Int32) (x4 : Int32) (x5 : Int32) (r0 : Int32) (u_bb : (Nat → Int32)) (hm : m_X6_effect pg ps pn pp pf bb x1 x2 x3 x4 x5 = some (r0, u_bb)) : Met l yX6_effect wsX6_effect ({ frames := 5, cells := 0, slots := 0, locals := 131 } : Room) (va_Pc [.ref aV, .int x1, .int x2, .int x3, .int x4, .int x5] (PW D cI cB cZ ta (w_VB cI cB cZ aV aT aTb aP aPp aPf aD aDp aDf aR aRt aK aB aBb aBs aH aHk aHp aHb aHr tl tb pg ps pn pp pf dg ds dn dp df rl rk rp rt kp kb kk kn bb bs jl jn jk jp jb jr) sz)) (QI D cI cB cZ (va_A (w_VB cI cB cZ aV aT aTb aP aPp aPf aD aDp aDf aR aRt aK aB aBb aBs aH aHk aHp aHb aHr tl tb pg ps pn pp pf dg ds dn dp df rl rk rp rt kp kb kk kn bb bs jl jn jk jp jb jr) sz) (w_VB cI cB cZ aV aT aTb aP aPp aPf aD aDp aDf aR aRt aK aB aBb aBs aH aHk aHp aHb aHr tl tb pg ps pn pp pf dg ds dn dp df rl rk rp rt kp kb kk kn u_bb bs jl jn jk jp jb jr) r0) 0 0 (va_A (w_VB cI cB cZ aV aT aTb aP aPp aPf aD aDp aDf aR aRt aK aB aBb aBs aH aHk aHp aHb aHr tl tb pg ps pn pp pf dg ds dn dp df rl rk rp rt kp kb kk kn bb bs jl jn jk jp jb jr) sz) := by
  refine Met.ofW (cc := cX6_effect) (maxL := 6) (ret := (some .int)) (by decide) rfl ?_
  intro p e s m args below meth c s₁ B hml hv
  obtain ⟨rfl, hsz, hP, hK, hD0, hG⟩ := hv
  have hx := B.exec
  have hb := B.bytes
  have hr := B.returns
  have hts := atoms_spec (ws := wsX6_effect) B.pre
  have hown : s.vm.findClass RX6 = some m.cls := findClass_of_methodNamed B.named
  have hlocks := B.notSynchronized
  subst hsz
  have hD := hD0.self (sz := s.heap.size)
  clear hD0
  have hA0 : ∀ q : Nat, s.heap.size ≤ q → va_A (w_VB cI cB cZ aV aT aTb aP aPp aPf aD aDp aDf aR aRt aK aB aBb aBs aH aHk aHp aHb aHr tl tb pg ps pn pp pf dg ds dn dp df rl rk rp rt kp kb kk kn bb bs jl jn jk jp jb jr) s.heap.size q := fun q h => Or.inr h
  generalize hAe : va_A (w_VB cI cB cZ aV aT aTb aP aPp aPf aD aDp aDf aR aRt aK aB aBb aBs aH aHk aHp aHb aHr tl tb pg ps pn pp pf dg ds dn dp df rl rk rp rt kp kb kk kn bb bs jl jn jk jp jb jr) s.heap.size = A at hD hG hA0 ⊢
  have hA : ∀ q : Nat, s.heap.size ≤ q → A q := hA0
  clear hA0
  have hS : va_S A s.heap s.heap [] := va_S.rf
  have iw_X6 := iw_X6_effect_X6
  have hk_50 : ∀ (bb : (Nat → Int32)) (y1 : Int32) (y2 : Int32) (y3 : Int32) (y4 : Int32) (y5 : Int32), k_X6_effect_50 pg ps pn pp pf bb y1 y2 y3 y4 y5 = some (r0, u_bb) → ∀ (ls : Array Slot) (H : Heap) (lo : List Loc), lv_has ls 6 [(0, .ref aV), (1, .int y1), (2, .int y2), (3, .int y3), (4, .int y4), (5, .int y5)] → va_P D vwCl (w_VB cI cB cZ aV aT aTb aP aPp aPf aD aDp aDf aR aRt aK aB aBb aBs aH aHk aHp aHb aHr tl tb pg ps pn pp pf dg ds dn dp df rl rk rp rt kp kb kk kn bb bs jl jn jk jp jb jr) H → va_D A (w_VB cI cB cZ aV aT aTb aP aPp aPf aD aDp aDf aR aRt aK aB aBb aBs aH aHk aHp aHb aHr tl tb pg ps pn pp pf dg ds dn dp df rl rk rp rt kp kb kk kn bb bs jl jn jk jp jb jr) → va_S A s.heap H lo → W p l e (headSpec wsX6_effect ({ frames := 5, cells := 0, slots := 0, locals := 131 } : Room)).room s m (([.ref aV, .int x1, .int x2, .int x3, .int x4, .int x5] : List Value).toArray) below meth c H lo 0 0 (MQ below (QI D cI cB cZ A (w_VB cI cB cZ aV aT aTb aP aPp aPf aD aDp aDf aR aRt aK aB aBb aBs aH aHk aHp aHb aHr tl tb pg ps pn pp pf dg ds dn dp df rl rk rp rt kp kb kk kn u_bb bs jl jn jk jp jb jr) r0) (([.ref aV, .int x1, .int x2, .int x3, .int x4, .int x5] : List Value).toArray) s 0 0 A) (F0 m 50 ls []) := by
    intro bb y1 y2 y3 y4 y5 hm ls H lo hl hP hD hS
    replace hm : (if y5 < 0 then some ((-1000000000 : Int32), bb) else (if y5 ≤ (7 : Int32) then (ob2 (m_X0_nodeEffect bb pg pn pp pf y1 y2 y3 y4 y5) (fun r7 bb_7 => some (r7, bb_7))) else some ((-1000000000 : Int32), bb))) = some (r0, u_bb) := hm
    refine lv_iload hx hb dX6_effect_50 (lv_at hl 5 rfl) ?_
    refine lv_if_lt (tgt := 62) hx hb dX6_effect_52 (by decide) (fun c1 => ?_) (fun c1 => ?_)
    · have hm2 := zz_if c1 hm
      refine lv_ldc (v := (-1000000000 : Int32)) hx hb hown (hts (.constant RX6 130 (-1000000000)) (by decide +kernel)) dX6_effect_62 ?_
      obtain ⟨hq1, hq2⟩ := Prod.mk.inj (Option.some.inj hm2)
      subst hq1
      subst hq2
      exact W.iret hx hb hr (fun t ht hW => ⟨⟨_, (), rfl, rfl, by rw [ht]; exact hP, va_K.moved hW.alike hK, hD⟩, hS.F ht⟩) hS.2.2 dX6_effect_64
    · have hm3 := zz_nf c1 hm
      refine lv_iload hx hb dX6_effect_55 (lv_at hl 5 rfl) ?_
      refine lv_bipush (v := (7 : Int32)) hx hb dX6_effect_57 (by decide) ?_
      refine lv_icmp_le (tgt := 65) hx hb dX6_effect_59 (by decide) (fun c4 => ?_) (fun c4 => ?_)
      · have hm5 := zz_if c4 hm3
        refine lv_aload_n hx hb dX6_effect_65 rfl (lv_at hl 0 rfl) ?_
        refine va_get (D := D) (ci := 6) (v := .ref aB) (C := RX6) (T := TX6) (N := 6) hx hb hts iw_X6 hown hK hP 0 rfl rfl 4 (by decide) (hts (.fieldLink RX6 40 "VarianceBridge" "bridge" "LVarianceBridge$Bridge;") (by decide +kernel)) (fun _ h9 => h9) rfl dX6_effect_66 ?_
        refine lv_iload_n hx hb dX6_effect_69 rfl (lv_at hl 1 rfl) ?_
        refine lv_iload_n hx hb dX6_effect_70 rfl (lv_at hl 2 rfl) ?_
        refine lv_iload_n hx hb dX6_effect_71 rfl (lv_at hl 3 rfl) ?_
        refine lv_iload hx hb dX6_effect_72 (lv_at hl 4 rfl) ?_
        refine lv_iload hx hb dX6_effect_74 (lv_at hl 5 rfl) ?_
        obtain ⟨r7, bb_7, h7, hm7⟩ := ob2_e hm5
        refine gcall_i (ws' := (w_VB cI cB cZ aV aT aTb aP aPp aPf aD aDp aDf aR aRt aK aB aBb aBs aH aHk aHp aHb aHr tl tb pg ps pn pp pf dg ds dn dp df rl rk rp rt kp kb kk kn bb_7 bs jl jn jk jp jb jr)) (va_runVN (As := [.int y1, .int y2, .int y3, .int y4, .int y5]) (rest := []) ⟨hx, hb, hml, hown, hts⟩ (c_X0_nodeEffect l D cI cB cZ ta aB aBb aBs aP aPp aPf H.size bb bs pg ps pn pp pf y1 y2 y3 y4 y5 r7 bb_7 h7) ⟨va_cnB 5 hts gX6_effect_X0_nodeEffect_n144 rfl rfl rfl (hG.1 (.methodLinkNest RX6 144 yX0_nodeEffect RX6) (by decide +kernel)) (hts (.initialized RX0) (by decide +kernel)) (by decide +kernel) ⟨(Nat.le_of_ble_eq_true rfl), (Nat.le_of_ble_eq_true rfl)⟩, hts (.instanceMethod yX0_nodeEffect) (by decide +kernel), hts (.selects RX0 yX0_nodeEffect yX0_nodeEffect) (by decide +kernel)⟩ ⟨PW_blind, va_recv hK hP rfl (q0 := 12) rfl, PW_at hP hD hK hS hA hG [12, 13, 14, 3, 4, 5] rfl (by decide)⟩ rfl rfl hl.1 rfl (lv_room (Nat.le_of_ble_eq_true rfl)) dX6_effect_76 ⟨(Nat.le_of_ble_eq_true rfl), (Nat.le_of_ble_eq_true rfl)⟩) hP hD hS hA [12, 13, 14, 3, 4, 5] [0, 1, 2, 6, 7, 8, 9, 10, 11, 15, 16, 17, 18, 19] [0, 1, 2, 17, 18, 19, 3, 4, 5, 6, 7, 8, 14, 15, 16, 9, 10, 11, 12, 13] rfl rfl (by decide) (by decide) (by decide) rfl (fun H8 lo8 hP8 hD8 hS8 => ?_)
        clear hP hD hS
        obtain ⟨hq1, hq2⟩ := Prod.mk.inj (Option.some.inj hm7)
        subst hq1
        subst hq2
        exact W.iret hx hb hr (fun t ht hW => ⟨⟨_, (), rfl, rfl, by rw [ht]; exact hP8, va_K.moved hW.alike hK, hD8⟩, hS8.F ht⟩) hS8.2.2 dX6_effect_79
      · have hm6 := zz_nf c4 hm3
        refine lv_ldc (v := (-1000000000 : Int32)) hx hb hown (hts (.constant RX6 130 (-1000000000)) (by decide +kernel)) dX6_effect_62 ?_
        obtain ⟨hq1, hq2⟩ := Prod.mk.inj (Option.some.inj hm6)
        subst hq1
        subst hq2
        exact W.iret hx hb hr (fun t ht hW => ⟨⟨_, (), rfl, rfl, by rw [ht]; exact hP, va_K.moved hW.alike hK, hD⟩, hS.F ht⟩) hS.2.2 dX6_effect_64
  have hl := lv_entry ([.ref aV, .int x1, .int x2, .int x3, .int x4, .int x5]) (n := 6) (Nat.le_of_ble_eq_true rfl)
  rw [lg_entry_eq]
  generalize (lg_sl ([.ref aV, .int x1, .int x2, .int x3, .int x4, .int x5]) ++ List.replicate (6 - (lg_sl ([.ref aV, .int x1, .int x2, .int x3, .int x4, .int x5])).length) Slot.unset).toArray = ls at hl ⊢
  have hl : lv_has ls 6 [(0, .ref aV), (1, .int x1), (2, .int x2), (3, .int x3), (4, .int x4), (5, .int x5)] := hl
  replace hm : (ob1 (m_X2_isNode pn x1) (fun r9 => (if r9 = 0 then some ((-1000000000 : Int32), bb) else (ob1 (m_X2_isScene ps x2) (fun r14 => (if r14 = 0 then some ((-1000000000 : Int32), bb) else (ob1 (m_X2_isScene ps x3) (fun r19 => (if r19 = 0 then some ((-1000000000 : Int32), bb) else (if x4 = (-1 : Int32) then (k_X6_effect_50 pg ps pn pp pf bb x1 x2 x3 x4 x5) else (ob1 (m_X6_isOrder x4) (fun r27 => (if r27 = 0 then some ((-1000000000 : Int32), bb) else (k_X6_effect_50 pg ps pn pp pf bb x1 x2 x3 x4 x5)))))))))))))) = some (r0, u_bb) := hm
  refine lv_aload_n hx hb dX6_effect_0 rfl (lv_at hl 0 rfl) ?_
  refine va_get (D := D) (ci := 6) (v := .ref aP) (C := RX6) (T := TX6) (N := 6) hx hb hts iw_X6 hown hK hP 0 rfl rfl 1 (by decide) (hts (.fieldLink RX6 19 "VarianceBridge" "plan" "LVarianceBridge$Plan;") (by decide +kernel)) (fun _ h9 => h9) rfl dX6_effect_1 ?_
  refine lv_iload_n hx hb dX6_effect_4 rfl (lv_at hl 1 rfl) ?_
  obtain ⟨r9, h9, hm9⟩ := ob1_e hm
  refine gcall_b (ws' := (w_VB cI cB cZ aV aT aTb aP aPp aPf aD aDp aDf aR aRt aK aB aBb aBs aH aHk aHp aHb aHr tl tb pg ps pn pp pf dg ds dn dp df rl rk rp rt kp kb kk kn bb bs jl jn jk jp jb jr)) (va_runVN (As := [.int x1]) (rest := []) ⟨hx, hb, hml, hown, hts⟩ (c_X2_isNode l D cI cB cZ ta aP aPp aPf s.heap.size pg ps pn pp pf x1 r9 h9) ⟨va_cnB 1 hts gX6_effect_X2_isNode_n96 rfl rfl rfl (hG.1 (.methodLinkNest RX6 96 yX2_isNode RX6) (by decide +kernel)) (hts (.initialized RX2) (by decide +kernel)) (by decide +kernel) ⟨(Nat.le_of_ble_eq_true rfl), (Nat.le_of_ble_eq_true rfl)⟩, hts (.instanceMethod yX2_isNode) (by decide +kernel), hts (.selects RX2 yX2_isNode yX2_isNode) (by decide +kernel)⟩ ⟨PW_blind, va_recv hK hP rfl (q0 := 3) rfl, PW_at hP hD hK hS hA hG [3, 4, 5] rfl (by decide)⟩ rfl rfl hl.1 rfl (lv_room (Nat.le_of_ble_eq_true rfl)) dX6_effect_5 ⟨(Nat.le_of_ble_eq_true rfl), (Nat.le_of_ble_eq_true rfl)⟩) hP hD hS hA [3, 4, 5] [0, 1, 2, 6, 7, 8, 9, 10, 11, 12, 13, 14, 15, 16, 17, 18, 19] [0, 1, 2, 17, 18, 19, 3, 4, 5, 6, 7, 8, 9, 10, 11, 12, 13, 14, 15, 16] rfl rfl (by decide) (by decide) (by decide) rfl (fun H10 lo10 hz9 hP10 hD10 hS10 => ?_)
  clear hP hD hS
  refine lv_if_eq (tgt := 33) hx hb dX6_effect_8 (by decide) (fun c11 => ?_) (fun c11 => ?_)
  · have hm12 := zz_if c11 hm9
    refine lv_ldc (v := (-1000000000 : Int32)) hx hb hown (hts (.constant RX6 130 (-1000000000)) (by decide +kernel)) dX6_effect_33 ?_
    obtain ⟨hq1, hq2⟩ := Prod.mk.inj (Option.some.inj hm12)
    subst hq1
    subst hq2
    exact W.iret hx hb hr (fun t ht hW => ⟨⟨_, (), rfl, rfl, by rw [ht]; exact hP10, va_K.moved hW.alike hK, hD10⟩, hS10.F ht⟩) hS10.2.2 dX6_effect_35
  · have hm13 := zz_nf c11 hm9
    refine lv_aload_n hx hb dX6_effect_11 rfl (lv_at hl 0 rfl) ?_
    refine va_get (D := D) (ci := 6) (v := .ref aP) (C := RX6) (T := TX6) (N := 6) hx hb hts iw_X6 hown hK hP10 0 rfl rfl 1 (by decide) (hts (.fieldLink RX6 19 "VarianceBridge" "plan" "LVarianceBridge$Plan;") (by decide +kernel)) (fun _ h9 => h9) rfl dX6_effect_12 ?_
    refine lv_iload_n hx hb dX6_effect_15 rfl (lv_at hl 2 rfl) ?_
    obtain ⟨r14, h14, hm14⟩ := ob1_e hm13
    refine gcall_b (ws' := (w_VB cI cB cZ aV aT aTb aP aPp aPf aD aDp aDf aR aRt aK aB aBb aBs aH aHk aHp aHb aHr tl tb pg ps pn pp pf dg ds dn dp df rl rk rp rt kp kb kk kn bb bs jl jn jk jp jb jr)) (va_runVN (As := [.int x2]) (rest := []) ⟨hx, hb, hml, hown, hts⟩ (c_X2_isScene l D cI cB cZ ta aP aPp aPf H10.size pg ps pn pp pf x2 r14 h14) ⟨va_cnB 1 hts gX6_effect_X2_isScene_n120 rfl rfl rfl (hG.1 (.methodLinkNest RX6 120 yX2_isScene RX6) (by decide +kernel)) (hts (.initialized RX2) (by decide +kernel)) (by decide +kernel) ⟨(Nat.le_of_ble_eq_true rfl), (Nat.le_of_ble_eq_true rfl)⟩, hts (.instanceMethod yX2_isScene) (by decide +kernel), hts (.selects RX2 yX2_isScene yX2_isScene) (by decide +kernel)⟩ ⟨PW_blind, va_recv hK hP10 rfl (q0 := 3) rfl, PW_at hP10 hD10 hK hS10 hA hG [3, 4, 5] rfl (by decide)⟩ rfl rfl hl.1 rfl (lv_room (Nat.le_of_ble_eq_true rfl)) dX6_effect_16 ⟨(Nat.le_of_ble_eq_true rfl), (Nat.le_of_ble_eq_true rfl)⟩) hP10 hD10 hS10 hA [3, 4, 5] [0, 1, 2, 6, 7, 8, 9, 10, 11, 12, 13, 14, 15, 16, 17, 18, 19] [0, 1, 2, 17, 18, 19, 3, 4, 5, 6, 7, 8, 9, 10, 11, 12, 13, 14, 15, 16] rfl rfl (by decide) (by decide) (by decide) rfl (fun H15 lo15 hz14 hP15 hD15 hS15 => ?_)
    clear hP10 hD10 hS10
    refine lv_if_eq (tgt := 33) hx hb dX6_effect_19 (by decide) (fun c16 => ?_) (fun c16 => ?_)
    · have hm17 := zz_if c16 hm14
      refine lv_ldc (v := (-1000000000 : Int32)) hx hb hown (hts (.constant RX6 130 (-1000000000)) (by decide +kernel)) dX6_effect_33 ?_
      obtain ⟨hq1, hq2⟩ := Prod.mk.inj (Option.some.inj hm17)
      subst hq1
      subst hq2
      exact W.iret hx hb hr (fun t ht hW => ⟨⟨_, (), rfl, rfl, by rw [ht]; exact hP15, va_K.moved hW.alike hK, hD15⟩, hS15.F ht⟩) hS15.2.2 dX6_effect_35
    · have hm18 := zz_nf c16 hm14
      refine lv_aload_n hx hb dX6_effect_22 rfl (lv_at hl 0 rfl) ?_
      refine va_get (D := D) (ci := 6) (v := .ref aP) (C := RX6) (T := TX6) (N := 6) hx hb hts iw_X6 hown hK hP15 0 rfl rfl 1 (by decide) (hts (.fieldLink RX6 19 "VarianceBridge" "plan" "LVarianceBridge$Plan;") (by decide +kernel)) (fun _ h9 => h9) rfl dX6_effect_23 ?_
      refine lv_iload_n hx hb dX6_effect_26 rfl (lv_at hl 3 rfl) ?_
      obtain ⟨r19, h19, hm19⟩ := ob1_e hm18
      refine gcall_b (ws' := (w_VB cI cB cZ aV aT aTb aP aPp aPf aD aDp aDf aR aRt aK aB aBb aBs aH aHk aHp aHb aHr tl tb pg ps pn pp pf dg ds dn dp df rl rk rp rt kp kb kk kn bb bs jl jn jk jp jb jr)) (va_runVN (As := [.int x3]) (rest := []) ⟨hx, hb, hml, hown, hts⟩ (c_X2_isScene l D cI cB cZ ta aP aPp aPf H15.size pg ps pn pp pf x3 r19 h19) ⟨va_cnB 1 hts gX6_effect_X2_isScene_n120 rfl rfl rfl (hG.1 (.methodLinkNest RX6 120 yX2_isScene RX6) (by decide +kernel)) (hts (.initialized RX2) (by decide +kernel)) (by decide +kernel) ⟨(Nat.le_of_ble_eq_true rfl), (Nat.le_of_ble_eq_true rfl)⟩, hts (.instanceMethod yX2_isScene) (by decide +kernel), hts (.selects RX2 yX2_isScene yX2_isScene) (by decide +kernel)⟩ ⟨PW_blind, va_recv hK hP15 rfl (q0 := 3) rfl, PW_at hP15 hD15 hK hS15 hA hG [3, 4, 5] rfl (by decide)⟩ rfl rfl hl.1 rfl (lv_room (Nat.le_of_ble_eq_true rfl)) dX6_effect_27 ⟨(Nat.le_of_ble_eq_true rfl), (Nat.le_of_ble_eq_true rfl)⟩) hP15 hD15 hS15 hA [3, 4, 5] [0, 1, 2, 6, 7, 8, 9, 10, 11, 12, 13, 14, 15, 16, 17, 18, 19] [0, 1, 2, 17, 18, 19, 3, 4, 5, 6, 7, 8, 9, 10, 11, 12, 13, 14, 15, 16] rfl rfl (by decide) (by decide) (by decide) rfl (fun H20 lo20 hz19 hP20 hD20 hS20 => ?_)
      clear hP15 hD15 hS15
      refine lv_if_ne (tgt := 36) hx hb dX6_effect_30 (by decide) (fun c21 => ?_) (fun c21 => ?_)
      · have hm22 := zz_nf c21 hm19
        refine lv_iload hx hb dX6_effect_36 (lv_at hl 4 rfl) ?_
        refine lv_iconst (v := (-1 : Int32)) hx hb dX6_effect_38 (by decide) ?_
        refine lv_icmp_eq (tgt := 50) hx hb dX6_effect_39 (by decide) (fun c24 => ?_) (fun c24 => ?_)
        · have hm25 := zz_if c24 hm22
          exact hk_50 bb x1 x2 x3 x4 x5 hm25 ls H20 lo20 (lv_sub hl [0, 1, 2, 3, 4, 5] rfl) hP20 hD20 hS20
        · have hm26 := zz_nf c24 hm22
          refine lv_iload hx hb dX6_effect_42 (lv_at hl 4 rfl) ?_
          obtain ⟨r27, h27, hm27⟩ := ob1_e hm26
          refine gcall_b (ws' := (w_VB cI cB cZ aV aT aTb aP aPp aPf aD aDp aDf aR aRt aK aB aBb aBs aH aHk aHp aHb aHr tl tb pg ps pn pp pf dg ds dn dp df rl rk rp rt kp kb kk kn bb bs jl jn jk jp jb jr)) (va_runS (As := [.int x4]) (rest := []) ⟨hx, hb, hml, hown, hts⟩ (c_X6_isOrder l D cI cB cZ ta H20.size x4 r27 h27) (va_cwS 1 hts gX6_effect_X6_isOrder rfl rfl rfl (by decide +kernel) ⟨(Nat.le_of_ble_eq_true rfl), (Nat.le_of_ble_eq_true rfl)⟩) ⟨PW_blind, PW_at hP20 hD20 hK hS20 hA hG [] rfl (by decide)⟩ rfl rfl hl.1 rfl (lv_room (Nat.le_of_ble_eq_true rfl)) dX6_effect_44 ⟨(Nat.le_of_ble_eq_true rfl), (Nat.le_of_ble_eq_true rfl)⟩) hP20 hD20 hS20 hA [] [0, 1, 2, 3, 4, 5, 6, 7, 8, 9, 10, 11, 12, 13, 14, 15, 16, 17, 18, 19] [0, 1, 2, 3, 4, 5, 6, 7, 8, 9, 10, 11, 12, 13, 14, 15, 16, 17, 18, 19] rfl rfl (by decide) (by decide) (by decide) rfl (fun H28 lo28 hz27 hP28 hD28 hS28 => ?_)
          clear hP20 hD20 hS20
          refine lv_if_eq (tgt := 62) hx hb dX6_effect_47 (by decide) (fun c29 => ?_) (fun c29 => ?_)
          · have hm30 := zz_if c29 hm27
            refine lv_ldc (v := (-1000000000 : Int32)) hx hb hown (hts (.constant RX6 130 (-1000000000)) (by decide +kernel)) dX6_effect_62 ?_
            obtain ⟨hq1, hq2⟩ := Prod.mk.inj (Option.some.inj hm30)
            subst hq1
            subst hq2
            exact W.iret hx hb hr (fun t ht hW => ⟨⟨_, (), rfl, rfl, by rw [ht]; exact hP28, va_K.moved hW.alike hK, hD28⟩, hS28.F ht⟩) hS28.2.2 dX6_effect_64
          · have hm31 := zz_nf c29 hm27
            exact hk_50 bb x1 x2 x3 x4 x5 hm31 ls H28 lo28 (lv_sub hl [0, 1, 2, 3, 4, 5] rfl) hP28 hD28 hS28
      · have hm23 := zz_if c21 hm19
        refine lv_ldc (v := (-1000000000 : Int32)) hx hb hown (hts (.constant RX6 130 (-1000000000)) (by decide +kernel)) dX6_effect_33 ?_
        obtain ⟨hq1, hq2⟩ := Prod.mk.inj (Option.some.inj hm23)
        subst hq1
        subst hq2
        exact W.iret hx hb hr (fun t ht hW => ⟨⟨_, (), rfl, rfl, by rw [ht]; exact hP20, va_K.moved hW.alike hK, hD20⟩, hS20.F ht⟩) hS20.2.2 dX6_effect_35
theorem iw_X6_mix_X6 : ∀ w ∈ wsX60, w ∈ wsX6_mix := by decide +kernel
set_option maxHeartbeats 4000000 in
set_option maxRecDepth 100000 in
theorem c_X6_mix (l : Launch) (D : va_G) (cI cB cZ : ClassId) (ta : Nat → Nat) (aV : Nat) (aT : Nat) (aTb : Nat) (aP : Nat) (aPp : Nat) (aPf : Nat) (aD : Nat) (aDp : Nat) (aDf : Nat) (aR : Nat) (aRt : Nat) (aK : Nat) (aB : Nat) (aBb : Nat) (aBs : Nat) (aH : Nat) (aHk : Nat) (aHp : Nat) (aHb : Nat) (aHr : Nat) (sz : Nat) (tl : Int32) (tb : (Nat → Int32)) (pg : Int32) (ps : Int32) (pn : Int32) (pp : (Nat → Int32)) (pf : (Nat → Int32)) (dg : Int32) (ds : Int32) (dn : Int32) (dp : (Nat → Int32)) (df : (Nat → Int32)) (rl : Int32) (rk : Int32) (rp : Int32) (rt : (Nat → Int32)) (kp : Int32) (kb : Int32) (kk : Int32) (kn : Int32) (bb : (Nat → Int32)) (bs : (Nat → Int32)) (jl : Int32) (jn : Int32) (jk : (Nat → Int32)) (jp : (Nat → Int32)) (jb : (Nat → Int32)) (jr : (Nat → Int32)) (x1 : Int32) (x2 : Int32) (x3 : Int32) (r0 : Int32) (hm : m_X6_mix pg ps pn pp pf x1 x2 x3 = some r0) : Met l yX6_mix wsX6_mix ({ frames := 5, cells := 0, slots := 0, locals := 122 } : Room) (va_Pc [.ref aV, .int x1, .int x2, .int x3] (PW D cI cB cZ ta (w_VB cI cB cZ aV aT aTb aP aPp aPf aD aDp aDf aR aRt aK aB aBb aBs aH aHk aHp aHb aHr tl tb pg ps pn pp pf dg ds dn dp df rl rk rp rt kp kb kk kn bb bs jl jn jk jp jb jr) sz)) (QI D cI cB cZ (va_A (w_VB cI cB cZ aV aT aTb aP aPp aPf aD aDp aDf aR aRt aK aB aBb aBs aH aHk aHp aHb aHr tl tb pg ps pn pp pf dg ds dn dp df rl rk rp rt kp kb kk kn bb bs jl jn jk jp jb jr) sz) (w_VB cI cB cZ aV aT aTb aP aPp aPf aD aDp aDf aR aRt aK aB aBb aBs aH aHk aHp aHb aHr tl tb pg ps pn pp pf dg ds dn dp df rl rk rp rt kp kb kk kn bb bs jl jn jk jp jb jr) r0) 0 0 (va_A (w_VB cI cB cZ aV aT aTb aP aPp aPf aD aDp aDf aR aRt aK aB aBb aBs aH aHk aHp aHb aHr tl tb pg ps pn pp pf dg ds dn dp df rl rk rp rt kp kb kk kn bb bs jl jn jk jp jb jr) sz) := by
  refine Met.ofW (cc := cX6_mix) (maxL := 4) (ret := (some .int)) (by decide) rfl ?_
  intro p e s m args below meth c s₁ B hml hv
  obtain ⟨rfl, hsz, hP, hK, hD0, hG⟩ := hv
  have hx := B.exec
  have hb := B.bytes
  have hr := B.returns
  have hts := atoms_spec (ws := wsX6_mix) B.pre
  have hown : s.vm.findClass RX6 = some m.cls := findClass_of_methodNamed B.named
  have hlocks := B.notSynchronized
  subst hsz
  have hD := hD0.self (sz := s.heap.size)
  clear hD0
  have hA0 : ∀ q : Nat, s.heap.size ≤ q → va_A (w_VB cI cB cZ aV aT aTb aP aPp aPf aD aDp aDf aR aRt aK aB aBb aBs aH aHk aHp aHb aHr tl tb pg ps pn pp pf dg ds dn dp df rl rk rp rt kp kb kk kn bb bs jl jn jk jp jb jr) s.heap.size q := fun q h => Or.inr h
  generalize hAe : va_A (w_VB cI cB cZ aV aT aTb aP aPp aPf aD aDp aDf aR aRt aK aB aBb aBs aH aHk aHp aHb aHr tl tb pg ps pn pp pf dg ds dn dp df rl rk rp rt kp kb kk kn bb bs jl jn jk jp jb jr) s.heap.size = A at hD hG hA0 ⊢
  have hA : ∀ q : Nat, s.heap.size ≤ q → A q := hA0
  clear hA0
  have hS : va_S A s.heap s.heap [] := va_S.rf
  have iw_X6 := iw_X6_mix_X6
  have hl := lv_entry ([.ref aV, .int x1, .int x2, .int x3]) (n := 4) (Nat.le_of_ble_eq_true rfl)
  rw [lg_entry_eq]
  generalize (lg_sl ([.ref aV, .int x1, .int x2, .int x3]) ++ List.replicate (4 - (lg_sl ([.ref aV, .int x1, .int x2, .int x3])).length) Slot.unset).toArray = ls at hl ⊢
  have hl : lv_has ls 4 [(0, .ref aV), (1, .int x1), (2, .int x2), (3, .int x3)] := hl
  replace hm : (ob1 (m_X2_isNode pn x1) (fun r1 => (if r1 = 0 then some (-1000000000 : Int32) else (if x1 = 0 then some (-1000000000 : Int32) else (ob1 (m_X2_isScene ps x2) (fun r9 => (if r9 = 0 then some (-1000000000 : Int32) else (ob1 (m_X2_isScene ps x3) (fun r14 => (if r14 = 0 then some (-1000000000 : Int32) else (ob1 (m_X0_mixOf pg pn pp pf x1 x2 x3) (fun r19 => some r19)))))))))))) = some r0 := hm
  refine lv_aload_n hx hb dX6_mix_0 rfl (lv_at hl 0 rfl) ?_
  refine va_get (D := D) (ci := 6) (v := .ref aP) (C := RX6) (T := TX6) (N := 6) hx hb hts iw_X6 hown hK hP 0 rfl rfl 1 (by decide) (hts (.fieldLink RX6 19 "VarianceBridge" "plan" "LVarianceBridge$Plan;") (by decide +kernel)) (fun _ h9 => h9) rfl dX6_mix_1 ?_
  refine lv_iload_n hx hb dX6_mix_4 rfl (lv_at hl 1 rfl) ?_
  obtain ⟨r1, h1, hm1⟩ := ob1_e hm
  refine gcall_b (ws' := (w_VB cI cB cZ aV aT aTb aP aPp aPf aD aDp aDf aR aRt aK aB aBb aBs aH aHk aHp aHb aHr tl tb pg ps pn pp pf dg ds dn dp df rl rk rp rt kp kb kk kn bb bs jl jn jk jp jb jr)) (va_runVN (As := [.int x1]) (rest := []) ⟨hx, hb, hml, hown, hts⟩ (c_X2_isNode l D cI cB cZ ta aP aPp aPf s.heap.size pg ps pn pp pf x1 r1 h1) ⟨va_cnB 1 hts gX6_mix_X2_isNode_n96 rfl rfl rfl (hG.1 (.methodLinkNest RX6 96 yX2_isNode RX6) (by decide +kernel)) (hts (.initialized RX2) (by decide +kernel)) (by decide +kernel) ⟨(Nat.le_of_ble_eq_true rfl), (Nat.le_of_ble_eq_true rfl)⟩, hts (.instanceMethod yX2_isNode) (by decide +kernel), hts (.selects RX2 yX2_isNode yX2_isNode) (by decide +kernel)⟩ ⟨PW_blind, va_recv hK hP rfl (q0 := 3) rfl, PW_at hP hD hK hS hA hG [3, 4, 5] rfl (by decide)⟩ rfl rfl hl.1 rfl (lv_room (Nat.le_of_ble_eq_true rfl)) dX6_mix_5 ⟨(Nat.le_of_ble_eq_true rfl), (Nat.le_of_ble_eq_true rfl)⟩) hP hD hS hA [3, 4, 5] [0, 1, 2, 6, 7, 8, 9, 10, 11, 12, 13, 14, 15, 16, 17, 18, 19] [0, 1, 2, 17, 18, 19, 3, 4, 5, 6, 7, 8, 9, 10, 11, 12, 13, 14, 15, 16] rfl rfl (by decide) (by decide) (by decide) rfl (fun H2 lo2 hz1 hP2 hD2 hS2 => ?_)
  clear hP hD hS
  refine lv_if_eq (tgt := 37) hx hb dX6_mix_8 (by decide) (fun c3 => ?_) (fun c3 => ?_)
  · have hm4 := zz_if c3 hm1
    refine lv_ldc (v := (-1000000000 : Int32)) hx hb hown (hts (.constant RX6 130 (-1000000000)) (by decide +kernel)) dX6_mix_37 ?_
    have hq1 := Option.some.inj hm4
    subst hq1
    exact W.iret hx hb hr (fun t ht hW => ⟨⟨_, (), rfl, rfl, by rw [ht]; exact hP2, va_K.moved hW.alike hK, hD2⟩, hS2.F ht⟩) hS2.2.2 dX6_mix_39
  · have hm5 := zz_nf c3 hm1
    refine lv_iload_n hx hb dX6_mix_11 rfl (lv_at hl 1 rfl) ?_
    refine lv_if_eq (tgt := 37) hx hb dX6_mix_12 (by decide) (fun c6 => ?_) (fun c6 => ?_)
    · have hm7 := zz_if c6 hm5
      refine lv_ldc (v := (-1000000000 : Int32)) hx hb hown (hts (.constant RX6 130 (-1000000000)) (by decide +kernel)) dX6_mix_37 ?_
      have hq1 := Option.some.inj hm7
      subst hq1
      exact W.iret hx hb hr (fun t ht hW => ⟨⟨_, (), rfl, rfl, by rw [ht]; exact hP2, va_K.moved hW.alike hK, hD2⟩, hS2.F ht⟩) hS2.2.2 dX6_mix_39
    · have hm8 := zz_nf c6 hm5
      refine lv_aload_n hx hb dX6_mix_15 rfl (lv_at hl 0 rfl) ?_
      refine va_get (D := D) (ci := 6) (v := .ref aP) (C := RX6) (T := TX6) (N := 6) hx hb hts iw_X6 hown hK hP2 0 rfl rfl 1 (by decide) (hts (.fieldLink RX6 19 "VarianceBridge" "plan" "LVarianceBridge$Plan;") (by decide +kernel)) (fun _ h9 => h9) rfl dX6_mix_16 ?_
      refine lv_iload_n hx hb dX6_mix_19 rfl (lv_at hl 2 rfl) ?_
      obtain ⟨r9, h9, hm9⟩ := ob1_e hm8
      refine gcall_b (ws' := (w_VB cI cB cZ aV aT aTb aP aPp aPf aD aDp aDf aR aRt aK aB aBb aBs aH aHk aHp aHb aHr tl tb pg ps pn pp pf dg ds dn dp df rl rk rp rt kp kb kk kn bb bs jl jn jk jp jb jr)) (va_runVN (As := [.int x2]) (rest := []) ⟨hx, hb, hml, hown, hts⟩ (c_X2_isScene l D cI cB cZ ta aP aPp aPf H2.size pg ps pn pp pf x2 r9 h9) ⟨va_cnB 1 hts gX6_mix_X2_isScene_n120 rfl rfl rfl (hG.1 (.methodLinkNest RX6 120 yX2_isScene RX6) (by decide +kernel)) (hts (.initialized RX2) (by decide +kernel)) (by decide +kernel) ⟨(Nat.le_of_ble_eq_true rfl), (Nat.le_of_ble_eq_true rfl)⟩, hts (.instanceMethod yX2_isScene) (by decide +kernel), hts (.selects RX2 yX2_isScene yX2_isScene) (by decide +kernel)⟩ ⟨PW_blind, va_recv hK hP2 rfl (q0 := 3) rfl, PW_at hP2 hD2 hK hS2 hA hG [3, 4, 5] rfl (by decide)⟩ rfl rfl hl.1 rfl (lv_room (Nat.le_of_ble_eq_true rfl)) dX6_mix_20 ⟨(Nat.le_of_ble_eq_true rfl), (Nat.le_of_ble_eq_true rfl)⟩) hP2 hD2 hS2 hA [3, 4, 5] [0, 1, 2, 6, 7, 8, 9, 10, 11, 12, 13, 14, 15, 16, 17, 18, 19] [0, 1, 2, 17, 18, 19, 3, 4, 5, 6, 7, 8, 9, 10, 11, 12, 13, 14, 15, 16] rfl rfl (by decide) (by decide) (by decide) rfl (fun H10 lo10 hz9 hP10 hD10 hS10 => ?_)
      clear hP2 hD2 hS2
      refine lv_if_eq (tgt := 37) hx hb dX6_mix_23 (by decide) (fun c11 => ?_) (fun c11 => ?_)
      · have hm12 := zz_if c11 hm9
        refine lv_ldc (v := (-1000000000 : Int32)) hx hb hown (hts (.constant RX6 130 (-1000000000)) (by decide +kernel)) dX6_mix_37 ?_
        have hq1 := Option.some.inj hm12
        subst hq1
        exact W.iret hx hb hr (fun t ht hW => ⟨⟨_, (), rfl, rfl, by rw [ht]; exact hP10, va_K.moved hW.alike hK, hD10⟩, hS10.F ht⟩) hS10.2.2 dX6_mix_39
      · have hm13 := zz_nf c11 hm9
        refine lv_aload_n hx hb dX6_mix_26 rfl (lv_at hl 0 rfl) ?_
        refine va_get (D := D) (ci := 6) (v := .ref aP) (C := RX6) (T := TX6) (N := 6) hx hb hts iw_X6 hown hK hP10 0 rfl rfl 1 (by decide) (hts (.fieldLink RX6 19 "VarianceBridge" "plan" "LVarianceBridge$Plan;") (by decide +kernel)) (fun _ h9 => h9) rfl dX6_mix_27 ?_
        refine lv_iload_n hx hb dX6_mix_30 rfl (lv_at hl 3 rfl) ?_
        obtain ⟨r14, h14, hm14⟩ := ob1_e hm13
        refine gcall_b (ws' := (w_VB cI cB cZ aV aT aTb aP aPp aPf aD aDp aDf aR aRt aK aB aBb aBs aH aHk aHp aHb aHr tl tb pg ps pn pp pf dg ds dn dp df rl rk rp rt kp kb kk kn bb bs jl jn jk jp jb jr)) (va_runVN (As := [.int x3]) (rest := []) ⟨hx, hb, hml, hown, hts⟩ (c_X2_isScene l D cI cB cZ ta aP aPp aPf H10.size pg ps pn pp pf x3 r14 h14) ⟨va_cnB 1 hts gX6_mix_X2_isScene_n120 rfl rfl rfl (hG.1 (.methodLinkNest RX6 120 yX2_isScene RX6) (by decide +kernel)) (hts (.initialized RX2) (by decide +kernel)) (by decide +kernel) ⟨(Nat.le_of_ble_eq_true rfl), (Nat.le_of_ble_eq_true rfl)⟩, hts (.instanceMethod yX2_isScene) (by decide +kernel), hts (.selects RX2 yX2_isScene yX2_isScene) (by decide +kernel)⟩ ⟨PW_blind, va_recv hK hP10 rfl (q0 := 3) rfl, PW_at hP10 hD10 hK hS10 hA hG [3, 4, 5] rfl (by decide)⟩ rfl rfl hl.1 rfl (lv_room (Nat.le_of_ble_eq_true rfl)) dX6_mix_31 ⟨(Nat.le_of_ble_eq_true rfl), (Nat.le_of_ble_eq_true rfl)⟩) hP10 hD10 hS10 hA [3, 4, 5] [0, 1, 2, 6, 7, 8, 9, 10, 11, 12, 13, 14, 15, 16, 17, 18, 19] [0, 1, 2, 17, 18, 19, 3, 4, 5, 6, 7, 8, 9, 10, 11, 12, 13, 14, 15, 16] rfl rfl (by decide) (by decide) (by decide) rfl (fun H15 lo15 hz14 hP15 hD15 hS15 => ?_)
        clear hP10 hD10 hS10
        refine lv_if_ne (tgt := 40) hx hb dX6_mix_34 (by decide) (fun c16 => ?_) (fun c16 => ?_)
        · have hm17 := zz_nf c16 hm14
          refine lv_aload_n hx hb dX6_mix_40 rfl (lv_at hl 0 rfl) ?_
          refine va_get (D := D) (ci := 6) (v := .ref aB) (C := RX6) (T := TX6) (N := 6) hx hb hts iw_X6 hown hK hP15 0 rfl rfl 4 (by decide) (hts (.fieldLink RX6 40 "VarianceBridge" "bridge" "LVarianceBridge$Bridge;") (by decide +kernel)) (fun _ h9 => h9) rfl dX6_mix_41 ?_
          refine lv_iload_n hx hb dX6_mix_44 rfl (lv_at hl 1 rfl) ?_
          refine lv_iload_n hx hb dX6_mix_45 rfl (lv_at hl 2 rfl) ?_
          refine lv_iload_n hx hb dX6_mix_46 rfl (lv_at hl 3 rfl) ?_
          obtain ⟨r19, h19, hm19⟩ := ob1_e hm17
          refine gcall_i (ws' := (w_VB cI cB cZ aV aT aTb aP aPp aPf aD aDp aDf aR aRt aK aB aBb aBs aH aHk aHp aHb aHr tl tb pg ps pn pp pf dg ds dn dp df rl rk rp rt kp kb kk kn bb bs jl jn jk jp jb jr)) (va_runVN (As := [.int x1, .int x2, .int x3]) (rest := []) ⟨hx, hb, hml, hown, hts⟩ (c_X0_mixOf l D cI cB cZ ta aB aBb aBs aP aPp aPf H15.size bb bs pg ps pn pp pf x1 x2 x3 r19 h19) ⟨va_cnB 3 hts gX6_mix_X0_mixOf_n148 rfl rfl rfl (hG.1 (.methodLinkNest RX6 148 yX0_mixOf RX6) (by decide +kernel)) (hts (.initialized RX0) (by decide +kernel)) (by decide +kernel) ⟨(Nat.le_of_ble_eq_true rfl), (Nat.le_of_ble_eq_true rfl)⟩, hts (.instanceMethod yX0_mixOf) (by decide +kernel), hts (.selects RX0 yX0_mixOf yX0_mixOf) (by decide +kernel)⟩ ⟨PW_blind, va_recv hK hP15 rfl (q0 := 12) rfl, PW_at hP15 hD15 hK hS15 hA hG [12, 13, 14, 3, 4, 5] rfl (by decide)⟩ rfl rfl hl.1 rfl (lv_room (Nat.le_of_ble_eq_true rfl)) dX6_mix_47 ⟨(Nat.le_of_ble_eq_true rfl), (Nat.le_of_ble_eq_true rfl)⟩) hP15 hD15 hS15 hA [12, 13, 14, 3, 4, 5] [0, 1, 2, 6, 7, 8, 9, 10, 11, 15, 16, 17, 18, 19] [0, 1, 2, 17, 18, 19, 3, 4, 5, 6, 7, 8, 14, 15, 16, 9, 10, 11, 12, 13] rfl rfl (by decide) (by decide) (by decide) rfl (fun H20 lo20 hP20 hD20 hS20 => ?_)
          clear hP15 hD15 hS15
          have hq1 := Option.some.inj hm19
          subst hq1
          exact W.iret hx hb hr (fun t ht hW => ⟨⟨_, (), rfl, rfl, by rw [ht]; exact hP20, va_K.moved hW.alike hK, hD20⟩, hS20.F ht⟩) hS20.2.2 dX6_mix_50
        · have hm18 := zz_if c16 hm14
          refine lv_ldc (v := (-1000000000 : Int32)) hx hb hown (hts (.constant RX6 130 (-1000000000)) (by decide +kernel)) dX6_mix_37 ?_
          have hq1 := Option.some.inj hm18
          subst hq1
          exact W.iret hx hb hr (fun t ht hW => ⟨⟨_, (), rfl, rfl, by rw [ht]; exact hP15, va_K.moved hW.alike hK, hD15⟩, hS15.F ht⟩) hS15.2.2 dX6_mix_39
theorem iw_X6_flatters_X6 : ∀ w ∈ wsX60, w ∈ wsX6_flatters := by decide +kernel
set_option maxHeartbeats 4000000 in
set_option maxRecDepth 100000 in
theorem c_X6_flatters (l : Launch) (D : va_G) (cI cB cZ : ClassId) (ta : Nat → Nat) (aV : Nat) (aT : Nat) (aTb : Nat) (aP : Nat) (aPp : Nat) (aPf : Nat) (aD : Nat) (aDp : Nat) (aDf : Nat) (aR : Nat) (aRt : Nat) (aK : Nat) (aB : Nat) (aBb : Nat) (aBs : Nat) (aH : Nat) (aHk : Nat) (aHp : Nat) (aHb : Nat) (aHr : Nat) (sz : Nat) (tl : Int32) (tb : (Nat → Int32)) (pg : Int32) (ps : Int32) (pn : Int32) (pp : (Nat → Int32)) (pf : (Nat → Int32)) (dg : Int32) (ds : Int32) (dn : Int32) (dp : (Nat → Int32)) (df : (Nat → Int32)) (rl : Int32) (rk : Int32) (rp : Int32) (rt : (Nat → Int32)) (kp : Int32) (kb : Int32) (kk : Int32) (kn : Int32) (bb : (Nat → Int32)) (bs : (Nat → Int32)) (jl : Int32) (jn : Int32) (jk : (Nat → Int32)) (jp : (Nat → Int32)) (jb : (Nat → Int32)) (jr : (Nat → Int32)) (x1 : Int32) (x2 : Int32) (x3 : Int32) (x4 : Int32) (r0 : Int32) (u_bb : (Nat → Int32)) (hm : m_X6_flatters pg ps pn pp pf bb x1 x2 x3 x4 = some (r0, u_bb)) : Met l yX6_flatters wsX6_flatters ({ frames := 4, cells := 0, slots := 0, locals := 102 } : Room) (va_Pc [.ref aV, .int x1, .int x2, .int x3, .int x4] (PW D cI cB cZ ta (w_VB cI cB cZ aV aT aTb aP aPp aPf aD aDp aDf aR aRt aK aB aBb aBs aH aHk aHp aHb aHr tl tb pg ps pn pp pf dg ds dn dp df rl rk rp rt kp kb kk kn bb bs jl jn jk jp jb jr) sz)) (QI D cI cB cZ (va_A (w_VB cI cB cZ aV aT aTb aP aPp aPf aD aDp aDf aR aRt aK aB aBb aBs aH aHk aHp aHb aHr tl tb pg ps pn pp pf dg ds dn dp df rl rk rp rt kp kb kk kn bb bs jl jn jk jp jb jr) sz) (w_VB cI cB cZ aV aT aTb aP aPp aPf aD aDp aDf aR aRt aK aB aBb aBs aH aHk aHp aHb aHr tl tb pg ps pn pp pf dg ds dn dp df rl rk rp rt kp kb kk kn u_bb bs jl jn jk jp jb jr) r0) 0 0 (va_A (w_VB cI cB cZ aV aT aTb aP aPp aPf aD aDp aDf aR aRt aK aB aBb aBs aH aHk aHp aHb aHr tl tb pg ps pn pp pf dg ds dn dp df rl rk rp rt kp kb kk kn bb bs jl jn jk jp jb jr) sz) := by
  refine Met.ofW (cc := cX6_flatters) (maxL := 5) (ret := (some .int)) (by decide) rfl ?_
  intro p e s m args below meth c s₁ B hml hv
  obtain ⟨rfl, hsz, hP, hK, hD0, hG⟩ := hv
  have hx := B.exec
  have hb := B.bytes
  have hr := B.returns
  have hts := atoms_spec (ws := wsX6_flatters) B.pre
  have hown : s.vm.findClass RX6 = some m.cls := findClass_of_methodNamed B.named
  have hlocks := B.notSynchronized
  subst hsz
  have hD := hD0.self (sz := s.heap.size)
  clear hD0
  have hA0 : ∀ q : Nat, s.heap.size ≤ q → va_A (w_VB cI cB cZ aV aT aTb aP aPp aPf aD aDp aDf aR aRt aK aB aBb aBs aH aHk aHp aHb aHr tl tb pg ps pn pp pf dg ds dn dp df rl rk rp rt kp kb kk kn bb bs jl jn jk jp jb jr) s.heap.size q := fun q h => Or.inr h
  generalize hAe : va_A (w_VB cI cB cZ aV aT aTb aP aPp aPf aD aDp aDf aR aRt aK aB aBb aBs aH aHk aHp aHb aHr tl tb pg ps pn pp pf dg ds dn dp df rl rk rp rt kp kb kk kn bb bs jl jn jk jp jb jr) s.heap.size = A at hD hG hA0 ⊢
  have hA : ∀ q : Nat, s.heap.size ≤ q → A q := hA0
  clear hA0
  have hS : va_S A s.heap s.heap [] := va_S.rf
  have iw_X6 := iw_X6_flatters_X6
  have hl := lv_entry ([.ref aV, .int x1, .int x2, .int x3, .int x4]) (n := 5) (Nat.le_of_ble_eq_true rfl)
  rw [lg_entry_eq]
  generalize (lg_sl ([.ref aV, .int x1, .int x2, .int x3, .int x4]) ++ List.replicate (5 - (lg_sl ([.ref aV, .int x1, .int x2, .int x3, .int x4])).length) Slot.unset).toArray = ls at hl ⊢
  have hl : lv_has ls 5 [(0, .ref aV), (1, .int x1), (2, .int x2), (3, .int x3), (4, .int x4)] := hl
  replace hm : (ob1 (m_X2_isNode pn x1) (fun r1 => (if r1 = 0 then some ((-1 : Int32), bb) else (ob1 (m_X2_isScene ps x2) (fun r6 => (if r6 = 0 then some ((-1 : Int32), bb) else (ob1 (m_X2_isScene ps x3) (fun r11 => (if r11 = 0 then some ((-1 : Int32), bb) else (ob1 (m_X6_isFactor x4) (fun r16 => (if r16 = 0 then some ((-1 : Int32), bb) else (ob2 (m_X0_mostFlattering bb pg pn pp pf x1 x2 x3 x4) (fun r21 bb_21 => some (r21, bb_21))))))))))))))) = some (r0, u_bb) := hm
  refine lv_aload_n hx hb dX6_flatters_0 rfl (lv_at hl 0 rfl) ?_
  refine va_get (D := D) (ci := 6) (v := .ref aP) (C := RX6) (T := TX6) (N := 6) hx hb hts iw_X6 hown hK hP 0 rfl rfl 1 (by decide) (hts (.fieldLink RX6 19 "VarianceBridge" "plan" "LVarianceBridge$Plan;") (by decide +kernel)) (fun _ h9 => h9) rfl dX6_flatters_1 ?_
  refine lv_iload_n hx hb dX6_flatters_4 rfl (lv_at hl 1 rfl) ?_
  obtain ⟨r1, h1, hm1⟩ := ob1_e hm
  refine gcall_b (ws' := (w_VB cI cB cZ aV aT aTb aP aPp aPf aD aDp aDf aR aRt aK aB aBb aBs aH aHk aHp aHb aHr tl tb pg ps pn pp pf dg ds dn dp df rl rk rp rt kp kb kk kn bb bs jl jn jk jp jb jr)) (va_runVN (As := [.int x1]) (rest := []) ⟨hx, hb, hml, hown, hts⟩ (c_X2_isNode l D cI cB cZ ta aP aPp aPf s.heap.size pg ps pn pp pf x1 r1 h1) ⟨va_cnB 1 hts gX6_flatters_X2_isNode_n96 rfl rfl rfl (hG.1 (.methodLinkNest RX6 96 yX2_isNode RX6) (by decide +kernel)) (hts (.initialized RX2) (by decide +kernel)) (by decide +kernel) ⟨(Nat.le_of_ble_eq_true rfl), (Nat.le_of_ble_eq_true rfl)⟩, hts (.instanceMethod yX2_isNode) (by decide +kernel), hts (.selects RX2 yX2_isNode yX2_isNode) (by decide +kernel)⟩ ⟨PW_blind, va_recv hK hP rfl (q0 := 3) rfl, PW_at hP hD hK hS hA hG [3, 4, 5] rfl (by decide)⟩ rfl rfl hl.1 rfl (lv_room (Nat.le_of_ble_eq_true rfl)) dX6_flatters_5 ⟨(Nat.le_of_ble_eq_true rfl), (Nat.le_of_ble_eq_true rfl)⟩) hP hD hS hA [3, 4, 5] [0, 1, 2, 6, 7, 8, 9, 10, 11, 12, 13, 14, 15, 16, 17, 18, 19] [0, 1, 2, 17, 18, 19, 3, 4, 5, 6, 7, 8, 9, 10, 11, 12, 13, 14, 15, 16] rfl rfl (by decide) (by decide) (by decide) rfl (fun H2 lo2 hz1 hP2 hD2 hS2 => ?_)
  clear hP hD hS
  refine lv_if_eq (tgt := 41) hx hb dX6_flatters_8 (by decide) (fun c3 => ?_) (fun c3 => ?_)
  · have hm4 := zz_if c3 hm1
    refine lv_iconst (v := (-1 : Int32)) hx hb dX6_flatters_41 (by decide) ?_
    obtain ⟨hq1, hq2⟩ := Prod.mk.inj (Option.some.inj hm4)
    subst hq1
    subst hq2
    exact W.iret hx hb hr (fun t ht hW => ⟨⟨_, (), rfl, rfl, by rw [ht]; exact hP2, va_K.moved hW.alike hK, hD2⟩, hS2.F ht⟩) hS2.2.2 dX6_flatters_42
  · have hm5 := zz_nf c3 hm1
    refine lv_aload_n hx hb dX6_flatters_11 rfl (lv_at hl 0 rfl) ?_
    refine va_get (D := D) (ci := 6) (v := .ref aP) (C := RX6) (T := TX6) (N := 6) hx hb hts iw_X6 hown hK hP2 0 rfl rfl 1 (by decide) (hts (.fieldLink RX6 19 "VarianceBridge" "plan" "LVarianceBridge$Plan;") (by decide +kernel)) (fun _ h9 => h9) rfl dX6_flatters_12 ?_
    refine lv_iload_n hx hb dX6_flatters_15 rfl (lv_at hl 2 rfl) ?_
    obtain ⟨r6, h6, hm6⟩ := ob1_e hm5
    refine gcall_b (ws' := (w_VB cI cB cZ aV aT aTb aP aPp aPf aD aDp aDf aR aRt aK aB aBb aBs aH aHk aHp aHb aHr tl tb pg ps pn pp pf dg ds dn dp df rl rk rp rt kp kb kk kn bb bs jl jn jk jp jb jr)) (va_runVN (As := [.int x2]) (rest := []) ⟨hx, hb, hml, hown, hts⟩ (c_X2_isScene l D cI cB cZ ta aP aPp aPf H2.size pg ps pn pp pf x2 r6 h6) ⟨va_cnB 1 hts gX6_flatters_X2_isScene_n120 rfl rfl rfl (hG.1 (.methodLinkNest RX6 120 yX2_isScene RX6) (by decide +kernel)) (hts (.initialized RX2) (by decide +kernel)) (by decide +kernel) ⟨(Nat.le_of_ble_eq_true rfl), (Nat.le_of_ble_eq_true rfl)⟩, hts (.instanceMethod yX2_isScene) (by decide +kernel), hts (.selects RX2 yX2_isScene yX2_isScene) (by decide +kernel)⟩ ⟨PW_blind, va_recv hK hP2 rfl (q0 := 3) rfl, PW_at hP2 hD2 hK hS2 hA hG [3, 4, 5] rfl (by decide)⟩ rfl rfl hl.1 rfl (lv_room (Nat.le_of_ble_eq_true rfl)) dX6_flatters_16 ⟨(Nat.le_of_ble_eq_true rfl), (Nat.le_of_ble_eq_true rfl)⟩) hP2 hD2 hS2 hA [3, 4, 5] [0, 1, 2, 6, 7, 8, 9, 10, 11, 12, 13, 14, 15, 16, 17, 18, 19] [0, 1, 2, 17, 18, 19, 3, 4, 5, 6, 7, 8, 9, 10, 11, 12, 13, 14, 15, 16] rfl rfl (by decide) (by decide) (by decide) rfl (fun H7 lo7 hz6 hP7 hD7 hS7 => ?_)
    clear hP2 hD2 hS2
    refine lv_if_eq (tgt := 41) hx hb dX6_flatters_19 (by decide) (fun c8 => ?_) (fun c8 => ?_)
    · have hm9 := zz_if c8 hm6
      refine lv_iconst (v := (-1 : Int32)) hx hb dX6_flatters_41 (by decide) ?_
      obtain ⟨hq1, hq2⟩ := Prod.mk.inj (Option.some.inj hm9)
      subst hq1
      subst hq2
      exact W.iret hx hb hr (fun t ht hW => ⟨⟨_, (), rfl, rfl, by rw [ht]; exact hP7, va_K.moved hW.alike hK, hD7⟩, hS7.F ht⟩) hS7.2.2 dX6_flatters_42
    · have hm10 := zz_nf c8 hm6
      refine lv_aload_n hx hb dX6_flatters_22 rfl (lv_at hl 0 rfl) ?_
      refine va_get (D := D) (ci := 6) (v := .ref aP) (C := RX6) (T := TX6) (N := 6) hx hb hts iw_X6 hown hK hP7 0 rfl rfl 1 (by decide) (hts (.fieldLink RX6 19 "VarianceBridge" "plan" "LVarianceBridge$Plan;") (by decide +kernel)) (fun _ h9 => h9) rfl dX6_flatters_23 ?_
      refine lv_iload_n hx hb dX6_flatters_26 rfl (lv_at hl 3 rfl) ?_
      obtain ⟨r11, h11, hm11⟩ := ob1_e hm10
      refine gcall_b (ws' := (w_VB cI cB cZ aV aT aTb aP aPp aPf aD aDp aDf aR aRt aK aB aBb aBs aH aHk aHp aHb aHr tl tb pg ps pn pp pf dg ds dn dp df rl rk rp rt kp kb kk kn bb bs jl jn jk jp jb jr)) (va_runVN (As := [.int x3]) (rest := []) ⟨hx, hb, hml, hown, hts⟩ (c_X2_isScene l D cI cB cZ ta aP aPp aPf H7.size pg ps pn pp pf x3 r11 h11) ⟨va_cnB 1 hts gX6_flatters_X2_isScene_n120 rfl rfl rfl (hG.1 (.methodLinkNest RX6 120 yX2_isScene RX6) (by decide +kernel)) (hts (.initialized RX2) (by decide +kernel)) (by decide +kernel) ⟨(Nat.le_of_ble_eq_true rfl), (Nat.le_of_ble_eq_true rfl)⟩, hts (.instanceMethod yX2_isScene) (by decide +kernel), hts (.selects RX2 yX2_isScene yX2_isScene) (by decide +kernel)⟩ ⟨PW_blind, va_recv hK hP7 rfl (q0 := 3) rfl, PW_at hP7 hD7 hK hS7 hA hG [3, 4, 5] rfl (by decide)⟩ rfl rfl hl.1 rfl (lv_room (Nat.le_of_ble_eq_true rfl)) dX6_flatters_27 ⟨(Nat.le_of_ble_eq_true rfl), (Nat.le_of_ble_eq_true rfl)⟩) hP7 hD7 hS7 hA [3, 4, 5] [0, 1, 2, 6, 7, 8, 9, 10, 11, 12, 13, 14, 15, 16, 17, 18, 19] [0, 1, 2, 17, 18, 19, 3, 4, 5, 6, 7, 8, 9, 10, 11, 12, 13, 14, 15, 16] rfl rfl (by decide) (by decide) (by decide) rfl (fun H12 lo12 hz11 hP12 hD12 hS12 => ?_)
      clear hP7 hD7 hS7
      refine lv_if_eq (tgt := 41) hx hb dX6_flatters_30 (by decide) (fun c13 => ?_) (fun c13 => ?_)
      · have hm14 := zz_if c13 hm11
        refine lv_iconst (v := (-1 : Int32)) hx hb dX6_flatters_41 (by decide) ?_
        obtain ⟨hq1, hq2⟩ := Prod.mk.inj (Option.some.inj hm14)
        subst hq1
        subst hq2
        exact W.iret hx hb hr (fun t ht hW => ⟨⟨_, (), rfl, rfl, by rw [ht]; exact hP12, va_K.moved hW.alike hK, hD12⟩, hS12.F ht⟩) hS12.2.2 dX6_flatters_42
      · have hm15 := zz_nf c13 hm11
        refine lv_iload hx hb dX6_flatters_33 (lv_at hl 4 rfl) ?_
        obtain ⟨r16, h16, hm16⟩ := ob1_e hm15
        refine gcall_b (ws' := (w_VB cI cB cZ aV aT aTb aP aPp aPf aD aDp aDf aR aRt aK aB aBb aBs aH aHk aHp aHb aHr tl tb pg ps pn pp pf dg ds dn dp df rl rk rp rt kp kb kk kn bb bs jl jn jk jp jb jr)) (va_runS (As := [.int x4]) (rest := []) ⟨hx, hb, hml, hown, hts⟩ (c_X6_isFactor l D cI cB cZ ta H12.size x4 r16 h16) (va_cwS 1 hts gX6_flatters_X6_isFactor rfl rfl rfl (by decide +kernel) ⟨(Nat.le_of_ble_eq_true rfl), (Nat.le_of_ble_eq_true rfl)⟩) ⟨PW_blind, PW_at hP12 hD12 hK hS12 hA hG [] rfl (by decide)⟩ rfl rfl hl.1 rfl (lv_room (Nat.le_of_ble_eq_true rfl)) dX6_flatters_35 ⟨(Nat.le_of_ble_eq_true rfl), (Nat.le_of_ble_eq_true rfl)⟩) hP12 hD12 hS12 hA [] [0, 1, 2, 3, 4, 5, 6, 7, 8, 9, 10, 11, 12, 13, 14, 15, 16, 17, 18, 19] [0, 1, 2, 3, 4, 5, 6, 7, 8, 9, 10, 11, 12, 13, 14, 15, 16, 17, 18, 19] rfl rfl (by decide) (by decide) (by decide) rfl (fun H17 lo17 hz16 hP17 hD17 hS17 => ?_)
        clear hP12 hD12 hS12
        refine lv_if_ne (tgt := 43) hx hb dX6_flatters_38 (by decide) (fun c18 => ?_) (fun c18 => ?_)
        · have hm19 := zz_nf c18 hm16
          refine lv_aload_n hx hb dX6_flatters_43 rfl (lv_at hl 0 rfl) ?_
          refine va_get (D := D) (ci := 6) (v := .ref aB) (C := RX6) (T := TX6) (N := 6) hx hb hts iw_X6 hown hK hP17 0 rfl rfl 4 (by decide) (hts (.fieldLink RX6 40 "VarianceBridge" "bridge" "LVarianceBridge$Bridge;") (by decide +kernel)) (fun _ h9 => h9) rfl dX6_flatters_44 ?_
          refine lv_iload_n hx hb dX6_flatters_47 rfl (lv_at hl 1 rfl) ?_
          refine lv_iload_n hx hb dX6_flatters_48 rfl (lv_at hl 2 rfl) ?_
          refine lv_iload_n hx hb dX6_flatters_49 rfl (lv_at hl 3 rfl) ?_
          refine lv_iload hx hb dX6_flatters_50 (lv_at hl 4 rfl) ?_
          obtain ⟨r21, bb_21, h21, hm21⟩ := ob2_e hm19
          refine gcall_i (ws' := (w_VB cI cB cZ aV aT aTb aP aPp aPf aD aDp aDf aR aRt aK aB aBb aBs aH aHk aHp aHb aHr tl tb pg ps pn pp pf dg ds dn dp df rl rk rp rt kp kb kk kn bb_21 bs jl jn jk jp jb jr)) (va_runVN (As := [.int x1, .int x2, .int x3, .int x4]) (rest := []) ⟨hx, hb, hml, hown, hts⟩ (c_X0_mostFlattering l D cI cB cZ ta aB aBb aBs aP aPp aPf H17.size bb bs pg ps pn pp pf x1 x2 x3 x4 r21 bb_21 h21) ⟨va_cnB 4 hts gX6_flatters_X0_mostFlattering_n151 rfl rfl rfl (hG.1 (.methodLinkNest RX6 151 yX0_mostFlattering RX6) (by decide +kernel)) (hts (.initialized RX0) (by decide +kernel)) (by decide +kernel) ⟨(Nat.le_of_ble_eq_true rfl), (Nat.le_of_ble_eq_true rfl)⟩, hts (.instanceMethod yX0_mostFlattering) (by decide +kernel), hts (.selects RX0 yX0_mostFlattering yX0_mostFlattering) (by decide +kernel)⟩ ⟨PW_blind, va_recv hK hP17 rfl (q0 := 12) rfl, PW_at hP17 hD17 hK hS17 hA hG [12, 13, 14, 3, 4, 5] rfl (by decide)⟩ rfl rfl hl.1 rfl (lv_room (Nat.le_of_ble_eq_true rfl)) dX6_flatters_52 ⟨(Nat.le_of_ble_eq_true rfl), (Nat.le_of_ble_eq_true rfl)⟩) hP17 hD17 hS17 hA [12, 13, 14, 3, 4, 5] [0, 1, 2, 6, 7, 8, 9, 10, 11, 15, 16, 17, 18, 19] [0, 1, 2, 17, 18, 19, 3, 4, 5, 6, 7, 8, 14, 15, 16, 9, 10, 11, 12, 13] rfl rfl (by decide) (by decide) (by decide) rfl (fun H22 lo22 hP22 hD22 hS22 => ?_)
          clear hP17 hD17 hS17
          obtain ⟨hq1, hq2⟩ := Prod.mk.inj (Option.some.inj hm21)
          subst hq1
          subst hq2
          exact W.iret hx hb hr (fun t ht hW => ⟨⟨_, (), rfl, rfl, by rw [ht]; exact hP22, va_K.moved hW.alike hK, hD22⟩, hS22.F ht⟩) hS22.2.2 dX6_flatters_55
        · have hm20 := zz_if c18 hm16
          refine lv_iconst (v := (-1 : Int32)) hx hb dX6_flatters_41 (by decide) ?_
          obtain ⟨hq1, hq2⟩ := Prod.mk.inj (Option.some.inj hm20)
          subst hq1
          subst hq2
          exact W.iret hx hb hr (fun t ht hW => ⟨⟨_, (), rfl, rfl, by rw [ht]; exact hP17, va_K.moved hW.alike hK, hD17⟩, hS17.F ht⟩) hS17.2.2 dX6_flatters_42
theorem iw_X6_mover_X6 : ∀ w ∈ wsX60, w ∈ wsX6_mover := by decide +kernel
set_option maxHeartbeats 4000000 in
set_option maxRecDepth 100000 in
theorem c_X6_mover (l : Launch) (D : va_G) (cI cB cZ : ClassId) (ta : Nat → Nat) (aV : Nat) (aT : Nat) (aTb : Nat) (aP : Nat) (aPp : Nat) (aPf : Nat) (aD : Nat) (aDp : Nat) (aDf : Nat) (aR : Nat) (aRt : Nat) (aK : Nat) (aB : Nat) (aBb : Nat) (aBs : Nat) (aH : Nat) (aHk : Nat) (aHp : Nat) (aHb : Nat) (aHr : Nat) (sz : Nat) (tl : Int32) (tb : (Nat → Int32)) (pg : Int32) (ps : Int32) (pn : Int32) (pp : (Nat → Int32)) (pf : (Nat → Int32)) (dg : Int32) (ds : Int32) (dn : Int32) (dp : (Nat → Int32)) (df : (Nat → Int32)) (rl : Int32) (rk : Int32) (rp : Int32) (rt : (Nat → Int32)) (kp : Int32) (kb : Int32) (kk : Int32) (kn : Int32) (bb : (Nat → Int32)) (bs : (Nat → Int32)) (jl : Int32) (jn : Int32) (jk : (Nat → Int32)) (jp : (Nat → Int32)) (jb : (Nat → Int32)) (jr : (Nat → Int32)) (x1 : Int32) (x2 : Int32) (x3 : Int32) (r0 : Int32) (u_bs : (Nat → Int32)) (hm : m_X6_mover pg ps pn pf bs x1 x2 x3 = some (r0, u_bs)) : Met l yX6_mover wsX6_mover ({ frames := 4, cells := 0, slots := 0, locals := 98 } : Room) (va_Pc [.ref aV, .int x1, .int x2, .int x3] (PW D cI cB cZ ta (w_VB cI cB cZ aV aT aTb aP aPp aPf aD aDp aDf aR aRt aK aB aBb aBs aH aHk aHp aHb aHr tl tb pg ps pn pp pf dg ds dn dp df rl rk rp rt kp kb kk kn bb bs jl jn jk jp jb jr) sz)) (QI D cI cB cZ (va_A (w_VB cI cB cZ aV aT aTb aP aPp aPf aD aDp aDf aR aRt aK aB aBb aBs aH aHk aHp aHb aHr tl tb pg ps pn pp pf dg ds dn dp df rl rk rp rt kp kb kk kn bb bs jl jn jk jp jb jr) sz) (w_VB cI cB cZ aV aT aTb aP aPp aPf aD aDp aDf aR aRt aK aB aBb aBs aH aHk aHp aHb aHr tl tb pg ps pn pp pf dg ds dn dp df rl rk rp rt kp kb kk kn bb u_bs jl jn jk jp jb jr) r0) 0 0 (va_A (w_VB cI cB cZ aV aT aTb aP aPp aPf aD aDp aDf aR aRt aK aB aBb aBs aH aHk aHp aHb aHr tl tb pg ps pn pp pf dg ds dn dp df rl rk rp rt kp kb kk kn bb bs jl jn jk jp jb jr) sz) := by
  refine Met.ofW (cc := cX6_mover) (maxL := 4) (ret := (some .int)) (by decide) rfl ?_
  intro p e s m args below meth c s₁ B hml hv
  obtain ⟨rfl, hsz, hP, hK, hD0, hG⟩ := hv
  have hx := B.exec
  have hb := B.bytes
  have hr := B.returns
  have hts := atoms_spec (ws := wsX6_mover) B.pre
  have hown : s.vm.findClass RX6 = some m.cls := findClass_of_methodNamed B.named
  have hlocks := B.notSynchronized
  subst hsz
  have hD := hD0.self (sz := s.heap.size)
  clear hD0
  have hA0 : ∀ q : Nat, s.heap.size ≤ q → va_A (w_VB cI cB cZ aV aT aTb aP aPp aPf aD aDp aDf aR aRt aK aB aBb aBs aH aHk aHp aHb aHr tl tb pg ps pn pp pf dg ds dn dp df rl rk rp rt kp kb kk kn bb bs jl jn jk jp jb jr) s.heap.size q := fun q h => Or.inr h
  generalize hAe : va_A (w_VB cI cB cZ aV aT aTb aP aPp aPf aD aDp aDf aR aRt aK aB aBb aBs aH aHk aHp aHb aHr tl tb pg ps pn pp pf dg ds dn dp df rl rk rp rt kp kb kk kn bb bs jl jn jk jp jb jr) s.heap.size = A at hD hG hA0 ⊢
  have hA : ∀ q : Nat, s.heap.size ≤ q → A q := hA0
  clear hA0
  have hS : va_S A s.heap s.heap [] := va_S.rf
  have iw_X6 := iw_X6_mover_X6
  have hl := lv_entry ([.ref aV, .int x1, .int x2, .int x3]) (n := 4) (Nat.le_of_ble_eq_true rfl)
  rw [lg_entry_eq]
  generalize (lg_sl ([.ref aV, .int x1, .int x2, .int x3]) ++ List.replicate (4 - (lg_sl ([.ref aV, .int x1, .int x2, .int x3])).length) Slot.unset).toArray = ls at hl ⊢
  have hl : lv_has ls 4 [(0, .ref aV), (1, .int x1), (2, .int x2), (3, .int x3)] := hl
  replace hm : (ob1 (m_X2_isScene ps x1) (fun r1 => (if r1 = 0 then some ((-1 : Int32), bs) else (ob1 (m_X2_isScene ps x2) (fun r6 => (if r6 = 0 then some ((-1 : Int32), bs) else (ob2 (m_X0_moverAt bs pg pn pf x1 x2 x3) (fun r11 bs_11 => some (r11, bs_11))))))))) = some (r0, u_bs) := hm
  refine lv_aload_n hx hb dX6_mover_0 rfl (lv_at hl 0 rfl) ?_
  refine va_get (D := D) (ci := 6) (v := .ref aP) (C := RX6) (T := TX6) (N := 6) hx hb hts iw_X6 hown hK hP 0 rfl rfl 1 (by decide) (hts (.fieldLink RX6 19 "VarianceBridge" "plan" "LVarianceBridge$Plan;") (by decide +kernel)) (fun _ h9 => h9) rfl dX6_mover_1 ?_
  refine lv_iload_n hx hb dX6_mover_4 rfl (lv_at hl 1 rfl) ?_
  obtain ⟨r1, h1, hm1⟩ := ob1_e hm
  refine gcall_b (ws' := (w_VB cI cB cZ aV aT aTb aP aPp aPf aD aDp aDf aR aRt aK aB aBb aBs aH aHk aHp aHb aHr tl tb pg ps pn pp pf dg ds dn dp df rl rk rp rt kp kb kk kn bb bs jl jn jk jp jb jr)) (va_runVN (As := [.int x1]) (rest := []) ⟨hx, hb, hml, hown, hts⟩ (c_X2_isScene l D cI cB cZ ta aP aPp aPf s.heap.size pg ps pn pp pf x1 r1 h1) ⟨va_cnB 1 hts gX6_mover_X2_isScene_n120 rfl rfl rfl (hG.1 (.methodLinkNest RX6 120 yX2_isScene RX6) (by decide +kernel)) (hts (.initialized RX2) (by decide +kernel)) (by decide +kernel) ⟨(Nat.le_of_ble_eq_true rfl), (Nat.le_of_ble_eq_true rfl)⟩, hts (.instanceMethod yX2_isScene) (by decide +kernel), hts (.selects RX2 yX2_isScene yX2_isScene) (by decide +kernel)⟩ ⟨PW_blind, va_recv hK hP rfl (q0 := 3) rfl, PW_at hP hD hK hS hA hG [3, 4, 5] rfl (by decide)⟩ rfl rfl hl.1 rfl (lv_room (Nat.le_of_ble_eq_true rfl)) dX6_mover_5 ⟨(Nat.le_of_ble_eq_true rfl), (Nat.le_of_ble_eq_true rfl)⟩) hP hD hS hA [3, 4, 5] [0, 1, 2, 6, 7, 8, 9, 10, 11, 12, 13, 14, 15, 16, 17, 18, 19] [0, 1, 2, 17, 18, 19, 3, 4, 5, 6, 7, 8, 9, 10, 11, 12, 13, 14, 15, 16] rfl rfl (by decide) (by decide) (by decide) rfl (fun H2 lo2 hz1 hP2 hD2 hS2 => ?_)
  clear hP hD hS
  refine lv_if_eq (tgt := 22) hx hb dX6_mover_8 (by decide) (fun c3 => ?_) (fun c3 => ?_)
  · have hm4 := zz_if c3 hm1
    refine lv_iconst (v := (-1 : Int32)) hx hb dX6_mover_22 (by decide) ?_
    obtain ⟨hq1, hq2⟩ := Prod.mk.inj (Option.some.inj hm4)
    subst hq1
    subst hq2
    exact W.iret hx hb hr (fun t ht hW => ⟨⟨_, (), rfl, rfl, by rw [ht]; exact hP2, va_K.moved hW.alike hK, hD2⟩, hS2.F ht⟩) hS2.2.2 dX6_mover_23
  · have hm5 := zz_nf c3 hm1
    refine lv_aload_n hx hb dX6_mover_11 rfl (lv_at hl 0 rfl) ?_
    refine va_get (D := D) (ci := 6) (v := .ref aP) (C := RX6) (T := TX6) (N := 6) hx hb hts iw_X6 hown hK hP2 0 rfl rfl 1 (by decide) (hts (.fieldLink RX6 19 "VarianceBridge" "plan" "LVarianceBridge$Plan;") (by decide +kernel)) (fun _ h9 => h9) rfl dX6_mover_12 ?_
    refine lv_iload_n hx hb dX6_mover_15 rfl (lv_at hl 2 rfl) ?_
    obtain ⟨r6, h6, hm6⟩ := ob1_e hm5
    refine gcall_b (ws' := (w_VB cI cB cZ aV aT aTb aP aPp aPf aD aDp aDf aR aRt aK aB aBb aBs aH aHk aHp aHb aHr tl tb pg ps pn pp pf dg ds dn dp df rl rk rp rt kp kb kk kn bb bs jl jn jk jp jb jr)) (va_runVN (As := [.int x2]) (rest := []) ⟨hx, hb, hml, hown, hts⟩ (c_X2_isScene l D cI cB cZ ta aP aPp aPf H2.size pg ps pn pp pf x2 r6 h6) ⟨va_cnB 1 hts gX6_mover_X2_isScene_n120 rfl rfl rfl (hG.1 (.methodLinkNest RX6 120 yX2_isScene RX6) (by decide +kernel)) (hts (.initialized RX2) (by decide +kernel)) (by decide +kernel) ⟨(Nat.le_of_ble_eq_true rfl), (Nat.le_of_ble_eq_true rfl)⟩, hts (.instanceMethod yX2_isScene) (by decide +kernel), hts (.selects RX2 yX2_isScene yX2_isScene) (by decide +kernel)⟩ ⟨PW_blind, va_recv hK hP2 rfl (q0 := 3) rfl, PW_at hP2 hD2 hK hS2 hA hG [3, 4, 5] rfl (by decide)⟩ rfl rfl hl.1 rfl (lv_room (Nat.le_of_ble_eq_true rfl)) dX6_mover_16 ⟨(Nat.le_of_ble_eq_true rfl), (Nat.le_of_ble_eq_true rfl)⟩) hP2 hD2 hS2 hA [3, 4, 5] [0, 1, 2, 6, 7, 8, 9, 10, 11, 12, 13, 14, 15, 16, 17, 18, 19] [0, 1, 2, 17, 18, 19, 3, 4, 5, 6, 7, 8, 9, 10, 11, 12, 13, 14, 15, 16] rfl rfl (by decide) (by decide) (by decide) rfl (fun H7 lo7 hz6 hP7 hD7 hS7 => ?_)
    clear hP2 hD2 hS2
    refine lv_if_ne (tgt := 24) hx hb dX6_mover_19 (by decide) (fun c8 => ?_) (fun c8 => ?_)
    · have hm9 := zz_nf c8 hm6
      refine lv_aload_n hx hb dX6_mover_24 rfl (lv_at hl 0 rfl) ?_
      refine va_get (D := D) (ci := 6) (v := .ref aB) (C := RX6) (T := TX6) (N := 6) hx hb hts iw_X6 hown hK hP7 0 rfl rfl 4 (by decide) (hts (.fieldLink RX6 40 "VarianceBridge" "bridge" "LVarianceBridge$Bridge;") (by decide +kernel)) (fun _ h9 => h9) rfl dX6_mover_25 ?_
      refine lv_iload_n hx hb dX6_mover_28 rfl (lv_at hl 1 rfl) ?_
      refine lv_iload_n hx hb dX6_mover_29 rfl (lv_at hl 2 rfl) ?_
      refine lv_iload_n hx hb dX6_mover_30 rfl (lv_at hl 3 rfl) ?_
      obtain ⟨r11, bs_11, h11, hm11⟩ := ob2_e hm9
      refine gcall_i (ws' := (w_VB cI cB cZ aV aT aTb aP aPp aPf aD aDp aDf aR aRt aK aB aBb aBs aH aHk aHp aHb aHr tl tb pg ps pn pp pf dg ds dn dp df rl rk rp rt kp kb kk kn bb bs_11 jl jn jk jp jb jr)) (va_runVN (As := [.int x1, .int x2, .int x3]) (rest := []) ⟨hx, hb, hml, hown, hts⟩ (c_X0_moverAt l D cI cB cZ ta aB aBb aBs aP aPp aPf H7.size bb bs pg ps pn pp pf x1 x2 x3 r11 bs_11 h11) ⟨va_cnB 3 hts gX6_mover_X0_moverAt_n155 rfl rfl rfl (hG.1 (.methodLinkNest RX6 155 yX0_moverAt RX6) (by decide +kernel)) (hts (.initialized RX0) (by decide +kernel)) (by decide +kernel) ⟨(Nat.le_of_ble_eq_true rfl), (Nat.le_of_ble_eq_true rfl)⟩, hts (.instanceMethod yX0_moverAt) (by decide +kernel), hts (.selects RX0 yX0_moverAt yX0_moverAt) (by decide +kernel)⟩ ⟨PW_blind, va_recv hK hP7 rfl (q0 := 12) rfl, PW_at hP7 hD7 hK hS7 hA hG [12, 13, 14, 3, 4, 5] rfl (by decide)⟩ rfl rfl hl.1 rfl (lv_room (Nat.le_of_ble_eq_true rfl)) dX6_mover_31 ⟨(Nat.le_of_ble_eq_true rfl), (Nat.le_of_ble_eq_true rfl)⟩) hP7 hD7 hS7 hA [12, 13, 14, 3, 4, 5] [0, 1, 2, 6, 7, 8, 9, 10, 11, 15, 16, 17, 18, 19] [0, 1, 2, 17, 18, 19, 3, 4, 5, 6, 7, 8, 14, 15, 16, 9, 10, 11, 12, 13] rfl rfl (by decide) (by decide) (by decide) rfl (fun H12 lo12 hP12 hD12 hS12 => ?_)
      clear hP7 hD7 hS7
      obtain ⟨hq1, hq2⟩ := Prod.mk.inj (Option.some.inj hm11)
      subst hq1
      subst hq2
      exact W.iret hx hb hr (fun t ht hW => ⟨⟨_, (), rfl, rfl, by rw [ht]; exact hP12, va_K.moved hW.alike hK, hD12⟩, hS12.F ht⟩) hS12.2.2 dX6_mover_34
    · have hm10 := zz_if c8 hm6
      refine lv_iconst (v := (-1 : Int32)) hx hb dX6_mover_22 (by decide) ?_
      obtain ⟨hq1, hq2⟩ := Prod.mk.inj (Option.some.inj hm10)
      subst hq1
      subst hq2
      exact W.iret hx hb hr (fun t ht hW => ⟨⟨_, (), rfl, rfl, by rw [ht]; exact hP7, va_K.moved hW.alike hK, hD7⟩, hS7.F ht⟩) hS7.2.2 dX6_mover_23
theorem iw_X6_branch_X6 : ∀ w ∈ wsX60, w ∈ wsX6_branch := by decide +kernel
set_option maxHeartbeats 4000000 in
set_option maxRecDepth 100000 in
theorem c_X6_branch (l : Launch) (D : va_G) (cI cB cZ : ClassId) (ta : Nat → Nat) (aV : Nat) (aT : Nat) (aTb : Nat) (aP : Nat) (aPp : Nat) (aPf : Nat) (aD : Nat) (aDp : Nat) (aDf : Nat) (aR : Nat) (aRt : Nat) (aK : Nat) (aB : Nat) (aBb : Nat) (aBs : Nat) (aH : Nat) (aHk : Nat) (aHp : Nat) (aHb : Nat) (aHr : Nat) (sz : Nat) (tl : Int32) (tb : (Nat → Int32)) (pg : Int32) (ps : Int32) (pn : Int32) (pp : (Nat → Int32)) (pf : (Nat → Int32)) (dg : Int32) (ds : Int32) (dn : Int32) (dp : (Nat → Int32)) (df : (Nat → Int32)) (rl : Int32) (rk : Int32) (rp : Int32) (rt : (Nat → Int32)) (kp : Int32) (kb : Int32) (kk : Int32) (kn : Int32) (bb : (Nat → Int32)) (bs : (Nat → Int32)) (jl : Int32) (jn : Int32) (jk : (Nat → Int32)) (jp : (Nat → Int32)) (jb : (Nat → Int32)) (jr : (Nat → Int32)) (x1 : Int32) (x2 : Int32) (r0 : Int32) (hm : m_X6_branch pg ps pn pp pf x1 x2 = some r0) : Met l yX6_branch wsX6_branch ({ frames := 5, cells := 0, slots := 0, locals := 125 } : Room) (va_Pc [.ref aV, .int x1, .int x2] (PW D cI cB cZ ta (w_VB cI cB cZ aV aT aTb aP aPp aPf aD aDp aDf aR aRt aK aB aBb aBs aH aHk aHp aHb aHr tl tb pg ps pn pp pf dg ds dn dp df rl rk rp rt kp kb kk kn bb bs jl jn jk jp jb jr) sz)) (QI D cI cB cZ (va_A (w_VB cI cB cZ aV aT aTb aP aPp aPf aD aDp aDf aR aRt aK aB aBb aBs aH aHk aHp aHb aHr tl tb pg ps pn pp pf dg ds dn dp df rl rk rp rt kp kb kk kn bb bs jl jn jk jp jb jr) sz) (w_VB cI cB cZ aV aT aTb aP aPp aPf aD aDp aDf aR aRt aK aB aBb aBs aH aHk aHp aHb aHr tl tb pg ps pn pp pf dg ds dn dp df rl rk rp rt kp kb kk kn bb bs jl jn jk jp jb jr) r0) 0 0 (va_A (w_VB cI cB cZ aV aT aTb aP aPp aPf aD aDp aDf aR aRt aK aB aBb aBs aH aHk aHp aHb aHr tl tb pg ps pn pp pf dg ds dn dp df rl rk rp rt kp kb kk kn bb bs jl jn jk jp jb jr) sz) := by
  refine Met.ofW (cc := cX6_branch) (maxL := 3) (ret := (some .int)) (by decide) rfl ?_
  intro p e s m args below meth c s₁ B hml hv
  obtain ⟨rfl, hsz, hP, hK, hD0, hG⟩ := hv
  have hx := B.exec
  have hb := B.bytes
  have hr := B.returns
  have hts := atoms_spec (ws := wsX6_branch) B.pre
  have hown : s.vm.findClass RX6 = some m.cls := findClass_of_methodNamed B.named
  have hlocks := B.notSynchronized
  subst hsz
  have hD := hD0.self (sz := s.heap.size)
  clear hD0
  have hA0 : ∀ q : Nat, s.heap.size ≤ q → va_A (w_VB cI cB cZ aV aT aTb aP aPp aPf aD aDp aDf aR aRt aK aB aBb aBs aH aHk aHp aHb aHr tl tb pg ps pn pp pf dg ds dn dp df rl rk rp rt kp kb kk kn bb bs jl jn jk jp jb jr) s.heap.size q := fun q h => Or.inr h
  generalize hAe : va_A (w_VB cI cB cZ aV aT aTb aP aPp aPf aD aDp aDf aR aRt aK aB aBb aBs aH aHk aHp aHb aHr tl tb pg ps pn pp pf dg ds dn dp df rl rk rp rt kp kb kk kn bb bs jl jn jk jp jb jr) s.heap.size = A at hD hG hA0 ⊢
  have hA : ∀ q : Nat, s.heap.size ≤ q → A q := hA0
  clear hA0
  have hS : va_S A s.heap s.heap [] := va_S.rf
  have iw_X6 := iw_X6_branch_X6
  have hl := lv_entry ([.ref aV, .int x1, .int x2]) (n := 3) (Nat.le_of_ble_eq_true rfl)
  rw [lg_entry_eq]
  generalize (lg_sl ([.ref aV, .int x1, .int x2]) ++ List.replicate (3 - (lg_sl ([.ref aV, .int x1, .int x2])).length) Slot.unset).toArray = ls at hl ⊢
  have hl : lv_has ls 3 [(0, .ref aV), (1, .int x1), (2, .int x2)] := hl
  replace hm : (ob1 (m_X2_isScene ps x1) (fun r1 => (if r1 = 0 then some (-1 : Int32) else (ob1 (m_X2_isScene ps x2) (fun r6 => (if r6 = 0 then some (-1 : Int32) else (ob1 (m_X0_greatestGroup pg pn pp pf x1 x2) (fun r11 => some r11)))))))) = some r0 := hm
  refine lv_aload_n hx hb dX6_branch_0 rfl (lv_at hl 0 rfl) ?_
  refine va_get (D := D) (ci := 6) (v := .ref aP) (C := RX6) (T := TX6) (N := 6) hx hb hts iw_X6 hown hK hP 0 rfl rfl 1 (by decide) (hts (.fieldLink RX6 19 "VarianceBridge" "plan" "LVarianceBridge$Plan;") (by decide +kernel)) (fun _ h9 => h9) rfl dX6_branch_1 ?_
  refine lv_iload_n hx hb dX6_branch_4 rfl (lv_at hl 1 rfl) ?_
  obtain ⟨r1, h1, hm1⟩ := ob1_e hm
  refine gcall_b (ws' := (w_VB cI cB cZ aV aT aTb aP aPp aPf aD aDp aDf aR aRt aK aB aBb aBs aH aHk aHp aHb aHr tl tb pg ps pn pp pf dg ds dn dp df rl rk rp rt kp kb kk kn bb bs jl jn jk jp jb jr)) (va_runVN (As := [.int x1]) (rest := []) ⟨hx, hb, hml, hown, hts⟩ (c_X2_isScene l D cI cB cZ ta aP aPp aPf s.heap.size pg ps pn pp pf x1 r1 h1) ⟨va_cnB 1 hts gX6_branch_X2_isScene_n120 rfl rfl rfl (hG.1 (.methodLinkNest RX6 120 yX2_isScene RX6) (by decide +kernel)) (hts (.initialized RX2) (by decide +kernel)) (by decide +kernel) ⟨(Nat.le_of_ble_eq_true rfl), (Nat.le_of_ble_eq_true rfl)⟩, hts (.instanceMethod yX2_isScene) (by decide +kernel), hts (.selects RX2 yX2_isScene yX2_isScene) (by decide +kernel)⟩ ⟨PW_blind, va_recv hK hP rfl (q0 := 3) rfl, PW_at hP hD hK hS hA hG [3, 4, 5] rfl (by decide)⟩ rfl rfl hl.1 rfl (lv_room (Nat.le_of_ble_eq_true rfl)) dX6_branch_5 ⟨(Nat.le_of_ble_eq_true rfl), (Nat.le_of_ble_eq_true rfl)⟩) hP hD hS hA [3, 4, 5] [0, 1, 2, 6, 7, 8, 9, 10, 11, 12, 13, 14, 15, 16, 17, 18, 19] [0, 1, 2, 17, 18, 19, 3, 4, 5, 6, 7, 8, 9, 10, 11, 12, 13, 14, 15, 16] rfl rfl (by decide) (by decide) (by decide) rfl (fun H2 lo2 hz1 hP2 hD2 hS2 => ?_)
  clear hP hD hS
  refine lv_if_eq (tgt := 22) hx hb dX6_branch_8 (by decide) (fun c3 => ?_) (fun c3 => ?_)
  · have hm4 := zz_if c3 hm1
    refine lv_iconst (v := (-1 : Int32)) hx hb dX6_branch_22 (by decide) ?_
    have hq1 := Option.some.inj hm4
    subst hq1
    exact W.iret hx hb hr (fun t ht hW => ⟨⟨_, (), rfl, rfl, by rw [ht]; exact hP2, va_K.moved hW.alike hK, hD2⟩, hS2.F ht⟩) hS2.2.2 dX6_branch_23
  · have hm5 := zz_nf c3 hm1
    refine lv_aload_n hx hb dX6_branch_11 rfl (lv_at hl 0 rfl) ?_
    refine va_get (D := D) (ci := 6) (v := .ref aP) (C := RX6) (T := TX6) (N := 6) hx hb hts iw_X6 hown hK hP2 0 rfl rfl 1 (by decide) (hts (.fieldLink RX6 19 "VarianceBridge" "plan" "LVarianceBridge$Plan;") (by decide +kernel)) (fun _ h9 => h9) rfl dX6_branch_12 ?_
    refine lv_iload_n hx hb dX6_branch_15 rfl (lv_at hl 2 rfl) ?_
    obtain ⟨r6, h6, hm6⟩ := ob1_e hm5
    refine gcall_b (ws' := (w_VB cI cB cZ aV aT aTb aP aPp aPf aD aDp aDf aR aRt aK aB aBb aBs aH aHk aHp aHb aHr tl tb pg ps pn pp pf dg ds dn dp df rl rk rp rt kp kb kk kn bb bs jl jn jk jp jb jr)) (va_runVN (As := [.int x2]) (rest := []) ⟨hx, hb, hml, hown, hts⟩ (c_X2_isScene l D cI cB cZ ta aP aPp aPf H2.size pg ps pn pp pf x2 r6 h6) ⟨va_cnB 1 hts gX6_branch_X2_isScene_n120 rfl rfl rfl (hG.1 (.methodLinkNest RX6 120 yX2_isScene RX6) (by decide +kernel)) (hts (.initialized RX2) (by decide +kernel)) (by decide +kernel) ⟨(Nat.le_of_ble_eq_true rfl), (Nat.le_of_ble_eq_true rfl)⟩, hts (.instanceMethod yX2_isScene) (by decide +kernel), hts (.selects RX2 yX2_isScene yX2_isScene) (by decide +kernel)⟩ ⟨PW_blind, va_recv hK hP2 rfl (q0 := 3) rfl, PW_at hP2 hD2 hK hS2 hA hG [3, 4, 5] rfl (by decide)⟩ rfl rfl hl.1 rfl (lv_room (Nat.le_of_ble_eq_true rfl)) dX6_branch_16 ⟨(Nat.le_of_ble_eq_true rfl), (Nat.le_of_ble_eq_true rfl)⟩) hP2 hD2 hS2 hA [3, 4, 5] [0, 1, 2, 6, 7, 8, 9, 10, 11, 12, 13, 14, 15, 16, 17, 18, 19] [0, 1, 2, 17, 18, 19, 3, 4, 5, 6, 7, 8, 9, 10, 11, 12, 13, 14, 15, 16] rfl rfl (by decide) (by decide) (by decide) rfl (fun H7 lo7 hz6 hP7 hD7 hS7 => ?_)
    clear hP2 hD2 hS2
    refine lv_if_ne (tgt := 24) hx hb dX6_branch_19 (by decide) (fun c8 => ?_) (fun c8 => ?_)
    · have hm9 := zz_nf c8 hm6
      refine lv_aload_n hx hb dX6_branch_24 rfl (lv_at hl 0 rfl) ?_
      refine va_get (D := D) (ci := 6) (v := .ref aB) (C := RX6) (T := TX6) (N := 6) hx hb hts iw_X6 hown hK hP7 0 rfl rfl 4 (by decide) (hts (.fieldLink RX6 40 "VarianceBridge" "bridge" "LVarianceBridge$Bridge;") (by decide +kernel)) (fun _ h9 => h9) rfl dX6_branch_25 ?_
      refine lv_iload_n hx hb dX6_branch_28 rfl (lv_at hl 1 rfl) ?_
      refine lv_iload_n hx hb dX6_branch_29 rfl (lv_at hl 2 rfl) ?_
      obtain ⟨r11, h11, hm11⟩ := ob1_e hm9
      refine gcall_i (ws' := (w_VB cI cB cZ aV aT aTb aP aPp aPf aD aDp aDf aR aRt aK aB aBb aBs aH aHk aHp aHb aHr tl tb pg ps pn pp pf dg ds dn dp df rl rk rp rt kp kb kk kn bb bs jl jn jk jp jb jr)) (va_runVN (As := [.int x1, .int x2]) (rest := []) ⟨hx, hb, hml, hown, hts⟩ (c_X0_greatestGroup l D cI cB cZ ta aB aBb aBs aP aPp aPf H7.size bb bs pg ps pn pp pf x1 x2 r11 h11) ⟨va_cnB 2 hts gX6_branch_X0_greatestGroup_n158 rfl rfl rfl (hG.1 (.methodLinkNest RX6 158 yX0_greatestGroup RX6) (by decide +kernel)) (hts (.initialized RX0) (by decide +kernel)) (by decide +kernel) ⟨(Nat.le_of_ble_eq_true rfl), (Nat.le_of_ble_eq_true rfl)⟩, hts (.instanceMethod yX0_greatestGroup) (by decide +kernel), hts (.selects RX0 yX0_greatestGroup yX0_greatestGroup) (by decide +kernel)⟩ ⟨PW_blind, va_recv hK hP7 rfl (q0 := 12) rfl, PW_at hP7 hD7 hK hS7 hA hG [12, 13, 14, 3, 4, 5] rfl (by decide)⟩ rfl rfl hl.1 rfl (lv_room (Nat.le_of_ble_eq_true rfl)) dX6_branch_30 ⟨(Nat.le_of_ble_eq_true rfl), (Nat.le_of_ble_eq_true rfl)⟩) hP7 hD7 hS7 hA [12, 13, 14, 3, 4, 5] [0, 1, 2, 6, 7, 8, 9, 10, 11, 15, 16, 17, 18, 19] [0, 1, 2, 17, 18, 19, 3, 4, 5, 6, 7, 8, 14, 15, 16, 9, 10, 11, 12, 13] rfl rfl (by decide) (by decide) (by decide) rfl (fun H12 lo12 hP12 hD12 hS12 => ?_)
      clear hP7 hD7 hS7
      have hq1 := Option.some.inj hm11
      subst hq1
      exact W.iret hx hb hr (fun t ht hW => ⟨⟨_, (), rfl, rfl, by rw [ht]; exact hP12, va_K.moved hW.alike hK, hD12⟩, hS12.F ht⟩) hS12.2.2 dX6_branch_33
    · have hm10 := zz_if c8 hm6
      refine lv_iconst (v := (-1 : Int32)) hx hb dX6_branch_22 (by decide) ?_
      have hq1 := Option.some.inj hm10
      subst hq1
      exact W.iret hx hb hr (fun t ht hW => ⟨⟨_, (), rfl, rfl, by rw [ht]; exact hP7, va_K.moved hW.alike hK, hD7⟩, hS7.F ht⟩) hS7.2.2 dX6_branch_23
set_option maxHeartbeats 4000000 in
set_option maxRecDepth 100000 in
theorem c_X6_isFactorValue (l : Launch) (D : va_G) (cI cB cZ : ClassId) (ta : Nat → Nat) (sz : Nat) (x1 : Int32) (x2 : Int32) (r0 : Int32) (hm : m_X6_isFactorValue x1 x2 = some r0) : Met l yX6_isFactorValue wsX6_isFactorValue ({ frames := 1, cells := 0, slots := 0, locals := 20 } : Room) (va_Pc [.int x1, .int x2] (PW D cI cB cZ ta (w_none cI cB cZ) sz)) (QZ .boolean D cI cB cZ (va_A (w_none cI cB cZ) sz) (w_none cI cB cZ) r0) 0 0 (va_A (w_none cI cB cZ) sz) := by
  refine Met.ofW (cc := cX6_isFactorValue) (maxL := 2) (ret := (some .boolean)) (by decide) rfl ?_
  intro p e s m args below meth c s₁ B hml hv
  obtain ⟨rfl, hsz, hP, hK, hD0, hG⟩ := hv
  have hx := B.exec
  have hb := B.bytes
  have hr := B.returns
  have hts := atoms_spec (ws := wsX6_isFactorValue) B.pre
  have hown : s.vm.findClass RX6 = some m.cls := findClass_of_methodNamed B.named
  have hlocks := B.notSynchronized
  subst hsz
  have hD := hD0.self (sz := s.heap.size)
  clear hD0
  have hA0 : ∀ q : Nat, s.heap.size ≤ q → va_A (w_none cI cB cZ) s.heap.size q := fun q h => Or.inr h
  generalize hAe : va_A (w_none cI cB cZ) s.heap.size = A at hD hG hA0 ⊢
  have hA : ∀ q : Nat, s.heap.size ≤ q → A q := hA0
  clear hA0
  have hS : va_S A s.heap s.heap [] := va_S.rf
  have hl := lv_entry ([.int x1, .int x2]) (n := 2) (Nat.le_of_ble_eq_true rfl)
  rw [lg_entry_eq]
  generalize (lg_sl ([.int x1, .int x2]) ++ List.replicate (2 - (lg_sl ([.int x1, .int x2])).length) Slot.unset).toArray = ls at hl ⊢
  have hl : lv_has ls 2 [(0, .int x1), (1, .int x2)] := hl
  replace hm : (ob1 (m_X6_isFactor x1) (fun r1 => (if r1 = 0 then some (0 : Int32) else (if x1 < 0 ∨ 5 ≤ x1.toNatClampNeg then none else (if x2 < (T_LEAST x1.toNatClampNeg) then some (0 : Int32) else (if x1 < 0 ∨ 5 ≤ x1.toNatClampNeg then none else (if (T_MOST x1.toNatClampNeg) < x2 then some (0 : Int32) else some (1 : Int32)))))))) = some r0 := hm
  refine lv_iload_n hx hb dX6_isFactorValue_0 rfl (lv_at hl 0 rfl) ?_
  obtain ⟨r1, h1, hm1⟩ := ob1_e hm
  refine gcall_b (ws' := (w_none cI cB cZ)) (va_runS (As := [.int x1]) (rest := []) ⟨hx, hb, hml, hown, hts⟩ (c_X6_isFactor l D cI cB cZ ta s.heap.size x1 r1 h1) (va_cwS 1 hts gX6_isFactorValue_X6_isFactor rfl rfl rfl (by decide +kernel) ⟨(Nat.le_of_ble_eq_true rfl), (Nat.le_of_ble_eq_true rfl)⟩) ⟨PW_blind, PW_at hP hD hK hS hA hG [] rfl (by decide)⟩ rfl rfl hl.1 rfl (lv_room (Nat.le_of_ble_eq_true rfl)) dX6_isFactorValue_1 ⟨(Nat.le_of_ble_eq_true rfl), (Nat.le_of_ble_eq_true rfl)⟩) hP hD hS hA [] [] [] rfl rfl (by decide) (by decide) (by decide) rfl (fun H2 lo2 hz1 hP2 hD2 hS2 => ?_)
  clear hP hD hS
  refine lv_if_eq (tgt := 29) hx hb dX6_isFactorValue_4 (by decide) (fun c3 => ?_) (fun c3 => ?_)
  · have hm4 := zz_if c3 hm1
    refine lv_iconst (v := (0 : Int32)) hx hb dX6_isFactorValue_29 (by decide) ?_
    have hq1 := Option.some.inj hm4
    subst hq1
    exact W.zret (ty := .boolean) hx hb hr (by decide) (fun t ht hW => ⟨⟨_, (), rfl, ⟨rfl, (by decide)⟩, by rw [ht]; exact hP2, va_K.moved hW.alike hK, hD2⟩, hS2.F ht⟩) hS2.2.2 dX6_isFactorValue_30
  · have hm5 := zz_nf c3 hm1
    refine lv_iload_n hx hb dX6_isFactorValue_7 rfl (lv_at hl 1 rfl) ?_
    refine va_gets hx hb hG.2.1.1 hS2 hown (hts (.fieldLink RX6 198 "VarianceBridge" "LEAST" "[I") (by decide +kernel)) (fun _ h9 => h9) dX6_isFactorValue_8 ?_
    refine lv_iload_n hx hb dX6_isFactorValue_11 rfl (lv_at hl 0 rfl) ?_
    obtain ⟨c6, hm7⟩ := zz_no hm5
    refine va_ti hx hb hG.2.1.2 hS2 c6 rfl dX6_isFactorValue_12 ?_
    refine lv_icmp_lt (tgt := 29) hx hb dX6_isFactorValue_13 (by decide) (fun c8 => ?_) (fun c8 => ?_)
    · have hm9 := zz_if c8 hm7
      refine lv_iconst (v := (0 : Int32)) hx hb dX6_isFactorValue_29 (by decide) ?_
      have hq1 := Option.some.inj hm9
      subst hq1
      exact W.zret (ty := .boolean) hx hb hr (by decide) (fun t ht hW => ⟨⟨_, (), rfl, ⟨rfl, (by decide)⟩, by rw [ht]; exact hP2, va_K.moved hW.alike hK, hD2⟩, hS2.F ht⟩) hS2.2.2 dX6_isFactorValue_30
    · have hm10 := zz_nf c8 hm7
      refine lv_iload_n hx hb dX6_isFactorValue_16 rfl (lv_at hl 1 rfl) ?_
      refine va_gets hx hb hG.2.2.1.1 hS2 hown (hts (.fieldLink RX6 201 "VarianceBridge" "MOST" "[I") (by decide +kernel)) (fun _ h9 => h9) dX6_isFactorValue_17 ?_
      refine lv_iload_n hx hb dX6_isFactorValue_20 rfl (lv_at hl 0 rfl) ?_
      obtain ⟨c11, hm12⟩ := zz_no hm10
      refine va_ti hx hb hG.2.2.1.2 hS2 c11 rfl dX6_isFactorValue_21 ?_
      refine lv_icmp_gt (tgt := 29) hx hb dX6_isFactorValue_22 (by decide) (fun c13 => ?_) (fun c13 => ?_)
      · have hm14 := zz_if c13 hm12
        refine lv_iconst (v := (0 : Int32)) hx hb dX6_isFactorValue_29 (by decide) ?_
        have hq1 := Option.some.inj hm14
        subst hq1
        exact W.zret (ty := .boolean) hx hb hr (by decide) (fun t ht hW => ⟨⟨_, (), rfl, ⟨rfl, (by decide)⟩, by rw [ht]; exact hP2, va_K.moved hW.alike hK, hD2⟩, hS2.F ht⟩) hS2.2.2 dX6_isFactorValue_30
      · have hm15 := zz_nf c13 hm12
        refine lv_iconst (v := (1 : Int32)) hx hb dX6_isFactorValue_25 (by decide) ?_
        refine lv_goto (tgt := 30) hx hb dX6_isFactorValue_26 (by decide) ?_
        have hq1 := Option.some.inj hm15
        subst hq1
        exact W.zret (ty := .boolean) hx hb hr (by decide) (fun t ht hW => ⟨⟨_, (), rfl, ⟨rfl, (by decide)⟩, by rw [ht]; exact hP2, va_K.moved hW.alike hK, hD2⟩, hS2.F ht⟩) hS2.2.2 dX6_isFactorValue_30
theorem iw_X6_would_X6 : ∀ w ∈ wsX60, w ∈ wsX6_would := by decide +kernel
set_option maxHeartbeats 4000000 in
set_option maxRecDepth 100000 in
theorem c_X6_would (l : Launch) (D : va_G) (cI cB cZ : ClassId) (ta : Nat → Nat) (aV : Nat) (aT : Nat) (aTb : Nat) (aP : Nat) (aPp : Nat) (aPf : Nat) (aD : Nat) (aDp : Nat) (aDf : Nat) (aR : Nat) (aRt : Nat) (aK : Nat) (aB : Nat) (aBb : Nat) (aBs : Nat) (aH : Nat) (aHk : Nat) (aHp : Nat) (aHb : Nat) (aHr : Nat) (sz : Nat) (tl : Int32) (tb : (Nat → Int32)) (pg : Int32) (ps : Int32) (pn : Int32) (pp : (Nat → Int32)) (pf : (Nat → Int32)) (dg : Int32) (ds : Int32) (dn : Int32) (dp : (Nat → Int32)) (df : (Nat → Int32)) (rl : Int32) (rk : Int32) (rp : Int32) (rt : (Nat → Int32)) (kp : Int32) (kb : Int32) (kk : Int32) (kn : Int32) (bb : (Nat → Int32)) (bs : (Nat → Int32)) (jl : Int32) (jn : Int32) (jk : (Nat → Int32)) (jp : (Nat → Int32)) (jb : (Nat → Int32)) (jr : (Nat → Int32)) (x1 : Int32) (x2 : Int32) (x3 : Int32) (x4 : Int32) (r0 : Int32) (u_pf : (Nat → Int32)) (hm : m_X6_would pg ps pn pf x1 x2 x3 x4 = some (r0, u_pf)) : Met l yX6_would wsX6_would ({ frames := 4, cells := 0, slots := 0, locals := 101 } : Room) (va_Pc [.ref aV, .int x1, .int x2, .int x3, .int x4] (PW D cI cB cZ ta (w_VB cI cB cZ aV aT aTb aP aPp aPf aD aDp aDf aR aRt aK aB aBb aBs aH aHk aHp aHb aHr tl tb pg ps pn pp pf dg ds dn dp df rl rk rp rt kp kb kk kn bb bs jl jn jk jp jb jr) sz)) (QI D cI cB cZ (va_A (w_VB cI cB cZ aV aT aTb aP aPp aPf aD aDp aDf aR aRt aK aB aBb aBs aH aHk aHp aHb aHr tl tb pg ps pn pp pf dg ds dn dp df rl rk rp rt kp kb kk kn bb bs jl jn jk jp jb jr) sz) (w_VB cI cB cZ aV aT aTb aP aPp aPf aD aDp aDf aR aRt aK aB aBb aBs aH aHk aHp aHb aHr tl tb pg ps pn pp u_pf dg ds dn dp df rl rk rp rt kp kb kk kn bb bs jl jn jk jp jb jr) r0) 0 0 (va_A (w_VB cI cB cZ aV aT aTb aP aPp aPf aD aDp aDf aR aRt aK aB aBb aBs aH aHk aHp aHb aHr tl tb pg ps pn pp pf dg ds dn dp df rl rk rp rt kp kb kk kn bb bs jl jn jk jp jb jr) sz) := by
  refine Met.ofW (cc := cX6_would) (maxL := 5) (ret := (some .int)) (by decide) rfl ?_
  intro p e s m args below meth c s₁ B hml hv
  obtain ⟨rfl, hsz, hP, hK, hD0, hG⟩ := hv
  have hx := B.exec
  have hb := B.bytes
  have hr := B.returns
  have hts := atoms_spec (ws := wsX6_would) B.pre
  have hown : s.vm.findClass RX6 = some m.cls := findClass_of_methodNamed B.named
  have hlocks := B.notSynchronized
  subst hsz
  have hD := hD0.self (sz := s.heap.size)
  clear hD0
  have hA0 : ∀ q : Nat, s.heap.size ≤ q → va_A (w_VB cI cB cZ aV aT aTb aP aPp aPf aD aDp aDf aR aRt aK aB aBb aBs aH aHk aHp aHb aHr tl tb pg ps pn pp pf dg ds dn dp df rl rk rp rt kp kb kk kn bb bs jl jn jk jp jb jr) s.heap.size q := fun q h => Or.inr h
  generalize hAe : va_A (w_VB cI cB cZ aV aT aTb aP aPp aPf aD aDp aDf aR aRt aK aB aBb aBs aH aHk aHp aHb aHr tl tb pg ps pn pp pf dg ds dn dp df rl rk rp rt kp kb kk kn bb bs jl jn jk jp jb jr) s.heap.size = A at hD hG hA0 ⊢
  have hA : ∀ q : Nat, s.heap.size ≤ q → A q := hA0
  clear hA0
  have hS : va_S A s.heap s.heap [] := va_S.rf
  have iw_X6 := iw_X6_would_X6
  have hl := lv_entry ([.ref aV, .int x1, .int x2, .int x3, .int x4]) (n := 5) (Nat.le_of_ble_eq_true rfl)
  rw [lg_entry_eq]
  generalize (lg_sl ([.ref aV, .int x1, .int x2, .int x3, .int x4]) ++ List.replicate (5 - (lg_sl ([.ref aV, .int x1, .int x2, .int x3, .int x4])).length) Slot.unset).toArray = ls at hl ⊢
  have hl : lv_has ls 5 [(0, .ref aV), (1, .int x1), (2, .int x2), (3, .int x3), (4, .int x4)] := hl
  replace hm : (ob1 (m_X2_isLeaf pg pn x1) (fun r1 => (if r1 = 0 then some ((-1000000000 : Int32), pf) else (ob1 (m_X2_isScene ps x2) (fun r6 => (if r6 = 0 then some ((-1000000000 : Int32), pf) else (ob1 (m_X6_isFactorValue x3 x4) (fun r11 => (if r11 = 0 then some ((-1000000000 : Int32), pf) else (ob2 (m_X2_gainIfSet pf x1 x2 x3 x4) (fun r16 pf_16 => some (r16, pf_16)))))))))))) = some (r0, u_pf) := hm
  refine lv_aload_n hx hb dX6_would_0 rfl (lv_at hl 0 rfl) ?_
  refine va_get (D := D) (ci := 6) (v := .ref aP) (C := RX6) (T := TX6) (N := 6) hx hb hts iw_X6 hown hK hP 0 rfl rfl 1 (by decide) (hts (.fieldLink RX6 19 "VarianceBridge" "plan" "LVarianceBridge$Plan;") (by decide +kernel)) (fun _ h9 => h9) rfl dX6_would_1 ?_
  refine lv_iload_n hx hb dX6_would_4 rfl (lv_at hl 1 rfl) ?_
  obtain ⟨r1, h1, hm1⟩ := ob1_e hm
  refine gcall_b (ws' := (w_VB cI cB cZ aV aT aTb aP aPp aPf aD aDp aDf aR aRt aK aB aBb aBs aH aHk aHp aHb aHr tl tb pg ps pn pp pf dg ds dn dp df rl rk rp rt kp kb kk kn bb bs jl jn jk jp jb jr)) (va_runVN (As := [.int x1]) (rest := []) ⟨hx, hb, hml, hown, hts⟩ (c_X2_isLeaf l D cI cB cZ ta aP aPp aPf s.heap.size pg ps pn pp pf x1 r1 h1) ⟨va_cnB 1 hts gX6_would_X2_isLeaf_n117 rfl rfl rfl (hG.1 (.methodLinkNest RX6 117 yX2_isLeaf RX6) (by decide +kernel)) (hts (.initialized RX2) (by decide +kernel)) (by decide +kernel) ⟨(Nat.le_of_ble_eq_true rfl), (Nat.le_of_ble_eq_true rfl)⟩, hts (.instanceMethod yX2_isLeaf) (by decide +kernel), hts (.selects RX2 yX2_isLeaf yX2_isLeaf) (by decide +kernel)⟩ ⟨PW_blind, va_recv hK hP rfl (q0 := 3) rfl, PW_at hP hD hK hS hA hG [3, 4, 5] rfl (by decide)⟩ rfl rfl hl.1 rfl (lv_room (Nat.le_of_ble_eq_true rfl)) dX6_would_5 ⟨(Nat.le_of_ble_eq_true rfl), (Nat.le_of_ble_eq_true rfl)⟩) hP hD hS hA [3, 4, 5] [0, 1, 2, 6, 7, 8, 9, 10, 11, 12, 13, 14, 15, 16, 17, 18, 19] [0, 1, 2, 17, 18, 19, 3, 4, 5, 6, 7, 8, 9, 10, 11, 12, 13, 14, 15, 16] rfl rfl (by decide) (by decide) (by decide) rfl (fun H2 lo2 hz1 hP2 hD2 hS2 => ?_)
  clear hP hD hS
  refine lv_if_eq (tgt := 31) hx hb dX6_would_8 (by decide) (fun c3 => ?_) (fun c3 => ?_)
  · have hm4 := zz_if c3 hm1
    refine lv_ldc (v := (-1000000000 : Int32)) hx hb hown (hts (.constant RX6 130 (-1000000000)) (by decide +kernel)) dX6_would_31 ?_
    obtain ⟨hq1, hq2⟩ := Prod.mk.inj (Option.some.inj hm4)
    subst hq1
    subst hq2
    exact W.iret hx hb hr (fun t ht hW => ⟨⟨_, (), rfl, rfl, by rw [ht]; exact hP2, va_K.moved hW.alike hK, hD2⟩, hS2.F ht⟩) hS2.2.2 dX6_would_33
  · have hm5 := zz_nf c3 hm1
    refine lv_aload_n hx hb dX6_would_11 rfl (lv_at hl 0 rfl) ?_
    refine va_get (D := D) (ci := 6) (v := .ref aP) (C := RX6) (T := TX6) (N := 6) hx hb hts iw_X6 hown hK hP2 0 rfl rfl 1 (by decide) (hts (.fieldLink RX6 19 "VarianceBridge" "plan" "LVarianceBridge$Plan;") (by decide +kernel)) (fun _ h9 => h9) rfl dX6_would_12 ?_
    refine lv_iload_n hx hb dX6_would_15 rfl (lv_at hl 2 rfl) ?_
    obtain ⟨r6, h6, hm6⟩ := ob1_e hm5
    refine gcall_b (ws' := (w_VB cI cB cZ aV aT aTb aP aPp aPf aD aDp aDf aR aRt aK aB aBb aBs aH aHk aHp aHb aHr tl tb pg ps pn pp pf dg ds dn dp df rl rk rp rt kp kb kk kn bb bs jl jn jk jp jb jr)) (va_runVN (As := [.int x2]) (rest := []) ⟨hx, hb, hml, hown, hts⟩ (c_X2_isScene l D cI cB cZ ta aP aPp aPf H2.size pg ps pn pp pf x2 r6 h6) ⟨va_cnB 1 hts gX6_would_X2_isScene_n120 rfl rfl rfl (hG.1 (.methodLinkNest RX6 120 yX2_isScene RX6) (by decide +kernel)) (hts (.initialized RX2) (by decide +kernel)) (by decide +kernel) ⟨(Nat.le_of_ble_eq_true rfl), (Nat.le_of_ble_eq_true rfl)⟩, hts (.instanceMethod yX2_isScene) (by decide +kernel), hts (.selects RX2 yX2_isScene yX2_isScene) (by decide +kernel)⟩ ⟨PW_blind, va_recv hK hP2 rfl (q0 := 3) rfl, PW_at hP2 hD2 hK hS2 hA hG [3, 4, 5] rfl (by decide)⟩ rfl rfl hl.1 rfl (lv_room (Nat.le_of_ble_eq_true rfl)) dX6_would_16 ⟨(Nat.le_of_ble_eq_true rfl), (Nat.le_of_ble_eq_true rfl)⟩) hP2 hD2 hS2 hA [3, 4, 5] [0, 1, 2, 6, 7, 8, 9, 10, 11, 12, 13, 14, 15, 16, 17, 18, 19] [0, 1, 2, 17, 18, 19, 3, 4, 5, 6, 7, 8, 9, 10, 11, 12, 13, 14, 15, 16] rfl rfl (by decide) (by decide) (by decide) rfl (fun H7 lo7 hz6 hP7 hD7 hS7 => ?_)
    clear hP2 hD2 hS2
    refine lv_if_eq (tgt := 31) hx hb dX6_would_19 (by decide) (fun c8 => ?_) (fun c8 => ?_)
    · have hm9 := zz_if c8 hm6
      refine lv_ldc (v := (-1000000000 : Int32)) hx hb hown (hts (.constant RX6 130 (-1000000000)) (by decide +kernel)) dX6_would_31 ?_
      obtain ⟨hq1, hq2⟩ := Prod.mk.inj (Option.some.inj hm9)
      subst hq1
      subst hq2
      exact W.iret hx hb hr (fun t ht hW => ⟨⟨_, (), rfl, rfl, by rw [ht]; exact hP7, va_K.moved hW.alike hK, hD7⟩, hS7.F ht⟩) hS7.2.2 dX6_would_33
    · have hm10 := zz_nf c8 hm6
      refine lv_iload_n hx hb dX6_would_22 rfl (lv_at hl 3 rfl) ?_
      refine lv_iload hx hb dX6_would_23 (lv_at hl 4 rfl) ?_
      obtain ⟨r11, h11, hm11⟩ := ob1_e hm10
      refine gcall_b (ws' := (w_VB cI cB cZ aV aT aTb aP aPp aPf aD aDp aDf aR aRt aK aB aBb aBs aH aHk aHp aHb aHr tl tb pg ps pn pp pf dg ds dn dp df rl rk rp rt kp kb kk kn bb bs jl jn jk jp jb jr)) (va_runS (As := [.int x3, .int x4]) (rest := []) ⟨hx, hb, hml, hown, hts⟩ (c_X6_isFactorValue l D cI cB cZ ta H7.size x3 x4 r11 h11) (va_cwS 2 hts gX6_would_X6_isFactorValue rfl rfl rfl (by decide +kernel) ⟨(Nat.le_of_ble_eq_true rfl), (Nat.le_of_ble_eq_true rfl)⟩) ⟨PW_blind, PW_at hP7 hD7 hK hS7 hA hG [] rfl (by decide)⟩ rfl rfl hl.1 rfl (lv_room (Nat.le_of_ble_eq_true rfl)) dX6_would_25 ⟨(Nat.le_of_ble_eq_true rfl), (Nat.le_of_ble_eq_true rfl)⟩) hP7 hD7 hS7 hA [] [0, 1, 2, 3, 4, 5, 6, 7, 8, 9, 10, 11, 12, 13, 14, 15, 16, 17, 18, 19] [0, 1, 2, 3, 4, 5, 6, 7, 8, 9, 10, 11, 12, 13, 14, 15, 16, 17, 18, 19] rfl rfl (by decide) (by decide) (by decide) rfl (fun H12 lo12 hz11 hP12 hD12 hS12 => ?_)
      clear hP7 hD7 hS7
      refine lv_if_ne (tgt := 34) hx hb dX6_would_28 (by decide) (fun c13 => ?_) (fun c13 => ?_)
      · have hm14 := zz_nf c13 hm11
        refine lv_aload_n hx hb dX6_would_34 rfl (lv_at hl 0 rfl) ?_
        refine va_get (D := D) (ci := 6) (v := .ref aP) (C := RX6) (T := TX6) (N := 6) hx hb hts iw_X6 hown hK hP12 0 rfl rfl 1 (by decide) (hts (.fieldLink RX6 19 "VarianceBridge" "plan" "LVarianceBridge$Plan;") (by decide +kernel)) (fun _ h9 => h9) rfl dX6_would_35 ?_
        refine lv_iload_n hx hb dX6_would_38 rfl (lv_at hl 1 rfl) ?_
        refine lv_iload_n hx hb dX6_would_39 rfl (lv_at hl 2 rfl) ?_
        refine lv_iload_n hx hb dX6_would_40 rfl (lv_at hl 3 rfl) ?_
        refine lv_iload hx hb dX6_would_41 (lv_at hl 4 rfl) ?_
        obtain ⟨r16, pf_16, h16, hm16⟩ := ob2_e hm14
        refine gcall_i (ws' := (w_VB cI cB cZ aV aT aTb aP aPp aPf aD aDp aDf aR aRt aK aB aBb aBs aH aHk aHp aHb aHr tl tb pg ps pn pp pf_16 dg ds dn dp df rl rk rp rt kp kb kk kn bb bs jl jn jk jp jb jr)) (va_runVN (As := [.int x1, .int x2, .int x3, .int x4]) (rest := []) ⟨hx, hb, hml, hown, hts⟩ (c_X2_gainIfSet l D cI cB cZ ta aP aPp aPf H12.size pg ps pn pp pf x1 x2 x3 x4 r16 pf_16 h16) ⟨va_cnB 4 hts gX6_would_X2_gainIfSet_n165 rfl rfl rfl (hG.1 (.methodLinkNest RX6 165 yX2_gainIfSet RX6) (by decide +kernel)) (hts (.initialized RX2) (by decide +kernel)) (by decide +kernel) ⟨(Nat.le_of_ble_eq_true rfl), (Nat.le_of_ble_eq_true rfl)⟩, hts (.instanceMethod yX2_gainIfSet) (by decide +kernel), hts (.selects RX2 yX2_gainIfSet yX2_gainIfSet) (by decide +kernel)⟩ ⟨PW_blind, va_recv hK hP12 rfl (q0 := 3) rfl, PW_at hP12 hD12 hK hS12 hA hG [3, 4, 5] rfl (by decide)⟩ rfl rfl hl.1 rfl (lv_room (Nat.le_of_ble_eq_true rfl)) dX6_would_43 ⟨(Nat.le_of_ble_eq_true rfl), (Nat.le_of_ble_eq_true rfl)⟩) hP12 hD12 hS12 hA [3, 4, 5] [0, 1, 2, 6, 7, 8, 9, 10, 11, 12, 13, 14, 15, 16, 17, 18, 19] [0, 1, 2, 17, 18, 19, 3, 4, 5, 6, 7, 8, 9, 10, 11, 12, 13, 14, 15, 16] rfl rfl (by decide) (by decide) (by decide) rfl (fun H17 lo17 hP17 hD17 hS17 => ?_)
        clear hP12 hD12 hS12
        obtain ⟨hq1, hq2⟩ := Prod.mk.inj (Option.some.inj hm16)
        subst hq1
        subst hq2
        exact W.iret hx hb hr (fun t ht hW => ⟨⟨_, (), rfl, rfl, by rw [ht]; exact hP17, va_K.moved hW.alike hK, hD17⟩, hS17.F ht⟩) hS17.2.2 dX6_would_46
      · have hm15 := zz_if c13 hm11
        refine lv_ldc (v := (-1000000000 : Int32)) hx hb hown (hts (.constant RX6 130 (-1000000000)) (by decide +kernel)) dX6_would_31 ?_
        obtain ⟨hq1, hq2⟩ := Prod.mk.inj (Option.some.inj hm15)
        subst hq1
        subst hq2
        exact W.iret hx hb hr (fun t ht hW => ⟨⟨_, (), rfl, rfl, by rw [ht]; exact hP12, va_K.moved hW.alike hK, hD12⟩, hS12.F ht⟩) hS12.2.2 dX6_would_33
theorem iw_X6_needs_X6 : ∀ w ∈ wsX60, w ∈ wsX6_needs := by decide +kernel
set_option maxHeartbeats 4000000 in
set_option maxRecDepth 100000 in
theorem c_X6_needs (l : Launch) (D : va_G) (cI cB cZ : ClassId) (ta : Nat → Nat) (aV : Nat) (aT : Nat) (aTb : Nat) (aP : Nat) (aPp : Nat) (aPf : Nat) (aD : Nat) (aDp : Nat) (aDf : Nat) (aR : Nat) (aRt : Nat) (aK : Nat) (aB : Nat) (aBb : Nat) (aBs : Nat) (aH : Nat) (aHk : Nat) (aHp : Nat) (aHb : Nat) (aHr : Nat) (sz : Nat) (tl : Int32) (tb : (Nat → Int32)) (pg : Int32) (ps : Int32) (pn : Int32) (pp : (Nat → Int32)) (pf : (Nat → Int32)) (dg : Int32) (ds : Int32) (dn : Int32) (dp : (Nat → Int32)) (df : (Nat → Int32)) (rl : Int32) (rk : Int32) (rp : Int32) (rt : (Nat → Int32)) (kp : Int32) (kb : Int32) (kk : Int32) (kn : Int32) (bb : (Nat → Int32)) (bs : (Nat → Int32)) (jl : Int32) (jn : Int32) (jk : (Nat → Int32)) (jp : (Nat → Int32)) (jb : (Nat → Int32)) (jr : (Nat → Int32)) (x1 : Int32) (x2 : Int32) (x3 : Int32) (r0 : Int32) (hm : m_X6_needs pg ps pn pp pf x1 x2 x3 = some r0) : Met l yX6_needs wsX6_needs ({ frames := 5, cells := 0, slots := 0, locals := 125 } : Room) (va_Pc [.ref aV, .int x1, .int x2, .int x3] (PW D cI cB cZ ta (w_VB cI cB cZ aV aT aTb aP aPp aPf aD aDp aDf aR aRt aK aB aBb aBs aH aHk aHp aHb aHr tl tb pg ps pn pp pf dg ds dn dp df rl rk rp rt kp kb kk kn bb bs jl jn jk jp jb jr) sz)) (QI D cI cB cZ (va_A (w_VB cI cB cZ aV aT aTb aP aPp aPf aD aDp aDf aR aRt aK aB aBb aBs aH aHk aHp aHb aHr tl tb pg ps pn pp pf dg ds dn dp df rl rk rp rt kp kb kk kn bb bs jl jn jk jp jb jr) sz) (w_VB cI cB cZ aV aT aTb aP aPp aPf aD aDp aDf aR aRt aK aB aBb aBs aH aHk aHp aHb aHr tl tb pg ps pn pp pf dg ds dn dp df rl rk rp rt kp kb kk kn bb bs jl jn jk jp jb jr) r0) 0 0 (va_A (w_VB cI cB cZ aV aT aTb aP aPp aPf aD aDp aDf aR aRt aK aB aBb aBs aH aHk aHp aHb aHr tl tb pg ps pn pp pf dg ds dn dp df rl rk rp rt kp kb kk kn bb bs jl jn jk jp jb jr) sz) := by
  refine Met.ofW (cc := cX6_needs) (maxL := 4) (ret := (some .int)) (by decide) rfl ?_
  intro p e s m args below meth c s₁ B hml hv
  obtain ⟨rfl, hsz, hP, hK, hD0, hG⟩ := hv
  have hx := B.exec
  have hb := B.bytes
  have hr := B.returns
  have hts := atoms_spec (ws := wsX6_needs) B.pre
  have hown : s.vm.findClass RX6 = some m.cls := findClass_of_methodNamed B.named
  have hlocks := B.notSynchronized
  subst hsz
  have hD := hD0.self (sz := s.heap.size)
  clear hD0
  have hA0 : ∀ q : Nat, s.heap.size ≤ q → va_A (w_VB cI cB cZ aV aT aTb aP aPp aPf aD aDp aDf aR aRt aK aB aBb aBs aH aHk aHp aHb aHr tl tb pg ps pn pp pf dg ds dn dp df rl rk rp rt kp kb kk kn bb bs jl jn jk jp jb jr) s.heap.size q := fun q h => Or.inr h
  generalize hAe : va_A (w_VB cI cB cZ aV aT aTb aP aPp aPf aD aDp aDf aR aRt aK aB aBb aBs aH aHk aHp aHb aHr tl tb pg ps pn pp pf dg ds dn dp df rl rk rp rt kp kb kk kn bb bs jl jn jk jp jb jr) s.heap.size = A at hD hG hA0 ⊢
  have hA : ∀ q : Nat, s.heap.size ≤ q → A q := hA0
  clear hA0
  have hS : va_S A s.heap s.heap [] := va_S.rf
  have iw_X6 := iw_X6_needs_X6
  have hl := lv_entry ([.ref aV, .int x1, .int x2, .int x3]) (n := 4) (Nat.le_of_ble_eq_true rfl)
  rw [lg_entry_eq]
  generalize (lg_sl ([.ref aV, .int x1, .int x2, .int x3]) ++ List.replicate (4 - (lg_sl ([.ref aV, .int x1, .int x2, .int x3])).length) Slot.unset).toArray = ls at hl ⊢
  have hl : lv_has ls 4 [(0, .ref aV), (1, .int x1), (2, .int x2), (3, .int x3)] := hl
  replace hm : (ob1 (m_X2_isLeaf pg pn x1) (fun r1 => (if r1 = 0 then some (-1 : Int32) else (ob1 (m_X2_isScene ps x2) (fun r6 => (if r6 = 0 then some (-1 : Int32) else (if x3 < (-999999999 : Int32) then some (-1 : Int32) else (if x3 ≤ (999999999 : Int32) then (ob1 (m_X2_unitsNeeded pg pn pp pf x1 x2 x3) (fun r17 => some r17)) else some (-1 : Int32))))))))) = some r0 := hm
  refine lv_aload_n hx hb dX6_needs_0 rfl (lv_at hl 0 rfl) ?_
  refine va_get (D := D) (ci := 6) (v := .ref aP) (C := RX6) (T := TX6) (N := 6) hx hb hts iw_X6 hown hK hP 0 rfl rfl 1 (by decide) (hts (.fieldLink RX6 19 "VarianceBridge" "plan" "LVarianceBridge$Plan;") (by decide +kernel)) (fun _ h9 => h9) rfl dX6_needs_1 ?_
  refine lv_iload_n hx hb dX6_needs_4 rfl (lv_at hl 1 rfl) ?_
  obtain ⟨r1, h1, hm1⟩ := ob1_e hm
  refine gcall_b (ws' := (w_VB cI cB cZ aV aT aTb aP aPp aPf aD aDp aDf aR aRt aK aB aBb aBs aH aHk aHp aHb aHr tl tb pg ps pn pp pf dg ds dn dp df rl rk rp rt kp kb kk kn bb bs jl jn jk jp jb jr)) (va_runVN (As := [.int x1]) (rest := []) ⟨hx, hb, hml, hown, hts⟩ (c_X2_isLeaf l D cI cB cZ ta aP aPp aPf s.heap.size pg ps pn pp pf x1 r1 h1) ⟨va_cnB 1 hts gX6_needs_X2_isLeaf_n117 rfl rfl rfl (hG.1 (.methodLinkNest RX6 117 yX2_isLeaf RX6) (by decide +kernel)) (hts (.initialized RX2) (by decide +kernel)) (by decide +kernel) ⟨(Nat.le_of_ble_eq_true rfl), (Nat.le_of_ble_eq_true rfl)⟩, hts (.instanceMethod yX2_isLeaf) (by decide +kernel), hts (.selects RX2 yX2_isLeaf yX2_isLeaf) (by decide +kernel)⟩ ⟨PW_blind, va_recv hK hP rfl (q0 := 3) rfl, PW_at hP hD hK hS hA hG [3, 4, 5] rfl (by decide)⟩ rfl rfl hl.1 rfl (lv_room (Nat.le_of_ble_eq_true rfl)) dX6_needs_5 ⟨(Nat.le_of_ble_eq_true rfl), (Nat.le_of_ble_eq_true rfl)⟩) hP hD hS hA [3, 4, 5] [0, 1, 2, 6, 7, 8, 9, 10, 11, 12, 13, 14, 15, 16, 17, 18, 19] [0, 1, 2, 17, 18, 19, 3, 4, 5, 6, 7, 8, 9, 10, 11, 12, 13, 14, 15, 16] rfl rfl (by decide) (by decide) (by decide) rfl (fun H2 lo2 hz1 hP2 hD2 hS2 => ?_)
  clear hP hD hS
  refine lv_if_eq (tgt := 34) hx hb dX6_needs_8 (by decide) (fun c3 => ?_) (fun c3 => ?_)
  · have hm4 := zz_if c3 hm1
    refine lv_iconst (v := (-1 : Int32)) hx hb dX6_needs_34 (by decide) ?_
    have hq1 := Option.some.inj hm4
    subst hq1
    exact W.iret hx hb hr (fun t ht hW => ⟨⟨_, (), rfl, rfl, by rw [ht]; exact hP2, va_K.moved hW.alike hK, hD2⟩, hS2.F ht⟩) hS2.2.2 dX6_needs_35
  · have hm5 := zz_nf c3 hm1
    refine lv_aload_n hx hb dX6_needs_11 rfl (lv_at hl 0 rfl) ?_
    refine va_get (D := D) (ci := 6) (v := .ref aP) (C := RX6) (T := TX6) (N := 6) hx hb hts iw_X6 hown hK hP2 0 rfl rfl 1 (by decide) (hts (.fieldLink RX6 19 "VarianceBridge" "plan" "LVarianceBridge$Plan;") (by decide +kernel)) (fun _ h9 => h9) rfl dX6_needs_12 ?_
    refine lv_iload_n hx hb dX6_needs_15 rfl (lv_at hl 2 rfl) ?_
    obtain ⟨r6, h6, hm6⟩ := ob1_e hm5
    refine gcall_b (ws' := (w_VB cI cB cZ aV aT aTb aP aPp aPf aD aDp aDf aR aRt aK aB aBb aBs aH aHk aHp aHb aHr tl tb pg ps pn pp pf dg ds dn dp df rl rk rp rt kp kb kk kn bb bs jl jn jk jp jb jr)) (va_runVN (As := [.int x2]) (rest := []) ⟨hx, hb, hml, hown, hts⟩ (c_X2_isScene l D cI cB cZ ta aP aPp aPf H2.size pg ps pn pp pf x2 r6 h6) ⟨va_cnB 1 hts gX6_needs_X2_isScene_n120 rfl rfl rfl (hG.1 (.methodLinkNest RX6 120 yX2_isScene RX6) (by decide +kernel)) (hts (.initialized RX2) (by decide +kernel)) (by decide +kernel) ⟨(Nat.le_of_ble_eq_true rfl), (Nat.le_of_ble_eq_true rfl)⟩, hts (.instanceMethod yX2_isScene) (by decide +kernel), hts (.selects RX2 yX2_isScene yX2_isScene) (by decide +kernel)⟩ ⟨PW_blind, va_recv hK hP2 rfl (q0 := 3) rfl, PW_at hP2 hD2 hK hS2 hA hG [3, 4, 5] rfl (by decide)⟩ rfl rfl hl.1 rfl (lv_room (Nat.le_of_ble_eq_true rfl)) dX6_needs_16 ⟨(Nat.le_of_ble_eq_true rfl), (Nat.le_of_ble_eq_true rfl)⟩) hP2 hD2 hS2 hA [3, 4, 5] [0, 1, 2, 6, 7, 8, 9, 10, 11, 12, 13, 14, 15, 16, 17, 18, 19] [0, 1, 2, 17, 18, 19, 3, 4, 5, 6, 7, 8, 9, 10, 11, 12, 13, 14, 15, 16] rfl rfl (by decide) (by decide) (by decide) rfl (fun H7 lo7 hz6 hP7 hD7 hS7 => ?_)
    clear hP2 hD2 hS2
    refine lv_if_eq (tgt := 34) hx hb dX6_needs_19 (by decide) (fun c8 => ?_) (fun c8 => ?_)
    · have hm9 := zz_if c8 hm6
      refine lv_iconst (v := (-1 : Int32)) hx hb dX6_needs_34 (by decide) ?_
      have hq1 := Option.some.inj hm9
      subst hq1
      exact W.iret hx hb hr (fun t ht hW => ⟨⟨_, (), rfl, rfl, by rw [ht]; exact hP7, va_K.moved hW.alike hK, hD7⟩, hS7.F ht⟩) hS7.2.2 dX6_needs_35
    · have hm10 := zz_nf c8 hm6
      refine lv_iload_n hx hb dX6_needs_22 rfl (lv_at hl 3 rfl) ?_
      refine lv_ldc (v := (-999999999 : Int32)) hx hb hown (hts (.constant RX6 168 (-999999999)) (by decide +kernel)) dX6_needs_23 ?_
      refine lv_icmp_lt (tgt := 34) hx hb dX6_needs_25 (by decide) (fun c11 => ?_) (fun c11 => ?_)
      · have hm12 := zz_if c11 hm10
        refine lv_iconst (v := (-1 : Int32)) hx hb dX6_needs_34 (by decide) ?_
        have hq1 := Option.some.inj hm12
        subst hq1
        exact W.iret hx hb hr (fun t ht hW => ⟨⟨_, (), rfl, rfl, by rw [ht]; exact hP7, va_K.moved hW.alike hK, hD7⟩, hS7.F ht⟩) hS7.2.2 dX6_needs_35
      · have hm13 := zz_nf c11 hm10
        refine lv_iload_n hx hb dX6_needs_28 rfl (lv_at hl 3 rfl) ?_
        refine lv_ldc (v := (999999999 : Int32)) hx hb hown (hts (.constant RX6 169 (999999999)) (by decide +kernel)) dX6_needs_29 ?_
        refine lv_icmp_le (tgt := 36) hx hb dX6_needs_31 (by decide) (fun c14 => ?_) (fun c14 => ?_)
        · have hm15 := zz_if c14 hm13
          refine lv_aload_n hx hb dX6_needs_36 rfl (lv_at hl 0 rfl) ?_
          refine va_get (D := D) (ci := 6) (v := .ref aP) (C := RX6) (T := TX6) (N := 6) hx hb hts iw_X6 hown hK hP7 0 rfl rfl 1 (by decide) (hts (.fieldLink RX6 19 "VarianceBridge" "plan" "LVarianceBridge$Plan;") (by decide +kernel)) (fun _ h9 => h9) rfl dX6_needs_37 ?_
          refine lv_iload_n hx hb dX6_needs_40 rfl (lv_at hl 1 rfl) ?_
          refine lv_iload_n hx hb dX6_needs_41 rfl (lv_at hl 2 rfl) ?_
          refine lv_iload_n hx hb dX6_needs_42 rfl (lv_at hl 3 rfl) ?_
          obtain ⟨r17, h17, hm17⟩ := ob1_e hm15
          refine gcall_i (ws' := (w_VB cI cB cZ aV aT aTb aP aPp aPf aD aDp aDf aR aRt aK aB aBb aBs aH aHk aHp aHb aHr tl tb pg ps pn pp pf dg ds dn dp df rl rk rp rt kp kb kk kn bb bs jl jn jk jp jb jr)) (va_runVN (As := [.int x1, .int x2, .int x3]) (rest := []) ⟨hx, hb, hml, hown, hts⟩ (c_X2_unitsNeeded l D cI cB cZ ta aP aPp aPf H7.size pg ps pn pp pf x1 x2 x3 r17 h17) ⟨va_cnB 3 hts gX6_needs_X2_unitsNeeded_n170 rfl rfl rfl (hG.1 (.methodLinkNest RX6 170 yX2_unitsNeeded RX6) (by decide +kernel)) (hts (.initialized RX2) (by decide +kernel)) (by decide +kernel) ⟨(Nat.le_of_ble_eq_true rfl), (Nat.le_of_ble_eq_true rfl)⟩, hts (.instanceMethod yX2_unitsNeeded) (by decide +kernel), hts (.selects RX2 yX2_unitsNeeded yX2_unitsNeeded) (by decide +kernel)⟩ ⟨PW_blind, va_recv hK hP7 rfl (q0 := 3) rfl, PW_at hP7 hD7 hK hS7 hA hG [3, 4, 5] rfl (by decide)⟩ rfl rfl hl.1 rfl (lv_room (Nat.le_of_ble_eq_true rfl)) dX6_needs_43 ⟨(Nat.le_of_ble_eq_true rfl), (Nat.le_of_ble_eq_true rfl)⟩) hP7 hD7 hS7 hA [3, 4, 5] [0, 1, 2, 6, 7, 8, 9, 10, 11, 12, 13, 14, 15, 16, 17, 18, 19] [0, 1, 2, 17, 18, 19, 3, 4, 5, 6, 7, 8, 9, 10, 11, 12, 13, 14, 15, 16] rfl rfl (by decide) (by decide) (by decide) rfl (fun H18 lo18 hP18 hD18 hS18 => ?_)
          clear hP7 hD7 hS7
          have hq1 := Option.some.inj hm17
          subst hq1
          exact W.iret hx hb hr (fun t ht hW => ⟨⟨_, (), rfl, rfl, by rw [ht]; exact hP18, va_K.moved hW.alike hK, hD18⟩, hS18.F ht⟩) hS18.2.2 dX6_needs_46
        · have hm16 := zz_nf c14 hm13
          refine lv_iconst (v := (-1 : Int32)) hx hb dX6_needs_34 (by decide) ?_
          have hq1 := Option.some.inj hm16
          subst hq1
          exact W.iret hx hb hr (fun t ht hW => ⟨⟨_, (), rfl, rfl, by rw [ht]; exact hP7, va_K.moved hW.alike hK, hD7⟩, hS7.F ht⟩) hS7.2.2 dX6_needs_35
theorem iw_X6_set_X6 : ∀ w ∈ wsX60, w ∈ wsX6_set := by decide +kernel
set_option maxHeartbeats 4000000 in
set_option maxRecDepth 100000 in
theorem c_X6_set (l : Launch) (D : va_G) (cI cB cZ : ClassId) (ta : Nat → Nat) (aV : Nat) (aT : Nat) (aTb : Nat) (aP : Nat) (aPp : Nat) (aPf : Nat) (aD : Nat) (aDp : Nat) (aDf : Nat) (aR : Nat) (aRt : Nat) (aK : Nat) (aB : Nat) (aBb : Nat) (aBs : Nat) (aH : Nat) (aHk : Nat) (aHp : Nat) (aHb : Nat) (aHr : Nat) (sz : Nat) (tl : Int32) (tb : (Nat → Int32)) (pg : Int32) (ps : Int32) (pn : Int32) (pp : (Nat → Int32)) (pf : (Nat → Int32)) (dg : Int32) (ds : Int32) (dn : Int32) (dp : (Nat → Int32)) (df : (Nat → Int32)) (rl : Int32) (rk : Int32) (rp : Int32) (rt : (Nat → Int32)) (kp : Int32) (kb : Int32) (kk : Int32) (kn : Int32) (bb : (Nat → Int32)) (bs : (Nat → Int32)) (jl : Int32) (jn : Int32) (jk : (Nat → Int32)) (jp : (Nat → Int32)) (jb : (Nat → Int32)) (jr : (Nat → Int32)) (x1 : Int32) (x2 : Int32) (x3 : Int32) (x4 : Int32) (r0 : Int32) (u_pf : (Nat → Int32)) (u_jl : Int32) (u_jn : Int32) (u_jk : (Nat → Int32)) (u_jp : (Nat → Int32)) (u_jr : (Nat → Int32)) (hm : m_X6_set pg ps pn pf jl jn jk jp jr x1 x2 x3 x4 = some (r0, u_pf, u_jl, u_jn, u_jk, u_jp, u_jr)) : Met l yX6_set wsX6_set ({ frames := 3, cells := 0, slots := 0, locals := 69 } : Room) (va_Pc [.ref aV, .int x1, .int x2, .int x3, .int x4] (PW D cI cB cZ ta (w_VB cI cB cZ aV aT aTb aP aPp aPf aD aDp aDf aR aRt aK aB aBb aBs aH aHk aHp aHb aHr tl tb pg ps pn pp pf dg ds dn dp df rl rk rp rt kp kb kk kn bb bs jl jn jk jp jb jr) sz)) (QI D cI cB cZ (va_A (w_VB cI cB cZ aV aT aTb aP aPp aPf aD aDp aDf aR aRt aK aB aBb aBs aH aHk aHp aHb aHr tl tb pg ps pn pp pf dg ds dn dp df rl rk rp rt kp kb kk kn bb bs jl jn jk jp jb jr) sz) (w_VB cI cB cZ aV aT aTb aP aPp aPf aD aDp aDf aR aRt aK aB aBb aBs aH aHk aHp aHb aHr tl tb pg ps pn pp u_pf dg ds dn dp df rl rk rp rt kp kb kk kn bb bs u_jl u_jn u_jk u_jp jb u_jr) r0) 0 0 (va_A (w_VB cI cB cZ aV aT aTb aP aPp aPf aD aDp aDf aR aRt aK aB aBb aBs aH aHk aHp aHb aHr tl tb pg ps pn pp pf dg ds dn dp df rl rk rp rt kp kb kk kn bb bs jl jn jk jp jb jr) sz) := by
  refine Met.ofW (cc := cX6_set) (maxL := 6) (ret := (some .int)) (by decide) rfl ?_
  intro p e s m args below meth c s₁ B hml hv
  obtain ⟨rfl, hsz, hP, hK, hD0, hG⟩ := hv
  have hx := B.exec
  have hb := B.bytes
  have hr := B.returns
  have hts := atoms_spec (ws := wsX6_set) B.pre
  have hown : s.vm.findClass RX6 = some m.cls := findClass_of_methodNamed B.named
  have hlocks := B.notSynchronized
  subst hsz
  have hD := hD0.self (sz := s.heap.size)
  clear hD0
  have hA0 : ∀ q : Nat, s.heap.size ≤ q → va_A (w_VB cI cB cZ aV aT aTb aP aPp aPf aD aDp aDf aR aRt aK aB aBb aBs aH aHk aHp aHb aHr tl tb pg ps pn pp pf dg ds dn dp df rl rk rp rt kp kb kk kn bb bs jl jn jk jp jb jr) s.heap.size q := fun q h => Or.inr h
  generalize hAe : va_A (w_VB cI cB cZ aV aT aTb aP aPp aPf aD aDp aDf aR aRt aK aB aBb aBs aH aHk aHp aHb aHr tl tb pg ps pn pp pf dg ds dn dp df rl rk rp rt kp kb kk kn bb bs jl jn jk jp jb jr) s.heap.size = A at hD hG hA0 ⊢
  have hA : ∀ q : Nat, s.heap.size ≤ q → A q := hA0
  clear hA0
  have hS : va_S A s.heap s.heap [] := va_S.rf
  have iw_X6 := iw_X6_set_X6
  have hl := lv_entry ([.ref aV, .int x1, .int x2, .int x3, .int x4]) (n := 6) (Nat.le_of_ble_eq_true rfl)
  rw [lg_entry_eq]
  generalize (lg_sl ([.ref aV, .int x1, .int x2, .int x3, .int x4]) ++ List.replicate (6 - (lg_sl ([.ref aV, .int x1, .int x2, .int x3, .int x4])).length) Slot.unset).toArray = ls at hl ⊢
  have hl : lv_has ls 6 [(0, .ref aV), (1, .int x1), (2, .int x2), (3, .int x3), (4, .int x4)] := hl
  replace hm : (ob1 (m_X2_isLeaf pg pn x1) (fun r1 => (if r1 = 0 then some ((-1 : Int32), pf, jl, jn, jk, jp, jr) else (ob1 (m_X2_isScene ps x2) (fun r6 => (if r6 = 0 then some ((-1 : Int32), pf, jl, jn, jk, jp, jr) else (ob1 (m_X6_isFactorValue x3 x4) (fun r11 => (if r11 = 0 then some ((-1 : Int32), pf, jl, jn, jk, jp, jr) else (ob1 (m_X2_factorOf pf x1 x2 x3) (fun r16 => (ob5 (m_X1_keepScene jl jn jk jp jr pf x2) (fun jl_19 jn_19 jk_19 jp_19 jr_19 => (ob1 (m_X2_putFactor pf x1 x2 x3 x4) (fun pf_21 => some (r16, pf_21, jl_19, jn_19, jk_19, jp_19, jr_19)))))))))))))))) = some (r0, u_pf, u_jl, u_jn, u_jk, u_jp, u_jr) := hm
  refine lv_aload_n hx hb dX6_set_0 rfl (lv_at hl 0 rfl) ?_
  refine va_get (D := D) (ci := 6) (v := .ref aP) (C := RX6) (T := TX6) (N := 6) hx hb hts iw_X6 hown hK hP 0 rfl rfl 1 (by decide) (hts (.fieldLink RX6 19 "VarianceBridge" "plan" "LVarianceBridge$Plan;") (by decide +kernel)) (fun _ h9 => h9) rfl dX6_set_1 ?_
  refine lv_iload_n hx hb dX6_set_4 rfl (lv_at hl 1 rfl) ?_
  obtain ⟨r1, h1, hm1⟩ := ob1_e hm
  refine gcall_b (ws' := (w_VB cI cB cZ aV aT aTb aP aPp aPf aD aDp aDf aR aRt aK aB aBb aBs aH aHk aHp aHb aHr tl tb pg ps pn pp pf dg ds dn dp df rl rk rp rt kp kb kk kn bb bs jl jn jk jp jb jr)) (va_runVN (As := [.int x1]) (rest := []) ⟨hx, hb, hml, hown, hts⟩ (c_X2_isLeaf l D cI cB cZ ta aP aPp aPf s.heap.size pg ps pn pp pf x1 r1 h1) ⟨va_cnB 1 hts gX6_set_X2_isLeaf_n117 rfl rfl rfl (hG.1 (.methodLinkNest RX6 117 yX2_isLeaf RX6) (by decide +kernel)) (hts (.initialized RX2) (by decide +kernel)) (by decide +kernel) ⟨(Nat.le_of_ble_eq_true rfl), (Nat.le_of_ble_eq_true rfl)⟩, hts (.instanceMethod yX2_isLeaf) (by decide +kernel), hts (.selects RX2 yX2_isLeaf yX2_isLeaf) (by decide +kernel)⟩ ⟨PW_blind, va_recv hK hP rfl (q0 := 3) rfl, PW_at hP hD hK hS hA hG [3, 4, 5] rfl (by decide)⟩ rfl rfl hl.1 rfl (lv_room (Nat.le_of_ble_eq_true rfl)) dX6_set_5 ⟨(Nat.le_of_ble_eq_true rfl), (Nat.le_of_ble_eq_true rfl)⟩) hP hD hS hA [3, 4, 5] [0, 1, 2, 6, 7, 8, 9, 10, 11, 12, 13, 14, 15, 16, 17, 18, 19] [0, 1, 2, 17, 18, 19, 3, 4, 5, 6, 7, 8, 9, 10, 11, 12, 13, 14, 15, 16] rfl rfl (by decide) (by decide) (by decide) rfl (fun H2 lo2 hz1 hP2 hD2 hS2 => ?_)
  clear hP hD hS
  refine lv_if_eq (tgt := 31) hx hb dX6_set_8 (by decide) (fun c3 => ?_) (fun c3 => ?_)
  · have hm4 := zz_if c3 hm1
    refine lv_iconst (v := (-1 : Int32)) hx hb dX6_set_31 (by decide) ?_
    obtain ⟨hq1, hq99⟩ := Prod.mk.inj (Option.some.inj hm4)
    obtain ⟨hq2, hq99⟩ := Prod.mk.inj (hq99)
    obtain ⟨hq3, hq99⟩ := Prod.mk.inj (hq99)
    obtain ⟨hq4, hq99⟩ := Prod.mk.inj (hq99)
    obtain ⟨hq5, hq99⟩ := Prod.mk.inj (hq99)
    obtain ⟨hq6, hq7⟩ := Prod.mk.inj (hq99)
    subst hq1
    subst hq2
    subst hq3
    subst hq4
    subst hq5
    subst hq6
    subst hq7
    exact W.iret hx hb hr (fun t ht hW => ⟨⟨_, (), rfl, rfl, by rw [ht]; exact hP2, va_K.moved hW.alike hK, hD2⟩, hS2.F ht⟩) hS2.2.2 dX6_set_32
  · have hm5 := zz_nf c3 hm1
    refine lv_aload_n hx hb dX6_set_11 rfl (lv_at hl 0 rfl) ?_
    refine va_get (D := D) (ci := 6) (v := .ref aP) (C := RX6) (T := TX6) (N := 6) hx hb hts iw_X6 hown hK hP2 0 rfl rfl 1 (by decide) (hts (.fieldLink RX6 19 "VarianceBridge" "plan" "LVarianceBridge$Plan;") (by decide +kernel)) (fun _ h9 => h9) rfl dX6_set_12 ?_
    refine lv_iload_n hx hb dX6_set_15 rfl (lv_at hl 2 rfl) ?_
    obtain ⟨r6, h6, hm6⟩ := ob1_e hm5
    refine gcall_b (ws' := (w_VB cI cB cZ aV aT aTb aP aPp aPf aD aDp aDf aR aRt aK aB aBb aBs aH aHk aHp aHb aHr tl tb pg ps pn pp pf dg ds dn dp df rl rk rp rt kp kb kk kn bb bs jl jn jk jp jb jr)) (va_runVN (As := [.int x2]) (rest := []) ⟨hx, hb, hml, hown, hts⟩ (c_X2_isScene l D cI cB cZ ta aP aPp aPf H2.size pg ps pn pp pf x2 r6 h6) ⟨va_cnB 1 hts gX6_set_X2_isScene_n120 rfl rfl rfl (hG.1 (.methodLinkNest RX6 120 yX2_isScene RX6) (by decide +kernel)) (hts (.initialized RX2) (by decide +kernel)) (by decide +kernel) ⟨(Nat.le_of_ble_eq_true rfl), (Nat.le_of_ble_eq_true rfl)⟩, hts (.instanceMethod yX2_isScene) (by decide +kernel), hts (.selects RX2 yX2_isScene yX2_isScene) (by decide +kernel)⟩ ⟨PW_blind, va_recv hK hP2 rfl (q0 := 3) rfl, PW_at hP2 hD2 hK hS2 hA hG [3, 4, 5] rfl (by decide)⟩ rfl rfl hl.1 rfl (lv_room (Nat.le_of_ble_eq_true rfl)) dX6_set_16 ⟨(Nat.le_of_ble_eq_true rfl), (Nat.le_of_ble_eq_true rfl)⟩) hP2 hD2 hS2 hA [3, 4, 5] [0, 1, 2, 6, 7, 8, 9, 10, 11, 12, 13, 14, 15, 16, 17, 18, 19] [0, 1, 2, 17, 18, 19, 3, 4, 5, 6, 7, 8, 9, 10, 11, 12, 13, 14, 15, 16] rfl rfl (by decide) (by decide) (by decide) rfl (fun H7 lo7 hz6 hP7 hD7 hS7 => ?_)
    clear hP2 hD2 hS2
    refine lv_if_eq (tgt := 31) hx hb dX6_set_19 (by decide) (fun c8 => ?_) (fun c8 => ?_)
    · have hm9 := zz_if c8 hm6
      refine lv_iconst (v := (-1 : Int32)) hx hb dX6_set_31 (by decide) ?_
      obtain ⟨hq1, hq99⟩ := Prod.mk.inj (Option.some.inj hm9)
      obtain ⟨hq2, hq99⟩ := Prod.mk.inj (hq99)
      obtain ⟨hq3, hq99⟩ := Prod.mk.inj (hq99)
      obtain ⟨hq4, hq99⟩ := Prod.mk.inj (hq99)
      obtain ⟨hq5, hq99⟩ := Prod.mk.inj (hq99)
      obtain ⟨hq6, hq7⟩ := Prod.mk.inj (hq99)
      subst hq1
      subst hq2
      subst hq3
      subst hq4
      subst hq5
      subst hq6
      subst hq7
      exact W.iret hx hb hr (fun t ht hW => ⟨⟨_, (), rfl, rfl, by rw [ht]; exact hP7, va_K.moved hW.alike hK, hD7⟩, hS7.F ht⟩) hS7.2.2 dX6_set_32
    · have hm10 := zz_nf c8 hm6
      refine lv_iload_n hx hb dX6_set_22 rfl (lv_at hl 3 rfl) ?_
      refine lv_iload hx hb dX6_set_23 (lv_at hl 4 rfl) ?_
      obtain ⟨r11, h11, hm11⟩ := ob1_e hm10
      refine gcall_b (ws' := (w_VB cI cB cZ aV aT aTb aP aPp aPf aD aDp aDf aR aRt aK aB aBb aBs aH aHk aHp aHb aHr tl tb pg ps pn pp pf dg ds dn dp df rl rk rp rt kp kb kk kn bb bs jl jn jk jp jb jr)) (va_runS (As := [.int x3, .int x4]) (rest := []) ⟨hx, hb, hml, hown, hts⟩ (c_X6_isFactorValue l D cI cB cZ ta H7.size x3 x4 r11 h11) (va_cwS 2 hts gX6_set_X6_isFactorValue rfl rfl rfl (by decide +kernel) ⟨(Nat.le_of_ble_eq_true rfl), (Nat.le_of_ble_eq_true rfl)⟩) ⟨PW_blind, PW_at hP7 hD7 hK hS7 hA hG [] rfl (by decide)⟩ rfl rfl hl.1 rfl (lv_room (Nat.le_of_ble_eq_true rfl)) dX6_set_25 ⟨(Nat.le_of_ble_eq_true rfl), (Nat.le_of_ble_eq_true rfl)⟩) hP7 hD7 hS7 hA [] [0, 1, 2, 3, 4, 5, 6, 7, 8, 9, 10, 11, 12, 13, 14, 15, 16, 17, 18, 19] [0, 1, 2, 3, 4, 5, 6, 7, 8, 9, 10, 11, 12, 13, 14, 15, 16, 17, 18, 19] rfl rfl (by decide) (by decide) (by decide) rfl (fun H12 lo12 hz11 hP12 hD12 hS12 => ?_)
      clear hP7 hD7 hS7
      refine lv_if_ne (tgt := 33) hx hb dX6_set_28 (by decide) (fun c13 => ?_) (fun c13 => ?_)
      · have hm14 := zz_nf c13 hm11
        refine lv_aload_n hx hb dX6_set_33 rfl (lv_at hl 0 rfl) ?_
        refine va_get (D := D) (ci := 6) (v := .ref aP) (C := RX6) (T := TX6) (N := 6) hx hb hts iw_X6 hown hK hP12 0 rfl rfl 1 (by decide) (hts (.fieldLink RX6 19 "VarianceBridge" "plan" "LVarianceBridge$Plan;") (by decide +kernel)) (fun _ h9 => h9) rfl dX6_set_34 ?_
        refine lv_iload_n hx hb dX6_set_37 rfl (lv_at hl 1 rfl) ?_
        refine lv_iload_n hx hb dX6_set_38 rfl (lv_at hl 2 rfl) ?_
        refine lv_iload_n hx hb dX6_set_39 rfl (lv_at hl 3 rfl) ?_
        obtain ⟨r16, h16, hm16⟩ := ob1_e hm14
        refine gcall_i (ws' := (w_VB cI cB cZ aV aT aTb aP aPp aPf aD aDp aDf aR aRt aK aB aBb aBs aH aHk aHp aHb aHr tl tb pg ps pn pp pf dg ds dn dp df rl rk rp rt kp kb kk kn bb bs jl jn jk jp jb jr)) (va_runVN (As := [.int x1, .int x2, .int x3]) (rest := []) ⟨hx, hb, hml, hown, hts⟩ (c_X2_factorOf l D cI cB cZ ta aP aPp aPf H12.size pg ps pn pp pf x1 x2 x3 r16 h16) ⟨va_cnB 3 hts gX6_set_X2_factorOf_n126 rfl rfl rfl (hG.1 (.methodLinkNest RX6 126 yX2_factorOf RX6) (by decide +kernel)) (hts (.initialized RX2) (by decide +kernel)) (by decide +kernel) ⟨(Nat.le_of_ble_eq_true rfl), (Nat.le_of_ble_eq_true rfl)⟩, hts (.instanceMethod yX2_factorOf) (by decide +kernel), hts (.selects RX2 yX2_factorOf yX2_factorOf) (by decide +kernel)⟩ ⟨PW_blind, va_recv hK hP12 rfl (q0 := 3) rfl, PW_at hP12 hD12 hK hS12 hA hG [3, 4, 5] rfl (by decide)⟩ rfl rfl hl.1 rfl (lv_room (Nat.le_of_ble_eq_true rfl)) dX6_set_40 ⟨(Nat.le_of_ble_eq_true rfl), (Nat.le_of_ble_eq_true rfl)⟩) hP12 hD12 hS12 hA [3, 4, 5] [0, 1, 2, 6, 7, 8, 9, 10, 11, 12, 13, 14, 15, 16, 17, 18, 19] [0, 1, 2, 17, 18, 19, 3, 4, 5, 6, 7, 8, 9, 10, 11, 12, 13, 14, 15, 16] rfl rfl (by decide) (by decide) (by decide) rfl (fun H17 lo17 hP17 hD17 hS17 => ?_)
        clear hP12 hD12 hS12
        refine lv_istore (lv' := [(5, .int r16), (0, .ref aV), (1, .int x1), (2, .int x2), (3, .int x3), (4, .int x4)]) hx hb dX6_set_43 hl (by decide) rfl (fun ls18 hl18 => ?_)
        refine lv_aload_n hx hb dX6_set_45 rfl (lv_at hl18 1 rfl) ?_
        refine va_get (D := D) (ci := 6) (v := .ref aH) (C := RX6) (T := TX6) (N := 6) hx hb hts iw_X6 hown hK hP17 0 rfl rfl 5 (by decide) (hts (.fieldLink RX6 47 "VarianceBridge" "history" "LVarianceBridge$History;") (by decide +kernel)) (fun _ h9 => h9) rfl dX6_set_46 ?_
        refine lv_iload_n hx hb dX6_set_49 rfl (lv_at hl18 3 rfl) ?_
        obtain ⟨jl_19, jn_19, jk_19, jp_19, jr_19, h19, hm19⟩ := ob5_e hm16
        refine gcall_v (ws' := (w_VB cI cB cZ aV aT aTb aP aPp aPf aD aDp aDf aR aRt aK aB aBb aBs aH aHk aHp aHb aHr tl tb pg ps pn pp pf dg ds dn dp df rl rk rp rt kp kb kk kn bb bs jl_19 jn_19 jk_19 jp_19 jb jr_19)) (va_runVN (As := [.int x2]) (rest := []) ⟨hx, hb, hml, hown, hts⟩ (c_X1_keepScene l D cI cB cZ ta aH aHk aHp aHb aHr aP aPp aPf H17.size jl jn jk jp jb jr pg ps pn pp pf x2 jl_19 jn_19 jk_19 jp_19 jr_19 h19) ⟨va_cnB 1 hts gX6_set_X1_keepScene_n173 rfl rfl rfl (hG.1 (.methodLinkNest RX6 173 yX1_keepScene RX6) (by decide +kernel)) (hts (.initialized RX1) (by decide +kernel)) (by decide +kernel) ⟨(Nat.le_of_ble_eq_true rfl), (Nat.le_of_ble_eq_true rfl)⟩, hts (.instanceMethod yX1_keepScene) (by decide +kernel), hts (.selects RX1 yX1_keepScene yX1_keepScene) (by decide +kernel)⟩ ⟨PW_blind, va_recv hK hP17 rfl (q0 := 15) rfl, PW_at hP17 hD17 hK hS17 hA hG [15, 16, 17, 18, 19, 3, 4, 5] rfl (by decide)⟩ rfl rfl hl18.1 rfl (lv_room (Nat.le_of_ble_eq_true rfl)) dX6_set_50 ⟨(Nat.le_of_ble_eq_true rfl), (Nat.le_of_ble_eq_true rfl)⟩) hP17 hD17 hS17 hA [15, 16, 17, 18, 19, 3, 4, 5] [0, 1, 2, 6, 7, 8, 9, 10, 11, 12, 13, 14] [0, 1, 2, 17, 18, 19, 3, 4, 5, 6, 7, 8, 9, 10, 11, 12, 13, 14, 15, 16] rfl rfl (by decide) (by decide) (by decide) rfl (fun H20 lo20 hP20 hD20 hS20 => ?_)
        clear hP17 hD17 hS17
        refine lv_aload_n hx hb dX6_set_53 rfl (lv_at hl18 1 rfl) ?_
        refine va_get (D := D) (ci := 6) (v := .ref aP) (C := RX6) (T := TX6) (N := 6) hx hb hts iw_X6 hown hK hP20 0 rfl rfl 1 (by decide) (hts (.fieldLink RX6 19 "VarianceBridge" "plan" "LVarianceBridge$Plan;") (by decide +kernel)) (fun _ h9 => h9) rfl dX6_set_54 ?_
        refine lv_iload_n hx hb dX6_set_57 rfl (lv_at hl18 2 rfl) ?_
        refine lv_iload_n hx hb dX6_set_58 rfl (lv_at hl18 3 rfl) ?_
        refine lv_iload_n hx hb dX6_set_59 rfl (lv_at hl18 4 rfl) ?_
        refine lv_iload hx hb dX6_set_60 (lv_at hl18 5 rfl) ?_
        obtain ⟨pf_21, h21, hm21⟩ := ob1_e hm19
        refine gcall_v (ws' := (w_VB cI cB cZ aV aT aTb aP aPp aPf aD aDp aDf aR aRt aK aB aBb aBs aH aHk aHp aHb aHr tl tb pg ps pn pp pf_21 dg ds dn dp df rl rk rp rt kp kb kk kn bb bs jl_19 jn_19 jk_19 jp_19 jb jr_19)) (va_runVN (As := [.int x1, .int x2, .int x3, .int x4]) (rest := []) ⟨hx, hb, hml, hown, hts⟩ (c_X2_putFactor l D cI cB cZ ta aP aPp aPf H20.size pg ps pn pp pf x1 x2 x3 x4 pf_21 h21) ⟨va_cnB 4 hts gX6_set_X2_putFactor_n176 rfl rfl rfl (hG.1 (.methodLinkNest RX6 176 yX2_putFactor RX6) (by decide +kernel)) (hts (.initialized RX2) (by decide +kernel)) (by decide +kernel) ⟨(Nat.le_of_ble_eq_true rfl), (Nat.le_of_ble_eq_true rfl)⟩, hts (.instanceMethod yX2_putFactor) (by decide +kernel), hts (.selects RX2 yX2_putFactor yX2_putFactor) (by decide +kernel)⟩ ⟨PW_blind, va_recv hK hP20 rfl (q0 := 3) rfl, PW_at hP20 hD20 hK hS20 hA hG [3, 4, 5] rfl (by decide)⟩ rfl rfl hl18.1 rfl (lv_room (Nat.le_of_ble_eq_true rfl)) dX6_set_62 ⟨(Nat.le_of_ble_eq_true rfl), (Nat.le_of_ble_eq_true rfl)⟩) hP20 hD20 hS20 hA [3, 4, 5] [0, 1, 2, 6, 7, 8, 9, 10, 11, 12, 13, 14, 15, 16, 17, 18, 19] [0, 1, 2, 17, 18, 19, 3, 4, 5, 6, 7, 8, 9, 10, 11, 12, 13, 14, 15, 16] rfl rfl (by decide) (by decide) (by decide) rfl (fun H22 lo22 hP22 hD22 hS22 => ?_)
        clear hP20 hD20 hS20
        refine lv_iload hx hb dX6_set_65 (lv_at hl18 0 rfl) ?_
        obtain ⟨hq1, hq99⟩ := Prod.mk.inj (Option.some.inj hm21)
        obtain ⟨hq2, hq99⟩ := Prod.mk.inj (hq99)
        obtain ⟨hq3, hq99⟩ := Prod.mk.inj (hq99)
        obtain ⟨hq4, hq99⟩ := Prod.mk.inj (hq99)
        obtain ⟨hq5, hq99⟩ := Prod.mk.inj (hq99)
        obtain ⟨hq6, hq7⟩ := Prod.mk.inj (hq99)
        subst hq1
        subst hq2
        subst hq3
        subst hq4
        subst hq5
        subst hq6
        subst hq7
        exact W.iret hx hb hr (fun t ht hW => ⟨⟨_, (), rfl, rfl, by rw [ht]; exact hP22, va_K.moved hW.alike hK, hD22⟩, hS22.F ht⟩) hS22.2.2 dX6_set_67
      · have hm15 := zz_if c13 hm11
        refine lv_iconst (v := (-1 : Int32)) hx hb dX6_set_31 (by decide) ?_
        obtain ⟨hq1, hq99⟩ := Prod.mk.inj (Option.some.inj hm15)
        obtain ⟨hq2, hq99⟩ := Prod.mk.inj (hq99)
        obtain ⟨hq3, hq99⟩ := Prod.mk.inj (hq99)
        obtain ⟨hq4, hq99⟩ := Prod.mk.inj (hq99)
        obtain ⟨hq5, hq99⟩ := Prod.mk.inj (hq99)
        obtain ⟨hq6, hq7⟩ := Prod.mk.inj (hq99)
        subst hq1
        subst hq2
        subst hq3
        subst hq4
        subst hq5
        subst hq6
        subst hq7
        exact W.iret hx hb hr (fun t ht hW => ⟨⟨_, (), rfl, rfl, by rw [ht]; exact hP12, va_K.moved hW.alike hK, hD12⟩, hS12.F ht⟩) hS12.2.2 dX6_set_32
theorem iw_X6_copy_X6 : ∀ w ∈ wsX60, w ∈ wsX6_copy := by decide +kernel
set_option maxHeartbeats 4000000 in
set_option maxRecDepth 100000 in
theorem c_X6_copy (l : Launch) (D : va_G) (cI cB cZ : ClassId) (ta : Nat → Nat) (aV : Nat) (aT : Nat) (aTb : Nat) (aP : Nat) (aPp : Nat) (aPf : Nat) (aD : Nat) (aDp : Nat) (aDf : Nat) (aR : Nat) (aRt : Nat) (aK : Nat) (aB : Nat) (aBb : Nat) (aBs : Nat) (aH : Nat) (aHk : Nat) (aHp : Nat) (aHb : Nat) (aHr : Nat) (sz : Nat) (tl : Int32) (tb : (Nat → Int32)) (pg : Int32) (ps : Int32) (pn : Int32) (pp : (Nat → Int32)) (pf : (Nat → Int32)) (dg : Int32) (ds : Int32) (dn : Int32) (dp : (Nat → Int32)) (df : (Nat → Int32)) (rl : Int32) (rk : Int32) (rp : Int32) (rt : (Nat → Int32)) (kp : Int32) (kb : Int32) (kk : Int32) (kn : Int32) (bb : (Nat → Int32)) (bs : (Nat → Int32)) (jl : Int32) (jn : Int32) (jk : (Nat → Int32)) (jp : (Nat → Int32)) (jb : (Nat → Int32)) (jr : (Nat → Int32)) (x1 : Int32) (x2 : Int32) (r0 : Int32) (u_pf : (Nat → Int32)) (u_jl : Int32) (u_jn : Int32) (u_jk : (Nat → Int32)) (u_jp : (Nat → Int32)) (u_jr : (Nat → Int32)) (hm : m_X6_copy pg ps pn pf jl jn jk jp jr x1 x2 = some (r0, u_pf, u_jl, u_jn, u_jk, u_jp, u_jr)) : Met l yX6_copy wsX6_copy ({ frames := 3, cells := 0, slots := 0, locals := 69 } : Room) (va_Pc [.ref aV, .int x1, .int x2] (PW D cI cB cZ ta (w_VB cI cB cZ aV aT aTb aP aPp aPf aD aDp aDf aR aRt aK aB aBb aBs aH aHk aHp aHb aHr tl tb pg ps pn pp pf dg ds dn dp df rl rk rp rt kp kb kk kn bb bs jl jn jk jp jb jr) sz)) (QI D cI cB cZ (va_A (w_VB cI cB cZ aV aT aTb aP aPp aPf aD aDp aDf aR aRt aK aB aBb aBs aH aHk aHp aHb aHr tl tb pg ps pn pp pf dg ds dn dp df rl rk rp rt kp kb kk kn bb bs jl jn jk jp jb jr) sz) (w_VB cI cB cZ aV aT aTb aP aPp aPf aD aDp aDf aR aRt aK aB aBb aBs aH aHk aHp aHb aHr tl tb pg ps pn pp u_pf dg ds dn dp df rl rk rp rt kp kb kk kn bb bs u_jl u_jn u_jk u_jp jb u_jr) r0) 0 0 (va_A (w_VB cI cB cZ aV aT aTb aP aPp aPf aD aDp aDf aR aRt aK aB aBb aBs aH aHk aHp aHb aHr tl tb pg ps pn pp pf dg ds dn dp df rl rk rp rt kp kb kk kn bb bs jl jn jk jp jb jr) sz) := by
  refine Met.ofW (cc := cX6_copy) (maxL := 3) (ret := (some .int)) (by decide) rfl ?_
  intro p e s m args below meth c s₁ B hml hv
  obtain ⟨rfl, hsz, hP, hK, hD0, hG⟩ := hv
  have hx := B.exec
  have hb := B.bytes
  have hr := B.returns
  have hts := atoms_spec (ws := wsX6_copy) B.pre
  have hown : s.vm.findClass RX6 = some m.cls := findClass_of_methodNamed B.named
  have hlocks := B.notSynchronized
  subst hsz
  have hD := hD0.self (sz := s.heap.size)
  clear hD0
  have hA0 : ∀ q : Nat, s.heap.size ≤ q → va_A (w_VB cI cB cZ aV aT aTb aP aPp aPf aD aDp aDf aR aRt aK aB aBb aBs aH aHk aHp aHb aHr tl tb pg ps pn pp pf dg ds dn dp df rl rk rp rt kp kb kk kn bb bs jl jn jk jp jb jr) s.heap.size q := fun q h => Or.inr h
  generalize hAe : va_A (w_VB cI cB cZ aV aT aTb aP aPp aPf aD aDp aDf aR aRt aK aB aBb aBs aH aHk aHp aHb aHr tl tb pg ps pn pp pf dg ds dn dp df rl rk rp rt kp kb kk kn bb bs jl jn jk jp jb jr) s.heap.size = A at hD hG hA0 ⊢
  have hA : ∀ q : Nat, s.heap.size ≤ q → A q := hA0
  clear hA0
  have hS : va_S A s.heap s.heap [] := va_S.rf
  have iw_X6 := iw_X6_copy_X6
  have hl := lv_entry ([.ref aV, .int x1, .int x2]) (n := 3) (Nat.le_of_ble_eq_true rfl)
  rw [lg_entry_eq]
  generalize (lg_sl ([.ref aV, .int x1, .int x2]) ++ List.replicate (3 - (lg_sl ([.ref aV, .int x1, .int x2])).length) Slot.unset).toArray = ls at hl ⊢
  have hl : lv_has ls 3 [(0, .ref aV), (1, .int x1), (2, .int x2)] := hl
  replace hm : (ob1 (m_X2_isScene ps x1) (fun r1 => (if r1 = 0 then some ((-1 : Int32), pf, jl, jn, jk, jp, jr) else (ob1 (m_X2_isScene ps x2) (fun r6 => (if r6 = 0 then some ((-1 : Int32), pf, jl, jn, jk, jp, jr) else (if x1 = x2 then some ((-1 : Int32), pf, jl, jn, jk, jp, jr) else (ob5 (m_X1_keepScene jl jn jk jp jr pf x2) (fun jl_14 jn_14 jk_14 jp_14 jr_14 => (ob2 (m_X2_copyScene pg pn pf x1 x2) (fun r16 pf_16 => some (r16, pf_16, jl_14, jn_14, jk_14, jp_14, jr_14)))))))))))) = some (r0, u_pf, u_jl, u_jn, u_jk, u_jp, u_jr) := hm
  refine lv_aload_n hx hb dX6_copy_0 rfl (lv_at hl 0 rfl) ?_
  refine va_get (D := D) (ci := 6) (v := .ref aP) (C := RX6) (T := TX6) (N := 6) hx hb hts iw_X6 hown hK hP 0 rfl rfl 1 (by decide) (hts (.fieldLink RX6 19 "VarianceBridge" "plan" "LVarianceBridge$Plan;") (by decide +kernel)) (fun _ h9 => h9) rfl dX6_copy_1 ?_
  refine lv_iload_n hx hb dX6_copy_4 rfl (lv_at hl 1 rfl) ?_
  obtain ⟨r1, h1, hm1⟩ := ob1_e hm
  refine gcall_b (ws' := (w_VB cI cB cZ aV aT aTb aP aPp aPf aD aDp aDf aR aRt aK aB aBb aBs aH aHk aHp aHb aHr tl tb pg ps pn pp pf dg ds dn dp df rl rk rp rt kp kb kk kn bb bs jl jn jk jp jb jr)) (va_runVN (As := [.int x1]) (rest := []) ⟨hx, hb, hml, hown, hts⟩ (c_X2_isScene l D cI cB cZ ta aP aPp aPf s.heap.size pg ps pn pp pf x1 r1 h1) ⟨va_cnB 1 hts gX6_copy_X2_isScene_n120 rfl rfl rfl (hG.1 (.methodLinkNest RX6 120 yX2_isScene RX6) (by decide +kernel)) (hts (.initialized RX2) (by decide +kernel)) (by decide +kernel) ⟨(Nat.le_of_ble_eq_true rfl), (Nat.le_of_ble_eq_true rfl)⟩, hts (.instanceMethod yX2_isScene) (by decide +kernel), hts (.selects RX2 yX2_isScene yX2_isScene) (by decide +kernel)⟩ ⟨PW_blind, va_recv hK hP rfl (q0 := 3) rfl, PW_at hP hD hK hS hA hG [3, 4, 5] rfl (by decide)⟩ rfl rfl hl.1 rfl (lv_room (Nat.le_of_ble_eq_true rfl)) dX6_copy_5 ⟨(Nat.le_of_ble_eq_true rfl), (Nat.le_of_ble_eq_true rfl)⟩) hP hD hS hA [3, 4, 5] [0, 1, 2, 6, 7, 8, 9, 10, 11, 12, 13, 14, 15, 16, 17, 18, 19] [0, 1, 2, 17, 18, 19, 3, 4, 5, 6, 7, 8, 9, 10, 11, 12, 13, 14, 15, 16] rfl rfl (by decide) (by decide) (by decide) rfl (fun H2 lo2 hz1 hP2 hD2 hS2 => ?_)
  clear hP hD hS
  refine lv_if_eq (tgt := 27) hx hb dX6_copy_8 (by decide) (fun c3 => ?_) (fun c3 => ?_)
  · have hm4 := zz_if c3 hm1
    refine lv_iconst (v := (-1 : Int32)) hx hb dX6_copy_27 (by decide) ?_
    obtain ⟨hq1, hq99⟩ := Prod.mk.inj (Option.some.inj hm4)
    obtain ⟨hq2, hq99⟩ := Prod.mk.inj (hq99)
    obtain ⟨hq3, hq99⟩ := Prod.mk.inj (hq99)
    obtain ⟨hq4, hq99⟩ := Prod.mk.inj (hq99)
    obtain ⟨hq5, hq99⟩ := Prod.mk.inj (hq99)
    obtain ⟨hq6, hq7⟩ := Prod.mk.inj (hq99)
    subst hq1
    subst hq2
    subst hq3
    subst hq4
    subst hq5
    subst hq6
    subst hq7
    exact W.iret hx hb hr (fun t ht hW => ⟨⟨_, (), rfl, rfl, by rw [ht]; exact hP2, va_K.moved hW.alike hK, hD2⟩, hS2.F ht⟩) hS2.2.2 dX6_copy_28
  · have hm5 := zz_nf c3 hm1
    refine lv_aload_n hx hb dX6_copy_11 rfl (lv_at hl 0 rfl) ?_
    refine va_get (D := D) (ci := 6) (v := .ref aP) (C := RX6) (T := TX6) (N := 6) hx hb hts iw_X6 hown hK hP2 0 rfl rfl 1 (by decide) (hts (.fieldLink RX6 19 "VarianceBridge" "plan" "LVarianceBridge$Plan;") (by decide +kernel)) (fun _ h9 => h9) rfl dX6_copy_12 ?_
    refine lv_iload_n hx hb dX6_copy_15 rfl (lv_at hl 2 rfl) ?_
    obtain ⟨r6, h6, hm6⟩ := ob1_e hm5
    refine gcall_b (ws' := (w_VB cI cB cZ aV aT aTb aP aPp aPf aD aDp aDf aR aRt aK aB aBb aBs aH aHk aHp aHb aHr tl tb pg ps pn pp pf dg ds dn dp df rl rk rp rt kp kb kk kn bb bs jl jn jk jp jb jr)) (va_runVN (As := [.int x2]) (rest := []) ⟨hx, hb, hml, hown, hts⟩ (c_X2_isScene l D cI cB cZ ta aP aPp aPf H2.size pg ps pn pp pf x2 r6 h6) ⟨va_cnB 1 hts gX6_copy_X2_isScene_n120 rfl rfl rfl (hG.1 (.methodLinkNest RX6 120 yX2_isScene RX6) (by decide +kernel)) (hts (.initialized RX2) (by decide +kernel)) (by decide +kernel) ⟨(Nat.le_of_ble_eq_true rfl), (Nat.le_of_ble_eq_true rfl)⟩, hts (.instanceMethod yX2_isScene) (by decide +kernel), hts (.selects RX2 yX2_isScene yX2_isScene) (by decide +kernel)⟩ ⟨PW_blind, va_recv hK hP2 rfl (q0 := 3) rfl, PW_at hP2 hD2 hK hS2 hA hG [3, 4, 5] rfl (by decide)⟩ rfl rfl hl.1 rfl (lv_room (Nat.le_of_ble_eq_true rfl)) dX6_copy_16 ⟨(Nat.le_of_ble_eq_true rfl), (Nat.le_of_ble_eq_true rfl)⟩) hP2 hD2 hS2 hA [3, 4, 5] [0, 1, 2, 6, 7, 8, 9, 10, 11, 12, 13, 14, 15, 16, 17, 18, 19] [0, 1, 2, 17, 18, 19, 3, 4, 5, 6, 7, 8, 9, 10, 11, 12, 13, 14, 15, 16] rfl rfl (by decide) (by decide) (by decide) rfl (fun H7 lo7 hz6 hP7 hD7 hS7 => ?_)
    clear hP2 hD2 hS2
    refine lv_if_eq (tgt := 27) hx hb dX6_copy_19 (by decide) (fun c8 => ?_) (fun c8 => ?_)
    · have hm9 := zz_if c8 hm6
      refine lv_iconst (v := (-1 : Int32)) hx hb dX6_copy_27 (by decide) ?_
      obtain ⟨hq1, hq99⟩ := Prod.mk.inj (Option.some.inj hm9)
      obtain ⟨hq2, hq99⟩ := Prod.mk.inj (hq99)
      obtain ⟨hq3, hq99⟩ := Prod.mk.inj (hq99)
      obtain ⟨hq4, hq99⟩ := Prod.mk.inj (hq99)
      obtain ⟨hq5, hq99⟩ := Prod.mk.inj (hq99)
      obtain ⟨hq6, hq7⟩ := Prod.mk.inj (hq99)
      subst hq1
      subst hq2
      subst hq3
      subst hq4
      subst hq5
      subst hq6
      subst hq7
      exact W.iret hx hb hr (fun t ht hW => ⟨⟨_, (), rfl, rfl, by rw [ht]; exact hP7, va_K.moved hW.alike hK, hD7⟩, hS7.F ht⟩) hS7.2.2 dX6_copy_28
    · have hm10 := zz_nf c8 hm6
      refine lv_iload_n hx hb dX6_copy_22 rfl (lv_at hl 1 rfl) ?_
      refine lv_iload_n hx hb dX6_copy_23 rfl (lv_at hl 2 rfl) ?_
      refine lv_icmp_ne (tgt := 29) hx hb dX6_copy_24 (by decide) (fun c11 => ?_) (fun c11 => ?_)
      · have hm12 := zz_nf c11 hm10
        refine lv_aload_n hx hb dX6_copy_29 rfl (lv_at hl 0 rfl) ?_
        refine va_get (D := D) (ci := 6) (v := .ref aH) (C := RX6) (T := TX6) (N := 6) hx hb hts iw_X6 hown hK hP7 0 rfl rfl 5 (by decide) (hts (.fieldLink RX6 47 "VarianceBridge" "history" "LVarianceBridge$History;") (by decide +kernel)) (fun _ h9 => h9) rfl dX6_copy_30 ?_
        refine lv_iload_n hx hb dX6_copy_33 rfl (lv_at hl 2 rfl) ?_
        obtain ⟨jl_14, jn_14, jk_14, jp_14, jr_14, h14, hm14⟩ := ob5_e hm12
        refine gcall_v (ws' := (w_VB cI cB cZ aV aT aTb aP aPp aPf aD aDp aDf aR aRt aK aB aBb aBs aH aHk aHp aHb aHr tl tb pg ps pn pp pf dg ds dn dp df rl rk rp rt kp kb kk kn bb bs jl_14 jn_14 jk_14 jp_14 jb jr_14)) (va_runVN (As := [.int x2]) (rest := []) ⟨hx, hb, hml, hown, hts⟩ (c_X1_keepScene l D cI cB cZ ta aH aHk aHp aHb aHr aP aPp aPf H7.size jl jn jk jp jb jr pg ps pn pp pf x2 jl_14 jn_14 jk_14 jp_14 jr_14 h14) ⟨va_cnB 1 hts gX6_copy_X1_keepScene_n173 rfl rfl rfl (hG.1 (.methodLinkNest RX6 173 yX1_keepScene RX6) (by decide +kernel)) (hts (.initialized RX1) (by decide +kernel)) (by decide +kernel) ⟨(Nat.le_of_ble_eq_true rfl), (Nat.le_of_ble_eq_true rfl)⟩, hts (.instanceMethod yX1_keepScene) (by decide +kernel), hts (.selects RX1 yX1_keepScene yX1_keepScene) (by decide +kernel)⟩ ⟨PW_blind, va_recv hK hP7 rfl (q0 := 15) rfl, PW_at hP7 hD7 hK hS7 hA hG [15, 16, 17, 18, 19, 3, 4, 5] rfl (by decide)⟩ rfl rfl hl.1 rfl (lv_room (Nat.le_of_ble_eq_true rfl)) dX6_copy_34 ⟨(Nat.le_of_ble_eq_true rfl), (Nat.le_of_ble_eq_true rfl)⟩) hP7 hD7 hS7 hA [15, 16, 17, 18, 19, 3, 4, 5] [0, 1, 2, 6, 7, 8, 9, 10, 11, 12, 13, 14] [0, 1, 2, 17, 18, 19, 3, 4, 5, 6, 7, 8, 9, 10, 11, 12, 13, 14, 15, 16] rfl rfl (by decide) (by decide) (by decide) rfl (fun H15 lo15 hP15 hD15 hS15 => ?_)
        clear hP7 hD7 hS7
        refine lv_aload_n hx hb dX6_copy_37 rfl (lv_at hl 0 rfl) ?_
        refine va_get (D := D) (ci := 6) (v := .ref aP) (C := RX6) (T := TX6) (N := 6) hx hb hts iw_X6 hown hK hP15 0 rfl rfl 1 (by decide) (hts (.fieldLink RX6 19 "VarianceBridge" "plan" "LVarianceBridge$Plan;") (by decide +kernel)) (fun _ h9 => h9) rfl dX6_copy_38 ?_
        refine lv_iload_n hx hb dX6_copy_41 rfl (lv_at hl 1 rfl) ?_
        refine lv_iload_n hx hb dX6_copy_42 rfl (lv_at hl 2 rfl) ?_
        obtain ⟨r16, pf_16, h16, hm16⟩ := ob2_e hm14
        refine gcall_i (ws' := (w_VB cI cB cZ aV aT aTb aP aPp aPf aD aDp aDf aR aRt aK aB aBb aBs aH aHk aHp aHb aHr tl tb pg ps pn pp pf_16 dg ds dn dp df rl rk rp rt kp kb kk kn bb bs jl_14 jn_14 jk_14 jp_14 jb jr_14)) (va_runVN (As := [.int x1, .int x2]) (rest := []) ⟨hx, hb, hml, hown, hts⟩ (c_X2_copyScene l D cI cB cZ ta aP aPp aPf H15.size pg ps pn pp pf x1 x2 r16 pf_16 h16) ⟨va_cnB 2 hts gX6_copy_X2_copyScene_n180 rfl rfl rfl (hG.1 (.methodLinkNest RX6 180 yX2_copyScene RX6) (by decide +kernel)) (hts (.initialized RX2) (by decide +kernel)) (by decide +kernel) ⟨(Nat.le_of_ble_eq_true rfl), (Nat.le_of_ble_eq_true rfl)⟩, hts (.instanceMethod yX2_copyScene) (by decide +kernel), hts (.selects RX2 yX2_copyScene yX2_copyScene) (by decide +kernel)⟩ ⟨PW_blind, va_recv hK hP15 rfl (q0 := 3) rfl, PW_at hP15 hD15 hK hS15 hA hG [3, 4, 5] rfl (by decide)⟩ rfl rfl hl.1 rfl (lv_room (Nat.le_of_ble_eq_true rfl)) dX6_copy_43 ⟨(Nat.le_of_ble_eq_true rfl), (Nat.le_of_ble_eq_true rfl)⟩) hP15 hD15 hS15 hA [3, 4, 5] [0, 1, 2, 6, 7, 8, 9, 10, 11, 12, 13, 14, 15, 16, 17, 18, 19] [0, 1, 2, 17, 18, 19, 3, 4, 5, 6, 7, 8, 9, 10, 11, 12, 13, 14, 15, 16] rfl rfl (by decide) (by decide) (by decide) rfl (fun H17 lo17 hP17 hD17 hS17 => ?_)
        clear hP15 hD15 hS15
        obtain ⟨hq1, hq99⟩ := Prod.mk.inj (Option.some.inj hm16)
        obtain ⟨hq2, hq99⟩ := Prod.mk.inj (hq99)
        obtain ⟨hq3, hq99⟩ := Prod.mk.inj (hq99)
        obtain ⟨hq4, hq99⟩ := Prod.mk.inj (hq99)
        obtain ⟨hq5, hq99⟩ := Prod.mk.inj (hq99)
        obtain ⟨hq6, hq7⟩ := Prod.mk.inj (hq99)
        subst hq1
        subst hq2
        subst hq3
        subst hq4
        subst hq5
        subst hq6
        subst hq7
        exact W.iret hx hb hr (fun t ht hW => ⟨⟨_, (), rfl, rfl, by rw [ht]; exact hP17, va_K.moved hW.alike hK, hD17⟩, hS17.F ht⟩) hS17.2.2 dX6_copy_46
      · have hm13 := zz_if c11 hm10
        refine lv_iconst (v := (-1 : Int32)) hx hb dX6_copy_27 (by decide) ?_
        obtain ⟨hq1, hq99⟩ := Prod.mk.inj (Option.some.inj hm13)
        obtain ⟨hq2, hq99⟩ := Prod.mk.inj (hq99)
        obtain ⟨hq3, hq99⟩ := Prod.mk.inj (hq99)
        obtain ⟨hq4, hq99⟩ := Prod.mk.inj (hq99)
        obtain ⟨hq5, hq99⟩ := Prod.mk.inj (hq99)
        obtain ⟨hq6, hq7⟩ := Prod.mk.inj (hq99)
        subst hq1
        subst hq2
        subst hq3
        subst hq4
        subst hq5
        subst hq6
        subst hq7
        exact W.iret hx hb hr (fun t ht hW => ⟨⟨_, (), rfl, rfl, by rw [ht]; exact hP7, va_K.moved hW.alike hK, hD7⟩, hS7.F ht⟩) hS7.2.2 dX6_copy_28
theorem iw_X6_move_X2 : ∀ w ∈ wsX20, w ∈ wsX6_move := by decide +kernel
theorem iw_X6_move_X6 : ∀ w ∈ wsX60, w ∈ wsX6_move := by decide +kernel
set_option maxHeartbeats 4000000 in
set_option maxRecDepth 100000 in
theorem c_X6_move (l : Launch) (D : va_G) (cI cB cZ : ClassId) (ta : Nat → Nat) (aV : Nat) (aT : Nat) (aTb : Nat) (aP : Nat) (aPp : Nat) (aPf : Nat) (aD : Nat) (aDp : Nat) (aDf : Nat) (aR : Nat) (aRt : Nat) (aK : Nat) (aB : Nat) (aBb : Nat) (aBs : Nat) (aH : Nat) (aHk : Nat) (aHp : Nat) (aHb : Nat) (aHr : Nat) (sz : Nat) (tl : Int32) (tb : (Nat → Int32)) (pg : Int32) (ps : Int32) (pn : Int32) (pp : (Nat → Int32)) (pf : (Nat → Int32)) (dg : Int32) (ds : Int32) (dn : Int32) (dp : (Nat → Int32)) (df : (Nat → Int32)) (rl : Int32) (rk : Int32) (rp : Int32) (rt : (Nat → Int32)) (kp : Int32) (kb : Int32) (kk : Int32) (kn : Int32) (bb : (Nat → Int32)) (bs : (Nat → Int32)) (jl : Int32) (jn : Int32) (jk : (Nat → Int32)) (jp : (Nat → Int32)) (jb : (Nat → Int32)) (jr : (Nat → Int32)) (x1 : Int32) (x2 : Int32) (r0 : Int32) (u_pp : (Nat → Int32)) (u_jl : Int32) (u_jn : Int32) (u_jk : (Nat → Int32)) (u_jp : (Nat → Int32)) (u_jb : (Nat → Int32)) (hm : m_X6_move pg pn pp jl jn jk jp jb x1 x2 = some (r0, u_pp, u_jl, u_jn, u_jk, u_jp, u_jb)) : Met l yX6_move wsX6_move ({ frames := 3, cells := 0, slots := 0, locals := 64 } : Room) (va_Pc [.ref aV, .int x1, .int x2] (PW D cI cB cZ ta (w_VB cI cB cZ aV aT aTb aP aPp aPf aD aDp aDf aR aRt aK aB aBb aBs aH aHk aHp aHb aHr tl tb pg ps pn pp pf dg ds dn dp df rl rk rp rt kp kb kk kn bb bs jl jn jk jp jb jr) sz)) (QZ .boolean D cI cB cZ (va_A (w_VB cI cB cZ aV aT aTb aP aPp aPf aD aDp aDf aR aRt aK aB aBb aBs aH aHk aHp aHb aHr tl tb pg ps pn pp pf dg ds dn dp df rl rk rp rt kp kb kk kn bb bs jl jn jk jp jb jr) sz) (w_VB cI cB cZ aV aT aTb aP aPp aPf aD aDp aDf aR aRt aK aB aBb aBs aH aHk aHp aHb aHr tl tb pg ps pn u_pp pf dg ds dn dp df rl rk rp rt kp kb kk kn bb bs u_jl u_jn u_jk u_jp u_jb jr) r0) 0 0 (va_A (w_VB cI cB cZ aV aT aTb aP aPp aPf aD aDp aDf aR aRt aK aB aBb aBs aH aHk aHp aHb aHr tl tb pg ps pn pp pf dg ds dn dp df rl rk rp rt kp kb kk kn bb bs jl jn jk jp jb jr) sz) := by
  refine Met.ofW (cc := cX6_move) (maxL := 3) (ret := (some .boolean)) (by decide) rfl ?_
  intro p e s m args below meth c s₁ B hml hv
  obtain ⟨rfl, hsz, hP, hK, hD0, hG⟩ := hv
  have hx := B.exec
  have hb := B.bytes
  have hr := B.returns
  have hts := atoms_spec (ws := wsX6_move) B.pre
  have hown : s.vm.findClass RX6 = some m.cls := findClass_of_methodNamed B.named
  have hlocks := B.notSynchronized
  subst hsz
  have hD := hD0.self (sz := s.heap.size)
  clear hD0
  have hA0 : ∀ q : Nat, s.heap.size ≤ q → va_A (w_VB cI cB cZ aV aT aTb aP aPp aPf aD aDp aDf aR aRt aK aB aBb aBs aH aHk aHp aHb aHr tl tb pg ps pn pp pf dg ds dn dp df rl rk rp rt kp kb kk kn bb bs jl jn jk jp jb jr) s.heap.size q := fun q h => Or.inr h
  generalize hAe : va_A (w_VB cI cB cZ aV aT aTb aP aPp aPf aD aDp aDf aR aRt aK aB aBb aBs aH aHk aHp aHb aHr tl tb pg ps pn pp pf dg ds dn dp df rl rk rp rt kp kb kk kn bb bs jl jn jk jp jb jr) s.heap.size = A at hD hG hA0 ⊢
  have hA : ∀ q : Nat, s.heap.size ≤ q → A q := hA0
  clear hA0
  have hS : va_S A s.heap s.heap [] := va_S.rf
  have iw_X2 := iw_X6_move_X2
  have iw_X6 := iw_X6_move_X6
  have hl := lv_entry ([.ref aV, .int x1, .int x2]) (n := 3) (Nat.le_of_ble_eq_true rfl)
  rw [lg_entry_eq]
  generalize (lg_sl ([.ref aV, .int x1, .int x2]) ++ List.replicate (3 - (lg_sl ([.ref aV, .int x1, .int x2])).length) Slot.unset).toArray = ls at hl ⊢
  have hl : lv_has ls 3 [(0, .ref aV), (1, .int x1), (2, .int x2)] := hl
  replace hm : (ob1 (m_X2_isNode pn x1) (fun r1 => (if r1 = 0 then some ((0 : Int32), pp, jl, jn, jk, jp, jb) else (if x1 = 0 then some ((0 : Int32), pp, jl, jn, jk, jp, jb) else (ob1 (m_X2_isGroup pg pn x2) (fun r9 => (if r9 = 0 then some ((0 : Int32), pp, jl, jn, jk, jp, jb) else (if x1 < 0 ∨ 20 ≤ x1.toNatClampNeg then none else (if (pp x1.toNatClampNeg) = x2 then some ((0 : Int32), pp, jl, jn, jk, jp, jb) else (ob1 (m_X2_isWithin pn pp x2 x1) (fun r19 => (if r19 = 0 then (ob5 (m_X1_keepParent jl jn jk jp jb pp x1) (fun jl_24 jn_24 jk_24 jp_24 jb_24 => (if x1 < 0 ∨ 20 ≤ x1.toNatClampNeg then none else some ((1 : Int32), (upd pp x1.toNatClampNeg x2), jl_24, jn_24, jk_24, jp_24, jb_24)))) else some ((0 : Int32), pp, jl, jn, jk, jp, jb))))))))))))) = some (r0, u_pp, u_jl, u_jn, u_jk, u_jp, u_jb) := hm
  refine lv_aload_n hx hb dX6_move_0 rfl (lv_at hl 0 rfl) ?_
  refine va_get (D := D) (ci := 6) (v := .ref aP) (C := RX6) (T := TX6) (N := 6) hx hb hts iw_X6 hown hK hP 0 rfl rfl 1 (by decide) (hts (.fieldLink RX6 19 "VarianceBridge" "plan" "LVarianceBridge$Plan;") (by decide +kernel)) (fun _ h9 => h9) rfl dX6_move_1 ?_
  refine lv_iload_n hx hb dX6_move_4 rfl (lv_at hl 1 rfl) ?_
  obtain ⟨r1, h1, hm1⟩ := ob1_e hm
  refine gcall_b (ws' := (w_VB cI cB cZ aV aT aTb aP aPp aPf aD aDp aDf aR aRt aK aB aBb aBs aH aHk aHp aHb aHr tl tb pg ps pn pp pf dg ds dn dp df rl rk rp rt kp kb kk kn bb bs jl jn jk jp jb jr)) (va_runVN (As := [.int x1]) (rest := []) ⟨hx, hb, hml, hown, hts⟩ (c_X2_isNode l D cI cB cZ ta aP aPp aPf s.heap.size pg ps pn pp pf x1 r1 h1) ⟨va_cnB 1 hts gX6_move_X2_isNode_n96 rfl rfl rfl (hG.1 (.methodLinkNest RX6 96 yX2_isNode RX6) (by decide +kernel)) (hts (.initialized RX2) (by decide +kernel)) (by decide +kernel) ⟨(Nat.le_of_ble_eq_true rfl), (Nat.le_of_ble_eq_true rfl)⟩, hts (.instanceMethod yX2_isNode) (by decide +kernel), hts (.selects RX2 yX2_isNode yX2_isNode) (by decide +kernel)⟩ ⟨PW_blind, va_recv hK hP rfl (q0 := 3) rfl, PW_at hP hD hK hS hA hG [3, 4, 5] rfl (by decide)⟩ rfl rfl hl.1 rfl (lv_room (Nat.le_of_ble_eq_true rfl)) dX6_move_5 ⟨(Nat.le_of_ble_eq_true rfl), (Nat.le_of_ble_eq_true rfl)⟩) hP hD hS hA [3, 4, 5] [0, 1, 2, 6, 7, 8, 9, 10, 11, 12, 13, 14, 15, 16, 17, 18, 19] [0, 1, 2, 17, 18, 19, 3, 4, 5, 6, 7, 8, 9, 10, 11, 12, 13, 14, 15, 16] rfl rfl (by decide) (by decide) (by decide) rfl (fun H2 lo2 hz1 hP2 hD2 hS2 => ?_)
  clear hP hD hS
  refine lv_if_eq (tgt := 26) hx hb dX6_move_8 (by decide) (fun c3 => ?_) (fun c3 => ?_)
  · have hm4 := zz_if c3 hm1
    refine lv_iconst (v := (0 : Int32)) hx hb dX6_move_26 (by decide) ?_
    obtain ⟨hq1, hq99⟩ := Prod.mk.inj (Option.some.inj hm4)
    obtain ⟨hq2, hq99⟩ := Prod.mk.inj (hq99)
    obtain ⟨hq3, hq99⟩ := Prod.mk.inj (hq99)
    obtain ⟨hq4, hq99⟩ := Prod.mk.inj (hq99)
    obtain ⟨hq5, hq99⟩ := Prod.mk.inj (hq99)
    obtain ⟨hq6, hq7⟩ := Prod.mk.inj (hq99)
    subst hq1
    subst hq2
    subst hq3
    subst hq4
    subst hq5
    subst hq6
    subst hq7
    exact W.zret (ty := .boolean) hx hb hr (by decide) (fun t ht hW => ⟨⟨_, (), rfl, ⟨rfl, (by decide)⟩, by rw [ht]; exact hP2, va_K.moved hW.alike hK, hD2⟩, hS2.F ht⟩) hS2.2.2 dX6_move_27
  · have hm5 := zz_nf c3 hm1
    refine lv_iload_n hx hb dX6_move_11 rfl (lv_at hl 1 rfl) ?_
    refine lv_if_eq (tgt := 26) hx hb dX6_move_12 (by decide) (fun c6 => ?_) (fun c6 => ?_)
    · have hm7 := zz_if c6 hm5
      refine lv_iconst (v := (0 : Int32)) hx hb dX6_move_26 (by decide) ?_
      obtain ⟨hq1, hq99⟩ := Prod.mk.inj (Option.some.inj hm7)
      obtain ⟨hq2, hq99⟩ := Prod.mk.inj (hq99)
      obtain ⟨hq3, hq99⟩ := Prod.mk.inj (hq99)
      obtain ⟨hq4, hq99⟩ := Prod.mk.inj (hq99)
      obtain ⟨hq5, hq99⟩ := Prod.mk.inj (hq99)
      obtain ⟨hq6, hq7⟩ := Prod.mk.inj (hq99)
      subst hq1
      subst hq2
      subst hq3
      subst hq4
      subst hq5
      subst hq6
      subst hq7
      exact W.zret (ty := .boolean) hx hb hr (by decide) (fun t ht hW => ⟨⟨_, (), rfl, ⟨rfl, (by decide)⟩, by rw [ht]; exact hP2, va_K.moved hW.alike hK, hD2⟩, hS2.F ht⟩) hS2.2.2 dX6_move_27
    · have hm8 := zz_nf c6 hm5
      refine lv_aload_n hx hb dX6_move_15 rfl (lv_at hl 0 rfl) ?_
      refine va_get (D := D) (ci := 6) (v := .ref aP) (C := RX6) (T := TX6) (N := 6) hx hb hts iw_X6 hown hK hP2 0 rfl rfl 1 (by decide) (hts (.fieldLink RX6 19 "VarianceBridge" "plan" "LVarianceBridge$Plan;") (by decide +kernel)) (fun _ h9 => h9) rfl dX6_move_16 ?_
      refine lv_iload_n hx hb dX6_move_19 rfl (lv_at hl 2 rfl) ?_
      obtain ⟨r9, h9, hm9⟩ := ob1_e hm8
      refine gcall_b (ws' := (w_VB cI cB cZ aV aT aTb aP aPp aPf aD aDp aDf aR aRt aK aB aBb aBs aH aHk aHp aHb aHr tl tb pg ps pn pp pf dg ds dn dp df rl rk rp rt kp kb kk kn bb bs jl jn jk jp jb jr)) (va_runVN (As := [.int x2]) (rest := []) ⟨hx, hb, hml, hown, hts⟩ (c_X2_isGroup l D cI cB cZ ta aP aPp aPf H2.size pg ps pn pp pf x2 r9 h9) ⟨va_cnB 1 hts gX6_move_X2_isGroup_n111 rfl rfl rfl (hG.1 (.methodLinkNest RX6 111 yX2_isGroup RX6) (by decide +kernel)) (hts (.initialized RX2) (by decide +kernel)) (by decide +kernel) ⟨(Nat.le_of_ble_eq_true rfl), (Nat.le_of_ble_eq_true rfl)⟩, hts (.instanceMethod yX2_isGroup) (by decide +kernel), hts (.selects RX2 yX2_isGroup yX2_isGroup) (by decide +kernel)⟩ ⟨PW_blind, va_recv hK hP2 rfl (q0 := 3) rfl, PW_at hP2 hD2 hK hS2 hA hG [3, 4, 5] rfl (by decide)⟩ rfl rfl hl.1 rfl (lv_room (Nat.le_of_ble_eq_true rfl)) dX6_move_20 ⟨(Nat.le_of_ble_eq_true rfl), (Nat.le_of_ble_eq_true rfl)⟩) hP2 hD2 hS2 hA [3, 4, 5] [0, 1, 2, 6, 7, 8, 9, 10, 11, 12, 13, 14, 15, 16, 17, 18, 19] [0, 1, 2, 17, 18, 19, 3, 4, 5, 6, 7, 8, 9, 10, 11, 12, 13, 14, 15, 16] rfl rfl (by decide) (by decide) (by decide) rfl (fun H10 lo10 hz9 hP10 hD10 hS10 => ?_)
      clear hP2 hD2 hS2
      refine lv_if_ne (tgt := 28) hx hb dX6_move_23 (by decide) (fun c11 => ?_) (fun c11 => ?_)
      · have hm12 := zz_nf c11 hm9
        refine lv_aload_n hx hb dX6_move_28 rfl (lv_at hl 0 rfl) ?_
        refine va_get (D := D) (ci := 6) (v := .ref aP) (C := RX6) (T := TX6) (N := 6) hx hb hts iw_X6 hown hK hP10 0 rfl rfl 1 (by decide) (hts (.fieldLink RX6 19 "VarianceBridge" "plan" "LVarianceBridge$Plan;") (by decide +kernel)) (fun _ h9 => h9) rfl dX6_move_29 ?_
        refine va_getN (D := D) (ci := 2) (v := .ref aPp) (C := RX2) (T := TX2) (N := 5) hx hb hts iw_X2 hown hK hP10 3 rfl rfl 0 (by decide) (va_Nw.use rfl (hG.1 (.fieldLinkNest RX6 107 RX2 "parents" "[I" RX6) (by decide +kernel))) (fun _ h9 => h9) rfl dX6_move_32 ?_
        refine lv_iload_n hx hb dX6_move_35 rfl (lv_at hl 1 rfl) ?_
        obtain ⟨c14, hm15⟩ := zz_no hm12
        refine va_iald hx hb hK hP10 4 0 rfl rfl c14 dX6_move_36 ?_
        refine lv_iload_n hx hb dX6_move_37 rfl (lv_at hl 2 rfl) ?_
        refine lv_icmp_eq (tgt := 53) hx hb dX6_move_38 (by decide) (fun c16 => ?_) (fun c16 => ?_)
        · have hm17 := zz_if c16 hm15
          refine lv_iconst (v := (0 : Int32)) hx hb dX6_move_53 (by decide) ?_
          obtain ⟨hq1, hq99⟩ := Prod.mk.inj (Option.some.inj hm17)
          obtain ⟨hq2, hq99⟩ := Prod.mk.inj (hq99)
          obtain ⟨hq3, hq99⟩ := Prod.mk.inj (hq99)
          obtain ⟨hq4, hq99⟩ := Prod.mk.inj (hq99)
          obtain ⟨hq5, hq99⟩ := Prod.mk.inj (hq99)
          obtain ⟨hq6, hq7⟩ := Prod.mk.inj (hq99)
          subst hq1
          subst hq2
          subst hq3
          subst hq4
          subst hq5
          subst hq6
          subst hq7
          exact W.zret (ty := .boolean) hx hb hr (by decide) (fun t ht hW => ⟨⟨_, (), rfl, ⟨rfl, (by decide)⟩, by rw [ht]; exact hP10, va_K.moved hW.alike hK, hD10⟩, hS10.F ht⟩) hS10.2.2 dX6_move_54
        · have hm18 := zz_nf c16 hm15
          refine lv_aload_n hx hb dX6_move_41 rfl (lv_at hl 0 rfl) ?_
          refine va_get (D := D) (ci := 6) (v := .ref aP) (C := RX6) (T := TX6) (N := 6) hx hb hts iw_X6 hown hK hP10 0 rfl rfl 1 (by decide) (hts (.fieldLink RX6 19 "VarianceBridge" "plan" "LVarianceBridge$Plan;") (by decide +kernel)) (fun _ h9 => h9) rfl dX6_move_42 ?_
          refine lv_iload_n hx hb dX6_move_45 rfl (lv_at hl 2 rfl) ?_
          refine lv_iload_n hx hb dX6_move_46 rfl (lv_at hl 1 rfl) ?_
          obtain ⟨r19, h19, hm19⟩ := ob1_e hm18
          refine gcall_b (ws' := (w_VB cI cB cZ aV aT aTb aP aPp aPf aD aDp aDf aR aRt aK aB aBb aBs aH aHk aHp aHb aHr tl tb pg ps pn pp pf dg ds dn dp df rl rk rp rt kp kb kk kn bb bs jl jn jk jp jb jr)) (va_runVN (As := [.int x2, .int x1]) (rest := []) ⟨hx, hb, hml, hown, hts⟩ (c_X2_isWithin l D cI cB cZ ta aP aPp aPf H10.size pg ps pn pp pf x2 x1 r19 h19) ⟨va_cnB 2 hts gX6_move_X2_isWithin_n183 rfl rfl rfl (hG.1 (.methodLinkNest RX6 183 yX2_isWithin RX6) (by decide +kernel)) (hts (.initialized RX2) (by decide +kernel)) (by decide +kernel) ⟨(Nat.le_of_ble_eq_true rfl), (Nat.le_of_ble_eq_true rfl)⟩, hts (.instanceMethod yX2_isWithin) (by decide +kernel), hts (.selects RX2 yX2_isWithin yX2_isWithin) (by decide +kernel)⟩ ⟨PW_blind, va_recv hK hP10 rfl (q0 := 3) rfl, PW_at hP10 hD10 hK hS10 hA hG [3, 4, 5] rfl (by decide)⟩ rfl rfl hl.1 rfl (lv_room (Nat.le_of_ble_eq_true rfl)) dX6_move_47 ⟨(Nat.le_of_ble_eq_true rfl), (Nat.le_of_ble_eq_true rfl)⟩) hP10 hD10 hS10 hA [3, 4, 5] [0, 1, 2, 6, 7, 8, 9, 10, 11, 12, 13, 14, 15, 16, 17, 18, 19] [0, 1, 2, 17, 18, 19, 3, 4, 5, 6, 7, 8, 9, 10, 11, 12, 13, 14, 15, 16] rfl rfl (by decide) (by decide) (by decide) rfl (fun H20 lo20 hz19 hP20 hD20 hS20 => ?_)
          clear hP10 hD10 hS10
          refine lv_if_eq (tgt := 55) hx hb dX6_move_50 (by decide) (fun c21 => ?_) (fun c21 => ?_)
          · have hm22 := zz_if c21 hm19
            refine lv_aload_n hx hb dX6_move_55 rfl (lv_at hl 0 rfl) ?_
            refine va_get (D := D) (ci := 6) (v := .ref aH) (C := RX6) (T := TX6) (N := 6) hx hb hts iw_X6 hown hK hP20 0 rfl rfl 5 (by decide) (hts (.fieldLink RX6 47 "VarianceBridge" "history" "LVarianceBridge$History;") (by decide +kernel)) (fun _ h9 => h9) rfl dX6_move_56 ?_
            refine lv_iload_n hx hb dX6_move_59 rfl (lv_at hl 1 rfl) ?_
            obtain ⟨jl_24, jn_24, jk_24, jp_24, jb_24, h24, hm24⟩ := ob5_e hm22
            refine gcall_v (ws' := (w_VB cI cB cZ aV aT aTb aP aPp aPf aD aDp aDf aR aRt aK aB aBb aBs aH aHk aHp aHb aHr tl tb pg ps pn pp pf dg ds dn dp df rl rk rp rt kp kb kk kn bb bs jl_24 jn_24 jk_24 jp_24 jb_24 jr)) (va_runVN (As := [.int x1]) (rest := []) ⟨hx, hb, hml, hown, hts⟩ (c_X1_keepParent l D cI cB cZ ta aH aHk aHp aHb aHr aP aPp aPf H20.size jl jn jk jp jb jr pg ps pn pp pf x1 jl_24 jn_24 jk_24 jp_24 jb_24 h24) ⟨va_cnB 1 hts gX6_move_X1_keepParent_n186 rfl rfl rfl (hG.1 (.methodLinkNest RX6 186 yX1_keepParent RX6) (by decide +kernel)) (hts (.initialized RX1) (by decide +kernel)) (by decide +kernel) ⟨(Nat.le_of_ble_eq_true rfl), (Nat.le_of_ble_eq_true rfl)⟩, hts (.instanceMethod yX1_keepParent) (by decide +kernel), hts (.selects RX1 yX1_keepParent yX1_keepParent) (by decide +kernel)⟩ ⟨PW_blind, va_recv hK hP20 rfl (q0 := 15) rfl, PW_at hP20 hD20 hK hS20 hA hG [15, 16, 17, 18, 19, 3, 4, 5] rfl (by decide)⟩ rfl rfl hl.1 rfl (lv_room (Nat.le_of_ble_eq_true rfl)) dX6_move_60 ⟨(Nat.le_of_ble_eq_true rfl), (Nat.le_of_ble_eq_true rfl)⟩) hP20 hD20 hS20 hA [15, 16, 17, 18, 19, 3, 4, 5] [0, 1, 2, 6, 7, 8, 9, 10, 11, 12, 13, 14] [0, 1, 2, 17, 18, 19, 3, 4, 5, 6, 7, 8, 9, 10, 11, 12, 13, 14, 15, 16] rfl rfl (by decide) (by decide) (by decide) rfl (fun H25 lo25 hP25 hD25 hS25 => ?_)
            clear hP20 hD20 hS20
            refine lv_aload_n hx hb dX6_move_63 rfl (lv_at hl 0 rfl) ?_
            refine va_get (D := D) (ci := 6) (v := .ref aP) (C := RX6) (T := TX6) (N := 6) hx hb hts iw_X6 hown hK hP25 0 rfl rfl 1 (by decide) (hts (.fieldLink RX6 19 "VarianceBridge" "plan" "LVarianceBridge$Plan;") (by decide +kernel)) (fun _ h9 => h9) rfl dX6_move_64 ?_
            refine va_getN (D := D) (ci := 2) (v := .ref aPp) (C := RX2) (T := TX2) (N := 5) hx hb hts iw_X2 hown hK hP25 3 rfl rfl 0 (by decide) (va_Nw.use rfl (hG.1 (.fieldLinkNest RX6 107 RX2 "parents" "[I" RX6) (by decide +kernel))) (fun _ h9 => h9) rfl dX6_move_67 ?_
            refine lv_iload_n hx hb dX6_move_70 rfl (lv_at hl 1 rfl) ?_
            refine lv_iload_n hx hb dX6_move_71 rfl (lv_at hl 2 rfl) ?_
            obtain ⟨c26, hm27⟩ := zz_no hm24
            refine va_iast hx hb hK hP25 hD25 hS25 4 0 rfl rfl c26 dX6_move_72 (fun H28 lo28 hP28 hD28 hS28 => ?_)
            replace hP28 : va_P D vwCl (w_VB cI cB cZ aV aT aTb aP aPp aPf aD aDp aDf aR aRt aK aB aBb aBs aH aHk aHp aHb aHr tl tb pg ps pn (upd pp x1.toNatClampNeg x2) pf dg ds dn dp df rl rk rp rt kp kb kk kn bb bs jl_24 jn_24 jk_24 jp_24 jb_24 jr) H28 := hP28
            replace hD28 : va_D A (w_VB cI cB cZ aV aT aTb aP aPp aPf aD aDp aDf aR aRt aK aB aBb aBs aH aHk aHp aHb aHr tl tb pg ps pn (upd pp x1.toNatClampNeg x2) pf dg ds dn dp df rl rk rp rt kp kb kk kn bb bs jl_24 jn_24 jk_24 jp_24 jb_24 jr) := hD28
            clear hP25 hD25 hS25
            refine lv_iconst (v := (1 : Int32)) hx hb dX6_move_73 (by decide) ?_
            obtain ⟨hq1, hq99⟩ := Prod.mk.inj (Option.some.inj hm27)
            obtain ⟨hq2, hq99⟩ := Prod.mk.inj (hq99)
            obtain ⟨hq3, hq99⟩ := Prod.mk.inj (hq99)
            obtain ⟨hq4, hq99⟩ := Prod.mk.inj (hq99)
            obtain ⟨hq5, hq99⟩ := Prod.mk.inj (hq99)
            obtain ⟨hq6, hq7⟩ := Prod.mk.inj (hq99)
            subst hq1
            subst hq2
            subst hq3
            subst hq4
            subst hq5
            subst hq6
            subst hq7
            exact W.zret (ty := .boolean) hx hb hr (by decide) (fun t ht hW => ⟨⟨_, (), rfl, ⟨rfl, (by decide)⟩, by rw [ht]; exact hP28, va_K.moved hW.alike hK, hD28⟩, hS28.F ht⟩) hS28.2.2 dX6_move_74
          · have hm23 := zz_nf c21 hm19
            refine lv_iconst (v := (0 : Int32)) hx hb dX6_move_53 (by decide) ?_
            obtain ⟨hq1, hq99⟩ := Prod.mk.inj (Option.some.inj hm23)
            obtain ⟨hq2, hq99⟩ := Prod.mk.inj (hq99)
            obtain ⟨hq3, hq99⟩ := Prod.mk.inj (hq99)
            obtain ⟨hq4, hq99⟩ := Prod.mk.inj (hq99)
            obtain ⟨hq5, hq99⟩ := Prod.mk.inj (hq99)
            obtain ⟨hq6, hq7⟩ := Prod.mk.inj (hq99)
            subst hq1
            subst hq2
            subst hq3
            subst hq4
            subst hq5
            subst hq6
            subst hq7
            exact W.zret (ty := .boolean) hx hb hr (by decide) (fun t ht hW => ⟨⟨_, (), rfl, ⟨rfl, (by decide)⟩, by rw [ht]; exact hP20, va_K.moved hW.alike hK, hD20⟩, hS20.F ht⟩) hS20.2.2 dX6_move_54
      · have hm13 := zz_if c11 hm9
        refine lv_iconst (v := (0 : Int32)) hx hb dX6_move_26 (by decide) ?_
        obtain ⟨hq1, hq99⟩ := Prod.mk.inj (Option.some.inj hm13)
        obtain ⟨hq2, hq99⟩ := Prod.mk.inj (hq99)
        obtain ⟨hq3, hq99⟩ := Prod.mk.inj (hq99)
        obtain ⟨hq4, hq99⟩ := Prod.mk.inj (hq99)
        obtain ⟨hq5, hq99⟩ := Prod.mk.inj (hq99)
        obtain ⟨hq6, hq7⟩ := Prod.mk.inj (hq99)
        subst hq1
        subst hq2
        subst hq3
        subst hq4
        subst hq5
        subst hq6
        subst hq7
        exact W.zret (ty := .boolean) hx hb hr (by decide) (fun t ht hW => ⟨⟨_, (), rfl, ⟨rfl, (by decide)⟩, by rw [ht]; exact hP10, va_K.moved hW.alike hK, hD10⟩, hS10.F ht⟩) hS10.2.2 dX6_move_27
