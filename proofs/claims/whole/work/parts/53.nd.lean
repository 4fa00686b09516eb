/-! node, where it answers -/
noncomputable def k_X6_node_20 (pg : Int32) (pn : Int32) (pp : (Nat → Int32)) : Option (Int32) := none
noncomputable def m_X6_node (pg : Int32) (pn : Int32) (pp : (Nat → Int32)) (x1 : Int32) (x2 : Int32) : Option (Int32) := (ob1 (m_X2_isNode pn x1) (fun r1 => (if r1 = 0 then (k_X6_node_20 pg pn pp) else (if x2 < 0 then (k_X6_node_20 pg pn pp) else (if x2 ≤ (3 : Int32) then (if x2 = (0 : Int32) then (if x1 < 0 ∨ 20 ≤ x1.toNatClampNeg then none else some (pp x1.toNatClampNeg)) else (if x2 = (1 : Int32) then (ob1 (m_X2_isGroup pg pn x1) (fun r20 => (if r20 = 0 then some (0 : Int32) else some (1 : Int32)))) else (if x2 = (2 : Int32) then (ob1 (m_X2_nodesRightBelow pn pp x1) (fun r28 => some r28)) else (ob1 (m_X2_leavesBelow pg pn pp x1) (fun r30 => some r30))))) else (k_X6_node_20 pg pn pp))))))
def at13N : List Cond := at13 RX6 104 "java/util/NoSuchElementException" "java/lang/RuntimeException" ["java/lang/Exception"]
def wsX6_nodeB : List Cond := .code yX6_node cX6_node 3 (some .int) :: ((wsX6_node_r1 ++ wsX6_node_r2) ++ wsX60 ++ wsX20 ++ at13N.filter goodWord)
def wsL_nodeB : List Cond := .codeWith yL_node cL_node 5 (some .int) [(0, 10, 13, 13)] :: ((wsL_node_r1 ++ wsL_node_r2) ++ wsX60 ++ wsX20 ++ at13N.filter goodWord)
set_option maxRecDepth 20000 in
theorem ggX6_node_X2_isNodeB : GoodIn wsX6_nodeB wsX2_isNode := goodIn_r _ [7, 8, 35, 36, 37, 38, 39] (by decide +kernel) (by decide +kernel)
set_option maxRecDepth 20000 in
theorem gX6_node_X2_isNode_n96B : GoodIn wsX6_nodeB (wsX2_isNode) := ggX6_node_X2_isNodeB
set_option maxRecDepth 20000 in
theorem ggX6_node_X2_isGroupB : GoodIn wsX6_nodeB wsX2_isGroup := goodIn_r _ [11, 12, 13, 4, 6, 5, 7, 8, 35, 36, 37, 38, 39] (by decide +kernel) (by decide +kernel)
set_option maxRecDepth 20000 in
theorem gX6_node_X2_isGroup_n111B : GoodIn wsX6_nodeB (wsX2_isGroup) := ggX6_node_X2_isGroupB
set_option maxRecDepth 20000 in
theorem ggX6_node_X2_nodesRightBelowB : GoodIn wsX6_nodeB wsX2_nodesRightBelow := goodIn_r _ [16, 8, 17, 35, 36, 37, 38, 39] (by decide +kernel) (by decide +kernel)
set_option maxRecDepth 20000 in
theorem gX6_node_X2_nodesRightBelow_n114B : GoodIn wsX6_nodeB (wsX2_nodesRightBelow) := ggX6_node_X2_nodesRightBelowB
set_option maxRecDepth 20000 in
theorem ggX6_node_X2_leavesBelowB : GoodIn wsX6_nodeB wsX2_leavesBelow := goodIn_r _ [20, 8, 21, 22, 23, 5, 24, 12, 13, 4, 6, 7, 25, 26, 27, 28, 17, 35, 36, 37, 38, 39] (by decide +kernel) (by decide +kernel)
set_option maxRecDepth 20000 in
theorem gX6_node_X2_leavesBelow_n84B : GoodIn wsX6_nodeB (wsX2_leavesBelow) := ggX6_node_X2_leavesBelowB
set_option maxRecDepth 20000 in
theorem ggL_node_X6_nodeB : GoodIn wsL_nodeB wsX6_nodeB := goodIn_ca (goodIn_r _ [6, 7, 8, 9, 10, 11, 12, 13, 14, 15, 16, 17, 18, 19, 20, 21, 22, 23, 24, 25, 26, 27, 28, 29, 30, 31, 32, 33, 34, 35, 36, 37, 38, 39, 40, 41, 42, 43, 44, 45] (by decide +kernel) (by decide +kernel)) (goodIn_sub (fun _ h => List.mem_cons_of_mem _ (List.mem_append_right _ h)) (by decide +kernel))
set_option maxRecDepth 20000 in
theorem gL_node_X6_nodeB : GoodIn wsL_nodeB (wsV RL 7 RX6 yX6_node wsX6_nodeB) := goodIn_app (goodIn_of _ (by decide +kernel)) ggL_node_X6_nodeB
theorem iw_X6_node_X2B : ∀ w ∈ wsX20, w ∈ wsX6_nodeB := by decide +kernel
theorem iw_X6_node_X6B : ∀ w ∈ wsX60, w ∈ wsX6_nodeB := by decide +kernel
set_option maxHeartbeats 4000000 in
set_option maxRecDepth 100000 in
theorem c_X6_node (l : Launch) (D : va_G) (cI cB cZ : ClassId) (ta : Nat → Nat) (aV : Nat) (aT : Nat) (aTb : Nat) (aP : Nat) (aPp : Nat) (aPf : Nat) (aD : Nat) (aDp : Nat) (aDf : Nat) (aR : Nat) (aRt : Nat) (aK : Nat) (aB : Nat) (aBb : Nat) (aBs : Nat) (aH : Nat) (aHk : Nat) (aHp : Nat) (aHb : Nat) (aHr : Nat) (sz : Nat) (tl : Int32) (tb : (Nat → Int32)) (pg : Int32) (ps : Int32) (pn : Int32) (pp : (Nat → Int32)) (pf : (Nat → Int32)) (dg : Int32) (ds : Int32) (dn : Int32) (dp : (Nat → Int32)) (df : (Nat → Int32)) (rl : Int32) (rk : Int32) (rp : Int32) (rt : (Nat → Int32)) (kp : Int32) (kb : Int32) (kk : Int32) (kn : Int32) (bb : (Nat → Int32)) (bs : (Nat → Int32)) (jl : Int32) (jn : Int32) (jk : (Nat → Int32)) (jp : (Nat → Int32)) (jb : (Nat → Int32)) (jr : (Nat → Int32)) (x1 : Int32) (x2 : Int32) (r0 : Int32) (hm : m_X6_node pg pn pp x1 x2 = some r0) : Met l yX6_node wsX6_nodeB ({ frames := 3, cells := 0, slots := 0, locals := 68 } : Room) (va_Pc [.ref aV, .int x1, .int x2] (PW D cI cB cZ ta (w_VB cI cB cZ aV aT aTb aP aPp aPf aD aDp aDf aR aRt aK aB aBb aBs aH aHk aHp aHb aHr tl tb pg ps pn pp pf dg ds dn dp df rl rk rp rt kp kb kk kn bb bs jl jn jk jp jb jr) sz)) (QI D cI cB cZ (va_A (w_VB cI cB cZ aV aT aTb aP aPp aPf aD aDp aDf aR aRt aK aB aBb aBs aH aHk aHp aHb aHr tl tb pg ps pn pp pf dg ds dn dp df rl rk rp rt kp kb kk kn bb bs jl jn jk jp jb jr) sz) (w_VB cI cB cZ aV aT aTb aP aPp aPf aD aDp aDf aR aRt aK aB aBb aBs aH aHk aHp aHb aHr tl tb pg ps pn pp pf dg ds dn dp df rl rk rp rt kp kb kk kn bb bs jl jn jk jp jb jr) r0) 0 0 (va_A (w_VB cI cB cZ aV aT aTb aP aPp aPf aD aDp aDf aR aRt aK aB aBb aBs aH aHk aHp aHb aHr tl tb pg ps pn pp pf dg ds dn dp df rl rk rp rt kp kb kk kn bb bs jl jn jk jp jb jr) sz) := by
  refine Met.ofW (cc := cX6_node) (maxL := 3) (ret := (some .int)) (by decide) rfl ?_
  intro p e s m args below meth c s₁ B hml hv
  obtain ⟨rfl, hsz, hP, hK, hD0, hG⟩ := hv
  have hx := B.exec
  have hb := B.bytes
  have hr := B.returns
  have hts := atoms_spec (ws := wsX6_nodeB) B.pre
  have hown : s.vm.findClass RX6 = some m.cls := findClass_of_methodNamed B.named
  have hlocks := B.notSynchronized
  subst hsz
  have hD := hD0.self (sz := s.heap.size)
  clear hD0
  have hA0 : ∀ q : Nat, s.heap.size ≤ q → va_A (w_VB cI cB cZ aV aT aTb aP aPp aPf aD aDp aDf aR aRt aK aB aBb aBs aH aHk aHp aHb aHr tl tb pg ps pn pp pf dg ds dn dp df rl rk rp rt kp kb kk kn bb bs jl jn jk jp jb jr) s.heap.size q := fun q h => Or.inr h
  generalize hAe : va_A (w_VB cI cB cZ aV aT aTb aP aPp aPf aD aDp aDf aR aRt aK aB aBb aBs aH aHk aHp aHb aHr tl tb pg ps pn pp pf dg ds dn dp df rl rk rp rt kp kb kk kn bb bs jl jn jk jp jb jr) s.heap.size = A at hD hG hA0 ⊢
  have hA : ∀ q : Nat, s.heap.size ≤ q → A q := hA0
  clear hA0
  have hS : va_S A s.heap s.heap [] := va_S.rf
  have iw_X2 := iw_X6_node_X2B
  have iw_X6 := iw_X6_node_X6B
  have hk_20 : k_X6_node_20 pg pn pp = some r0 → ∀ (ls : Array Slot) (H : Heap) (lo : List Loc), lv_has ls 3 [] → va_P D vwCl (w_VB cI cB cZ aV aT aTb aP aPp aPf aD aDp aDf aR aRt aK aB aBb aBs aH aHk aHp aHb aHr tl tb pg ps pn pp pf dg ds dn dp df rl rk rp rt kp kb kk kn bb bs jl jn jk jp jb jr) H → va_D A (w_VB cI cB cZ aV aT aTb aP aPp aPf aD aDp aDf aR aRt aK aB aBb aBs aH aHk aHp aHb aHr tl tb pg ps pn pp pf dg ds dn dp df rl rk rp rt kp kb kk kn bb bs jl jn jk jp jb jr) → va_S A s.heap H lo → W p l e (headSpec wsX6_nodeB ({ frames := 3, cells := 0, slots := 0, locals := 68 } : Room)).room s m (([.ref aV, .int x1, .int x2] : List Value).toArray) below meth c H lo 0 0 (MQ below (QI D cI cB cZ A (w_VB cI cB cZ aV aT aTb aP aPp aPf aD aDp aDf aR aRt aK aB aBb aBs aH aHk aHp aHb aHr tl tb pg ps pn pp pf dg ds dn dp df rl rk rp rt kp kb kk kn bb bs jl jn jk jp jb jr) r0) (([.ref aV, .int x1, .int x2] : List Value).toArray) s 0 0 A) (F0 m 20 ls []) := by
    intro hm ls H lo hl hP hD hS
    replace hm : none = some r0 := hm
    exact zz_nn hm
  have hl := lv_entry ([.ref aV, .int x1, .int x2]) (n := 3) (Nat.le_of_ble_eq_true rfl)
  rw [lg_entry_eq]
  generalize (lg_sl ([.ref aV, .int x1, .int x2]) ++ List.replicate (3 - (lg_sl ([.ref aV, .int x1, .int x2])).length) Slot.unset).toArray = ls at hl ⊢
  have hl : lv_has ls 3 [(0, .ref aV), (1, .int x1), (2, .int x2)] := hl
  replace hm : (ob1 (m_X2_isNode pn x1) (fun r1 => (if r1 = 0 then (k_X6_node_20 pg pn pp) else (if x2 < 0 then (k_X6_node_20 pg pn pp) else (if x2 ≤ (3 : Int32) then (if x2 = (0 : Int32) then (if x1 < 0 ∨ 20 ≤ x1.toNatClampNeg then none else some (pp x1.toNatClampNeg)) else (if x2 = (1 : Int32) then (ob1 (m_X2_isGroup pg pn x1) (fun r20 => (if r20 = 0 then some (0 : Int32) else some (1 : Int32)))) else (if x2 = (2 : Int32) then (ob1 (m_X2_nodesRightBelow pn pp x1) (fun r28 => some r28)) else (ob1 (m_X2_leavesBelow pg pn pp x1) (fun r30 => some r30))))) else (k_X6_node_20 pg pn pp)))))) = some r0 := hm
  refine lv_aload_n hx hb dX6_node_0 rfl (lv_at hl 0 rfl) ?_
  refine va_get (D := D) (ci := 6) (v := .ref aP) (C := RX6) (T := TX6) (N := 6) hx hb hts iw_X6 hown hK hP 0 rfl rfl 1 (by decide) (hts (.fieldLink RX6 19 "VarianceBridge" "plan" "LVarianceBridge$Plan;") (by decide +kernel)) (fun _ h9 => h9) rfl dX6_node_1 ?_
  refine lv_iload_n hx hb dX6_node_4 rfl (lv_at hl 1 rfl) ?_
  obtain ⟨r1, h1, hm1⟩ := ob1_e hm
  refine gcall_b (ws' := (w_VB cI cB cZ aV aT aTb aP aPp aPf aD aDp aDf aR aRt aK aB aBb aBs aH aHk aHp aHb aHr tl tb pg ps pn pp pf dg ds dn dp df rl rk rp rt kp kb kk kn bb bs jl jn jk jp jb jr)) (va_runVN (As := [.int x1]) (rest := []) ⟨hx, hb, hml, hown, hts⟩ (c_X2_isNode l D cI cB cZ ta aP aPp aPf s.heap.size pg ps pn pp pf x1 r1 h1) ⟨va_cnB 1 hts gX6_node_X2_isNode_n96B rfl rfl rfl (hG.1 (.methodLinkNest RX6 96 yX2_isNode RX6) (by decide +kernel)) (hts (.initialized RX2) (by decide +kernel)) (by decide +kernel) ⟨(Nat.le_of_ble_eq_true rfl), (Nat.le_of_ble_eq_true rfl)⟩, hts (.instanceMethod yX2_isNode) (by decide +kernel), hts (.selects RX2 yX2_isNode yX2_isNode) (by decide +kernel)⟩ ⟨PW_blind, va_recv hK hP rfl (q0 := 3) rfl, PW_at hP hD hK hS hA hG [3, 4, 5] rfl (by decide)⟩ rfl rfl hl.1 rfl (lv_room (Nat.le_of_ble_eq_true rfl)) dX6_node_5 ⟨(Nat.le_of_ble_eq_true rfl), (Nat.le_of_ble_eq_true rfl)⟩) hP hD hS hA [3, 4, 5] [0, 1, 2, 6, 7, 8, 9, 10, 11, 12, 13, 14, 15, 16, 17, 18, 19] [0, 1, 2, 17, 18, 19, 3, 4, 5, 6, 7, 8, 9, 10, 11, 12, 13, 14, 15, 16] rfl rfl (by decide) (by decide) (by decide) rfl (fun H2 lo2 hz1 hP2 hD2 hS2 => ?_)
  clear hP hD hS
  refine lv_if_eq (tgt := 20) hx hb dX6_node_8 (by decide) (fun c3 => ?_) (fun c3 => ?_)
  · have hm4 := zz_if c3 hm1
    exact hk_20 hm4 ls H2 lo2 (lv_sub hl [] rfl) hP2 hD2 hS2
  · have hm5 := zz_nf c3 hm1
    refine lv_iload_n hx hb dX6_node_11 rfl (lv_at hl 2 rfl) ?_
    refine lv_if_lt (tgt := 20) hx hb dX6_node_12 (by decide) (fun c6 => ?_) (fun c6 => ?_)
    · have hm7 := zz_if c6 hm5
      exact hk_20 hm7 ls H2 lo2 (lv_sub hl [] rfl) hP2 hD2 hS2
    · have hm8 := zz_nf c6 hm5
      refine lv_iload_n hx hb dX6_node_15 rfl (lv_at hl 2 rfl) ?_
      refine lv_iconst (v := (3 : Int32)) hx hb dX6_node_16 (by decide) ?_
      refine lv_icmp_le (tgt := 30) hx hb dX6_node_17 (by decide) (fun c9 => ?_) (fun c9 => ?_)
      · have hm10 := zz_if c9 hm8
        refine lv_iload_n hx hb dX6_node_30 rfl (lv_at hl 2 rfl) ?_
        by_cases c12 : x2 = (0 : Int32)
        · have hm13 := zz_if c12 hm10
          refine lv_tableIn (off := 25) (tgt := 56) hx hb dX6_node_31 (by rw [c12]; decide) (by rw [c12]; decide) (by rw [c12]; rfl) (by decide) ?_
          refine lv_aload_n hx hb dX6_node_56 rfl (lv_at hl 0 rfl) ?_
          refine va_get (D := D) (ci := 6) (v := .ref aP) (C := RX6) (T := TX6) (N := 6) hx hb hts iw_X6 hown hK hP2 0 rfl rfl 1 (by decide) (hts (.fieldLink RX6 19 "VarianceBridge" "plan" "LVarianceBridge$Plan;") (by decide +kernel)) (fun _ h9 => h9) rfl dX6_node_57 ?_
          refine va_getN (D := D) (ci := 2) (v := .ref aPp) (C := RX2) (T := TX2) (N := 5) hx hb hts iw_X2 hown hK hP2 3 rfl rfl 0 (by decide) (va_Nw.use rfl (hG.1 (.fieldLinkNest RX6 107 RX2 "parents" "[I" RX6) (by decide +kernel))) (fun _ h9 => h9) rfl dX6_node_60 ?_
          refine lv_iload_n hx hb dX6_node_63 rfl (lv_at hl 1 rfl) ?_
          obtain ⟨c15, hm16⟩ := zz_no hm13
          refine va_iald hx hb hK hP2 4 0 rfl rfl c15 dX6_node_64 ?_
          have hq1 := Option.some.inj hm16
          subst hq1
          exact W.iret hx hb hr (fun t ht hW => ⟨⟨_, (), rfl, rfl, by rw [ht]; exact hP2, va_K.moved hW.alike hK, hD2⟩, hS2.F ht⟩) hS2.2.2 dX6_node_65
        · have hm14 := zz_nf c12 hm10
          by_cases c17 : x2 = (1 : Int32)
          · have hm18 := zz_if c17 hm14
            refine lv_tableIn (off := 35) (tgt := 66) hx hb dX6_node_31 (by rw [c17]; decide) (by rw [c17]; decide) (by rw [c17]; rfl) (by decide) ?_
            refine lv_aload_n hx hb dX6_node_66 rfl (lv_at hl 0 rfl) ?_
            refine va_get (D := D) (ci := 6) (v := .ref aP) (C := RX6) (T := TX6) (N := 6) hx hb hts iw_X6 hown hK hP2 0 rfl rfl 1 (by decide) (hts (.fieldLink RX6 19 "VarianceBridge" "plan" "LVarianceBridge$Plan;") (by decide +kernel)) (fun _ h9 => h9) rfl dX6_node_67 ?_
            refine lv_iload_n hx hb dX6_node_70 rfl (lv_at hl 1 rfl) ?_
            obtain ⟨r20, h20, hm20⟩ := ob1_e hm18
            refine gcall_b (ws' := (w_VB cI cB cZ aV aT aTb aP aPp aPf aD aDp aDf aR aRt aK aB aBb aBs aH aHk aHp aHb aHr tl tb pg ps pn pp pf dg ds dn dp df rl rk rp rt kp kb kk kn bb bs jl jn jk jp jb jr)) (va_runVN (As := [.int x1]) (rest := []) ⟨hx, hb, hml, hown, hts⟩ (c_X2_isGroup l D cI cB cZ ta aP aPp aPf H2.size pg ps pn pp pf x1 r20 h20) ⟨va_cnB 1 hts gX6_node_X2_isGroup_n111B rfl rfl rfl (hG.1 (.methodLinkNest RX6 111 yX2_isGroup RX6) (by decide +kernel)) (hts (.initialized RX2) (by decide +kernel)) (by decide +kernel) ⟨(Nat.le_of_ble_eq_true rfl), (Nat.le_of_ble_eq_true rfl)⟩, hts (.instanceMethod yX2_isGroup) (by decide +kernel), hts (.selects RX2 yX2_isGroup yX2_isGroup) (by decide +kernel)⟩ ⟨PW_blind, va_recv hK hP2 rfl (q0 := 3) rfl, PW_at hP2 hD2 hK hS2 hA hG [3, 4, 5] rfl (by decide)⟩ rfl rfl hl.1 rfl (lv_room (Nat.le_of_ble_eq_true rfl)) dX6_node_71 ⟨(Nat.le_of_ble_eq_true rfl), (Nat.le_of_ble_eq_true rfl)⟩) hP2 hD2 hS2 hA [3, 4, 5] [0, 1, 2, 6, 7, 8, 9, 10, 11, 12, 13, 14, 15, 16, 17, 18, 19] [0, 1, 2, 17, 18, 19, 3, 4, 5, 6, 7, 8, 9, 10, 11, 12, 13, 14, 15, 16] rfl rfl (by decide) (by decide) (by decide) rfl (fun H21 lo21 hz20 hP21 hD21 hS21 => ?_)
            clear hP2 hD2 hS2
            refine lv_if_eq (tgt := 81) hx hb dX6_node_74 (by decide) (fun c22 => ?_) (fun c22 => ?_)
            · have hm23 := zz_if c22 hm20
              refine lv_iconst (v := (0 : Int32)) hx hb dX6_node_81 (by decide) ?_
              have hq1 := Option.some.inj hm23
              subst hq1
              exact W.iret hx hb hr (fun t ht hW => ⟨⟨_, (), rfl, rfl, by rw [ht]; exact hP21, va_K.moved hW.alike hK, hD21⟩, hS21.F ht⟩) hS21.2.2 dX6_node_82
            · have hm24 := zz_nf c22 hm20
              refine lv_iconst (v := (1 : Int32)) hx hb dX6_node_77 (by decide) ?_
              refine lv_goto (tgt := 82) hx hb dX6_node_78 (by decide) ?_
              have hq1 := Option.some.inj hm24
              subst hq1
              exact W.iret hx hb hr (fun t ht hW => ⟨⟨_, (), rfl, rfl, by rw [ht]; exact hP21, va_K.moved hW.alike hK, hD21⟩, hS21.F ht⟩) hS21.2.2 dX6_node_82
          · have hm19 := zz_nf c17 hm14
            by_cases c25 : x2 = (2 : Int32)
            · have hm26 := zz_if c25 hm19
              refine lv_tableIn (off := 52) (tgt := 83) hx hb dX6_node_31 (by rw [c25]; decide) (by rw [c25]; decide) (by rw [c25]; rfl) (by decide) ?_
              refine lv_aload_n hx hb dX6_node_83 rfl (lv_at hl 0 rfl) ?_
              refine va_get (D := D) (ci := 6) (v := .ref aP) (C := RX6) (T := TX6) (N := 6) hx hb hts iw_X6 hown hK hP2 0 rfl rfl 1 (by decide) (hts (.fieldLink RX6 19 "VarianceBridge" "plan" "LVarianceBridge$Plan;") (by decide +kernel)) (fun _ h9 => h9) rfl dX6_node_84 ?_
              refine lv_iload_n hx hb dX6_node_87 rfl (lv_at hl 1 rfl) ?_
              obtain ⟨r28, h28, hm28⟩ := ob1_e hm26
              refine gcall_i (ws' := (w_VB cI cB cZ aV aT aTb aP aPp aPf aD aDp aDf aR aRt aK aB aBb aBs aH aHk aHp aHb aHr tl tb pg ps pn pp pf dg ds dn dp df rl rk rp rt kp kb kk kn bb bs jl jn jk jp jb jr)) (va_runVN (As := [.int x1]) (rest := []) ⟨hx, hb, hml, hown, hts⟩ (c_X2_nodesRightBelow l D cI cB cZ ta aP aPp aPf H2.size pg ps pn pp pf x1 r28 h28) ⟨va_cnB 1 hts gX6_node_X2_nodesRightBelow_n114B rfl rfl rfl (hG.1 (.methodLinkNest RX6 114 yX2_nodesRightBelow RX6) (by decide +kernel)) (hts (.initialized RX2) (by decide +kernel)) (by decide +kernel) ⟨(Nat.le_of_ble_eq_true rfl), (Nat.le_of_ble_eq_true rfl)⟩, hts (.instanceMethod yX2_nodesRightBelow) (by decide +kernel), hts (.selects RX2 yX2_nodesRightBelow yX2_nodesRightBelow) (by decide +kernel)⟩ ⟨PW_blind, va_recv hK hP2 rfl (q0 := 3) rfl, PW_at hP2 hD2 hK hS2 hA hG [3, 4, 5] rfl (by decide)⟩ rfl rfl hl.1 rfl (lv_room (Nat.le_of_ble_eq_true rfl)) dX6_node_88 ⟨(Nat.le_of_ble_eq_true rfl), (Nat.le_of_ble_eq_true rfl)⟩) hP2 hD2 hS2 hA [3, 4, 5] [0, 1, 2, 6, 7, 8, 9, 10, 11, 12, 13, 14, 15, 16, 17, 18, 19] [0, 1, 2, 17, 18, 19, 3, 4, 5, 6, 7, 8, 9, 10, 11, 12, 13, 14, 15, 16] rfl rfl (by decide) (by decide) (by decide) rfl (fun H29 lo29 hP29 hD29 hS29 => ?_)
              clear hP2 hD2 hS2
              have hq1 := Option.some.inj hm28
              subst hq1
              exact W.iret hx hb hr (fun t ht hW => ⟨⟨_, (), rfl, rfl, by rw [ht]; exact hP29, va_K.moved hW.alike hK, hD29⟩, hS29.F ht⟩) hS29.2.2 dX6_node_91
            · have hm27 := zz_nf c25 hm19
              refine lv_tableOut (tgt := 92) hx hb dX6_node_31 (ts_out 2 (fun k hk => by rcases (show k = 0 ∨ k = 1 ∨ k = 2 by omega) with rfl | rfl | rfl <;> first | exact c12 | exact c17 | exact c25) (by decide)) (by decide) ?_
              refine lv_aload_n hx hb dX6_node_92 rfl (lv_at hl 0 rfl) ?_
              refine va_get (D := D) (ci := 6) (v := .ref aP) (C := RX6) (T := TX6) (N := 6) hx hb hts iw_X6 hown hK hP2 0 rfl rfl 1 (by decide) (hts (.fieldLink RX6 19 "VarianceBridge" "plan" "LVarianceBridge$Plan;") (by decide +kernel)) (fun _ h9 => h9) rfl dX6_node_93 ?_
              refine lv_iload_n hx hb dX6_node_96 rfl (lv_at hl 1 rfl) ?_
              obtain ⟨r30, h30, hm30⟩ := ob1_e hm27
              refine gcall_i (ws' := (w_VB cI cB cZ aV aT aTb aP aPp aPf aD aDp aDf aR aRt aK aB aBb aBs aH aHk aHp aHb aHr tl tb pg ps pn pp pf dg ds dn dp df rl rk rp rt kp kb kk kn bb bs jl jn jk jp jb jr)) (va_runVN (As := [.int x1]) (rest := []) ⟨hx, hb, hml, hown, hts⟩ (c_X2_leavesBelow l D cI cB cZ ta aP aPp aPf H2.size pg ps pn pp pf x1 r30 h30) ⟨va_cnB 1 hts gX6_node_X2_leavesBelow_n84B rfl rfl rfl (hG.1 (.methodLinkNest RX6 84 yX2_leavesBelow RX6) (by decide +kernel)) (hts (.initialized RX2) (by decide +kernel)) (by decide +kernel) ⟨(Nat.le_of_ble_eq_true rfl), (Nat.le_of_ble_eq_true rfl)⟩, hts (.instanceMethod yX2_leavesBelow) (by decide +kernel), hts (.selects RX2 yX2_leavesBelow yX2_leavesBelow) (by decide +kernel)⟩ ⟨PW_blind, va_recv hK hP2 rfl (q0 := 3) rfl, PW_at hP2 hD2 hK hS2 hA hG [3, 4, 5] rfl (by decide)⟩ rfl rfl hl.1 rfl (lv_room (Nat.le_of_ble_eq_true rfl)) dX6_node_97 ⟨(Nat.le_of_ble_eq_true rfl), (Nat.le_of_ble_eq_true rfl)⟩) hP2 hD2 hS2 hA [3, 4, 5] [0, 1, 2, 6, 7, 8, 9, 10, 11, 12, 13, 14, 15, 16, 17, 18, 19] [0, 1, 2, 17, 18, 19, 3, 4, 5, 6, 7, 8, 9, 10, 11, 12, 13, 14, 15, 16] rfl rfl (by decide) (by decide) (by decide) rfl (fun H31 lo31 hP31 hD31 hS31 => ?_)
              clear hP2 hD2 hS2
              have hq1 := Option.some.inj hm30
              subst hq1
              exact W.iret hx hb hr (fun t ht hW => ⟨⟨_, (), rfl, rfl, by rw [ht]; exact hP31, va_K.moved hW.alike hK, hD31⟩, hS31.F ht⟩) hS31.2.2 dX6_node_100
      · have hm11 := zz_nf c9 hm8
        exact hk_20 hm11 ls H2 lo2 (lv_sub hl [] rfl) hP2 hD2 hS2
/-! node, where it throws -/
def nodW : List Cond := [.declares (Bundle.initS "java/lang/RuntimeException"), .declares (Bundle.initS "java/lang/Exception"), .declares (Bundle.initS Bundle.tN), .castable "java/util/NoSuchElementException" "java/util/NoSuchElementException"]
theorem nodW_ot : ∀ w ∈ nodW, w.onTables = true := by decide +kernel
theorem nodW_all : ∀ w ∈ at13N.filter (fun w => !goodWord w), w ∈ nodW := by decide +kernel
theorem nod_good : ∀ w ∈ Cond.classLink RX6 100 "java/util/NoSuchElementException" :: Cond.initialized "java/util/NoSuchElementException" :: at13 RX6 104 "java/util/NoSuchElementException" "java/lang/RuntimeException" ["java/lang/Exception"], vx_ot w = true := by decide +kernel
/-- what a throw of node takes as given -/
def gn (sa : Nat) (A : Nat → Prop) (U : State) (H : Heap) : Prop := (∀ w ∈ nodW, va_Nw w U) ∧ vk_R RX6 102 "no such node, or nothing that is told of one" sa U ∧ vx_Zq Bundle.tN "UNASSIGNED_STACK" Bundle.steD A U H ∧ vx_Zq Bundle.tN "SUPPRESSED_SENTINEL" Bundle.listD A U H
theorem nodW_warm {s U : State} (hW : s.WarmedH U.vm) (h : ∀ w ∈ nodW, va_Nw w s) : ∀ w ∈ nodW, va_Nw w U := by
  intro w hw
  have h1 := h w hw
  rcases List.mem_cons.mp hw with e | hw
  · subst e; exact va_Nw.warmD hW h1
  rcases List.mem_cons.mp hw with e | hw
  · subst e; exact va_Nw.warmD hW h1
  rcases List.mem_cons.mp hw with e | hw
  · subst e; exact va_Nw.warmD hW h1
  rcases List.mem_cons.mp hw with e | hw
  · subst e; exact va_Nw.warmC hW h1
  · cases hw
theorem gn_at {sa : Nat} {A B : Nat → Prop} {s U : State} {H H1 : Heap} (h : gn sa A s H) (hq : ∀ a : Nat, a < H.size → ¬ A a → H1[a]? = H[a]?) (hAB : ∀ q, B q → A q) (hW : s.WarmedH U.vm) : gn sa B U H1 := ⟨nodW_warm hW h.1, h.2.1.warm hW, ((h.2.2.1.kept hq).narrow hAB).moved hW.alike, ((h.2.2.2.kept hq).narrow hAB).moved hW.alike⟩
theorem gn_calling {sa : Nat} {A : Nat → Prop} {U : State} {g : JFrame} {mk : MethodId} {a : Array Value} (h : gn sa A U U.heap) : gn sa A (U.calling g mk a) (U.calling g mk a).heap :=
  ⟨fun w hw => va_Nw.same (nodW_ot w hw) (u := U) (U := U.calling g mk a) rfl (h.1 w hw), vk_R.same (u := U) (U := U.calling g mk a) rfl h.2.1, vx_Zq.moved (u := U) (U := U.calling g mk a) (Vm.Alike.refl U.vm) h.2.2.1, vx_Zq.moved (u := U) (U := U.calling g mk a) (Vm.Alike.refl U.vm) h.2.2.2⟩
abbrev PN (D : va_G) (cI cB cZ : ClassId) (ta : Nat → Nat) (sa : Nat) (w : va_W) (sz : Nat) (U : State) : Prop := PW D cI cB cZ ta w sz U ∧ gn sa (va_A w sz) U U.heap
theorem PN_blind {D : va_G} {cI cB cZ : ClassId} {ta : Nat → Nat} {sa : Nat} {w : va_W} {sz : Nat} {av : List Value} : FrameBlind (va_Pc av (PN D cI cB cZ ta sa w sz)) := by
  intro a U g mk q
  obtain ⟨q0, ⟨q1, qP, qK, qD, qG⟩, qN⟩ := q
  exact ⟨q0, ⟨q1, qP, va_K.moved (u := U) (U := U.calling g mk a) (Vm.Alike.refl U.vm) qK, qD, glo_calling qG⟩, gn_calling qN⟩
theorem PN_at {D : va_G} {cI cB cZ : ClassId} {ta : Nat → Nat} {sa : Nat} {ws wc : va_W} {A0 : Nat → Prop} {s : State} {H : Heap} {locs : List Loc} {av : List Value} (hP : va_P D vwCl ws H) (hD : va_D A0 ws) (hK : va_K D vwCl (tyG cI cB cZ) s) (hS : va_S A0 s.heap H locs) (hA : ∀ q, s.heap.size ≤ q → A0 q) (hG : glo ta A0 s s.heap) (hN : gn sa A0 s s.heap) (isC : List Nat) (hC : isC.map (fun i => ws[i]?) = wc.map some) (hn : va_nd isC = true) : ∀ U : State, U.heap = H → s.WarmedH U.vm → va_Pc av (PN D cI cB cZ ta sa wc H.size) av.toArray U := by
  intro U hU hW
  obtain ⟨e, h⟩ := PW_at (av := av) hP hD hK hS hA hG isC hC hn U hU hW
  refine ⟨e, h, ?_⟩
  rw [hU]
  exact gn_at hN hS.2.1 (va_free hD hS hA isC hC) hW
abbrev XN (D : va_G) (cI cB cZ : ClassId) (A : Nat → Prop) (w : va_W) : String → State → State → Prop := vx_X (fun (_ : Unit) => True) (fun E _ t => E = "java/util/NoSuchElementException" ∧ va_P D vwCl w t.heap ∧ va_D A w) A
theorem P_grown {D : va_G} {w : va_W} {H H1 : Heap} (h : va_P D vwCl w H) (hq : ∀ q : Nat, q < H.size → H1[q]? = H[q]?) : va_P D vwCl w H1 := h.kept (fun k q hk => hq q.1 (h k q hk).lt)
set_option maxHeartbeats 4000000 in
set_option maxRecDepth 100000 in
theorem t_X6_node (l : Launch) (hst : l.stackTraces = false) (D : va_G) (cI cB cZ : ClassId) (ta : Nat → Nat) (aV : Nat) (aT : Nat) (aTb : Nat) (aP : Nat) (aPp : Nat) (aPf : Nat) (aD : Nat) (aDp : Nat) (aDf : Nat) (aR : Nat) (aRt : Nat) (aK : Nat) (aB : Nat) (aBb : Nat) (aBs : Nat) (aH : Nat) (aHk : Nat) (aHp : Nat) (aHb : Nat) (aHr : Nat) (sz : Nat) (tl : Int32) (tb : (Nat → Int32)) (pg : Int32) (ps : Int32) (pn : Int32) (pp : (Nat → Int32)) (pf : (Nat → Int32)) (dg : Int32) (ds : Int32) (dn : Int32) (dp : (Nat → Int32)) (df : (Nat → Int32)) (rl : Int32) (rk : Int32) (rp : Int32) (rt : (Nat → Int32)) (kp : Int32) (kb : Int32) (kk : Int32) (kn : Int32) (bb : (Nat → Int32)) (bs : (Nat → Int32)) (jl : Int32) (jn : Int32) (jk : (Nat → Int32)) (jp : (Nat → Int32)) (jb : (Nat → Int32)) (jr : (Nat → Int32)) (sa : Nat) (x1 x2 r1 : Int32) (h1 : m_X2_isNode pn x1 = some r1) (hm : r1 = 0 ∨ x2 < 0 ∨ ¬ x2 ≤ 3) : vx_Met l yX6_node wsX6_nodeB ({ frames := 6, cells := 1, slots := 6, locals := 90 } : Room) (va_Pc [.ref aV, .int x1, .int x2] (PN D cI cB cZ ta sa (w_VB cI cB cZ aV aT aTb aP aPp aPf aD aDp aDf aR aRt aK aB aBb aBs aH aHk aHp aHb aHr tl tb pg ps pn pp pf dg ds dn dp df rl rk rp rt kp kb kk kn bb bs jl jn jk jp jb jr) sz)) (va_Qi (fun (_ : Int32) (_ : Unit) => False) (fun _ _ => True) (va_A (w_VB cI cB cZ aV aT aTb aP aPp aPf aD aDp aDf aR aRt aK aB aBb aBs aH aHk aHp aHb aHr tl tb pg ps pn pp pf dg ds dn dp df rl rk rp rt kp kb kk kn bb bs jl jn jk jp jb jr) sz)) (XN D cI cB cZ (va_A (w_VB cI cB cZ aV aT aTb aP aPp aPf aD aDp aDf aR aRt aK aB aBb aBs aH aHk aHp aHb aHr tl tb pg ps pn pp pf dg ds dn dp df rl rk rp rt kp kb kk kn bb bs jl jn jk jp jb jr) sz) (w_VB cI cB cZ aV aT aTb aP aPp aPf aD aDp aDf aR aRt aK aB aBb aBs aH aHk aHp aHb aHr tl tb pg ps pn pp pf dg ds dn dp df rl rk rp rt kp kb kk kn bb bs jl jn jk jp jb jr)) 1 6 (va_A (w_VB cI cB cZ aV aT aTb aP aPp aPf aD aDp aDf aR aRt aK aB aBb aBs aH aHk aHp aHb aHr tl tb pg ps pn pp pf dg ds dn dp df rl rk rp rt kp kb kk kn bb bs jl jn jk jp jb jr) sz) := by
  refine vx_ofW (cc := cX6_node) (maxL := 3) (ret := (some .int)) (by decide) rfl ?_
  intro p e s m args below meth c s₁ B hml hex hv
  obtain ⟨rfl, ⟨hsz, hP, hK, hD0, hG⟩, hN⟩ := hv
  have hx := B.exec
  have hb := B.bytes
  have hr := B.returns
  have hts := atoms_spec (ws := wsX6_nodeB) B.pre
  have hown : s.vm.findClass RX6 = some m.cls := findClass_of_methodNamed B.named
  have hlocks := B.notSynchronized
  subst hsz
  have hD := hD0.self (sz := s.heap.size)
  clear hD0
  have hA0 : ∀ q : Nat, s.heap.size ≤ q → va_A (w_VB cI cB cZ aV aT aTb aP aPp aPf aD aDp aDf aR aRt aK aB aBb aBs aH aHk aHp aHb aHr tl tb pg ps pn pp pf dg ds dn dp df rl rk rp rt kp kb kk kn bb bs jl jn jk jp jb jr) s.heap.size q := fun q h => Or.inr h
  generalize hAe : va_A (w_VB cI cB cZ aV aT aTb aP aPp aPf aD aDp aDf aR aRt aK aB aBb aBs aH aHk aHp aHb aHr tl tb pg ps pn pp pf dg ds dn dp df rl rk rp rt kp kb kk kn bb bs jl jn jk jp jb jr) s.heap.size = A at hD hG hN hA0 ⊢
  have hA : ∀ q : Nat, s.heap.size ≤ q → A q := hA0
  clear hA0
  have hS : va_S A s.heap s.heap [] := va_S.rf
  have iw_X6 := iw_X6_node_X6B
  have hk_20 : ∀ (ls : Array Slot) (H : Heap) (lo : List Loc), lv_has ls 3 [] → va_P D vwCl (w_VB cI cB cZ aV aT aTb aP aPp aPf aD aDp aDf aR aRt aK aB aBb aBs aH aHk aHp aHb aHr tl tb pg ps pn pp pf dg ds dn dp df rl rk rp rt kp kb kk kn bb bs jl jn jk jp jb jr) H → va_D A (w_VB cI cB cZ aV aT aTb aP aPp aPf aD aDp aDf aR aRt aK aB aBb aBs aH aHk aHp aHb aHr tl tb pg ps pn pp pf dg ds dn dp df rl rk rp rt kp kb kk kn bb bs jl jn jk jp jb jr) → va_S A s.heap H lo → W p l e (headSpec wsX6_nodeB ({ frames := 6, cells := 1, slots := 6, locals := 90 } : Room)).room s m #[.ref aV, .int x1, .int x2] below meth c H lo 0 0 (vx_MQ below (va_Qi (fun (_ : Int32) (_ : Unit) => False) (fun _ _ => True) A) (XN D cI cB cZ A (w_VB cI cB cZ aV aT aTb aP aPp aPf aD aDp aDf aR aRt aK aB aBb aBs aH aHk aHp aHb aHr tl tb pg ps pn pp pf dg ds dn dp df rl rk rp rt kp kb kk kn bb bs jl jn jk jp jb jr)) #[.ref aV, .int x1, .int x2] s 1 6 A) (F0 m 20 ls []) := by
    intro ls H lo hl hP hD hS
    exact nx_throw (cc := cX6_node) hx hb hst (own := RX6) (cls := "java/util/NoSuchElementException") (text := "no such node, or nothing that is told of one") (Y0 := "java/lang/RuntimeException") (names := ["java/lang/Exception"]) (ik := 100) (is := 102) (ic := 104) (sa := sa) (A := A) hown (by decide +kernel) (by decide +kernel) (by decide +kernel) (hts (.classLink RX6 100 "java/util/NoSuchElementException") (by decide +kernel)) (hts (.initialized "java/util/NoSuchElementException") (by decide +kernel)) hN.2.1 (vx_hat (B := nodW) (fun w hw => hts w (List.mem_cons_of_mem _ (List.mem_append_right _ hw))) nodW_all (fun w hw => va_Nw.use (nodW_ot w hw) (hN.1 w hw))) nod_good hN.2.2.1 hN.2.2.2 hS (hl.1.trans hml.symm) dX6_node_20 dX6_node_23 dX6_node_24 dX6_node_26 (Nat.le_of_ble_eq_true rfl) (Nat.le_of_ble_eq_true rfl) (Nat.le_of_ble_eq_true rfl) (Nat.le_of_ble_eq_true rfl) dX6_node_29 (fun x hx => (hex x hx).elim) hlocks (fun t hvm hs hq => ⟨(), trivial, ⟨rfl, P_grown hP hq, hD⟩, ⟨Nat.le_trans hS.1 hs, fun q h1 h2 => (hq q (Nat.lt_of_lt_of_le h1 hS.1)).trans (hS.2.1 q h1 h2)⟩⟩) hS.2.2 (Nat.le_of_ble_eq_true rfl) (Nat.le_of_ble_eq_true rfl)
  have hl := lv_entry ([.ref aV, .int x1, .int x2]) (n := 3) (Nat.le_of_ble_eq_true rfl)
  rw [lg_entry_eq]
  generalize (lg_sl ([.ref aV, .int x1, .int x2]) ++ List.replicate (3 - (lg_sl ([.ref aV, .int x1, .int x2])).length) Slot.unset).toArray = ls at hl ⊢
  have hl : lv_has ls 3 [(0, .ref aV), (1, .int x1), (2, .int x2)] := hl
  refine lv_aload_n hx hb dX6_node_0 rfl (lv_at hl 0 rfl) ?_
  refine va_get (D := D) (ci := 6) (v := .ref aP) (C := RX6) (T := TX6) (N := 6) hx hb hts iw_X6 hown hK hP 0 rfl rfl 1 (by decide) (hts (.fieldLink RX6 19 "VarianceBridge" "plan" "LVarianceBridge$Plan;") (by decide +kernel)) (fun _ h9 => h9) rfl dX6_node_1 ?_
  refine lv_iload_n hx hb dX6_node_4 rfl (lv_at hl 1 rfl) ?_
  refine gcall_b (ws' := (w_VB cI cB cZ aV aT aTb aP aPp aPf aD aDp aDf aR aRt aK aB aBb aBs aH aHk aHp aHb aHr tl tb pg ps pn pp pf dg ds dn dp df rl rk rp rt kp kb kk kn bb bs jl jn jk jp jb jr)) (va_runVN (As := [.int x1]) (rest := []) ⟨hx, hb, hml, hown, hts⟩ (c_X2_isNode l D cI cB cZ ta aP aPp aPf s.heap.size pg ps pn pp pf x1 r1 h1) ⟨va_cnB 1 hts gX6_node_X2_isNode_n96B rfl rfl rfl (hG.1 (.methodLinkNest RX6 96 yX2_isNode RX6) (by decide +kernel)) (hts (.initialized RX2) (by decide +kernel)) (by decide +kernel) ⟨(Nat.le_of_ble_eq_true rfl), (Nat.le_of_ble_eq_true rfl)⟩, hts (.instanceMethod yX2_isNode) (by decide +kernel), hts (.selects RX2 yX2_isNode yX2_isNode) (by decide +kernel)⟩ ⟨PW_blind, va_recv hK hP rfl (q0 := 3) rfl, PW_at hP hD hK hS hA hG [3, 4, 5] rfl (by decide)⟩ rfl rfl hl.1 rfl (lv_room (Nat.le_of_ble_eq_true rfl)) dX6_node_5 ⟨(Nat.le_of_ble_eq_true rfl), (Nat.le_of_ble_eq_true rfl)⟩) hP hD hS hA [3, 4, 5] [0, 1, 2, 6, 7, 8, 9, 10, 11, 12, 13, 14, 15, 16, 17, 18, 19] [0, 1, 2, 17, 18, 19, 3, 4, 5, 6, 7, 8, 9, 10, 11, 12, 13, 14, 15, 16] rfl rfl (by decide) (by decide) (by decide) rfl (fun H2 lo2 hz1 hP2 hD2 hS2 => ?_)
  clear hP hD hS
  refine lv_if_eq (tgt := 20) hx hb dX6_node_8 (by decide) (fun c3 => ?_) (fun c3 => ?_)
  · exact hk_20 ls H2 lo2 (lv_sub hl [] rfl) hP2 hD2 hS2
  · have hm := hm.resolve_left c3
    refine lv_iload_n hx hb dX6_node_11 rfl (lv_at hl 2 rfl) ?_
    refine lv_if_lt (tgt := 20) hx hb dX6_node_12 (by decide) (fun c6 => ?_) (fun c6 => ?_)
    · exact hk_20 ls H2 lo2 (lv_sub hl [] rfl) hP2 hD2 hS2
    · have hm := hm.resolve_left c6
      refine lv_iload_n hx hb dX6_node_15 rfl (lv_at hl 2 rfl) ?_
      refine lv_iconst (v := (3 : Int32)) hx hb dX6_node_16 (by decide) ?_
      refine lv_icmp_le (tgt := 30) hx hb dX6_node_17 (by decide) (fun c9 => ?_) (fun c9 => ?_)
      · exact absurd c9 hm
      · exact hk_20 ls H2 lo2 (lv_sub hl [] rfl) hP2 hD2 hS2
/-! the law's node -/
abbrev tyL (cI cB cZ cJ : ClassId) : List (ClassId × FieldType) := [(cI, .int), (cB, .byte), (cZ, .boolean), (cJ, .long)]
abbrev outC (cJ : ClassId) (aO : Nat) (fo : Nat → Int64) : Nat × va_E := (aO, .inl (cJ, 1, .inr (.inl fo)))
abbrev PL (D : va_G) (cI cB cZ cJ : ClassId) (ta : Nat → Nat) (sa : Nat) (w : va_W) (sz : Nat) (U : State) : Prop := U.heap.size = sz ∧ va_P D vwCl w U.heap ∧ va_K D vwCl (tyL cI cB cZ cJ) U ∧ va_D (fun _ => True) w ∧ glo ta (va_A w sz) U U.heap ∧ gn sa (va_A w sz) U U.heap
theorem PL_blind {D : va_G} {cI cB cZ cJ : ClassId} {ta : Nat → Nat} {sa : Nat} {w : va_W} {sz : Nat} {av : List Value} : FrameBlind (va_Pc av (PL D cI cB cZ cJ ta sa w sz)) := by
  intro a U g mk q
  obtain ⟨q0, q1, qP, qK, qD, qG, qN⟩ := q
  exact ⟨q0, q1, qP, va_K.moved (u := U) (U := U.calling g mk a) (Vm.Alike.refl U.vm) qK, qD, glo_calling qG, gn_calling qN⟩
abbrev QL (D : va_G) (A : Nat → Prop) (w' : va_W) (r0 : Int32) := va_Qi (fun r (_ : Unit) => r = r0) (fun _ t => va_P D vwCl w' t.heap ∧ va_D A w') A
set_option maxHeartbeats 4000000 in
set_option maxRecDepth 100000 in
theorem c_L_node (l : Launch) (D : va_G) (cI cB cZ : ClassId) (ta : Nat → Nat) (aV : Nat) (aT : Nat) (aTb : Nat) (aP : Nat) (aPp : Nat) (aPf : Nat) (aD : Nat) (aDp : Nat) (aDf : Nat) (aR : Nat) (aRt : Nat) (aK : Nat) (aB : Nat) (aBb : Nat) (aBs : Nat) (aH : Nat) (aHk : Nat) (aHp : Nat) (aHb : Nat) (aHr : Nat) (sz : Nat) (tl : Int32) (tb : (Nat → Int32)) (pg : Int32) (ps : Int32) (pn : Int32) (pp : (Nat → Int32)) (pf : (Nat → Int32)) (dg : Int32) (ds : Int32) (dn : Int32) (dp : (Nat → Int32)) (df : (Nat → Int32)) (rl : Int32) (rk : Int32) (rp : Int32) (rt : (Nat → Int32)) (kp : Int32) (kb : Int32) (kk : Int32) (kn : Int32) (bb : (Nat → Int32)) (bs : (Nat → Int32)) (jl : Int32) (jn : Int32) (jk : (Nat → Int32)) (jp : (Nat → Int32)) (jb : (Nat → Int32)) (jr : (Nat → Int32)) (cJ : ClassId) (sa aO : Nat) (fo : Nat → Int64) (x1 x2 r0 : Int32) (hm : m_X6_node pg pn pp x1 x2 = some r0) : Met l yL_node wsL_nodeB ({ frames := 7, cells := 0, slots := 0, locals := 120 } : Room) (va_Pc [.ref aV, .int x1, .int x2, .ref aO] (PL D cI cB cZ cJ ta sa ((w_VB cI cB cZ aV aT aTb aP aPp aPf aD aDp aDf aR aRt aK aB aBb aBs aH aHk aHp aHb aHr tl tb pg ps pn pp pf dg ds dn dp df rl rk rp rt kp kb kk kn bb bs jl jn jk jp jb jr) ++ [outC cJ aO fo]) sz)) (QL D (va_A ((w_VB cI cB cZ aV aT aTb aP aPp aPf aD aDp aDf aR aRt aK aB aBb aBs aH aHk aHp aHb aHr tl tb pg ps pn pp pf dg ds dn dp df rl rk rp rt kp kb kk kn bb bs jl jn jk jp jb jr) ++ [outC cJ aO fo]) sz) ((w_VB cI cB cZ aV aT aTb aP aPp aPf aD aDp aDf aR aRt aK aB aBb aBs aH aHk aHp aHb aHr tl tb pg ps pn pp pf dg ds dn dp df rl rk rp rt kp kb kk kn bb bs jl jn jk jp jb jr) ++ [outC cJ aO (vp_updL fo 0 r0.toInt64)]) 0) 0 0 (va_A ((w_VB cI cB cZ aV aT aTb aP aPp aPf aD aDp aDf aR aRt aK aB aBb aBs aH aHk aHp aHb aHr tl tb pg ps pn pp pf dg ds dn dp df rl rk rp rt kp kb kk kn bb bs jl jn jk jp jb jr) ++ [outC cJ aO fo]) sz) := by
  refine va_MetW (cc := cL_node) (maxL := 5) (ret := (some .int)) (by decide) rfl ?_
  intro p e s m args below meth c s₁ B hml hv
  obtain ⟨rfl, hsz, hP, hK, hD0, hG, hN⟩ := hv
  have hx := B.exec
  have hb := B.bytes
  have hr := B.returns
  have hts := atoms_spec (ws := wsL_nodeB) B.pre
  have hown : s.vm.findClass RL = some m.cls := findClass_of_methodNamed B.named
  subst hsz
  have hD := hD0.self (sz := s.heap.size)
  clear hD0
  have hA0 : ∀ q : Nat, s.heap.size ≤ q → va_A ((w_VB cI cB cZ aV aT aTb aP aPp aPf aD aDp aDf aR aRt aK aB aBb aBs aH aHk aHp aHb aHr tl tb pg ps pn pp pf dg ds dn dp df rl rk rp rt kp kb kk kn bb bs jl jn jk jp jb jr) ++ [outC cJ aO fo]) s.heap.size q := fun q h => Or.inr h
  generalize hAe : va_A ((w_VB cI cB cZ aV aT aTb aP aPp aPf aD aDp aDf aR aRt aK aB aBb aBs aH aHk aHp aHb aHr tl tb pg ps pn pp pf dg ds dn dp df rl rk rp rt kp kb kk kn bb bs jl jn jk jp jb jr) ++ [outC cJ aO fo]) s.heap.size = A at hD hG hN hA0 ⊢
  have hA : ∀ q : Nat, s.heap.size ≤ q → A q := hA0
  clear hA0
  have hS : va_S A s.heap s.heap [] := va_S.rf
  have hK3 : va_K D vwCl (tyG cI cB cZ) s := hK.sub [0, 1, 2] rfl
  have hl := lv_entry ([.ref aV, .int x1, .int x2, .ref aO]) (n := 5) (Nat.le_of_ble_eq_true rfl)
  rw [lg_entry_eq]
  generalize (lg_sl ([.ref aV, .int x1, .int x2, .ref aO]) ++ List.replicate (5 - (lg_sl ([.ref aV, .int x1, .int x2, .ref aO])).length) Slot.unset).toArray = ls at hl ⊢
  have hl : lv_has ls 5 [(0, .ref aV), (1, .int x1), (2, .int x2), (3, .ref aO)] := hl
  refine lv_aload_n hx hb dL_node_0 rfl (lv_at hl 3 rfl) ?_
  refine lv_iconst (v := (0 : Int32)) hx hb dL_node_1 (by decide) ?_
  refine lv_aload_n hx hb dL_node_2 rfl (lv_at hl 0 rfl) ?_
  refine lv_iload_n hx hb dL_node_3 rfl (lv_at hl 1 rfl) ?_
  refine lv_iload_n hx hb dL_node_4 rfl (lv_at hl 2 rfl) ?_
  refine gcall_i (ws' := ((w_VB cI cB cZ aV aT aTb aP aPp aPf aD aDp aDf aR aRt aK aB aBb aBs aH aHk aHp aHb aHr tl tb pg ps pn pp pf dg ds dn dp df rl rk rp rt kp kb kk kn bb bs jl jn jk jp jb jr) ++ [outC cJ aO fo])) (va_runV (As := [.int x1, .int x2]) (rest := [.int 0, .ref aO]) ⟨hx, hb, hml, hown, hts⟩ (c_X6_node l D cI cB cZ ta aV aT aTb aP aPp aPf aD aDp aDf aR aRt aK aB aBb aBs aH aHk aHp aHb aHr s.heap.size tl tb pg ps pn pp pf dg ds dn dp df rl rk rp rt kp kb kk kn bb bs jl jn jk jp jb jr x1 x2 r0 hm) (cwV 2 hts gL_node_X6_nodeB rfl rfl rfl (by decide +kernel) ⟨(Nat.le_of_ble_eq_true rfl), (Nat.le_of_ble_eq_true rfl)⟩) ⟨PW_blind, va_recv hK hP rfl (q0 := 0) rfl, PW_at hP hD hK3 hS hA hG [0, 1, 2, 3, 4, 5, 6, 7, 8, 9, 10, 11, 12, 13, 14, 15, 16, 17, 18, 19] rfl (by decide)⟩ rfl rfl hl.1 rfl (lv_room (Nat.le_of_ble_eq_true rfl)) dL_node_5 ⟨(Nat.le_of_ble_eq_true rfl), (Nat.le_of_ble_eq_true rfl)⟩) hP hD hS hA [0, 1, 2, 3, 4, 5, 6, 7, 8, 9, 10, 11, 12, 13, 14, 15, 16, 17, 18, 19] [20] [1, 2, 3, 4, 5, 6, 7, 8, 9, 10, 11, 12, 13, 14, 15, 16, 17, 18, 19, 20, 0] rfl rfl (by decide) (by decide) (by decide) rfl (fun H2 lo2 hP2 hD2 hS2 => ?_)
  clear hP hD hS
  refine lv_i2l (v := r0.toInt64) hx hb dL_node_8 rfl ?_
  refine va_last (D := D) hx hb hK hP2 hD2 hS2 20 3 (cA := cJ) (n := 1) (f := fo) rfl rfl (show ¬ ((0 : Int32) < 0 ∨ 1 ≤ (0 : Int32).toNatClampNeg) by decide) dL_node_9 (fun H3 lo3 hP3 hD3 hS3 => ?_)
  refine lv_goto (tgt := 17) hx hb dL_node_10 (by decide) ?_
  refine lv_iconst (v := (0 : Int32)) hx hb dL_node_17 (by decide) ?_
  exact W.iret hx hb hr (fun t ht hW => ⟨⟨_, (), rfl, rfl, by rw [ht]; exact hP3, hD3⟩, hS3.F ht⟩) hS3.2.2 dL_node_18
set_option maxHeartbeats 4000000 in
set_option maxRecDepth 100000 in
theorem t_L_node (l : Launch) (hst : l.stackTraces = false) (D : va_G) (cI cB cZ : ClassId) (ta : Nat → Nat) (aV : Nat) (aT : Nat) (aTb : Nat) (aP : Nat) (aPp : Nat) (aPf : Nat) (aD : Nat) (aDp : Nat) (aDf : Nat) (aR : Nat) (aRt : Nat) (aK : Nat) (aB : Nat) (aBb : Nat) (aBs : Nat) (aH : Nat) (aHk : Nat) (aHp : Nat) (aHb : Nat) (aHr : Nat) (sz : Nat) (tl : Int32) (tb : (Nat → Int32)) (pg : Int32) (ps : Int32) (pn : Int32) (pp : (Nat → Int32)) (pf : (Nat → Int32)) (dg : Int32) (ds : Int32) (dn : Int32) (dp : (Nat → Int32)) (df : (Nat → Int32)) (rl : Int32) (rk : Int32) (rp : Int32) (rt : (Nat → Int32)) (kp : Int32) (kb : Int32) (kk : Int32) (kn : Int32) (bb : (Nat → Int32)) (bs : (Nat → Int32)) (jl : Int32) (jn : Int32) (jk : (Nat → Int32)) (jp : (Nat → Int32)) (jb : (Nat → Int32)) (jr : (Nat → Int32)) (cJ : ClassId) (sa aO : Nat) (fo : Nat → Int64) (x1 x2 r1 : Int32) (h1 : m_X2_isNode pn x1 = some r1) (hm : r1 = 0 ∨ x2 < 0 ∨ ¬ x2 ≤ 3) : Met l yL_node wsL_nodeB ({ frames := 7, cells := 1, slots := 6, locals := 120 } : Room) (va_Pc [.ref aV, .int x1, .int x2, .ref aO] (PL D cI cB cZ cJ ta sa ((w_VB cI cB cZ aV aT aTb aP aPp aPf aD aDp aDf aR aRt aK aB aBb aBs aH aHk aHp aHb aHr tl tb pg ps pn pp pf dg ds dn dp df rl rk rp rt kp kb kk kn bb bs jl jn jk jp jb jr) ++ [outC cJ aO fo]) sz)) (QL D (va_A ((w_VB cI cB cZ aV aT aTb aP aPp aPf aD aDp aDf aR aRt aK aB aBb aBs aH aHk aHp aHb aHr tl tb pg ps pn pp pf dg ds dn dp df rl rk rp rt kp kb kk kn bb bs jl jn jk jp jb jr) ++ [outC cJ aO fo]) sz) ((w_VB cI cB cZ aV aT aTb aP aPp aPf aD aDp aDf aR aRt aK aB aBb aBs aH aHk aHp aHb aHr tl tb pg ps pn pp pf dg ds dn dp df rl rk rp rt kp kb kk kn bb bs jl jn jk jp jb jr) ++ [outC cJ aO fo]) 1) 1 6 (va_A ((w_VB cI cB cZ aV aT aTb aP aPp aPf aD aDp aDf aR aRt aK aB aBb aBs aH aHk aHp aHb aHr tl tb pg ps pn pp pf dg ds dn dp df rl rk rp rt kp kb kk kn bb bs jl jn jk jp jb jr) ++ [outC cJ aO fo]) sz) := by
  refine va_MetW (cc := cL_node) (maxL := 5) (ret := (some .int)) (by decide) rfl ?_
  intro p e s m args below meth c s₁ B hml hv
  obtain ⟨rfl, hsz, hP, hK, hD0, hG, hN⟩ := hv
  have hx := B.exec
  have hb := B.bytes
  have hr := B.returns
  have hts := atoms_spec (ws := wsL_nodeB) B.pre
  have hown : s.vm.findClass RL = some m.cls := findClass_of_methodNamed B.named
  have htab : c.exceptionTable.toList = tableOf [(0, 10, 13, 13)] := vx_table (x := yL_node) B (hts (.codeWith yL_node cL_node 5 (some .int) [(0, 10, 13, 13)]) (List.mem_cons_self))
  subst hsz
  have hD := hD0.self (sz := s.heap.size)
  clear hD0
  have hA0 : ∀ q : Nat, s.heap.size ≤ q → va_A ((w_VB cI cB cZ aV aT aTb aP aPp aPf aD aDp aDf aR aRt aK aB aBb aBs aH aHk aHp aHb aHr tl tb pg ps pn pp pf dg ds dn dp df rl rk rp rt kp kb kk kn bb bs jl jn jk jp jb jr) ++ [outC cJ aO fo]) s.heap.size q := fun q h => Or.inr h
  generalize hAe : va_A ((w_VB cI cB cZ aV aT aTb aP aPp aPf aD aDp aDf aR aRt aK aB aBb aBs aH aHk aHp aHb aHr tl tb pg ps pn pp pf dg ds dn dp df rl rk rp rt kp kb kk kn bb bs jl jn jk jp jb jr) ++ [outC cJ aO fo]) s.heap.size = A at hD hG hN hA0 ⊢
  have hA : ∀ q : Nat, s.heap.size ≤ q → A q := hA0
  clear hA0
  have hS : va_S A s.heap s.heap [] := va_S.rf
  have hK3 : va_K D vwCl (tyG cI cB cZ) s := hK.sub [0, 1, 2] rfl
  have hl := lv_entry ([.ref aV, .int x1, .int x2, .ref aO]) (n := 5) (Nat.le_of_ble_eq_true rfl)
  rw [lg_entry_eq]
  generalize (lg_sl ([.ref aV, .int x1, .int x2, .ref aO]) ++ List.replicate (5 - (lg_sl ([.ref aV, .int x1, .int x2, .ref aO])).length) Slot.unset).toArray = ls at hl ⊢
  have hl : lv_has ls 5 [(0, .ref aV), (1, .int x1), (2, .int x2), (3, .ref aO)] := hl
  refine lv_aload_n hx hb dL_node_0 rfl (lv_at hl 3 rfl) ?_
  refine lv_iconst (v := (0 : Int32)) hx hb dL_node_1 (by decide) ?_
  refine lv_aload_n hx hb dL_node_2 rfl (lv_at hl 0 rfl) ?_
  refine lv_iload_n hx hb dL_node_3 rfl (lv_at hl 1 rfl) ?_
  refine lv_iload_n hx hb dL_node_4 rfl (lv_at hl 2 rfl) ?_
  have hFc := va_free (wc := (w_VB cI cB cZ aV aT aTb aP aPp aPf aD aDp aDf aR aRt aK aB aBb aBs aH aHk aHp aHb aHr tl tb pg ps pn pp pf dg ds dn dp df rl rk rp rt kp kb kk kn bb bs jl jn jk jp jb jr)) hD hS hA [0, 1, 2, 3, 4, 5, 6, 7, 8, 9, 10, 11, 12, 13, 14, 15, 16, 17, 18, 19] rfl
  refine vx_calli (vx_runV (As := [.int x1, .int x2]) (rest := [.int 0, .ref aO]) ⟨hx, hb, hml, hown, hts⟩ (t_X6_node l hst D cI cB cZ ta aV aT aTb aP aPp aPf aD aDp aDf aR aRt aK aB aBb aBs aH aHk aHp aHb aHr s.heap.size tl tb pg ps pn pp pf dg ds dn dp df rl rk rp rt kp kb kk kn bb bs jl jn jk jp jb jr sa x1 x2 r1 h1 hm) (cwV 2 hts gL_node_X6_nodeB rfl rfl rfl (by decide +kernel) ⟨(Nat.le_of_ble_eq_true rfl), (Nat.le_of_ble_eq_true rfl)⟩) ⟨PN_blind, va_recv hK hP rfl (q0 := 0) rfl, PN_at hP hD hK3 hS hA hG hN [0, 1, 2, 3, 4, 5, 6, 7, 8, 9, 10, 11, 12, 13, 14, 15, 16, 17, 18, 19] rfl (by decide)⟩ rfl rfl hl.1 rfl (lv_room (Nat.le_of_ble_eq_true rfl)) dL_node_5 ⟨(Nat.le_of_ble_eq_true rfl), (Nat.le_of_ble_eq_true rfl)⟩) hS (fun q _ h => hFc q h) hFc (fun q _ h => hFc q h) (fun E ce q9 u t H1 locs1 ht hvm _ hB hz1 hk1 hS1 hc1 hc2 hc3 => ?_) (fun r u t H1 locs1 ht hvm hf hB hz1 hk1 hS1 => hf.elim)
  obtain ⟨rfl, hP1, hD1⟩ := hB
  rw [ht] at hP1
  obtain ⟨hP2, hD2⟩ := va_join (w1 := (w_VB cI cB cZ aV aT aTb aP aPp aPf aD aDp aDf aR aRt aK aB aBb aBs aH aHk aHp aHb aHr tl tb pg ps pn pp pf dg ds dn dp df rl rk rp rt kp kb kk kn bb bs jl jn jk jp jb jr)) hP hD [0, 1, 2, 3, 4, 5, 6, 7, 8, 9, 10, 11, 12, 13, 14, 15, 16, 17, 18, 19] [20] rfl (wr := [outC cJ aO fo]) rfl (by decide) (by decide) hk1 hFc hP1 hD1
  have hP3 : va_P D vwCl ((w_VB cI cB cZ aV aT aTb aP aPp aPf aD aDp aDf aR aRt aK aB aBb aBs aH aHk aHp aHb aHr tl tb pg ps pn pp pf dg ds dn dp df rl rk rp rt kp kb kk kn bb bs jl jn jk jp jb jr) ++ [outC cJ aO fo]) H1 := hP2.sub [1, 2, 3, 4, 5, 6, 7, 8, 9, 10, 11, 12, 13, 14, 15, 16, 17, 18, 19, 20, 0] (zz_fm rfl)
  have hD3 : va_D A ((w_VB cI cB cZ aV aT aTb aP aPp aPf aD aDp aDf aR aRt aK aB aBb aBs aH aHk aHp aHb aHr tl tb pg ps pn pp pf dg ds dn dp df rl rk rp rt kp kb kk kn bb bs jl jn jk jp jb jr) ++ [outC cJ aO fo]) := hD2.sub [1, 2, 3, 4, 5, 6, 7, 8, 9, 10, 11, 12, 13, 14, 15, 16, 17, 18, 19, 20, 0] (by decide) rfl
  refine vx_catch (own := RL) (name := "java/util/NoSuchElementException") hown [] ({ startPc := 0, endPc := 10, handlerPc := 13, catchType := 13 } : ExceptionTableEntry) [] (by rw [htab]; rfl) (fun z hz => nomatch hz) (by decide) (by decide) (hts (.classLink RL 13 "java/util/NoSuchElementException") (by decide +kernel)) (va_Nw.use rfl (hN.1 (.castable "java/util/NoSuchElementException" "java/util/NoSuchElementException") (by decide +kernel))) hc1 hc2 hc3 ?_
  refine lv_astore (x := q9) hx hb dL_node_13 hl (by decide) rfl (fun ls' hl' => ?_)
  refine lv_iconst (v := (1 : Int32)) hx hb dL_node_15 (by decide) ?_
  exact W.iret hx hb hr (fun t ht hW => ⟨⟨_, (), rfl, rfl, by rw [ht]; exact hP3, hD3⟩, hS1.F ht⟩) hS1.2.2 dL_node_16
