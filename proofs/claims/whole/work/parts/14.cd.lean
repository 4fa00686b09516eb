theorem iw_X2_copyScene_X2 : ∀ w ∈ wsX20, w ∈ wsX2_copyScene := by decide +kernel
set_option maxHeartbeats 4000000 in
set_option maxRecDepth 100000 in
theorem c_X2_copyScene (l : Launch) (D : va_G) (cI cB cZ : ClassId) (ta : Nat → Nat) (aP : Nat) (aPp : Nat) (aPf : Nat) (sz : Nat) (pg : Int32) (ps : Int32) (pn : Int32) (pp : (Nat → Int32)) (pf : (Nat → Int32)) (x1 : Int32) (x2 : Int32) (r0 : Int32) (u_pf : (Nat → Int32)) (hm : m_X2_copyScene pg pn pf x1 x2 = some (r0, u_pf)) : Met l yX2_copyScene wsX2_copyScene ({ frames := 2, cells := 0, slots := 0, locals := 42 } : Room) (va_Pc [.ref aP, .int x1, .int x2] (PW D cI cB cZ ta (w_Plan cI cB cZ aP aPp aPf pg ps pn pp pf) sz)) (QI D cI cB cZ (va_A (w_Plan cI cB cZ aP aPp aPf pg ps pn pp pf) sz) (w_Plan cI cB cZ aP aPp aPf pg ps pn pp u_pf) r0) 0 0 (va_A (w_Plan cI cB cZ aP aPp aPf pg ps pn pp pf) sz) := by
  refine Met.ofW (cc := cX2_copyScene) (maxL := 7) (ret := (some .int)) (by decide) rfl ?_
  intro p e s m args below meth c s₁ B hml hv
  obtain ⟨rfl, hsz, hP, hK, hD0, hG⟩ := hv
  have hx := B.exec
  have hb := B.bytes
  have hr := B.returns
  have hts := atoms_spec (ws := wsX2_copyScene) B.pre
  have hown : s.vm.findClass RX2 = some m.cls := findClass_of_methodNamed B.named
  have hlocks := B.notSynchronized
  subst hsz
  have hD := hD0.self (sz := s.heap.size)
  clear hD0
  have hA0 : ∀ q : Nat, s.heap.size ≤ q → va_A (w_Plan cI cB cZ aP aPp aPf pg ps pn pp pf) s.heap.size q := fun q h => Or.inr h
  generalize hAe : va_A (w_Plan cI cB cZ aP aPp aPf pg ps pn pp pf) s.heap.size = A at hD hG hA0 ⊢
  have hA : ∀ q : Nat, s.heap.size ≤ q → A q := hA0
  clear hA0
  have hS : va_S A s.heap s.heap [] := va_S.rf
  have iw_X2 := iw_X2_copyScene_X2
  have hk_17 : ∀ (ct5 : (Nat → Int32) → Int32 → Int32 → Int32 → Int32 → Option (Int32 × (Nat → Int32))) (hct5 : ∀ (pf : (Nat → Int32)) (y1 : Int32) (y2 : Int32) (y3 : Int32) (y4 : Int32), ct5 pf y1 y2 y3 y4 = some (r0, u_pf) → ∀ (ls : Array Slot) (H : Heap) (lo : List Loc), lv_has ls 7 [(0, .ref aP), (1, .int y1), (2, .int y2), (3, .int y3), (4, .int y4)] → va_P D vwCl (w_Plan cI cB cZ aP aPp aPf pg ps pn pp pf) H → va_D A (w_Plan cI cB cZ aP aPp aPf pg ps pn pp pf) → va_S A s.heap H lo → W p l e (headSpec wsX2_copyScene ({ frames := 2, cells := 0, slots := 0, locals := 42 } : Room)).room s m (([.ref aP, .int x1, .int x2] : List Value).toArray) below meth c H lo 0 0 (MQ below (QI D cI cB cZ A (w_Plan cI cB cZ aP aPp aPf pg ps pn pp u_pf) r0) (([.ref aP, .int x1, .int x2] : List Value).toArray) s 0 0 A) (F0 m 5 ls [])) (n : Nat) (pf : (Nat → Int32)) (y1 : Int32) (y2 : Int32) (y3 : Int32) (y4 : Int32) (y5 : Int32), k_X2_copyScene_17 pg pn ct5 n pf y1 y2 y3 y4 y5 = some (r0, u_pf) → ∀ (ls : Array Slot) (H : Heap) (lo : List Loc), lv_has ls 7 [(0, .ref aP), (1, .int y1), (2, .int y2), (3, .int y3), (4, .int y4), (5, .int y5)] → va_P D vwCl (w_Plan cI cB cZ aP aPp aPf pg ps pn pp pf) H → va_D A (w_Plan cI cB cZ aP aPp aPf pg ps pn pp pf) → va_S A s.heap H lo → W p l e (headSpec wsX2_copyScene ({ frames := 2, cells := 0, slots := 0, locals := 42 } : Room)).room s m (([.ref aP, .int x1, .int x2] : List Value).toArray) below meth c H lo 0 0 (MQ below (QI D cI cB cZ A (w_Plan cI cB cZ aP aPp aPf pg ps pn pp u_pf) r0) (([.ref aP, .int x1, .int x2] : List Value).toArray) s 0 0 A) (F0 m 17 ls []) := by
    intro ct5 hct5 n
    induction n with
    | zero => intro pf y1 y2 y3 y4 y5 hm; exact zz_nn hm
    | succ n ih =>
      intro pf y1 y2 y3 y4 y5 hm ls H lo hl hP hD hS
      replace hm := (k_X2_copyScene_17_s pg pn ct5 n pf y1 y2 y3 y4 y5).symm.trans hm
      refine lv_aload_n hx hb dX2_copyScene_17 rfl (lv_at hl 0 rfl) ?_
      refine lv_iload hx hb dX2_copyScene_18 (lv_at hl 4 rfl) ?_
      obtain ⟨r1, h1, hm1⟩ := ob1_e hm
      refine gcall_b (ws' := (w_Plan cI cB cZ aP aPp aPf pg ps pn pp pf)) (va_runV (As := [.int y4]) (rest := []) ⟨hx, hb, hml, hown, hts⟩ (c_X2_isLeaf l D cI cB cZ ta aP aPp aPf H.size pg ps pn pp pf y4 r1 h1) (cwV 1 hts gX2_copyScene_X2_isLeaf rfl rfl rfl (by decide +kernel) ⟨(Nat.le_of_ble_eq_true rfl), (Nat.le_of_ble_eq_true rfl)⟩) ⟨PW_blind, va_recv hK hP rfl (q0 := 0) rfl, PW_at hP hD hK hS hA hG [0, 1, 2] rfl (by decide)⟩ rfl rfl hl.1 rfl (lv_room (Nat.le_of_ble_eq_true rfl)) dX2_copyScene_20 ⟨(Nat.le_of_ble_eq_true rfl), (Nat.le_of_ble_eq_true rfl)⟩) hP hD hS hA [0, 1, 2] [] [0, 1, 2] rfl rfl (by decide) (by decide) (by decide) rfl (fun H2 lo2 hz1 hP2 hD2 hS2 => ?_)
      clear hP hD hS
      refine lv_if_eq (tgt := 77) hx hb dX2_copyScene_23 (by decide) (fun c3 => ?_) (fun c3 => ?_)
      · have hm4 := zz_if c3 hm1
        refine lv_iinc (v := (y4 + (1 : Int32))) (lv' := [(4, .int (y4 + (1 : Int32))), (0, .ref aP), (1, .int y1), (2, .int y2), (3, .int y3), (5, .int y5)]) hx hb dX2_copyScene_77 hl (k := 4) rfl (by rfl) (by decide) rfl (fun ls6 hl6 => ?_)
        refine lv_goto (tgt := 5) hx hb dX2_copyScene_80 (by decide) ?_
        exact hct5 pf y1 y2 y3 (y4 + (1 : Int32)) hm4 ls6 H2 lo2 (lv_sub hl6 [1, 2, 3, 4, 0] rfl) hP2 hD2 hS2
      · have hm5 := zz_nf c3 hm1
        refine lv_iload hx hb dX2_copyScene_26 (lv_at hl 5 rfl) ?_
        refine lv_iconst (v := (5 : Int32)) hx hb dX2_copyScene_28 (by decide) ?_
        refine lv_icmp_ge (tgt := 77) hx hb dX2_copyScene_29 (by decide) (fun c7 => ?_) (fun c7 => ?_)
        · have hm8 := zz_if c7 hm5
          refine lv_iinc (v := (y4 + (1 : Int32))) (lv' := [(4, .int (y4 + (1 : Int32))), (0, .ref aP), (1, .int y1), (2, .int y2), (3, .int y3), (5, .int y5)]) hx hb dX2_copyScene_77 hl (k := 4) rfl (by rfl) (by decide) rfl (fun ls10 hl10 => ?_)
          refine lv_goto (tgt := 5) hx hb dX2_copyScene_80 (by decide) ?_
          exact hct5 pf y1 y2 y3 (y4 + (1 : Int32)) hm8 ls10 H2 lo2 (lv_sub hl10 [1, 2, 3, 4, 0] rfl) hP2 hD2 hS2
        · have hm9 := zz_nf c7 hm5
          refine lv_aload_n hx hb dX2_copyScene_32 rfl (lv_at hl 0 rfl) ?_
          refine lv_iload hx hb dX2_copyScene_33 (lv_at hl 4 rfl) ?_
          refine lv_iload_n hx hb dX2_copyScene_35 rfl (lv_at hl 1 rfl) ?_
          refine lv_iload hx hb dX2_copyScene_36 (lv_at hl 5 rfl) ?_
          obtain ⟨r11, h11, hm11⟩ := ob1_e hm9
          refine gcall_i (ws' := (w_Plan cI cB cZ aP aPp aPf pg ps pn pp pf)) (va_runV (As := [.int y4, .int y1, .int y5]) (rest := []) ⟨hx, hb, hml, hown, hts⟩ (c_X2_factorOf l D cI cB cZ ta aP aPp aPf H2.size pg ps pn pp pf y4 y1 y5 r11 h11) (cwV 3 hts gX2_copyScene_X2_factorOf rfl rfl rfl (by decide +kernel) ⟨(Nat.le_of_ble_eq_true rfl), (Nat.le_of_ble_eq_true rfl)⟩) ⟨PW_blind, va_recv hK hP2 rfl (q0 := 0) rfl, PW_at hP2 hD2 hK hS2 hA hG [0, 1, 2] rfl (by decide)⟩ rfl rfl hl.1 rfl (lv_room (Nat.le_of_ble_eq_true rfl)) dX2_copyScene_38 ⟨(Nat.le_of_ble_eq_true rfl), (Nat.le_of_ble_eq_true rfl)⟩) hP2 hD2 hS2 hA [0, 1, 2] [] [0, 1, 2] rfl rfl (by decide) (by decide) (by decide) rfl (fun H12 lo12 hP12 hD12 hS12 => ?_)
          clear hP2 hD2 hS2
          refine lv_istore (lv' := [(6, .int r11), (0, .ref aP), (1, .int y1), (2, .int y2), (3, .int y3), (4, .int y4), (5, .int y5)]) hx hb dX2_copyScene_41 hl (by decide) rfl (fun ls13 hl13 => ?_)
          refine lv_aload_n hx hb dX2_copyScene_43 rfl (lv_at hl13 1 rfl) ?_
          refine lv_iload hx hb dX2_copyScene_44 (lv_at hl13 5 rfl) ?_
          refine lv_iload_n hx hb dX2_copyScene_46 rfl (lv_at hl13 3 rfl) ?_
          refine lv_iload hx hb dX2_copyScene_47 (lv_at hl13 6 rfl) ?_
          obtain ⟨r14, h14, hm14⟩ := ob1_e hm11
          refine gcall_i (ws' := (w_Plan cI cB cZ aP aPp aPf pg ps pn pp pf)) (va_runV (As := [.int y4, .int y2, .int y5]) (rest := []) ⟨hx, hb, hml, hown, hts⟩ (c_X2_factorOf l D cI cB cZ ta aP aPp aPf H12.size pg ps pn pp pf y4 y2 y5 r14 h14) (cwV 3 hts gX2_copyScene_X2_factorOf rfl rfl rfl (by decide +kernel) ⟨(Nat.le_of_ble_eq_true rfl), (Nat.le_of_ble_eq_true rfl)⟩) ⟨PW_blind, va_recv hK hP12 rfl (q0 := 0) rfl, PW_at hP12 hD12 hK hS12 hA hG [0, 1, 2] rfl (by decide)⟩ rfl rfl hl13.1 rfl (lv_room (Nat.le_of_ble_eq_true rfl)) dX2_copyScene_49 ⟨(Nat.le_of_ble_eq_true rfl), (Nat.le_of_ble_eq_true rfl)⟩) hP12 hD12 hS12 hA [0, 1, 2] [] [0, 1, 2] rfl rfl (by decide) (by decide) (by decide) rfl (fun H15 lo15 hP15 hD15 hS15 => ?_)
          clear hP12 hD12 hS12
          refine lv_iload hx hb dX2_copyScene_52 (lv_at hl13 0 rfl) ?_
          refine lv_icmp_eq (tgt := 71) hx hb dX2_copyScene_54 (by decide) (fun c16 => ?_) (fun c16 => ?_)
          · have hm17 := zz_if c16 hm14
            refine lv_iinc (v := (y5 + (1 : Int32))) (lv' := [(5, .int (y5 + (1 : Int32))), (6, .int r11), (0, .ref aP), (1, .int y1), (2, .int y2), (3, .int y3), (4, .int y4)]) hx hb dX2_copyScene_71 hl13 (k := 6) rfl (by rfl) (by decide) rfl (fun ls19 hl19 => ?_)
            refine lv_goto (tgt := 17) hx hb dX2_copyScene_74 (by decide) ?_
            exact ih pf y1 y2 y3 y4 (y5 + (1 : Int32)) hm17 ls19 H15 lo15 (lv_sub hl19 [2, 3, 4, 5, 6, 0] rfl) hP15 hD15 hS15
          · have hm18 := zz_nf c16 hm14
            refine lv_iinc (v := (y3 + (1 : Int32))) (lv' := [(3, .int (y3 + (1 : Int32))), (6, .int r11), (0, .ref aP), (1, .int y1), (2, .int y2), (4, .int y4), (5, .int y5)]) hx hb dX2_copyScene_57 hl13 (k := 4) rfl (by rfl) (by decide) rfl (fun ls20 hl20 => ?_)
            refine lv_aload_n hx hb dX2_copyScene_60 rfl (lv_at hl20 2 rfl) ?_
            refine lv_iload hx hb dX2_copyScene_61 (lv_at hl20 5 rfl) ?_
            refine lv_iload_n hx hb dX2_copyScene_63 rfl (lv_at hl20 4 rfl) ?_
            refine lv_iload hx hb dX2_copyScene_64 (lv_at hl20 6 rfl) ?_
            refine lv_iload hx hb dX2_copyScene_66 (lv_at hl20 1 rfl) ?_
            obtain ⟨pf_21, h21, hm21⟩ := ob1_e hm18
            refine gcall_v (ws' := (w_Plan cI cB cZ aP aPp aPf pg ps pn pp pf_21)) (va_runV (As := [.int y4, .int y2, .int y5, .int r11]) (rest := []) ⟨hx, hb, hml, hown, hts⟩ (c_X2_putFactor l D cI cB cZ ta aP aPp aPf H15.size pg ps pn pp pf y4 y2 y5 r11 pf_21 h21) (cwV 4 hts gX2_copyScene_X2_putFactor rfl rfl rfl (by decide +kernel) ⟨(Nat.le_of_ble_eq_true rfl), (Nat.le_of_ble_eq_true rfl)⟩) ⟨PW_blind, va_recv hK hP15 rfl (q0 := 0) rfl, PW_at hP15 hD15 hK hS15 hA hG [0, 1, 2] rfl (by decide)⟩ rfl rfl hl20.1 rfl (lv_room (Nat.le_of_ble_eq_true rfl)) dX2_copyScene_68 ⟨(Nat.le_of_ble_eq_true rfl), (Nat.le_of_ble_eq_true rfl)⟩) hP15 hD15 hS15 hA [0, 1, 2] [] [0, 1, 2] rfl rfl (by decide) (by decide) (by decide) rfl (fun H22 lo22 hP22 hD22 hS22 => ?_)
            clear hP15 hD15 hS15
            refine lv_iinc (v := (y5 + (1 : Int32))) (lv' := [(5, .int (y5 + (1 : Int32))), (3, .int (y3 + (1 : Int32))), (6, .int r11), (0, .ref aP), (1, .int y1), (2, .int y2), (4, .int y4)]) hx hb dX2_copyScene_71 hl20 (k := 6) rfl (by rfl) (by decide) rfl (fun ls23 hl23 => ?_)
            refine lv_goto (tgt := 17) hx hb dX2_copyScene_74 (by decide) ?_
            exact ih pf_21 y1 y2 (y3 + (1 : Int32)) y4 (y5 + (1 : Int32)) hm21 ls23 H22 lo22 (lv_sub hl23 [3, 4, 5, 1, 6, 0] rfl) hP22 hD22 hS22
  have hk_5 : ∀ (n : Nat) (pf : (Nat → Int32)) (y1 : Int32) (y2 : Int32) (y3 : Int32) (y4 : Int32), k_X2_copyScene_5 pg pn n pf y1 y2 y3 y4 = some (r0, u_pf) → ∀ (ls : Array Slot) (H : Heap) (lo : List Loc), lv_has ls 7 [(0, .ref aP), (1, .int y1), (2, .int y2), (3, .int y3), (4, .int y4)] → va_P D vwCl (w_Plan cI cB cZ aP aPp aPf pg ps pn pp pf) H → va_D A (w_Plan cI cB cZ aP aPp aPf pg ps pn pp pf) → va_S A s.heap H lo → W p l e (headSpec wsX2_copyScene ({ frames := 2, cells := 0, slots := 0, locals := 42 } : Room)).room s m (([.ref aP, .int x1, .int x2] : List Value).toArray) below meth c H lo 0 0 (MQ below (QI D cI cB cZ A (w_Plan cI cB cZ aP aPp aPf pg ps pn pp u_pf) r0) (([.ref aP, .int x1, .int x2] : List Value).toArray) s 0 0 A) (F0 m 5 ls []) := by
    intro n
    induction n with
    | zero => intro pf y1 y2 y3 y4 hm; exact zz_nn hm
    | succ n ih =>
      intro pf y1 y2 y3 y4 hm ls H lo hl hP hD hS
      replace hm := (k_X2_copyScene_5_s pg pn n pf y1 y2 y3 y4).symm.trans hm
      refine lv_iload hx hb dX2_copyScene_5 (lv_at hl 4 rfl) ?_
      refine lv_aload_n hx hb dX2_copyScene_7 rfl (lv_at hl 0 rfl) ?_
      refine va_get (D := D) (ci := 2) (v := .int pn) (C := RX2) (T := TX2) (N := 5) hx hb hts iw_X2 hown hK hP 0 rfl rfl 4 (by decide) (hts (.fieldLink RX2 26 "VarianceBridge$Plan" "nodes" "I") (by decide +kernel)) (fun _ h9 => h9) rfl dX2_copyScene_8 ?_
      refine lv_icmp_ge (tgt := 83) hx hb dX2_copyScene_11 (by decide) (fun c24 => ?_) (fun c24 => ?_)
      · have hm25 := zz_if c24 hm
        refine lv_iload_n hx hb dX2_copyScene_83 rfl (lv_at hl 3 rfl) ?_
        obtain ⟨hq1, hq2⟩ := Prod.mk.inj (Option.some.inj hm25)
        subst hq1
        subst hq2
        exact W.iret hx hb hr (fun t ht hW => ⟨⟨_, (), rfl, rfl, by rw [ht]; exact hP, va_K.moved hW.alike hK, hD⟩, hS.F ht⟩) hS.2.2 dX2_copyScene_84
      · have hm26 := zz_nf c24 hm
        refine lv_iconst (v := (0 : Int32)) hx hb dX2_copyScene_14 (by decide) ?_
        refine lv_istore (lv' := [(5, .int (0 : Int32)), (0, .ref aP), (1, .int y1), (2, .int y2), (3, .int y3), (4, .int y4)]) hx hb dX2_copyScene_15 hl (by decide) rfl (fun ls27 hl27 => ?_)
        exact hk_17 (k_X2_copyScene_5 pg pn n) ih FU pf y1 y2 y3 y4 (0 : Int32) hm26 ls27 H lo (lv_sub hl27 [1, 2, 3, 4, 5, 0] rfl) hP hD hS
  have hl := lv_entry ([.ref aP, .int x1, .int x2]) (n := 7) (Nat.le_of_ble_eq_true rfl)
  rw [lg_entry_eq]
  generalize (lg_sl ([.ref aP, .int x1, .int x2]) ++ List.replicate (7 - (lg_sl ([.ref aP, .int x1, .int x2])).length) Slot.unset).toArray = ls at hl ⊢
  have hl : lv_has ls 7 [(0, .ref aP), (1, .int x1), (2, .int x2)] := hl
  replace hm : (k_X2_copyScene_5 pg pn FU pf x1 x2 (0 : Int32) (1 : Int32)) = some (r0, u_pf) := hm
  refine lv_iconst (v := (0 : Int32)) hx hb dX2_copyScene_0 (by decide) ?_
  refine lv_istore_n (lv' := [(3, .int (0 : Int32)), (0, .ref aP), (1, .int x1), (2, .int x2)]) hx hb dX2_copyScene_1 rfl hl (by decide) rfl (fun ls28 hl28 => ?_)
  refine lv_iconst (v := (1 : Int32)) hx hb dX2_copyScene_2 (by decide) ?_
  refine lv_istore (lv' := [(4, .int (1 : Int32)), (3, .int (0 : Int32)), (0, .ref aP), (1, .int x1), (2, .int x2)]) hx hb dX2_copyScene_3 hl28 (by decide) rfl (fun ls29 hl29 => ?_)
  exact hk_5 FU pf x1 x2 (0 : Int32) (1 : Int32) hm ls29 s.heap [] (lv_sub hl29 [2, 3, 4, 1, 0] rfl) hP hD hS
theorem iw_X5_rewind_X5 : ∀ w ∈ wsX50, w ∈ wsX5_rewind := by decide +kernel
set_option maxHeartbeats 4000000 in
set_option maxRecDepth 100000 in
theorem c_X5_rewind (l : Launch) (D : va_G) (cI cB cZ : ClassId) (ta : Nat → Nat) (aK : Nat) (aT : Nat) (aTb : Nat) (sz : Nat) (kp : Int32) (kb : Int32) (kk : Int32) (kn : Int32) (tl : Int32) (tb : (Nat → Int32)) (u_kp : Int32) (u_kb : Int32) (u_kk : Int32) (u_kn : Int32) (hm : m_X5_rewind kp kb kk kn = some (u_kp, u_kb, u_kk, u_kn)) : Met l yX5_rewind wsX5_rewind ({ frames := 0, cells := 0, slots := 0, locals := 0 } : Room) (va_Pc [.ref aK] (PW D cI cB cZ ta (w_Tokens cI cB cZ aK aT aTb kp kb kk kn tl tb) sz)) (QV D cI cB cZ (va_A (w_Tokens cI cB cZ aK aT aTb kp kb kk kn tl tb) sz) (w_Tokens cI cB cZ aK aT aTb u_kp u_kb u_kk u_kn tl tb)) 0 0 (va_A (w_Tokens cI cB cZ aK aT aTb kp kb kk kn tl tb) sz) := by
  refine Met.ofW (cc := cX5_rewind) (maxL := 1) (ret := none) (by decide) rfl ?_
  intro p e s m args below meth c s₁ B hml hv
  obtain ⟨rfl, hsz, hP, hK, hD0, hG⟩ := hv
  have hx := B.exec
  have hb := B.bytes
  have hr := B.returns
  have hts := atoms_spec (ws := wsX5_rewind) B.pre
  have hown : s.vm.findClass RX5 = some m.cls := findClass_of_methodNamed B.named
  have hlocks := B.notSynchronized
  subst hsz
  have hD := hD0.self (sz := s.heap.size)
  clear hD0
  have hA0 : ∀ q : Nat, s.heap.size ≤ q → va_A (w_Tokens cI cB cZ aK aT aTb kp kb kk kn tl tb) s.heap.size q := fun q h => Or.inr h
  generalize hAe : va_A (w_Tokens cI cB cZ aK aT aTb kp kb kk kn tl tb) s.heap.size = A at hD hG hA0 ⊢
  have hA : ∀ q : Nat, s.heap.size ≤ q → A q := hA0
  clear hA0
  have hS : va_S A s.heap s.heap [] := va_S.rf
  have iw_X5 := iw_X5_rewind_X5
  have hl := lv_entry ([.ref aK]) (n := 1) (Nat.le_of_ble_eq_true rfl)
  rw [lg_entry_eq]
  generalize (lg_sl ([.ref aK]) ++ List.replicate (1 - (lg_sl ([.ref aK])).length) Slot.unset).toArray = ls at hl ⊢
  have hl : lv_has ls 1 [(0, .ref aK)] := hl
  replace hm : some ((0 : Int32), (0 : Int32), (0 : Int32), (0 : Int32)) = some (u_kp, u_kb, u_kk, u_kn) := hm
  refine lv_aload_n hx hb dX5_rewind_0 rfl (lv_at hl 0 rfl) ?_
  refine lv_iconst (v := (0 : Int32)) hx hb dX5_rewind_1 (by decide) ?_
  refine va_put (D := D) (ci := 5) (v := .int (0 : Int32)) (ty := .int) (C := RX5) (T := TX5) (N := 5) hx hb hts iw_X5 tyX5 tyX5_ok nmX5 hown hK hP hD hS 0 rfl rfl 1 (by decide) (hts (.fieldLink RX5 9 "VarianceBridge$Tokens" "place" "I") (by decide +kernel)) (fun _ h9 => h9) rfl (by decide +kernel) rfl rfl (Nat.le_of_ble_eq_true rfl) dX5_rewind_2 (fun H1 lo1 hP1 hD1 hS1 => ?_)
  replace hP1 : va_P D vwCl (w_Tokens cI cB cZ aK aT aTb (0 : Int32) kb kk kn tl tb) H1 := hP1
  replace hD1 : va_D A (w_Tokens cI cB cZ aK aT aTb (0 : Int32) kb kk kn tl tb) := hD1
  clear hP hD hS
  refine lv_aload_n hx hb dX5_rewind_5 rfl (lv_at hl 0 rfl) ?_
  refine lv_iconst (v := (0 : Int32)) hx hb dX5_rewind_6 (by decide) ?_
  refine va_put (D := D) (ci := 5) (v := .int (0 : Int32)) (ty := .int) (C := RX5) (T := TX5) (N := 5) hx hb hts iw_X5 tyX5 tyX5_ok nmX5 hown hK hP1 hD1 hS1 0 rfl rfl 2 (by decide) (hts (.fieldLink RX5 15 "VarianceBridge$Tokens" "begin" "I") (by decide +kernel)) (fun _ h9 => h9) rfl (by decide +kernel) rfl rfl (Nat.le_of_ble_eq_true rfl) dX5_rewind_7 (fun H2 lo2 hP2 hD2 hS2 => ?_)
  replace hP2 : va_P D vwCl (w_Tokens cI cB cZ aK aT aTb (0 : Int32) (0 : Int32) kk kn tl tb) H2 := hP2
  replace hD2 : va_D A (w_Tokens cI cB cZ aK aT aTb (0 : Int32) (0 : Int32) kk kn tl tb) := hD2
  clear hP1 hD1 hS1
  refine lv_aload_n hx hb dX5_rewind_10 rfl (lv_at hl 0 rfl) ?_
  refine lv_iconst (v := (0 : Int32)) hx hb dX5_rewind_11 (by decide) ?_
  refine va_put (D := D) (ci := 5) (v := .int (0 : Int32)) (ty := .int) (C := RX5) (T := TX5) (N := 5) hx hb hts iw_X5 tyX5 tyX5_ok nmX5 hown hK hP2 hD2 hS2 0 rfl rfl 3 (by decide) (hts (.fieldLink RX5 18 "VarianceBridge$Tokens" "kind" "I") (by decide +kernel)) (fun _ h9 => h9) rfl (by decide +kernel) rfl rfl (Nat.le_of_ble_eq_true rfl) dX5_rewind_12 (fun H3 lo3 hP3 hD3 hS3 => ?_)
  replace hP3 : va_P D vwCl (w_Tokens cI cB cZ aK aT aTb (0 : Int32) (0 : Int32) (0 : Int32) kn tl tb) H3 := hP3
  replace hD3 : va_D A (w_Tokens cI cB cZ aK aT aTb (0 : Int32) (0 : Int32) (0 : Int32) kn tl tb) := hD3
  clear hP2 hD2 hS2
  refine lv_aload_n hx hb dX5_rewind_15 rfl (lv_at hl 0 rfl) ?_
  refine lv_iconst (v := (0 : Int32)) hx hb dX5_rewind_16 (by decide) ?_
  refine va_put (D := D) (ci := 5) (v := .int (0 : Int32)) (ty := .int) (C := RX5) (T := TX5) (N := 5) hx hb hts iw_X5 tyX5 tyX5_ok nmX5 hown hK hP3 hD3 hS3 0 rfl rfl 4 (by decide) (hts (.fieldLink RX5 21 "VarianceBridge$Tokens" "number" "I") (by decide +kernel)) (fun _ h9 => h9) rfl (by decide +kernel) rfl rfl (Nat.le_of_ble_eq_true rfl) dX5_rewind_17 (fun H4 lo4 hP4 hD4 hS4 => ?_)
  replace hP4 : va_P D vwCl (w_Tokens cI cB cZ aK aT aTb (0 : Int32) (0 : Int32) (0 : Int32) (0 : Int32) tl tb) H4 := hP4
  replace hD4 : va_D A (w_Tokens cI cB cZ aK aT aTb (0 : Int32) (0 : Int32) (0 : Int32) (0 : Int32) tl tb) := hD4
  clear hP3 hD3 hS3
  obtain ⟨hq1, hq99⟩ := Prod.mk.inj (Option.some.inj hm)
  obtain ⟨hq2, hq99⟩ := Prod.mk.inj (hq99)
  obtain ⟨hq3, hq4⟩ := Prod.mk.inj (hq99)
  subst hq1
  subst hq2
  subst hq3
  subst hq4
  exact W.vret hx hb hr (fun t ht hW => ⟨⟨(), rfl, trivial, by rw [ht]; exact hP4, va_K.moved hW.alike hK, hD4⟩, hS4.F ht⟩) hS4.2.2 dX5_rewind_20
theorem iw_X5_skipBlanks_X4 : ∀ w ∈ wsX40, w ∈ wsX5_skipBlanks := by decide +kernel
theorem iw_X5_skipBlanks_X5 : ∀ w ∈ wsX50, w ∈ wsX5_skipBlanks := by decide +kernel
set_option maxHeartbeats 4000000 in
set_option maxRecDepth 100000 in
theorem c_X5_skipBlanks (l : Launch) (D : va_G) (cI cB cZ : ClassId) (ta : Nat → Nat) (aK : Nat) (aT : Nat) (aTb : Nat) (sz : Nat) (kp : Int32) (kb : Int32) (kk : Int32) (kn : Int32) (tl : Int32) (tb : (Nat → Int32)) (u_kp : Int32) (hm : m_X5_skipBlanks kp tl tb = some u_kp) : Met l yX5_skipBlanks wsX5_skipBlanks ({ frames := 0, cells := 0, slots := 0, locals := 0 } : Room) (va_Pc [.ref aK] (PW D cI cB cZ ta (w_Tokens cI cB cZ aK aT aTb kp kb kk kn tl tb) sz)) (QV D cI cB cZ (va_A (w_Tokens cI cB cZ aK aT aTb kp kb kk kn tl tb) sz) (w_Tokens cI cB cZ aK aT aTb u_kp kb kk kn tl tb)) 0 0 (va_A (w_Tokens cI cB cZ aK aT aTb kp kb kk kn tl tb) sz) := by
  refine Met.ofW (cc := cX5_skipBlanks) (maxL := 1) (ret := none) (by decide) rfl ?_
  intro p e s m args below meth c s₁ B hml hv
  obtain ⟨rfl, hsz, hP, hK, hD0, hG⟩ := hv
  have hx := B.exec
  have hb := B.bytes
  have hr := B.returns
  have hts := atoms_spec (ws := wsX5_skipBlanks) B.pre
  have hown : s.vm.findClass RX5 = some m.cls := findClass_of_methodNamed B.named
  have hlocks := B.notSynchronized
  subst hsz
  have hD := hD0.self (sz := s.heap.size)
  clear hD0
  have hA0 : ∀ q : Nat, s.heap.size ≤ q → va_A (w_Tokens cI cB cZ aK aT aTb kp kb kk kn tl tb) s.heap.size q := fun q h => Or.inr h
  generalize hAe : va_A (w_Tokens cI cB cZ aK aT aTb kp kb kk kn tl tb) s.heap.size = A at hD hG hA0 ⊢
  have hA : ∀ q : Nat, s.heap.size ≤ q → A q := hA0
  clear hA0
  have hS : va_S A s.heap s.heap [] := va_S.rf
  have iw_X4 := iw_X5_skipBlanks_X4
  have iw_X5 := iw_X5_skipBlanks_X5
  have hk_48 : ∀ (ct0 : Int32 → Option (Int32)) (hct0 : ∀ (kp : Int32), ct0 kp = some u_kp → ∀ (ls : Array Slot) (H : Heap) (lo : List Loc), lv_has ls 1 [(0, .ref aK)] → va_P D vwCl (w_Tokens cI cB cZ aK aT aTb kp kb kk kn tl tb) H → va_D A (w_Tokens cI cB cZ aK aT aTb kp kb kk kn tl tb) → va_S A s.heap H lo → W p l e (headSpec wsX5_skipBlanks ({ frames := 0, cells := 0, slots := 0, locals := 0 } : Room)).room s m (([.ref aK] : List Value).toArray) below meth c H lo 0 0 (MQ below (QV D cI cB cZ A (w_Tokens cI cB cZ aK aT aTb u_kp kb kk kn tl tb)) (([.ref aK] : List Value).toArray) s 0 0 A) (F0 m 0 ls [])) (kp : Int32), k_X5_skipBlanks_48 tl tb ct0 kp = some u_kp → ∀ (ls : Array Slot) (H : Heap) (lo : List Loc), lv_has ls 1 [(0, .ref aK)] → va_P D vwCl (w_Tokens cI cB cZ aK aT aTb kp kb kk kn tl tb) H → va_D A (w_Tokens cI cB cZ aK aT aTb kp kb kk kn tl tb) → va_S A s.heap H lo → W p l e (headSpec wsX5_skipBlanks ({ frames := 0, cells := 0, slots := 0, locals := 0 } : Room)).room s m (([.ref aK] : List Value).toArray) below meth c H lo 0 0 (MQ below (QV D cI cB cZ A (w_Tokens cI cB cZ aK aT aTb u_kp kb kk kn tl tb)) (([.ref aK] : List Value).toArray) s 0 0 A) (F0 m 48 ls []) := by
    intro ct0 hct0 kp hm ls H lo hl hP hD hS
    replace hm : (ct0 (kp + (1 : Int32))) = some u_kp := hm
    refine lv_aload_n hx hb dX5_skipBlanks_48 rfl (lv_at hl 0 rfl) ?_
    refine lv_dup hx hb dX5_skipBlanks_49 rfl ?_
    refine va_get (D := D) (ci := 5) (v := .int kp) (C := RX5) (T := TX5) (N := 5) hx hb hts iw_X5 hown hK hP 0 rfl rfl 1 (by decide) (hts (.fieldLink RX5 9 "VarianceBridge$Tokens" "place" "I") (by decide +kernel)) (fun _ h9 => h9) rfl dX5_skipBlanks_50 ?_
    refine lv_iconst (v := (1 : Int32)) hx hb dX5_skipBlanks_53 (by decide) ?_
    refine lv_iadd hx hb dX5_skipBlanks_54 ?_
    refine va_put (D := D) (ci := 5) (v := .int (kp + (1 : Int32))) (ty := .int) (C := RX5) (T := TX5) (N := 5) hx hb hts iw_X5 tyX5 tyX5_ok nmX5 hown hK hP hD hS 0 rfl rfl 1 (by decide) (hts (.fieldLink RX5 9 "VarianceBridge$Tokens" "place" "I") (by decide +kernel)) (fun _ h9 => h9) rfl (by decide +kernel) rfl rfl (Nat.le_of_ble_eq_true rfl) dX5_skipBlanks_55 (fun H1 lo1 hP1 hD1 hS1 => ?_)
    replace hP1 : va_P D vwCl (w_Tokens cI cB cZ aK aT aTb (kp + (1 : Int32)) kb kk kn tl tb) H1 := hP1
    replace hD1 : va_D A (w_Tokens cI cB cZ aK aT aTb (kp + (1 : Int32)) kb kk kn tl tb) := hD1
    clear hP hD hS
    refine lv_goto (tgt := 0) hx hb dX5_skipBlanks_58 (by decide) ?_
    exact hct0 (kp + (1 : Int32)) hm ls H1 lo1 (lv_sub hl [0] rfl) hP1 hD1 hS1
  have hk_0 : ∀ (n : Nat) (kp : Int32), k_X5_skipBlanks_0 tl tb n kp = some u_kp → ∀ (ls : Array Slot) (H : Heap) (lo : List Loc), lv_has ls 1 [(0, .ref aK)] → va_P D vwCl (w_Tokens cI cB cZ aK aT aTb kp kb kk kn tl tb) H → va_D A (w_Tokens cI cB cZ aK aT aTb kp kb kk kn tl tb) → va_S A s.heap H lo → W p l e (headSpec wsX5_skipBlanks ({ frames := 0, cells := 0, slots := 0, locals := 0 } : Room)).room s m (([.ref aK] : List Value).toArray) below meth c H lo 0 0 (MQ below (QV D cI cB cZ A (w_Tokens cI cB cZ aK aT aTb u_kp kb kk kn tl tb)) (([.ref aK] : List Value).toArray) s 0 0 A) (F0 m 0 ls []) := by
    intro n
    induction n with
    | zero => intro kp hm; exact zz_nn hm
    | succ n ih =>
      intro kp hm ls H lo hl hP hD hS
      replace hm := (k_X5_skipBlanks_0_s tl tb n kp).symm.trans hm
      refine lv_aload_n hx hb dX5_skipBlanks_0 rfl (lv_at hl 0 rfl) ?_
      refine va_get (D := D) (ci := 5) (v := .int kp) (C := RX5) (T := TX5) (N := 5) hx hb hts iw_X5 hown hK hP 0 rfl rfl 1 (by decide) (hts (.fieldLink RX5 9 "VarianceBridge$Tokens" "place" "I") (by decide +kernel)) (fun _ h9 => h9) rfl dX5_skipBlanks_1 ?_
      refine lv_aload_n hx hb dX5_skipBlanks_4 rfl (lv_at hl 0 rfl) ?_
      refine va_get (D := D) (ci := 5) (v := .ref aT) (C := RX5) (T := TX5) (N := 5) hx hb hts iw_X5 hown hK hP 0 rfl rfl 0 (by decide) (hts (.fieldLink RX5 24 "VarianceBridge$Tokens" "tape" "LVarianceBridge$Tape;") (by decide +kernel)) (fun _ h9 => h9) rfl dX5_skipBlanks_5 ?_
      refine va_getN (D := D) (ci := 4) (v := .int tl) (C := RX4) (T := TX4) (N := 2) hx hb hts iw_X4 hown hK hP 1 rfl rfl 1 (by decide) (va_Nw.use rfl (hG.1 (.fieldLinkNest RX5 31 RX4 "length" "I" RX6) (by decide +kernel))) (fun _ h9 => h9) rfl dX5_skipBlanks_8 ?_
      refine lv_icmp_ge (tgt := 61) hx hb dX5_skipBlanks_11 (by decide) (fun c2 => ?_) (fun c2 => ?_)
      · have hm3 := zz_if c2 hm
        have hq1 := Option.some.inj hm3
        subst hq1
        exact W.vret hx hb hr (fun t ht hW => ⟨⟨(), rfl, trivial, by rw [ht]; exact hP, va_K.moved hW.alike hK, hD⟩, hS.F ht⟩) hS.2.2 dX5_skipBlanks_61
      · have hm4 := zz_nf c2 hm
        refine lv_aload_n hx hb dX5_skipBlanks_14 rfl (lv_at hl 0 rfl) ?_
        refine va_get (D := D) (ci := 5) (v := .ref aT) (C := RX5) (T := TX5) (N := 5) hx hb hts iw_X5 hown hK hP 0 rfl rfl 0 (by decide) (hts (.fieldLink RX5 24 "VarianceBridge$Tokens" "tape" "LVarianceBridge$Tape;") (by decide +kernel)) (fun _ h9 => h9) rfl dX5_skipBlanks_15 ?_
        refine va_getN (D := D) (ci := 4) (v := .ref aTb) (C := RX4) (T := TX4) (N := 2) hx hb hts iw_X4 hown hK hP 1 rfl rfl 0 (by decide) (va_Nw.use rfl (hG.1 (.fieldLinkNest RX5 36 RX4 "bytes" "[B" RX6) (by decide +kernel))) (fun _ h9 => h9) rfl dX5_skipBlanks_18 ?_
        refine lv_aload_n hx hb dX5_skipBlanks_21 rfl (lv_at hl 0 rfl) ?_
        refine va_get (D := D) (ci := 5) (v := .int kp) (C := RX5) (T := TX5) (N := 5) hx hb hts iw_X5 hown hK hP 0 rfl rfl 1 (by decide) (hts (.fieldLink RX5 9 "VarianceBridge$Tokens" "place" "I") (by decide +kernel)) (fun _ h9 => h9) rfl dX5_skipBlanks_22 ?_
        obtain ⟨c5, hm6⟩ := zz_no hm4
        refine va_bald hx hb hK hP 2 1 rfl rfl c5 dX5_skipBlanks_25 ?_
        refine lv_bipush (v := (32 : Int32)) hx hb dX5_skipBlanks_26 (by decide) ?_
        refine lv_icmp_eq (tgt := 48) hx hb dX5_skipBlanks_28 (by decide) (fun c7 => ?_) (fun c7 => ?_)
        · have hm8 := zz_if c7 hm6
          exact hk_48 (k_X5_skipBlanks_0 tl tb n) ih kp hm8 ls H lo (lv_sub hl [0] rfl) hP hD hS
        · have hm9 := zz_nf c7 hm6
          refine lv_aload_n hx hb dX5_skipBlanks_31 rfl (lv_at hl 0 rfl) ?_
          refine va_get (D := D) (ci := 5) (v := .ref aT) (C := RX5) (T := TX5) (N := 5) hx hb hts iw_X5 hown hK hP 0 rfl rfl 0 (by decide) (hts (.fieldLink RX5 24 "VarianceBridge$Tokens" "tape" "LVarianceBridge$Tape;") (by decide +kernel)) (fun _ h9 => h9) rfl dX5_skipBlanks_32 ?_
          refine va_getN (D := D) (ci := 4) (v := .ref aTb) (C := RX4) (T := TX4) (N := 2) hx hb hts iw_X4 hown hK hP 1 rfl rfl 0 (by decide) (va_Nw.use rfl (hG.1 (.fieldLinkNest RX5 36 RX4 "bytes" "[B" RX6) (by decide +kernel))) (fun _ h9 => h9) rfl dX5_skipBlanks_35 ?_
          refine lv_aload_n hx hb dX5_skipBlanks_38 rfl (lv_at hl 0 rfl) ?_
          refine va_get (D := D) (ci := 5) (v := .int kp) (C := RX5) (T := TX5) (N := 5) hx hb hts iw_X5 hown hK hP 0 rfl rfl 1 (by decide) (hts (.fieldLink RX5 9 "VarianceBridge$Tokens" "place" "I") (by decide +kernel)) (fun _ h9 => h9) rfl dX5_skipBlanks_39 ?_
          obtain ⟨c10, hm11⟩ := zz_no hm9
          refine va_bald hx hb hK hP 2 1 rfl rfl c10 dX5_skipBlanks_42 ?_
          refine lv_bipush (v := (10 : Int32)) hx hb dX5_skipBlanks_43 (by decide) ?_
          refine lv_icmp_ne (tgt := 61) hx hb dX5_skipBlanks_45 (by decide) (fun c12 => ?_) (fun c12 => ?_)
          · have hm13 := zz_nf c12 hm11
            have hq1 := Option.some.inj hm13
            subst hq1
            exact W.vret hx hb hr (fun t ht hW => ⟨⟨(), rfl, trivial, by rw [ht]; exact hP, va_K.moved hW.alike hK, hD⟩, hS.F ht⟩) hS.2.2 dX5_skipBlanks_61
          · have hm14 := zz_if c12 hm11
            exact hk_48 (k_X5_skipBlanks_0 tl tb n) ih kp hm14 ls H lo (lv_sub hl [0] rfl) hP hD hS
  have hl := lv_entry ([.ref aK]) (n := 1) (Nat.le_of_ble_eq_true rfl)
  rw [lg_entry_eq]
  generalize (lg_sl ([.ref aK]) ++ List.replicate (1 - (lg_sl ([.ref aK])).length) Slot.unset).toArray = ls at hl ⊢
  have hl : lv_has ls 1 [(0, .ref aK)] := hl
  replace hm : (k_X5_skipBlanks_0 tl tb FU kp) = some u_kp := hm
  exact hk_0 FU kp hm ls s.heap [] (lv_sub hl [0] rfl) hP hD hS
theorem iw_X5_readRun_X4 : ∀ w ∈ wsX40, w ∈ wsX5_readRun := by decide +kernel
theorem iw_X5_readRun_X5 : ∀ w ∈ wsX50, w ∈ wsX5_readRun := by decide +kernel
set_option maxHeartbeats 4000000 in
set_option maxRecDepth 100000 in
theorem c_X5_readRun (l : Launch) (D : va_G) (cI cB cZ : ClassId) (ta : Nat → Nat) (aK : Nat) (aT : Nat) (aTb : Nat) (sz : Nat) (kp : Int32) (kb : Int32) (kk : Int32) (kn : Int32) (tl : Int32) (tb : (Nat → Int32)) (u_kp : Int32) (u_kk : Int32) (u_kn : Int32) (hm : m_X5_readRun kp kk kn tl tb = some (u_kp, u_kk, u_kn)) : Met l yX5_readRun wsX5_readRun ({ frames := 0, cells := 0, slots := 0, locals := 0 } : Room) (va_Pc [.ref aK] (PW D cI cB cZ ta (w_Tokens cI cB cZ aK aT aTb kp kb kk kn tl tb) sz)) (QV D cI cB cZ (va_A (w_Tokens cI cB cZ aK aT aTb kp kb kk kn tl tb) sz) (w_Tokens cI cB cZ aK aT aTb u_kp kb u_kk u_kn tl tb)) 0 0 (va_A (w_Tokens cI cB cZ aK aT aTb kp kb kk kn tl tb) sz) := by
  refine Met.ofW (cc := cX5_readRun) (maxL := 4) (ret := none) (by decide) rfl ?_
  intro p e s m args below meth c s₁ B hml hv
  obtain ⟨rfl, hsz, hP, hK, hD0, hG⟩ := hv
  have hx := B.exec
  have hb := B.bytes
  have hr := B.returns
  have hts := atoms_spec (ws := wsX5_readRun) B.pre
  have hown : s.vm.findClass RX5 = some m.cls := findClass_of_methodNamed B.named
  have hlocks := B.notSynchronized
  subst hsz
  have hD := hD0.self (sz := s.heap.size)
  clear hD0
  have hA0 : ∀ q : Nat, s.heap.size ≤ q → va_A (w_Tokens cI cB cZ aK aT aTb kp kb kk kn tl tb) s.heap.size q := fun q h => Or.inr h
  generalize hAe : va_A (w_Tokens cI cB cZ aK aT aTb kp kb kk kn tl tb) s.heap.size = A at hD hG hA0 ⊢
  have hA : ∀ q : Nat, s.heap.size ≤ q → A q := hA0
  clear hA0
  have hS : va_S A s.heap s.heap [] := va_S.rf
  have iw_X4 := iw_X5_readRun_X4
  have iw_X5 := iw_X5_readRun_X5
  have hk_94 : ∀ (ct9 : Int32 → Int32 → Int32 → Int32 → Int32 → Option (Int32 × Int32 × Int32)) (hct9 : ∀ (kp : Int32) (kk : Int32) (kn : Int32) (y1 : Int32) (y2 : Int32), ct9 kp kk kn y1 y2 = some (u_kp, u_kk, u_kn) → ∀ (ls : Array Slot) (H : Heap) (lo : List Loc), lv_has ls 4 [(0, .ref aK), (1, .int y1), (2, .int y2)] → va_P D vwCl (w_Tokens cI cB cZ aK aT aTb kp kb kk kn tl tb) H → va_D A (w_Tokens cI cB cZ aK aT aTb kp kb kk kn tl tb) → va_S A s.heap H lo → W p l e (headSpec wsX5_readRun ({ frames := 0, cells := 0, slots := 0, locals := 0 } : Room)).room s m (([.ref aK] : List Value).toArray) below meth c H lo 0 0 (MQ below (QV D cI cB cZ A (w_Tokens cI cB cZ aK aT aTb u_kp kb u_kk u_kn tl tb)) (([.ref aK] : List Value).toArray) s 0 0 A) (F0 m 9 ls [])) (kp : Int32) (kk : Int32) (kn : Int32) (y1 : Int32) (y2 : Int32), k_X5_readRun_94 tl tb ct9 kp kk kn y1 y2 = some (u_kp, u_kk, u_kn) → ∀ (ls : Array Slot) (H : Heap) (lo : List Loc), lv_has ls 4 [(0, .ref aK), (1, .int y1), (2, .int y2)] → va_P D vwCl (w_Tokens cI cB cZ aK aT aTb kp kb kk kn tl tb) H → va_D A (w_Tokens cI cB cZ aK aT aTb kp kb kk kn tl tb) → va_S A s.heap H lo → W p l e (headSpec wsX5_readRun ({ frames := 0, cells := 0, slots := 0, locals := 0 } : Room)).room s m (([.ref aK] : List Value).toArray) below meth c H lo 0 0 (MQ below (QV D cI cB cZ A (w_Tokens cI cB cZ aK aT aTb u_kp kb u_kk u_kn tl tb)) (([.ref aK] : List Value).toArray) s 0 0 A) (F0 m 94 ls []) := by
    intro ct9 hct9 kp kk kn y1 y2 hm ls H lo hl hP hD hS
    replace hm : (ct9 (kp + (1 : Int32)) kk kn y1 y2) = some (u_kp, u_kk, u_kn) := hm
    refine lv_aload_n hx hb dX5_readRun_94 rfl (lv_at hl 0 rfl) ?_
    refine lv_dup hx hb dX5_readRun_95 rfl ?_
    refine va_get (D := D) (ci := 5) (v := .int kp) (C := RX5) (T := TX5) (N := 5) hx hb hts iw_X5 hown hK hP 0 rfl rfl 1 (by decide) (hts (.fieldLink RX5 9 "VarianceBridge$Tokens" "place" "I") (by decide +kernel)) (fun _ h9 => h9) rfl dX5_readRun_96 ?_
    refine lv_iconst (v := (1 : Int32)) hx hb dX5_readRun_99 (by decide) ?_
    refine lv_iadd hx hb dX5_readRun_100 ?_
    refine va_put (D := D) (ci := 5) (v := .int (kp + (1 : Int32))) (ty := .int) (C := RX5) (T := TX5) (N := 5) hx hb hts iw_X5 tyX5 tyX5_ok nmX5 hown hK hP hD hS 0 rfl rfl 1 (by decide) (hts (.fieldLink RX5 9 "VarianceBridge$Tokens" "place" "I") (by decide +kernel)) (fun _ h9 => h9) rfl (by decide +kernel) rfl rfl (Nat.le_of_ble_eq_true rfl) dX5_readRun_101 (fun H1 lo1 hP1 hD1 hS1 => ?_)
    replace hP1 : va_P D vwCl (w_Tokens cI cB cZ aK aT aTb (kp + (1 : Int32)) kb kk kn tl tb) H1 := hP1
    replace hD1 : va_D A (w_Tokens cI cB cZ aK aT aTb (kp + (1 : Int32)) kb kk kn tl tb) := hD1
    clear hP hD hS
    refine lv_goto (tgt := 9) hx hb dX5_readRun_104 (by decide) ?_
    exact hct9 (kp + (1 : Int32)) kk kn y1 y2 hm ls H1 lo1 (lv_sub hl [0, 1, 2] rfl) hP1 hD1 hS1
  have hk_73 : ∀ (ct9 : Int32 → Int32 → Int32 → Int32 → Int32 → Option (Int32 × Int32 × Int32)) (hct9 : ∀ (kp : Int32) (kk : Int32) (kn : Int32) (y1 : Int32) (y2 : Int32), ct9 kp kk kn y1 y2 = some (u_kp, u_kk, u_kn) → ∀ (ls : Array Slot) (H : Heap) (lo : List Loc), lv_has ls 4 [(0, .ref aK), (1, .int y1), (2, .int y2)] → va_P D vwCl (w_Tokens cI cB cZ aK aT aTb kp kb kk kn tl tb) H → va_D A (w_Tokens cI cB cZ aK aT aTb kp kb kk kn tl tb) → va_S A s.heap H lo → W p l e (headSpec wsX5_readRun ({ frames := 0, cells := 0, slots := 0, locals := 0 } : Room)).room s m (([.ref aK] : List Value).toArray) below meth c H lo 0 0 (MQ below (QV D cI cB cZ A (w_Tokens cI cB cZ aK aT aTb u_kp kb u_kk u_kn tl tb)) (([.ref aK] : List Value).toArray) s 0 0 A) (F0 m 9 ls [])) (kp : Int32) (kk : Int32) (kn : Int32) (y1 : Int32) (y2 : Int32) (z1 : Int32), k_X5_readRun_73 tl tb ct9 kp kk kn y1 y2 z1 = some (u_kp, u_kk, u_kn) → ∀ (ls : Array Slot) (H : Heap) (lo : List Loc), lv_has ls 4 [(0, .ref aK), (1, .int y1), (2, .int y2)] → va_P D vwCl (w_Tokens cI cB cZ aK aT aTb kp kb kk kn tl tb) H → va_D A (w_Tokens cI cB cZ aK aT aTb kp kb kk kn tl tb) → va_S A s.heap H lo → W p l e (headSpec wsX5_readRun ({ frames := 0, cells := 0, slots := 0, locals := 0 } : Room)).room s m (([.ref aK] : List Value).toArray) below meth c H lo 0 0 (MQ below (QV D cI cB cZ A (w_Tokens cI cB cZ aK aT aTb u_kp kb u_kk u_kn tl tb)) (([.ref aK] : List Value).toArray) s 0 0 A) (F0 m 73 ls [.int z1, .ref aK]) := by
    intro ct9 hct9 kp kk kn y1 y2 z1 hm ls H lo hl hP hD hS
    replace hm : (k_X5_readRun_94 tl tb ct9 kp kk z1 y1 y2) = some (u_kp, u_kk, u_kn) := hm
    refine va_put (D := D) (ci := 5) (v := .int z1) (ty := .int) (C := RX5) (T := TX5) (N := 5) hx hb hts iw_X5 tyX5 tyX5_ok nmX5 hown hK hP hD hS 0 rfl rfl 4 (by decide) (hts (.fieldLink RX5 21 "VarianceBridge$Tokens" "number" "I") (by decide +kernel)) (fun _ h9 => h9) rfl (by decide +kernel) rfl rfl (Nat.le_of_ble_eq_true rfl) dX5_readRun_73 (fun H2 lo2 hP2 hD2 hS2 => ?_)
    replace hP2 : va_P D vwCl (w_Tokens cI cB cZ aK aT aTb kp kb kk z1 tl tb) H2 := hP2
    replace hD2 : va_D A (w_Tokens cI cB cZ aK aT aTb kp kb kk z1 tl tb) := hD2
    clear hP hD hS
    refine lv_goto (tgt := 94) hx hb dX5_readRun_76 (by decide) ?_
    exact hk_94 ct9 hct9 kp kk z1 y1 y2 hm ls H2 lo2 (lv_sub hl [0, 1, 2] rfl) hP2 hD2 hS2
  have hk_142 : ∀ (kp : Int32) (kk : Int32) (kn : Int32) (z1 : Int32), k_X5_readRun_142 tl tb kp kk kn z1 = some (u_kp, u_kk, u_kn) → ∀ (ls : Array Slot) (H : Heap) (lo : List Loc), lv_has ls 4 [] → va_P D vwCl (w_Tokens cI cB cZ aK aT aTb kp kb kk kn tl tb) H → va_D A (w_Tokens cI cB cZ aK aT aTb kp kb kk kn tl tb) → va_S A s.heap H lo → W p l e (headSpec wsX5_readRun ({ frames := 0, cells := 0, slots := 0, locals := 0 } : Room)).room s m (([.ref aK] : List Value).toArray) below meth c H lo 0 0 (MQ below (QV D cI cB cZ A (w_Tokens cI cB cZ aK aT aTb u_kp kb u_kk u_kn tl tb)) (([.ref aK] : List Value).toArray) s 0 0 A) (F0 m 142 ls [.int z1, .ref aK]) := by
    intro kp kk kn z1 hm ls H lo hl hP hD hS
    replace hm : some (kp, z1, kn) = some (u_kp, u_kk, u_kn) := hm
    refine va_put (D := D) (ci := 5) (v := .int z1) (ty := .int) (C := RX5) (T := TX5) (N := 5) hx hb hts iw_X5 tyX5 tyX5_ok nmX5 hown hK hP hD hS 0 rfl rfl 3 (by decide) (hts (.fieldLink RX5 18 "VarianceBridge$Tokens" "kind" "I") (by decide +kernel)) (fun _ h9 => h9) rfl (by decide +kernel) rfl rfl (Nat.le_of_ble_eq_true rfl) dX5_readRun_142 (fun H3 lo3 hP3 hD3 hS3 => ?_)
    replace hP3 : va_P D vwCl (w_Tokens cI cB cZ aK aT aTb kp kb z1 kn tl tb) H3 := hP3
    replace hD3 : va_D A (w_Tokens cI cB cZ aK aT aTb kp kb z1 kn tl tb) := hD3
    clear hP hD hS
    obtain ⟨hq1, hq99⟩ := Prod.mk.inj (Option.some.inj hm)
    obtain ⟨hq2, hq3⟩ := Prod.mk.inj (hq99)
    subst hq1
    subst hq2
    subst hq3
    exact W.vret hx hb hr (fun t ht hW => ⟨⟨(), rfl, trivial, by rw [ht]; exact hP3, va_K.moved hW.alike hK, hD3⟩, hS3.F ht⟩) hS3.2.2 dX5_readRun_145
  have hk_141 : ∀ (kp : Int32) (kk : Int32) (kn : Int32), k_X5_readRun_141 tl tb kp kk kn = some (u_kp, u_kk, u_kn) → ∀ (ls : Array Slot) (H : Heap) (lo : List Loc), lv_has ls 4 [] → va_P D vwCl (w_Tokens cI cB cZ aK aT aTb kp kb kk kn tl tb) H → va_D A (w_Tokens cI cB cZ aK aT aTb kp kb kk kn tl tb) → va_S A s.heap H lo → W p l e (headSpec wsX5_readRun ({ frames := 0, cells := 0, slots := 0, locals := 0 } : Room)).room s m (([.ref aK] : List Value).toArray) below meth c H lo 0 0 (MQ below (QV D cI cB cZ A (w_Tokens cI cB cZ aK aT aTb u_kp kb u_kk u_kn tl tb)) (([.ref aK] : List Value).toArray) s 0 0 A) (F0 m 141 ls [.ref aK]) := by
    intro kp kk kn hm ls H lo hl hP hD hS
    replace hm : (k_X5_readRun_142 tl tb kp kk kn (0 : Int32)) = some (u_kp, u_kk, u_kn) := hm
    refine lv_iconst (v := (0 : Int32)) hx hb dX5_readRun_141 (by decide) ?_
    exact hk_142 kp kk kn (0 : Int32) hm ls H lo (lv_sub hl [] rfl) hP hD hS
  have hk_123 : ∀ (kp : Int32) (kk : Int32) (kn : Int32) (y1 : Int32) (y2 : Int32), k_X5_readRun_123 tl tb kp kk kn y1 y2 = some (u_kp, u_kk, u_kn) → ∀ (ls : Array Slot) (H : Heap) (lo : List Loc), lv_has ls 4 [(0, .ref aK), (1, .int y1), (2, .int y2)] → va_P D vwCl (w_Tokens cI cB cZ aK aT aTb kp kb kk kn tl tb) H → va_D A (w_Tokens cI cB cZ aK aT aTb kp kb kk kn tl tb) → va_S A s.heap H lo → W p l e (headSpec wsX5_readRun ({ frames := 0, cells := 0, slots := 0, locals := 0 } : Room)).room s m (([.ref aK] : List Value).toArray) below meth c H lo 0 0 (MQ below (QV D cI cB cZ A (w_Tokens cI cB cZ aK aT aTb u_kp kb u_kk u_kn tl tb)) (([.ref aK] : List Value).toArray) s 0 0 A) (F0 m 123 ls []) := by
    intro kp kk kn y1 y2 hm ls H lo hl hP hD hS
    replace hm : (if y1 = 0 then (if y2 ≤ 0 then (k_X5_readRun_141 tl tb kp kk kn) else (if (4 : Int32) < y2 then (k_X5_readRun_141 tl tb kp kk kn) else (k_X5_readRun_142 tl tb kp kk kn (2 : Int32)))) else (k_X5_readRun_141 tl tb kp kk kn)) = some (u_kp, u_kk, u_kn) := hm
    refine lv_aload_n hx hb dX5_readRun_123 rfl (lv_at hl 0 rfl) ?_
    refine lv_iload_n hx hb dX5_readRun_124 rfl (lv_at hl 1 rfl) ?_
    refine lv_if_ne (tgt := 141) hx hb dX5_readRun_125 (by decide) (fun c4 => ?_) (fun c4 => ?_)
    · have hm5 := zz_nf c4 hm
      exact hk_141 kp kk kn hm5 ls H lo (lv_sub hl [] rfl) hP hD hS
    · have hm6 := zz_if c4 hm
      refine lv_iload_n hx hb dX5_readRun_128 rfl (lv_at hl 2 rfl) ?_
      refine lv_if_le (tgt := 141) hx hb dX5_readRun_129 (by decide) (fun c7 => ?_) (fun c7 => ?_)
      · have hm8 := zz_if c7 hm6
        exact hk_141 kp kk kn hm8 ls H lo (lv_sub hl [] rfl) hP hD hS
      · have hm9 := zz_nf c7 hm6
        refine lv_iload_n hx hb dX5_readRun_132 rfl (lv_at hl 2 rfl) ?_
        refine lv_iconst (v := (4 : Int32)) hx hb dX5_readRun_133 (by decide) ?_
        refine lv_icmp_gt (tgt := 141) hx hb dX5_readRun_134 (by decide) (fun c10 => ?_) (fun c10 => ?_)
        · have hm11 := zz_if c10 hm9
          exact hk_141 kp kk kn hm11 ls H lo (lv_sub hl [] rfl) hP hD hS
        · have hm12 := zz_nf c10 hm9
          refine lv_iconst (v := (2 : Int32)) hx hb dX5_readRun_137 (by decide) ?_
          refine lv_goto (tgt := 142) hx hb dX5_readRun_138 (by decide) ?_
          exact hk_142 kp kk kn (2 : Int32) hm12 ls H lo (lv_sub hl [] rfl) hP hD hS
  have hk_107 : ∀ (kp : Int32) (kk : Int32) (kn : Int32) (y1 : Int32) (y2 : Int32), k_X5_readRun_107 tl tb kp kk kn y1 y2 = some (u_kp, u_kk, u_kn) → ∀ (ls : Array Slot) (H : Heap) (lo : List Loc), lv_has ls 4 [(0, .ref aK), (1, .int y1), (2, .int y2)] → va_P D vwCl (w_Tokens cI cB cZ aK aT aTb kp kb kk kn tl tb) H → va_D A (w_Tokens cI cB cZ aK aT aTb kp kb kk kn tl tb) → va_S A s.heap H lo → W p l e (headSpec wsX5_readRun ({ frames := 0, cells := 0, slots := 0, locals := 0 } : Room)).room s m (([.ref aK] : List Value).toArray) below meth c H lo 0 0 (MQ below (QV D cI cB cZ A (w_Tokens cI cB cZ aK aT aTb u_kp kb u_kk u_kn tl tb)) (([.ref aK] : List Value).toArray) s 0 0 A) (F0 m 107 ls []) := by
    intro kp kk kn y1 y2 hm ls H lo hl hP hD hS
    replace hm : (if y1 ≤ 0 then (k_X5_readRun_123 tl tb kp kk kn y1 y2) else (if y2 = 0 then some (kp, (1 : Int32), kn) else (k_X5_readRun_123 tl tb kp kk kn y1 y2))) = some (u_kp, u_kk, u_kn) := hm
    refine lv_iload_n hx hb dX5_readRun_107 rfl (lv_at hl 1 rfl) ?_
    refine lv_if_le (tgt := 123) hx hb dX5_readRun_108 (by decide) (fun c13 => ?_) (fun c13 => ?_)
    · have hm14 := zz_if c13 hm
      exact hk_123 kp kk kn y1 y2 hm14 ls H lo (lv_sub hl [0, 1, 2] rfl) hP hD hS
    · have hm15 := zz_nf c13 hm
      refine lv_iload_n hx hb dX5_readRun_111 rfl (lv_at hl 2 rfl) ?_
      refine lv_if_ne (tgt := 123) hx hb dX5_readRun_112 (by decide) (fun c16 => ?_) (fun c16 => ?_)
      · have hm17 := zz_nf c16 hm15
        exact hk_123 kp kk kn y1 y2 hm17 ls H lo (lv_sub hl [0, 1, 2] rfl) hP hD hS
      · have hm18 := zz_if c16 hm15
        refine lv_aload_n hx hb dX5_readRun_115 rfl (lv_at hl 0 rfl) ?_
        refine lv_iconst (v := (1 : Int32)) hx hb dX5_readRun_116 (by decide) ?_
        refine va_put (D := D) (ci := 5) (v := .int (1 : Int32)) (ty := .int) (C := RX5) (T := TX5) (N := 5) hx hb hts iw_X5 tyX5 tyX5_ok nmX5 hown hK hP hD hS 0 rfl rfl 3 (by decide) (hts (.fieldLink RX5 18 "VarianceBridge$Tokens" "kind" "I") (by decide +kernel)) (fun _ h9 => h9) rfl (by decide +kernel) rfl rfl (Nat.le_of_ble_eq_true rfl) dX5_readRun_117 (fun H19 lo19 hP19 hD19 hS19 => ?_)
        replace hP19 : va_P D vwCl (w_Tokens cI cB cZ aK aT aTb kp kb (1 : Int32) kn tl tb) H19 := hP19
        replace hD19 : va_D A (w_Tokens cI cB cZ aK aT aTb kp kb (1 : Int32) kn tl tb) := hD19
        clear hP hD hS
        refine lv_goto (tgt := 145) hx hb dX5_readRun_120 (by decide) ?_
        obtain ⟨hq1, hq99⟩ := Prod.mk.inj (Option.some.inj hm18)
        obtain ⟨hq2, hq3⟩ := Prod.mk.inj (hq99)
        subst hq1
        subst hq2
        subst hq3
        exact W.vret hx hb hr (fun t ht hW => ⟨⟨(), rfl, trivial, by rw [ht]; exact hP19, va_K.moved hW.alike hK, hD19⟩, hS19.F ht⟩) hS19.2.2 dX5_readRun_145
  have hk_79 : ∀ (ct9 : Int32 → Int32 → Int32 → Int32 → Int32 → Option (Int32 × Int32 × Int32)) (hct9 : ∀ (kp : Int32) (kk : Int32) (kn : Int32) (y1 : Int32) (y2 : Int32), ct9 kp kk kn y1 y2 = some (u_kp, u_kk, u_kn) → ∀ (ls : Array Slot) (H : Heap) (lo : List Loc), lv_has ls 4 [(0, .ref aK), (1, .int y1), (2, .int y2)] → va_P D vwCl (w_Tokens cI cB cZ aK aT aTb kp kb kk kn tl tb) H → va_D A (w_Tokens cI cB cZ aK aT aTb kp kb kk kn tl tb) → va_S A s.heap H lo → W p l e (headSpec wsX5_readRun ({ frames := 0, cells := 0, slots := 0, locals := 0 } : Room)).room s m (([.ref aK] : List Value).toArray) below meth c H lo 0 0 (MQ below (QV D cI cB cZ A (w_Tokens cI cB cZ aK aT aTb u_kp kb u_kk u_kn tl tb)) (([.ref aK] : List Value).toArray) s 0 0 A) (F0 m 9 ls [])) (kp : Int32) (kk : Int32) (kn : Int32) (y1 : Int32) (y2 : Int32) (y3 : Int32), k_X5_readRun_79 tl tb ct9 kp kk kn y1 y2 y3 = some (u_kp, u_kk, u_kn) → ∀ (ls : Array Slot) (H : Heap) (lo : List Loc), lv_has ls 4 [(0, .ref aK), (1, .int y1), (2, .int y2), (3, .int y3)] → va_P D vwCl (w_Tokens cI cB cZ aK aT aTb kp kb kk kn tl tb) H → va_D A (w_Tokens cI cB cZ aK aT aTb kp kb kk kn tl tb) → va_S A s.heap H lo → W p l e (headSpec wsX5_readRun ({ frames := 0, cells := 0, slots := 0, locals := 0 } : Room)).room s m (([.ref aK] : List Value).toArray) below meth c H lo 0 0 (MQ below (QV D cI cB cZ A (w_Tokens cI cB cZ aK aT aTb u_kp kb u_kk u_kn tl tb)) (([.ref aK] : List Value).toArray) s 0 0 A) (F0 m 79 ls []) := by
    intro ct9 hct9 kp kk kn y1 y2 y3 hm ls H lo hl hP hD hS
    replace hm : (if y3 < (97 : Int32) then (k_X5_readRun_107 tl tb kp kk kn y1 y2) else (if (122 : Int32) < y3 then (k_X5_readRun_107 tl tb kp kk kn y1 y2) else (k_X5_readRun_94 tl tb ct9 kp kk kn (y1 + (1 : Int32)) y2))) = some (u_kp, u_kk, u_kn) := hm
    refine lv_iload_n hx hb dX5_readRun_79 rfl (lv_at hl 3 rfl) ?_
    refine lv_bipush (v := (97 : Int32)) hx hb dX5_readRun_80 (by decide) ?_
    refine lv_icmp_lt (tgt := 107) hx hb dX5_readRun_82 (by decide) (fun c20 => ?_) (fun c20 => ?_)
    · have hm21 := zz_if c20 hm
      exact hk_107 kp kk kn y1 y2 hm21 ls H lo (lv_sub hl [0, 1, 2] rfl) hP hD hS
    · have hm22 := zz_nf c20 hm
      refine lv_iload_n hx hb dX5_readRun_85 rfl (lv_at hl 3 rfl) ?_
      refine lv_bipush (v := (122 : Int32)) hx hb dX5_readRun_86 (by decide) ?_
      refine lv_icmp_gt (tgt := 107) hx hb dX5_readRun_88 (by decide) (fun c23 => ?_) (fun c23 => ?_)
      · have hm24 := zz_if c23 hm22
        exact hk_107 kp kk kn y1 y2 hm24 ls H lo (lv_sub hl [0, 1, 2] rfl) hP hD hS
      · have hm25 := zz_nf c23 hm22
        refine lv_iinc (v := (y1 + (1 : Int32))) (lv' := [(1, .int (y1 + (1 : Int32))), (0, .ref aK), (2, .int y2), (3, .int y3)]) hx hb dX5_readRun_91 hl (k := 1) rfl (by rfl) (by decide) rfl (fun ls26 hl26 => ?_)
        exact hk_94 ct9 hct9 kp kk kn (y1 + (1 : Int32)) y2 hm25 ls26 H lo (lv_sub hl26 [1, 0, 2] rfl) hP hD hS
  have hk_9 : ∀ (n : Nat) (kp : Int32) (kk : Int32) (kn : Int32) (y1 : Int32) (y2 : Int32), k_X5_readRun_9 tl tb n kp kk kn y1 y2 = some (u_kp, u_kk, u_kn) → ∀ (ls : Array Slot) (H : Heap) (lo : List Loc), lv_has ls 4 [(0, .ref aK), (1, .int y1), (2, .int y2)] → va_P D vwCl (w_Tokens cI cB cZ aK aT aTb kp kb kk kn tl tb) H → va_D A (w_Tokens cI cB cZ aK aT aTb kp kb kk kn tl tb) → va_S A s.heap H lo → W p l e (headSpec wsX5_readRun ({ frames := 0, cells := 0, slots := 0, locals := 0 } : Room)).room s m (([.ref aK] : List Value).toArray) below meth c H lo 0 0 (MQ below (QV D cI cB cZ A (w_Tokens cI cB cZ aK aT aTb u_kp kb u_kk u_kn tl tb)) (([.ref aK] : List Value).toArray) s 0 0 A) (F0 m 9 ls []) := by
    intro n
    induction n with
    | zero => intro kp kk kn y1 y2 hm; exact zz_nn hm
    | succ n ih =>
      intro kp kk kn y1 y2 hm ls H lo hl hP hD hS
      replace hm := (k_X5_readRun_9_s tl tb n kp kk kn y1 y2).symm.trans hm
      refine lv_aload_n hx hb dX5_readRun_9 rfl (lv_at hl 0 rfl) ?_
      refine va_get (D := D) (ci := 5) (v := .int kp) (C := RX5) (T := TX5) (N := 5) hx hb hts iw_X5 hown hK hP 0 rfl rfl 1 (by decide) (hts (.fieldLink RX5 9 "VarianceBridge$Tokens" "place" "I") (by decide +kernel)) (fun _ h9 => h9) rfl dX5_readRun_10 ?_
      refine lv_aload_n hx hb dX5_readRun_13 rfl (lv_at hl 0 rfl) ?_
      refine va_get (D := D) (ci := 5) (v := .ref aT) (C := RX5) (T := TX5) (N := 5) hx hb hts iw_X5 hown hK hP 0 rfl rfl 0 (by decide) (hts (.fieldLink RX5 24 "VarianceBridge$Tokens" "tape" "LVarianceBridge$Tape;") (by decide +kernel)) (fun _ h9 => h9) rfl dX5_readRun_14 ?_
      refine va_getN (D := D) (ci := 4) (v := .int tl) (C := RX4) (T := TX4) (N := 2) hx hb hts iw_X4 hown hK hP 1 rfl rfl 1 (by decide) (va_Nw.use rfl (hG.1 (.fieldLinkNest RX5 31 RX4 "length" "I" RX6) (by decide +kernel))) (fun _ h9 => h9) rfl dX5_readRun_17 ?_
      refine lv_icmp_ge (tgt := 107) hx hb dX5_readRun_20 (by decide) (fun c27 => ?_) (fun c27 => ?_)
      · have hm28 := zz_if c27 hm
        exact hk_107 kp kk kn y1 y2 hm28 ls H lo (lv_sub hl [0, 1, 2] rfl) hP hD hS
      · have hm29 := zz_nf c27 hm
        refine lv_aload_n hx hb dX5_readRun_23 rfl (lv_at hl 0 rfl) ?_
        refine va_get (D := D) (ci := 5) (v := .ref aT) (C := RX5) (T := TX5) (N := 5) hx hb hts iw_X5 hown hK hP 0 rfl rfl 0 (by decide) (hts (.fieldLink RX5 24 "VarianceBridge$Tokens" "tape" "LVarianceBridge$Tape;") (by decide +kernel)) (fun _ h9 => h9) rfl dX5_readRun_24 ?_
        refine va_getN (D := D) (ci := 4) (v := .ref aTb) (C := RX4) (T := TX4) (N := 2) hx hb hts iw_X4 hown hK hP 1 rfl rfl 0 (by decide) (va_Nw.use rfl (hG.1 (.fieldLinkNest RX5 36 RX4 "bytes" "[B" RX6) (by decide +kernel))) (fun _ h9 => h9) rfl dX5_readRun_27 ?_
        refine lv_aload_n hx hb dX5_readRun_30 rfl (lv_at hl 0 rfl) ?_
        refine va_get (D := D) (ci := 5) (v := .int kp) (C := RX5) (T := TX5) (N := 5) hx hb hts iw_X5 hown hK hP 0 rfl rfl 1 (by decide) (hts (.fieldLink RX5 9 "VarianceBridge$Tokens" "place" "I") (by decide +kernel)) (fun _ h9 => h9) rfl dX5_readRun_31 ?_
        obtain ⟨c30, hm31⟩ := zz_no hm29
        refine va_bald hx hb hK hP 2 1 rfl rfl c30 dX5_readRun_34 ?_
        refine lv_istore_n (lv' := [(3, .int (tb kp.toNatClampNeg)), (0, .ref aK), (1, .int y1), (2, .int y2)]) hx hb dX5_readRun_35 rfl hl (by decide) rfl (fun ls32 hl32 => ?_)
        refine lv_iload_n hx hb dX5_readRun_36 rfl (lv_at hl32 0 rfl) ?_
        refine lv_bipush (v := (48 : Int32)) hx hb dX5_readRun_37 (by decide) ?_
        refine lv_icmp_lt (tgt := 79) hx hb dX5_readRun_39 (by decide) (fun c33 => ?_) (fun c33 => ?_)
        · have hm34 := zz_if c33 hm31
          exact hk_79 (k_X5_readRun_9 tl tb n) ih kp kk kn y1 y2 (tb kp.toNatClampNeg) hm34 ls32 H lo (lv_sub hl32 [1, 2, 3, 0] rfl) hP hD hS
        · have hm35 := zz_nf c33 hm31
          refine lv_iload_n hx hb dX5_readRun_42 rfl (lv_at hl32 0 rfl) ?_
          refine lv_bipush (v := (57 : Int32)) hx hb dX5_readRun_43 (by decide) ?_
          refine lv_icmp_gt (tgt := 79) hx hb dX5_readRun_45 (by decide) (fun c36 => ?_) (fun c36 => ?_)
          · have hm37 := zz_if c36 hm35
            exact hk_79 (k_X5_readRun_9 tl tb n) ih kp kk kn y1 y2 (tb kp.toNatClampNeg) hm37 ls32 H lo (lv_sub hl32 [1, 2, 3, 0] rfl) hP hD hS
          · have hm38 := zz_nf c36 hm35
            refine lv_iinc (v := (y2 + (1 : Int32))) (lv' := [(2, .int (y2 + (1 : Int32))), (3, .int (tb kp.toNatClampNeg)), (0, .ref aK), (1, .int y1)]) hx hb dX5_readRun_48 hl32 (k := 3) rfl (by rfl) (by decide) rfl (fun ls39 hl39 => ?_)
            refine lv_aload_n hx hb dX5_readRun_51 rfl (lv_at hl39 2 rfl) ?_
            refine lv_iload_n hx hb dX5_readRun_52 rfl (lv_at hl39 0 rfl) ?_
            refine lv_iconst (v := (4 : Int32)) hx hb dX5_readRun_53 (by decide) ?_
            refine lv_icmp_gt (tgt := 72) hx hb dX5_readRun_54 (by decide) (fun c40 => ?_) (fun c40 => ?_)
            · have hm41 := zz_if c40 hm38
              refine lv_iconst (v := (0 : Int32)) hx hb dX5_readRun_72 (by decide) ?_
              exact hk_73 (k_X5_readRun_9 tl tb n) ih kp kk kn y1 (y2 + (1 : Int32)) (0 : Int32) hm41 ls39 H lo (lv_sub hl39 [2, 3, 0] rfl) hP hD hS
            · have hm42 := zz_nf c40 hm38
              refine lv_aload_n hx hb dX5_readRun_57 rfl (lv_at hl39 2 rfl) ?_
              refine va_get (D := D) (ci := 5) (v := .int kn) (C := RX5) (T := TX5) (N := 5) hx hb hts iw_X5 hown hK hP 0 rfl rfl 4 (by decide) (hts (.fieldLink RX5 21 "VarianceBridge$Tokens" "number" "I") (by decide +kernel)) (fun _ h9 => h9) rfl dX5_readRun_58 ?_
              refine lv_bipush (v := (10 : Int32)) hx hb dX5_readRun_61 (by decide) ?_
              refine lv_imul hx hb dX5_readRun_63 ?_
              refine lv_iload_n hx hb dX5_readRun_64 rfl (lv_at hl39 1 rfl) ?_
              refine lv_iadd hx hb dX5_readRun_65 ?_
              refine lv_bipush (v := (48 : Int32)) hx hb dX5_readRun_66 (by decide) ?_
              refine lv_isub hx hb dX5_readRun_68 ?_
              refine lv_goto (tgt := 73) hx hb dX5_readRun_69 (by decide) ?_
              exact hk_73 (k_X5_readRun_9 tl tb n) ih kp kk kn y1 (y2 + (1 : Int32)) (((kn * (10 : Int32)) + (tb kp.toNatClampNeg)) - (48 : Int32)) hm42 ls39 H lo (lv_sub hl39 [2, 3, 0] rfl) hP hD hS
  have hl := lv_entry ([.ref aK]) (n := 4) (Nat.le_of_ble_eq_true rfl)
  rw [lg_entry_eq]
  generalize (lg_sl ([.ref aK]) ++ List.replicate (4 - (lg_sl ([.ref aK])).length) Slot.unset).toArray = ls at hl ⊢
  have hl : lv_has ls 4 [(0, .ref aK)] := hl
  replace hm : (k_X5_readRun_9 tl tb FU kp kk (0 : Int32) (0 : Int32) (0 : Int32)) = some (u_kp, u_kk, u_kn) := hm
  refine lv_iconst (v := (0 : Int32)) hx hb dX5_readRun_0 (by decide) ?_
  refine lv_istore_n (lv' := [(1, .int (0 : Int32)), (0, .ref aK)]) hx hb dX5_readRun_1 rfl hl (by decide) rfl (fun ls43 hl43 => ?_)
  refine lv_iconst (v := (0 : Int32)) hx hb dX5_readRun_2 (by decide) ?_
  refine lv_istore_n (lv' := [(2, .int (0 : Int32)), (1, .int (0 : Int32)), (0, .ref aK)]) hx hb dX5_readRun_3 rfl hl43 (by decide) rfl (fun ls44 hl44 => ?_)
  refine lv_aload_n hx hb dX5_readRun_4 rfl (lv_at hl44 2 rfl) ?_
  refine lv_iconst (v := (0 : Int32)) hx hb dX5_readRun_5 (by decide) ?_
  refine va_put (D := D) (ci := 5) (v := .int (0 : Int32)) (ty := .int) (C := RX5) (T := TX5) (N := 5) hx hb hts iw_X5 tyX5 tyX5_ok nmX5 hown hK hP hD hS 0 rfl rfl 4 (by decide) (hts (.fieldLink RX5 21 "VarianceBridge$Tokens" "number" "I") (by decide +kernel)) (fun _ h9 => h9) rfl (by decide +kernel) rfl rfl (Nat.le_of_ble_eq_true rfl) dX5_readRun_6 (fun H45 lo45 hP45 hD45 hS45 => ?_)
  replace hP45 : va_P D vwCl (w_Tokens cI cB cZ aK aT aTb kp kb kk (0 : Int32) tl tb) H45 := hP45
  replace hD45 : va_D A (w_Tokens cI cB cZ aK aT aTb kp kb kk (0 : Int32) tl tb) := hD45
  clear hP hD hS
  exact hk_9 FU kp kk (0 : Int32) (0 : Int32) (0 : Int32) hm ls44 H45 lo45 (lv_sub hl44 [2, 1, 0] rfl) hP45 hD45 hS45
theorem iw_X5_advance_X4 : ∀ w ∈ wsX40, w ∈ wsX5_advance := by decide +kernel
theorem iw_X5_advance_X5 : ∀ w ∈ wsX50, w ∈ wsX5_advance := by decide +kernel
set_option maxHeartbeats 4000000 in
set_option maxRecDepth 100000 in
theorem c_X5_advance (l : Launch) (D : va_G) (cI cB cZ : ClassId) (ta : Nat → Nat) (aK : Nat) (aT : Nat) (aTb : Nat) (sz : Nat) (kp : Int32) (kb : Int32) (kk : Int32) (kn : Int32) (tl : Int32) (tb : (Nat → Int32)) (u_kp : Int32) (u_kb : Int32) (u_kk : Int32) (u_kn : Int32) (hm : m_X5_advance kp kb kk kn tl tb = some (u_kp, u_kb, u_kk, u_kn)) : Met l yX5_advance wsX5_advance ({ frames := 1, cells := 0, slots := 0, locals := 23 } : Room) (va_Pc [.ref aK] (PW D cI cB cZ ta (w_Tokens cI cB cZ aK aT aTb kp kb kk kn tl tb) sz)) (QV D cI cB cZ (va_A (w_Tokens cI cB cZ aK aT aTb kp kb kk kn tl tb) sz) (w_Tokens cI cB cZ aK aT aTb u_kp u_kb u_kk u_kn tl tb)) 0 0 (va_A (w_Tokens cI cB cZ aK aT aTb kp kb kk kn tl tb) sz) := by
  refine Met.ofW (cc := cX5_advance) (maxL := 1) (ret := none) (by decide) rfl ?_
  intro p e s m args below meth c s₁ B hml hv
  obtain ⟨rfl, hsz, hP, hK, hD0, hG⟩ := hv
  have hx := B.exec
  have hb := B.bytes
  have hr := B.returns
  have hts := atoms_spec (ws := wsX5_advance) B.pre
  have hown : s.vm.findClass RX5 = some m.cls := findClass_of_methodNamed B.named
  have hlocks := B.notSynchronized
  subst hsz
  have hD := hD0.self (sz := s.heap.size)
  clear hD0
  have hA0 : ∀ q : Nat, s.heap.size ≤ q → va_A (w_Tokens cI cB cZ aK aT aTb kp kb kk kn tl tb) s.heap.size q := fun q h => Or.inr h
  generalize hAe : va_A (w_Tokens cI cB cZ aK aT aTb kp kb kk kn tl tb) s.heap.size = A at hD hG hA0 ⊢
  have hA : ∀ q : Nat, s.heap.size ≤ q → A q := hA0
  clear hA0
  have hS : va_S A s.heap s.heap [] := va_S.rf
  have iw_X4 := iw_X5_advance_X4
  have iw_X5 := iw_X5_advance_X5
  have hk_50 : ∀ (kp : Int32) (kb : Int32) (kk : Int32) (kn : Int32), k_X5_advance_50 tl tb kp kb kk kn = some (u_kp, u_kb, u_kk, u_kn) → ∀ (ls : Array Slot) (H : Heap) (lo : List Loc), lv_has ls 1 [(0, .ref aK)] → va_P D vwCl (w_Tokens cI cB cZ aK aT aTb kp kb kk kn tl tb) H → va_D A (w_Tokens cI cB cZ aK aT aTb kp kb kk kn tl tb) → va_S A s.heap H lo → W p l e (headSpec wsX5_advance ({ frames := 1, cells := 0, slots := 0, locals := 23 } : Room)).room s m (([.ref aK] : List Value).toArray) below meth c H lo 0 0 (MQ below (QV D cI cB cZ A (w_Tokens cI cB cZ aK aT aTb u_kp u_kb u_kk u_kn tl tb)) (([.ref aK] : List Value).toArray) s 0 0 A) (F0 m 50 ls []) := by
    intro kp kb kk kn hm ls H lo hl hP hD hS
    replace hm : (if kp < tl then (if kp < 0 ∨ 640 ≤ kp.toNatClampNeg then none else (if (tb kp.toNatClampNeg) = (59 : Int32) then some ((kp + (1 : Int32)), kb, (3 : Int32), kn) else (ob3 (m_X5_readRun kp kk kn tl tb) (fun kp_9 kk_9 kn_9 => some (kp_9, kb, kk_9, kn_9))))) else some (kp, kb, (4 : Int32), kn)) = some (u_kp, u_kb, u_kk, u_kn) := hm
    refine lv_aload_n hx hb dX5_advance_50 rfl (lv_at hl 0 rfl) ?_
    refine va_get (D := D) (ci := 5) (v := .int kp) (C := RX5) (T := TX5) (N := 5) hx hb hts iw_X5 hown hK hP 0 rfl rfl 1 (by decide) (hts (.fieldLink RX5 9 "VarianceBridge$Tokens" "place" "I") (by decide +kernel)) (fun _ h9 => h9) rfl dX5_advance_51 ?_
    refine lv_aload_n hx hb dX5_advance_54 rfl (lv_at hl 0 rfl) ?_
    refine va_get (D := D) (ci := 5) (v := .ref aT) (C := RX5) (T := TX5) (N := 5) hx hb hts iw_X5 hown hK hP 0 rfl rfl 0 (by decide) (hts (.fieldLink RX5 24 "VarianceBridge$Tokens" "tape" "LVarianceBridge$Tape;") (by decide +kernel)) (fun _ h9 => h9) rfl dX5_advance_55 ?_
    refine va_getN (D := D) (ci := 4) (v := .int tl) (C := RX4) (T := TX4) (N := 2) hx hb hts iw_X4 hown hK hP 1 rfl rfl 1 (by decide) (va_Nw.use rfl (hG.1 (.fieldLinkNest RX5 31 RX4 "length" "I" RX6) (by decide +kernel))) (fun _ h9 => h9) rfl dX5_advance_58 ?_
    refine lv_icmp_lt (tgt := 72) hx hb dX5_advance_61 (by decide) (fun c1 => ?_) (fun c1 => ?_)
    · have hm2 := zz_if c1 hm
      refine lv_aload_n hx hb dX5_advance_72 rfl (lv_at hl 0 rfl) ?_
      refine va_get (D := D) (ci := 5) (v := .ref aT) (C := RX5) (T := TX5) (N := 5) hx hb hts iw_X5 hown hK hP 0 rfl rfl 0 (by decide) (hts (.fieldLink RX5 24 "VarianceBridge$Tokens" "tape" "LVarianceBridge$Tape;") (by decide +kernel)) (fun _ h9 => h9) rfl dX5_advance_73 ?_
      refine va_getN (D := D) (ci := 4) (v := .ref aTb) (C := RX4) (T := TX4) (N := 2) hx hb hts iw_X4 hown hK hP 1 rfl rfl 0 (by decide) (va_Nw.use rfl (hG.1 (.fieldLinkNest RX5 36 RX4 "bytes" "[B" RX6) (by decide +kernel))) (fun _ h9 => h9) rfl dX5_advance_76 ?_
      refine lv_aload_n hx hb dX5_advance_79 rfl (lv_at hl 0 rfl) ?_
      refine va_get (D := D) (ci := 5) (v := .int kp) (C := RX5) (T := TX5) (N := 5) hx hb hts iw_X5 hown hK hP 0 rfl rfl 1 (by decide) (hts (.fieldLink RX5 9 "VarianceBridge$Tokens" "place" "I") (by decide +kernel)) (fun _ h9 => h9) rfl dX5_advance_80 ?_
      obtain ⟨c4, hm5⟩ := zz_no hm2
      refine va_bald hx hb hK hP 2 1 rfl rfl c4 dX5_advance_83 ?_
      refine lv_bipush (v := (59 : Int32)) hx hb dX5_advance_84 (by decide) ?_
      refine lv_icmp_ne (tgt := 107) hx hb dX5_advance_86 (by decide) (fun c6 => ?_) (fun c6 => ?_)
      · have hm7 := zz_nf c6 hm5
        refine lv_aload_n hx hb dX5_advance_107 rfl (lv_at hl 0 rfl) ?_
        obtain ⟨kp_9, kk_9, kn_9, h9, hm9⟩ := ob3_e hm7
        refine gcall_v (ws' := (w_Tokens cI cB cZ aK aT aTb kp_9 kb kk_9 kn_9 tl tb)) (va_runV (As := []) (rest := []) ⟨hx, hb, hml, hown, hts⟩ (c_X5_readRun l D cI cB cZ ta aK aT aTb H.size kp kb kk kn tl tb kp_9 kk_9 kn_9 h9) (cwV 0 hts gX5_advance_X5_readRun rfl rfl rfl (by decide +kernel) ⟨(Nat.le_of_ble_eq_true rfl), (Nat.le_of_ble_eq_true rfl)⟩) ⟨PW_blind, va_recv hK hP rfl (q0 := 0) rfl, PW_at hP hD hK hS hA hG [0, 1, 2] rfl (by decide)⟩ rfl rfl hl.1 rfl (lv_room (Nat.le_of_ble_eq_true rfl)) dX5_advance_108 ⟨(Nat.le_of_ble_eq_true rfl), (Nat.le_of_ble_eq_true rfl)⟩) hP hD hS hA [0, 1, 2] [] [0, 1, 2] rfl rfl (by decide) (by decide) (by decide) rfl (fun H10 lo10 hP10 hD10 hS10 => ?_)
        clear hP hD hS
        obtain ⟨hq1, hq99⟩ := Prod.mk.inj (Option.some.inj hm9)
        obtain ⟨hq2, hq99⟩ := Prod.mk.inj (hq99)
        obtain ⟨hq3, hq4⟩ := Prod.mk.inj (hq99)
        subst hq1
        subst hq2
        subst hq3
        subst hq4
        exact W.vret hx hb hr (fun t ht hW => ⟨⟨(), rfl, trivial, by rw [ht]; exact hP10, va_K.moved hW.alike hK, hD10⟩, hS10.F ht⟩) hS10.2.2 dX5_advance_111
      · have hm8 := zz_if c6 hm5
        refine lv_aload_n hx hb dX5_advance_89 rfl (lv_at hl 0 rfl) ?_
        refine lv_iconst (v := (3 : Int32)) hx hb dX5_advance_90 (by decide) ?_
        refine va_put (D := D) (ci := 5) (v := .int (3 : Int32)) (ty := .int) (C := RX5) (T := TX5) (N := 5) hx hb hts iw_X5 tyX5 tyX5_ok nmX5 hown hK hP hD hS 0 rfl rfl 3 (by decide) (hts (.fieldLink RX5 18 "VarianceBridge$Tokens" "kind" "I") (by decide +kernel)) (fun _ h9 => h9) rfl (by decide +kernel) rfl rfl (Nat.le_of_ble_eq_true rfl) dX5_advance_91 (fun H11 lo11 hP11 hD11 hS11 => ?_)
        replace hP11 : va_P D vwCl (w_Tokens cI cB cZ aK aT aTb kp kb (3 : Int32) kn tl tb) H11 := hP11
        replace hD11 : va_D A (w_Tokens cI cB cZ aK aT aTb kp kb (3 : Int32) kn tl tb) := hD11
        clear hP hD hS
        refine lv_aload_n hx hb dX5_advance_94 rfl (lv_at hl 0 rfl) ?_
        refine lv_dup hx hb dX5_advance_95 rfl ?_
        refine va_get (D := D) (ci := 5) (v := .int kp) (C := RX5) (T := TX5) (N := 5) hx hb hts iw_X5 hown hK hP11 0 rfl rfl 1 (by decide) (hts (.fieldLink RX5 9 "VarianceBridge$Tokens" "place" "I") (by decide +kernel)) (fun _ h9 => h9) rfl dX5_advance_96 ?_
        refine lv_iconst (v := (1 : Int32)) hx hb dX5_advance_99 (by decide) ?_
        refine lv_iadd hx hb dX5_advance_100 ?_
        refine va_put (D := D) (ci := 5) (v := .int (kp + (1 : Int32))) (ty := .int) (C := RX5) (T := TX5) (N := 5) hx hb hts iw_X5 tyX5 tyX5_ok nmX5 hown hK hP11 hD11 hS11 0 rfl rfl 1 (by decide) (hts (.fieldLink RX5 9 "VarianceBridge$Tokens" "place" "I") (by decide +kernel)) (fun _ h9 => h9) rfl (by decide +kernel) rfl rfl (Nat.le_of_ble_eq_true rfl) dX5_advance_101 (fun H12 lo12 hP12 hD12 hS12 => ?_)
        replace hP12 : va_P D vwCl (w_Tokens cI cB cZ aK aT aTb (kp + (1 : Int32)) kb (3 : Int32) kn tl tb) H12 := hP12
        replace hD12 : va_D A (w_Tokens cI cB cZ aK aT aTb (kp + (1 : Int32)) kb (3 : Int32) kn tl tb) := hD12
        clear hP11 hD11 hS11
        refine lv_goto (tgt := 111) hx hb dX5_advance_104 (by decide) ?_
        obtain ⟨hq1, hq99⟩ := Prod.mk.inj (Option.some.inj hm8)
        obtain ⟨hq2, hq99⟩ := Prod.mk.inj (hq99)
        obtain ⟨hq3, hq4⟩ := Prod.mk.inj (hq99)
        subst hq1
        subst hq2
        subst hq3
        subst hq4
        exact W.vret hx hb hr (fun t ht hW => ⟨⟨(), rfl, trivial, by rw [ht]; exact hP12, va_K.moved hW.alike hK, hD12⟩, hS12.F ht⟩) hS12.2.2 dX5_advance_111
    · have hm3 := zz_nf c1 hm
      refine lv_aload_n hx hb dX5_advance_64 rfl (lv_at hl 0 rfl) ?_
      refine lv_iconst (v := (4 : Int32)) hx hb dX5_advance_65 (by decide) ?_
      refine va_put (D := D) (ci := 5) (v := .int (4 : Int32)) (ty := .int) (C := RX5) (T := TX5) (N := 5) hx hb hts iw_X5 tyX5 tyX5_ok nmX5 hown hK hP hD hS 0 rfl rfl 3 (by decide) (hts (.fieldLink RX5 18 "VarianceBridge$Tokens" "kind" "I") (by decide +kernel)) (fun _ h9 => h9) rfl (by decide +kernel) rfl rfl (Nat.le_of_ble_eq_true rfl) dX5_advance_66 (fun H13 lo13 hP13 hD13 hS13 => ?_)
      replace hP13 : va_P D vwCl (w_Tokens cI cB cZ aK aT aTb kp kb (4 : Int32) kn tl tb) H13 := hP13
      replace hD13 : va_D A (w_Tokens cI cB cZ aK aT aTb kp kb (4 : Int32) kn tl tb) := hD13
      clear hP hD hS
      refine lv_goto (tgt := 111) hx hb dX5_advance_69 (by decide) ?_
      obtain ⟨hq1, hq99⟩ := Prod.mk.inj (Option.some.inj hm3)
      obtain ⟨hq2, hq99⟩ := Prod.mk.inj (hq99)
      obtain ⟨hq3, hq4⟩ := Prod.mk.inj (hq99)
      subst hq1
      subst hq2
      subst hq3
      subst hq4
      exact W.vret hx hb hr (fun t ht hW => ⟨⟨(), rfl, trivial, by rw [ht]; exact hP13, va_K.moved hW.alike hK, hD13⟩, hS13.F ht⟩) hS13.2.2 dX5_advance_111
  have hl := lv_entry ([.ref aK]) (n := 1) (Nat.le_of_ble_eq_true rfl)
  rw [lg_entry_eq]
  generalize (lg_sl ([.ref aK]) ++ List.replicate (1 - (lg_sl ([.ref aK])).length) Slot.unset).toArray = ls at hl ⊢
  have hl : lv_has ls 1 [(0, .ref aK)] := hl
  replace hm : (ob1 (m_X5_skipBlanks kp tl tb) (fun kp_14 => (if kp_14 < (600 : Int32) then (k_X5_advance_50 tl tb kp_14 kp_14 kk kn) else (if tl ≤ (600 : Int32) then (k_X5_advance_50 tl tb kp_14 kp_14 kk kn) else some (kp_14, (600 : Int32), (0 : Int32), kn))))) = some (u_kp, u_kb, u_kk, u_kn) := hm
  refine lv_aload_n hx hb dX5_advance_0 rfl (lv_at hl 0 rfl) ?_
  obtain ⟨kp_14, h14, hm14⟩ := ob1_e hm
  refine gcall_v (ws' := (w_Tokens cI cB cZ aK aT aTb kp_14 kb kk kn tl tb)) (va_runV (As := []) (rest := []) ⟨hx, hb, hml, hown, hts⟩ (c_X5_skipBlanks l D cI cB cZ ta aK aT aTb s.heap.size kp kb kk kn tl tb kp_14 h14) (cwV 0 hts gX5_advance_X5_skipBlanks rfl rfl rfl (by decide +kernel) ⟨(Nat.le_of_ble_eq_true rfl), (Nat.le_of_ble_eq_true rfl)⟩) ⟨PW_blind, va_recv hK hP rfl (q0 := 0) rfl, PW_at hP hD hK hS hA hG [0, 1, 2] rfl (by decide)⟩ rfl rfl hl.1 rfl (lv_room (Nat.le_of_ble_eq_true rfl)) dX5_advance_1 ⟨(Nat.le_of_ble_eq_true rfl), (Nat.le_of_ble_eq_true rfl)⟩) hP hD hS hA [0, 1, 2] [] [0, 1, 2] rfl rfl (by decide) (by decide) (by decide) rfl (fun H15 lo15 hP15 hD15 hS15 => ?_)
  clear hP hD hS
  refine lv_aload_n hx hb dX5_advance_4 rfl (lv_at hl 0 rfl) ?_
  refine lv_aload_n hx hb dX5_advance_5 rfl (lv_at hl 0 rfl) ?_
  refine va_get (D := D) (ci := 5) (v := .int kp_14) (C := RX5) (T := TX5) (N := 5) hx hb hts iw_X5 hown hK hP15 0 rfl rfl 1 (by decide) (hts (.fieldLink RX5 9 "VarianceBridge$Tokens" "place" "I") (by decide +kernel)) (fun _ h9 => h9) rfl dX5_advance_6 ?_
  refine va_put (D := D) (ci := 5) (v := .int kp_14) (ty := .int) (C := RX5) (T := TX5) (N := 5) hx hb hts iw_X5 tyX5 tyX5_ok nmX5 hown hK hP15 hD15 hS15 0 rfl rfl 2 (by decide) (hts (.fieldLink RX5 15 "VarianceBridge$Tokens" "begin" "I") (by decide +kernel)) (fun _ h9 => h9) rfl (by decide +kernel) rfl rfl (Nat.le_of_ble_eq_true rfl) dX5_advance_9 (fun H16 lo16 hP16 hD16 hS16 => ?_)
  replace hP16 : va_P D vwCl (w_Tokens cI cB cZ aK aT aTb kp_14 kp_14 kk kn tl tb) H16 := hP16
  replace hD16 : va_D A (w_Tokens cI cB cZ aK aT aTb kp_14 kp_14 kk kn tl tb) := hD16
  clear hP15 hD15 hS15
  refine lv_aload_n hx hb dX5_advance_12 rfl (lv_at hl 0 rfl) ?_
  refine va_get (D := D) (ci := 5) (v := .int kp_14) (C := RX5) (T := TX5) (N := 5) hx hb hts iw_X5 hown hK hP16 0 rfl rfl 1 (by decide) (hts (.fieldLink RX5 9 "VarianceBridge$Tokens" "place" "I") (by decide +kernel)) (fun _ h9 => h9) rfl dX5_advance_13 ?_
  refine lv_sipush (v := (600 : Int32)) hx hb dX5_advance_16 (by decide) ?_
  refine lv_icmp_lt (tgt := 50) hx hb dX5_advance_19 (by decide) (fun c17 => ?_) (fun c17 => ?_)
  · have hm18 := zz_if c17 hm14
    exact hk_50 kp_14 kp_14 kk kn hm18 ls H16 lo16 (lv_sub hl [0] rfl) hP16 hD16 hS16
  · have hm19 := zz_nf c17 hm14
    refine lv_aload_n hx hb dX5_advance_22 rfl (lv_at hl 0 rfl) ?_
    refine va_get (D := D) (ci := 5) (v := .ref aT) (C := RX5) (T := TX5) (N := 5) hx hb hts iw_X5 hown hK hP16 0 rfl rfl 0 (by decide) (hts (.fieldLink RX5 24 "VarianceBridge$Tokens" "tape" "LVarianceBridge$Tape;") (by decide +kernel)) (fun _ h9 => h9) rfl dX5_advance_23 ?_
    refine va_getN (D := D) (ci := 4) (v := .int tl) (C := RX4) (T := TX4) (N := 2) hx hb hts iw_X4 hown hK hP16 1 rfl rfl 1 (by decide) (va_Nw.use rfl (hG.1 (.fieldLinkNest RX5 31 RX4 "length" "I" RX6) (by decide +kernel))) (fun _ h9 => h9) rfl dX5_advance_26 ?_
    refine lv_sipush (v := (600 : Int32)) hx hb dX5_advance_29 (by decide) ?_
    refine lv_icmp_le (tgt := 50) hx hb dX5_advance_32 (by decide) (fun c20 => ?_) (fun c20 => ?_)
    · have hm21 := zz_if c20 hm19
      exact hk_50 kp_14 kp_14 kk kn hm21 ls H16 lo16 (lv_sub hl [0] rfl) hP16 hD16 hS16
    · have hm22 := zz_nf c20 hm19
      refine lv_aload_n hx hb dX5_advance_35 rfl (lv_at hl 0 rfl) ?_
      refine lv_sipush (v := (600 : Int32)) hx hb dX5_advance_36 (by decide) ?_
      refine va_put (D := D) (ci := 5) (v := .int (600 : Int32)) (ty := .int) (C := RX5) (T := TX5) (N := 5) hx hb hts iw_X5 tyX5 tyX5_ok nmX5 hown hK hP16 hD16 hS16 0 rfl rfl 2 (by decide) (hts (.fieldLink RX5 15 "VarianceBridge$Tokens" "begin" "I") (by decide +kernel)) (fun _ h9 => h9) rfl (by decide +kernel) rfl rfl (Nat.le_of_ble_eq_true rfl) dX5_advance_39 (fun H23 lo23 hP23 hD23 hS23 => ?_)
      replace hP23 : va_P D vwCl (w_Tokens cI cB cZ aK aT aTb kp_14 (600 : Int32) kk kn tl tb) H23 := hP23
      replace hD23 : va_D A (w_Tokens cI cB cZ aK aT aTb kp_14 (600 : Int32) kk kn tl tb) := hD23
      clear hP16 hD16 hS16
      refine lv_aload_n hx hb dX5_advance_42 rfl (lv_at hl 0 rfl) ?_
      refine lv_iconst (v := (0 : Int32)) hx hb dX5_advance_43 (by decide) ?_
      refine va_put (D := D) (ci := 5) (v := .int (0 : Int32)) (ty := .int) (C := RX5) (T := TX5) (N := 5) hx hb hts iw_X5 tyX5 tyX5_ok nmX5 hown hK hP23 hD23 hS23 0 rfl rfl 3 (by decide) (hts (.fieldLink RX5 18 "VarianceBridge$Tokens" "kind" "I") (by decide +kernel)) (fun _ h9 => h9) rfl (by decide +kernel) rfl rfl (Nat.le_of_ble_eq_true rfl) dX5_advance_44 (fun H24 lo24 hP24 hD24 hS24 => ?_)
      replace hP24 : va_P D vwCl (w_Tokens cI cB cZ aK aT aTb kp_14 (600 : Int32) (0 : Int32) kn tl tb) H24 := hP24
      replace hD24 : va_D A (w_Tokens cI cB cZ aK aT aTb kp_14 (600 : Int32) (0 : Int32) kn tl tb) := hD24
      clear hP23 hD23 hS23
      refine lv_goto (tgt := 111) hx hb dX5_advance_47 (by decide) ?_
      obtain ⟨hq1, hq99⟩ := Prod.mk.inj (Option.some.inj hm22)
      obtain ⟨hq2, hq99⟩ := Prod.mk.inj (hq99)
      obtain ⟨hq3, hq4⟩ := Prod.mk.inj (hq99)
      subst hq1
      subst hq2
      subst hq3
      subst hq4
      exact W.vret hx hb hr (fun t ht hW => ⟨⟨(), rfl, trivial, by rw [ht]; exact hP24, va_K.moved hW.alike hK, hD24⟩, hS24.F ht⟩) hS24.2.2 dX5_advance_111
set_option maxHeartbeats 4000000 in
set_option maxRecDepth 100000 in
theorem c_J0_coder_7d493 (l : Launch) (D : va_G) (cI cB cZ : ClassId) (ta : Nat → Nat) (sz : Nat) (si : Nat) (r0 : Int32) (hsi : si < 4) (hm : m_J0_coder_7d493 si = some r0) : Met l yJ0_coder_7d493 wsJ0_coder_7d493 ({ frames := 0, cells := 0, slots := 0, locals := 0 } : Room) (va_Pc [.ref (ta (10 + si))] (PW D cI cB cZ ta (w_none cI cB cZ) sz)) (QZ .byte D cI cB cZ (va_A (w_none cI cB cZ) sz) (w_none cI cB cZ) r0) 0 0 (va_A (w_none cI cB cZ) sz) := by
  refine Met.ofW (cc := cJ0_coder_7d493) (maxL := 1) (ret := (some .byte)) (by decide) rfl ?_
  intro p e s m args below meth c s₁ B hml hv
  obtain ⟨rfl, hsz, hP, hK, hD0, hG⟩ := hv
  have hx := B.exec
  have hb := B.bytes
  have hr := B.returns
  have hts := atoms_spec (ws := wsJ0_coder_7d493) B.pre
  have hown : s.vm.findClass RJ0 = some m.cls := findClass_of_methodNamed B.named
  have hlocks := B.notSynchronized
  subst hsz
  have hD := hD0.self (sz := s.heap.size)
  clear hD0
  have hA0 : ∀ q : Nat, s.heap.size ≤ q → va_A (w_none cI cB cZ) s.heap.size q := fun q h => Or.inr h
  generalize hAe : va_A (w_none cI cB cZ) s.heap.size = A at hD hG hA0 ⊢
  have hA : ∀ q : Nat, s.heap.size ≤ q → A q := hA0
  clear hA0
  have hS : va_S A s.heap s.heap [] := va_S.rf
  have hl := lv_entry ([.ref (ta (10 + si))]) (n := 1) (Nat.le_of_ble_eq_true rfl)
  rw [lg_entry_eq]
  generalize (lg_sl ([.ref (ta (10 + si))]) ++ List.replicate (1 - (lg_sl ([.ref (ta (10 + si))])).length) Slot.unset).toArray = ls at hl ⊢
  have hl : lv_has ls 1 [(0, .ref (ta (10 + si)))] := hl
  replace hm : (if (1 : Int32) = 0 then none else some (0 : Int32)) = some r0 := hm
  refine va_gets hx hb hG.2.2.2.2.2.2.2.2.2.1 hS hown (hts (.fieldLink RJ0 38 "java/lang/String" "COMPACT_STRINGS" "Z") (by decide +kernel)) (fun _ h9 => h9) dJ0_coder_7d493_0 ?_
  refine lv_if_eq (tgt := 13) hx hb dJ0_coder_7d493_3 (by decide) (fun c1 => ?_) (fun c1 => ?_)
  · have hm2 := zz_if c1 hm
    exact zz_nn hm2
  · have hm3 := zz_nf c1 hm
    refine lv_aload_n hx hb dJ0_coder_7d493_6 rfl (lv_at hl 0 rfl) ?_
    refine vk_getf hx hb (hG.2.2.2.2.2.2.2.2.1.1 si hsi).2.1 hS hown (hts (.fieldLink RJ0 15 "java/lang/String" "coder" "B") (by decide +kernel)) (fun _ h9 => h9) dJ0_coder_7d493_7 ?_
    refine lv_goto (tgt := 14) hx hb dJ0_coder_7d493_10 (by decide) ?_
    have hq1 := Option.some.inj hm3
    subst hq1
    exact W.zret (ty := .byte) hx hb hr (by decide) (fun t ht hW => ⟨⟨_, (), rfl, ⟨rfl, (by decide)⟩, by rw [ht]; exact hP, va_K.moved hW.alike hK, hD⟩, hS.F ht⟩) hS.2.2 dJ0_coder_7d493_14
set_option maxHeartbeats 4000000 in
set_option maxRecDepth 100000 in
theorem c_J0_length_8abf5 (l : Launch) (D : va_G) (cI cB cZ : ClassId) (ta : Nat → Nat) (sz : Nat) (si : Nat) (r0 : Int32) (hsi : si < 4) (hm : m_J0_length_8abf5 si = some r0) : Met l yJ0_length_8abf5 wsJ0_length_8abf5 ({ frames := 1, cells := 0, slots := 0, locals := 20 } : Room) (va_Pc [.ref (ta (10 + si))] (PW D cI cB cZ ta (w_none cI cB cZ) sz)) (QI D cI cB cZ (va_A (w_none cI cB cZ) sz) (w_none cI cB cZ) r0) 0 0 (va_A (w_none cI cB cZ) sz) := by
  refine Met.ofW (cc := cJ0_length_8abf5) (maxL := 1) (ret := (some .int)) (by decide) rfl ?_
  intro p e s m args below meth c s₁ B hml hv
  obtain ⟨rfl, hsz, hP, hK, hD0, hG⟩ := hv
  have hx := B.exec
  have hb := B.bytes
  have hr := B.returns
  have hts := atoms_spec (ws := wsJ0_length_8abf5) B.pre
  have hown : s.vm.findClass RJ0 = some m.cls := findClass_of_methodNamed B.named
  have hlocks := B.notSynchronized
  subst hsz
  have hD := hD0.self (sz := s.heap.size)
  clear hD0
  have hA0 : ∀ q : Nat, s.heap.size ≤ q → va_A (w_none cI cB cZ) s.heap.size q := fun q h => Or.inr h
  generalize hAe : va_A (w_none cI cB cZ) s.heap.size = A at hD hG hA0 ⊢
  have hA : ∀ q : Nat, s.heap.size ≤ q → A q := hA0
  clear hA0
  have hS : va_S A s.heap s.heap [] := va_S.rf
  have hl := lv_entry ([.ref (ta (10 + si))]) (n := 1) (Nat.le_of_ble_eq_true rfl)
  rw [lg_entry_eq]
  generalize (lg_sl ([.ref (ta (10 + si))]) ++ List.replicate (1 - (lg_sl ([.ref (ta (10 + si))])).length) Slot.unset).toArray = ls at hl ⊢
  have hl : lv_has ls 1 [(0, .ref (ta (10 + si)))] := hl
  replace hm : (ob1 (m_J0_coder_7d493 si) (fun r1 => some ((Int32.ofNat (st_len.getD si 0)) >>> (r1 &&& 31)))) = some r0 := hm
  refine lv_aload_n hx hb dJ0_length_8abf5_0 rfl (lv_at hl 0 rfl) ?_
  refine vk_getf hx hb (hG.2.2.2.2.2.2.2.2.1.1 si hsi).2.2.1 hS hown (hts (.fieldLink RJ0 9 "java/lang/String" "value" "[B") (by decide +kernel)) (fun _ h9 => h9) dJ0_length_8abf5_1 ?_
  refine va_tlen hx hb (hG.2.2.2.2.2.2.2.2.1.1 si hsi).2.2.2 hS (v := (Int32.ofNat (st_len.getD si 0))) rfl dJ0_length_8abf5_4 ?_
  refine lv_aload_n hx hb dJ0_length_8abf5_5 rfl (lv_at hl 0 rfl) ?_
  obtain ⟨r1, h1, hm1⟩ := ob1_e hm
  refine gcall_b (ws' := (w_none cI cB cZ)) (va_runV (As := []) (rest := [.int (Int32.ofNat (st_len.getD si 0))]) ⟨hx, hb, hml, hown, hts⟩ (c_J0_coder_7d493 l D cI cB cZ ta s.heap.size si r1 hsi h1) (cwV 0 hts gJ0_length_8abf5_J0_coder_7d493 rfl rfl rfl (by decide +kernel) ⟨(Nat.le_of_ble_eq_true rfl), (Nat.le_of_ble_eq_true rfl)⟩) ⟨PW_blind, vk_recv hG.2.2.2.2.2.2.2.2.1 hsi hS, PW_at hP hD hK hS hA hG [] rfl (by decide)⟩ rfl rfl hl.1 rfl (lv_room (Nat.le_of_ble_eq_true rfl)) dJ0_length_8abf5_6 ⟨(Nat.le_of_ble_eq_true rfl), (Nat.le_of_ble_eq_true rfl)⟩) hP hD hS hA [] [] [] rfl rfl (by decide) (by decide) (by decide) rfl (fun H2 lo2 hz1 hP2 hD2 hS2 => ?_)
  clear hP hD hS
  refine lv_ishr hx hb dJ0_length_8abf5_9 ?_
  have hq1 := Option.some.inj hm1
  subst hq1
  exact W.iret hx hb hr (fun t ht hW => ⟨⟨_, (), rfl, rfl, by rw [ht]; exact hP2, va_K.moved hW.alike hK, hD2⟩, hS2.F ht⟩) hS2.2.2 dJ0_length_8abf5_10
set_option maxHeartbeats 4000000 in
set_option maxRecDepth 100000 in
theorem c_J0_isLatin1_aae02 (l : Launch) (D : va_G) (cI cB cZ : ClassId) (ta : Nat → Nat) (sz : Nat) (si : Nat) (r0 : Int32) (hsi : si < 4) (hm : m_J0_isLatin1_aae02 si = some r0) : Met l yJ0_isLatin1_aae02 wsJ0_isLatin1_aae02 ({ frames := 0, cells := 0, slots := 0, locals := 0 } : Room) (va_Pc [.ref (ta (10 + si))] (PW D cI cB cZ ta (w_none cI cB cZ) sz)) (QZ .boolean D cI cB cZ (va_A (w_none cI cB cZ) sz) (w_none cI cB cZ) r0) 0 0 (va_A (w_none cI cB cZ) sz) := by
  refine Met.ofW (cc := cJ0_isLatin1_aae02) (maxL := 1) (ret := (some .boolean)) (by decide) rfl ?_
  intro p e s m args below meth c s₁ B hml hv
  obtain ⟨rfl, hsz, hP, hK, hD0, hG⟩ := hv
  have hx := B.exec
  have hb := B.bytes
  have hr := B.returns
  have hts := atoms_spec (ws := wsJ0_isLatin1_aae02) B.pre
  have hown : s.vm.findClass RJ0 = some m.cls := findClass_of_methodNamed B.named
  have hlocks := B.notSynchronized
  subst hsz
  have hD := hD0.self (sz := s.heap.size)
  clear hD0
  have hA0 : ∀ q : Nat, s.heap.size ≤ q → va_A (w_none cI cB cZ) s.heap.size q := fun q h => Or.inr h
  generalize hAe : va_A (w_none cI cB cZ) s.heap.size = A at hD hG hA0 ⊢
  have hA : ∀ q : Nat, s.heap.size ≤ q → A q := hA0
  clear hA0
  have hS : va_S A s.heap s.heap [] := va_S.rf
  have hl := lv_entry ([.ref (ta (10 + si))]) (n := 1) (Nat.le_of_ble_eq_true rfl)
  rw [lg_entry_eq]
  generalize (lg_sl ([.ref (ta (10 + si))]) ++ List.replicate (1 - (lg_sl ([.ref (ta (10 + si))])).length) Slot.unset).toArray = ls at hl ⊢
  have hl : lv_has ls 1 [(0, .ref (ta (10 + si)))] := hl
  replace hm : (if (1 : Int32) = 0 then some (0 : Int32) else (if (0 : Int32) = 0 then some (1 : Int32) else some (0 : Int32))) = some r0 := hm
  refine va_gets hx hb hG.2.2.2.2.2.2.2.2.2.1 hS hown (hts (.fieldLink RJ0 38 "java/lang/String" "COMPACT_STRINGS" "Z") (by decide +kernel)) (fun _ h9 => h9) dJ0_isLatin1_aae02_0 ?_
  refine lv_if_eq (tgt := 17) hx hb dJ0_isLatin1_aae02_3 (by decide) (fun c1 => ?_) (fun c1 => ?_)
  · have hm2 := zz_if c1 hm
    refine lv_iconst (v := (0 : Int32)) hx hb dJ0_isLatin1_aae02_17 (by decide) ?_
    have hq1 := Option.some.inj hm2
    subst hq1
    exact W.zret (ty := .boolean) hx hb hr (by decide) (fun t ht hW => ⟨⟨_, (), rfl, ⟨rfl, (by decide)⟩, by rw [ht]; exact hP, va_K.moved hW.alike hK, hD⟩, hS.F ht⟩) hS.2.2 dJ0_isLatin1_aae02_18
  · have hm3 := zz_nf c1 hm
    refine lv_aload_n hx hb dJ0_isLatin1_aae02_6 rfl (lv_at hl 0 rfl) ?_
    refine vk_getf hx hb (hG.2.2.2.2.2.2.2.2.1.1 si hsi).2.1 hS hown (hts (.fieldLink RJ0 15 "java/lang/String" "coder" "B") (by decide +kernel)) (fun _ h9 => h9) dJ0_isLatin1_aae02_7 ?_
    refine lv_if_ne (tgt := 17) hx hb dJ0_isLatin1_aae02_10 (by decide) (fun c4 => ?_) (fun c4 => ?_)
    · have hm5 := zz_nf c4 hm3
      refine lv_iconst (v := (0 : Int32)) hx hb dJ0_isLatin1_aae02_17 (by decide) ?_
      have hq1 := Option.some.inj hm5
      subst hq1
      exact W.zret (ty := .boolean) hx hb hr (by decide) (fun t ht hW => ⟨⟨_, (), rfl, ⟨rfl, (by decide)⟩, by rw [ht]; exact hP, va_K.moved hW.alike hK, hD⟩, hS.F ht⟩) hS.2.2 dJ0_isLatin1_aae02_18
    · have hm6 := zz_if c4 hm3
      refine lv_iconst (v := (1 : Int32)) hx hb dJ0_isLatin1_aae02_13 (by decide) ?_
      refine lv_goto (tgt := 18) hx hb dJ0_isLatin1_aae02_14 (by decide) ?_
      have hq1 := Option.some.inj hm6
      subst hq1
      exact W.zret (ty := .boolean) hx hb hr (by decide) (fun t ht hW => ⟨⟨_, (), rfl, ⟨rfl, (by decide)⟩, by rw [ht]; exact hP, va_K.moved hW.alike hK, hD⟩, hS.F ht⟩) hS.2.2 dJ0_isLatin1_aae02_18
set_option maxHeartbeats 4000000 in
set_option maxRecDepth 100000 in
theorem c_J3_checkIndex_8e157N (l : Launch) (D : va_G) (cI cB cZ : ClassId) (ta : Nat → Nat) (sz : Nat) (x1 : Int32) (x2 : Int32) (r0 : Int32) (hm : m_J3_checkIndex_8e157N x1 x2 = some r0) : Met l yJ3_checkIndex_8e157 wsJ3_checkIndex_8e157 ({ frames := 0, cells := 0, slots := 0, locals := 0 } : Room) (va_Pc [.int x1, .int x2, .null] (PW D cI cB cZ ta (w_none cI cB cZ) sz)) (QI D cI cB cZ (va_A (w_none cI cB cZ) sz) (w_none cI cB cZ) r0) 0 0 (va_A (w_none cI cB cZ) sz) := by
  refine Met.ofW (cc := cJ3_checkIndex_8e157) (maxL := 3) (ret := (some .int)) (by decide) rfl ?_
  intro p e s m args below meth c s₁ B hml hv
  obtain ⟨rfl, hsz, hP, hK, hD0, hG⟩ := hv
  have hx := B.exec
  have hb := B.bytes
  have hr := B.returns
  have hts := atoms_spec (ws := wsJ3_checkIndex_8e157) B.pre
  have hown : s.vm.findClass RJ3 = some m.cls := findClass_of_methodNamed B.named
  have hlocks := B.notSynchronized
  subst hsz
  have hD := hD0.self (sz := s.heap.size)
  clear hD0
  have hA0 : ∀ q : Nat, s.heap.size ≤ q → va_A (w_none cI cB cZ) s.heap.size q := fun q h => Or.inr h
  generalize hAe : va_A (w_none cI cB cZ) s.heap.size = A at hD hG hA0 ⊢
  have hA : ∀ q : Nat, s.heap.size ≤ q → A q := hA0
  clear hA0
  have hS : va_S A s.heap s.heap [] := va_S.rf
  have hk_9 : k_J3_checkIndex_8e157N_9 = some r0 → ∀ (ls : Array Slot) (H : Heap) (lo : List Loc), lv_has ls 3 [(2, .null)] → va_P D vwCl (w_none cI cB cZ) H → va_D A (w_none cI cB cZ) → va_S A s.heap H lo → W p l e (headSpec wsJ3_checkIndex_8e157 ({ frames := 0, cells := 0, slots := 0, locals := 0 } : Room)).room s m (([.int x1, .int x2, .null] : List Value).toArray) below meth c H lo 0 0 (MQ below (QI D cI cB cZ A (w_none cI cB cZ) r0) (([.int x1, .int x2, .null] : List Value).toArray) s 0 0 A) (F0 m 9 ls []) := by
    intro hm ls H lo hl hP hD hS
    replace hm : none = some r0 := hm
    exact zz_nn hm
  have hl := lv_entry ([.int x1, .int x2, .null]) (n := 3) (Nat.le_of_ble_eq_true rfl)
  rw [lg_entry_eq]
  generalize (lg_sl ([.int x1, .int x2, .null]) ++ List.replicate (3 - (lg_sl ([.int x1, .int x2, .null])).length) Slot.unset).toArray = ls at hl ⊢
  have hl : lv_has ls 3 [(0, .int x1), (1, .int x2), (2, .null)] := hl
  replace hm : (if x1 < 0 then (k_J3_checkIndex_8e157N_9) else (if x1 < x2 then some x1 else (k_J3_checkIndex_8e157N_9))) = some r0 := hm
  refine lv_iload_n hx hb dJ3_checkIndex_8e157_0 rfl (lv_at hl 0 rfl) ?_
  refine lv_if_lt (tgt := 9) hx hb dJ3_checkIndex_8e157_1 (by decide) (fun c1 => ?_) (fun c1 => ?_)
  · have hm2 := zz_if c1 hm
    exact hk_9 hm2 ls s.heap [] (lv_sub hl [2] rfl) hP hD hS
  · have hm3 := zz_nf c1 hm
    refine lv_iload_n hx hb dJ3_checkIndex_8e157_4 rfl (lv_at hl 0 rfl) ?_
    refine lv_iload_n hx hb dJ3_checkIndex_8e157_5 rfl (lv_at hl 1 rfl) ?_
    refine lv_icmp_lt (tgt := 16) hx hb dJ3_checkIndex_8e157_6 (by decide) (fun c4 => ?_) (fun c4 => ?_)
    · have hm5 := zz_if c4 hm3
      refine lv_iload_n hx hb dJ3_checkIndex_8e157_16 rfl (lv_at hl 0 rfl) ?_
      have hq1 := Option.some.inj hm5
      subst hq1
      exact W.iret hx hb hr (fun t ht hW => ⟨⟨_, (), rfl, rfl, by rw [ht]; exact hP, va_K.moved hW.alike hK, hD⟩, hS.F ht⟩) hS.2.2 dJ3_checkIndex_8e157_17
    · have hm6 := zz_nf c4 hm3
      exact hk_9 hm6 ls s.heap [] (lv_sub hl [2] rfl) hP hD hS
set_option maxHeartbeats 4000000 in
set_option maxRecDepth 100000 in
theorem c_J3_checkIndex_8e157R (l : Launch) (D : va_G) (cI cB cZ : ClassId) (ta : Nat → Nat) (sz : Nat) (x1 : Int32) (x2 : Int32) (t9 : Nat) (r0 : Int32) (hm : m_J3_checkIndex_8e157R x1 x2 = some r0) : Met l yJ3_checkIndex_8e157 wsJ3_checkIndex_8e157 ({ frames := 0, cells := 0, slots := 0, locals := 0 } : Room) (va_Pc [.int x1, .int x2, .ref t9] (PW D cI cB cZ ta (w_none cI cB cZ) sz)) (QI D cI cB cZ (va_A (w_none cI cB cZ) sz) (w_none cI cB cZ) r0) 0 0 (va_A (w_none cI cB cZ) sz) := by
  refine Met.ofW (cc := cJ3_checkIndex_8e157) (maxL := 3) (ret := (some .int)) (by decide) rfl ?_
  intro p e s m args below meth c s₁ B hml hv
  obtain ⟨rfl, hsz, hP, hK, hD0, hG⟩ := hv
  have hx := B.exec
  have hb := B.bytes
  have hr := B.returns
  have hts := atoms_spec (ws := wsJ3_checkIndex_8e157) B.pre
  have hown : s.vm.findClass RJ3 = some m.cls := findClass_of_methodNamed B.named
  have hlocks := B.notSynchronized
  subst hsz
  have hD := hD0.self (sz := s.heap.size)
  clear hD0
  have hA0 : ∀ q : Nat, s.heap.size ≤ q → va_A (w_none cI cB cZ) s.heap.size q := fun q h => Or.inr h
  generalize hAe : va_A (w_none cI cB cZ) s.heap.size = A at hD hG hA0 ⊢
  have hA : ∀ q : Nat, s.heap.size ≤ q → A q := hA0
  clear hA0
  have hS : va_S A s.heap s.heap [] := va_S.rf
  have hk_9 : k_J3_checkIndex_8e157R_9 = some r0 → ∀ (ls : Array Slot) (H : Heap) (lo : List Loc), lv_has ls 3 [(2, .ref t9)] → va_P D vwCl (w_none cI cB cZ) H → va_D A (w_none cI cB cZ) → va_S A s.heap H lo → W p l e (headSpec wsJ3_checkIndex_8e157 ({ frames := 0, cells := 0, slots := 0, locals := 0 } : Room)).room s m (([.int x1, .int x2, .ref t9] : List Value).toArray) below meth c H lo 0 0 (MQ below (QI D cI cB cZ A (w_none cI cB cZ) r0) (([.int x1, .int x2, .ref t9] : List Value).toArray) s 0 0 A) (F0 m 9 ls []) := by
    intro hm ls H lo hl hP hD hS
    replace hm : none = some r0 := hm
    exact zz_nn hm
  have hl := lv_entry ([.int x1, .int x2, .ref t9]) (n := 3) (Nat.le_of_ble_eq_true rfl)
  rw [lg_entry_eq]
  generalize (lg_sl ([.int x1, .int x2, .ref t9]) ++ List.replicate (3 - (lg_sl ([.int x1, .int x2, .ref t9])).length) Slot.unset).toArray = ls at hl ⊢
  have hl : lv_has ls 3 [(0, .int x1), (1, .int x2), (2, .ref t9)] := hl
  replace hm : (if x1 < 0 then (k_J3_checkIndex_8e157R_9) else (if x1 < x2 then some x1 else (k_J3_checkIndex_8e157R_9))) = some r0 := hm
  refine lv_iload_n hx hb dJ3_checkIndex_8e157_0 rfl (lv_at hl 0 rfl) ?_
  refine lv_if_lt (tgt := 9) hx hb dJ3_checkIndex_8e157_1 (by decide) (fun c1 => ?_) (fun c1 => ?_)
  · have hm2 := zz_if c1 hm
    exact hk_9 hm2 ls s.heap [] (lv_sub hl [2] rfl) hP hD hS
  · have hm3 := zz_nf c1 hm
    refine lv_iload_n hx hb dJ3_checkIndex_8e157_4 rfl (lv_at hl 0 rfl) ?_
    refine lv_iload_n hx hb dJ3_checkIndex_8e157_5 rfl (lv_at hl 1 rfl) ?_
    refine lv_icmp_lt (tgt := 16) hx hb dJ3_checkIndex_8e157_6 (by decide) (fun c4 => ?_) (fun c4 => ?_)
    · have hm5 := zz_if c4 hm3
      refine lv_iload_n hx hb dJ3_checkIndex_8e157_16 rfl (lv_at hl 0 rfl) ?_
      have hq1 := Option.some.inj hm5
      subst hq1
      exact W.iret hx hb hr (fun t ht hW => ⟨⟨_, (), rfl, rfl, by rw [ht]; exact hP, va_K.moved hW.alike hK, hD⟩, hS.F ht⟩) hS.2.2 dJ3_checkIndex_8e157_17
    · have hm6 := zz_nf c4 hm3
      exact hk_9 hm6 ls s.heap [] (lv_sub hl [2] rfl) hP hD hS
set_option maxHeartbeats 4000000 in
set_option maxRecDepth 100000 in
theorem c_J0_checkIndex_df160 (l : Launch) (D : va_G) (cI cB cZ : ClassId) (ta : Nat → Nat) (sz : Nat) (x1 : Int32) (x2 : Int32) (hm : m_J0_checkIndex_df160 x1 x2 = some ()) : Met l yJ0_checkIndex_df160 wsJ0_checkIndex_df160 ({ frames := 1, cells := 0, slots := 0, locals := 22 } : Room) (va_Pc [.int x1, .int x2] (PW D cI cB cZ ta (w_none cI cB cZ) sz)) (QV D cI cB cZ (va_A (w_none cI cB cZ) sz) (w_none cI cB cZ)) 0 0 (va_A (w_none cI cB cZ) sz) := by
  refine Met.ofW (cc := cJ0_checkIndex_df160) (maxL := 2) (ret := none) (by decide) rfl ?_
  intro p e s m args below meth c s₁ B hml hv
  obtain ⟨rfl, hsz, hP, hK, hD0, hG⟩ := hv
  have hx := B.exec
  have hb := B.bytes
  have hr := B.returns
  have hts := atoms_spec (ws := wsJ0_checkIndex_df160) B.pre
  have hown : s.vm.findClass RJ0 = some m.cls := findClass_of_methodNamed B.named
  have hlocks := B.notSynchronized
  subst hsz
  have hD := hD0.self (sz := s.heap.size)
  clear hD0
  have hA0 : ∀ q : Nat, s.heap.size ≤ q → va_A (w_none cI cB cZ) s.heap.size q := fun q h => Or.inr h
  generalize hAe : va_A (w_none cI cB cZ) s.heap.size = A at hD hG hA0 ⊢
  have hA : ∀ q : Nat, s.heap.size ≤ q → A q := hA0
  clear hA0
  have hS : va_S A s.heap s.heap [] := va_S.rf
  have hl := lv_entry ([.int x1, .int x2]) (n := 2) (Nat.le_of_ble_eq_true rfl)
  rw [lg_entry_eq]
  generalize (lg_sl ([.int x1, .int x2]) ++ List.replicate (2 - (lg_sl ([.int x1, .int x2])).length) Slot.unset).toArray = ls at hl ⊢
  have hl : lv_has ls 2 [(0, .int x1), (1, .int x2)] := hl
  replace hm : (ob1 (m_J3_checkIndex_8e157R x1 x2) (fun r3 => some ())) = some () := hm
  refine lv_iload_n hx hb dJ0_checkIndex_df160_0 rfl (lv_at hl 0 rfl) ?_
  refine lv_iload_n hx hb dJ0_checkIndex_df160_1 rfl (lv_at hl 1 rfl) ?_
  rcases hG.2.2.2.2.2.2.2.2.2.2 with hq9 | ⟨t9, hq9⟩
  · refine va_gets hx hb hq9 hS hown (hts (.fieldLink RJ0 1053 "jdk/internal/util/Preconditions" "SIOOBE_FORMATTER" "Ljava/util/function/BiFunction;") (by decide +kernel)) (fun _ h9 => h9) dJ0_checkIndex_df160_2 ?_
    obtain ⟨r1, h1, hm1⟩ := ob1_e hm
    refine gcall_i (ws' := (w_none cI cB cZ)) (va_runS (As := [.int x1, .int x2, .null]) (rest := []) ⟨hx, hb, hml, hown, hts⟩ (c_J3_checkIndex_8e157N l D cI cB cZ ta s.heap.size x1 x2 r1 h1) (va_cwS 3 hts gJ0_checkIndex_df160_J3_checkIndex_8e157 rfl rfl rfl (by decide +kernel) ⟨(Nat.le_of_ble_eq_true rfl), (Nat.le_of_ble_eq_true rfl)⟩) ⟨PW_blind, PW_at hP hD hK hS hA hG [] rfl (by decide)⟩ rfl rfl hl.1 rfl (lv_room (Nat.le_of_ble_eq_true rfl)) dJ0_checkIndex_df160_5 ⟨(Nat.le_of_ble_eq_true rfl), (Nat.le_of_ble_eq_true rfl)⟩) hP hD hS hA [] [] [] rfl rfl (by decide) (by decide) (by decide) rfl (fun H2 lo2 hP2 hD2 hS2 => ?_)
    clear hP hD hS
    refine lv_pop hx hb dJ0_checkIndex_df160_8 rfl ?_
    exact W.vret hx hb hr (fun t ht hW => ⟨⟨(), rfl, trivial, by rw [ht]; exact hP2, va_K.moved hW.alike hK, hD2⟩, hS2.F ht⟩) hS2.2.2 dJ0_checkIndex_df160_9
  · refine va_gets hx hb hq9 hS hown (hts (.fieldLink RJ0 1053 "jdk/internal/util/Preconditions" "SIOOBE_FORMATTER" "Ljava/util/function/BiFunction;") (by decide +kernel)) (fun _ h9 => h9) dJ0_checkIndex_df160_2 ?_
    obtain ⟨r3, h3, hm3⟩ := ob1_e hm
    refine gcall_i (ws' := (w_none cI cB cZ)) (va_runS (As := [.int x1, .int x2, .ref t9]) (rest := []) ⟨hx, hb, hml, hown, hts⟩ (c_J3_checkIndex_8e157R l D cI cB cZ ta s.heap.size x1 x2 t9 r3 h3) (va_cwS 3 hts gJ0_checkIndex_df160_J3_checkIndex_8e157 rfl rfl rfl (by decide +kernel) ⟨(Nat.le_of_ble_eq_true rfl), (Nat.le_of_ble_eq_true rfl)⟩) ⟨PW_blind, PW_at hP hD hK hS hA hG [] rfl (by decide)⟩ rfl rfl hl.1 rfl (lv_room (Nat.le_of_ble_eq_true rfl)) dJ0_checkIndex_df160_5 ⟨(Nat.le_of_ble_eq_true rfl), (Nat.le_of_ble_eq_true rfl)⟩) hP hD hS hA [] [] [] rfl rfl (by decide) (by decide) (by decide) rfl (fun H4 lo4 hP4 hD4 hS4 => ?_)
    clear hP hD hS
    refine lv_pop hx hb dJ0_checkIndex_df160_8 rfl ?_
    exact W.vret hx hb hr (fun t ht hW => ⟨⟨(), rfl, trivial, by rw [ht]; exact hP4, va_K.moved hW.alike hK, hD4⟩, hS4.F ht⟩) hS4.2.2 dJ0_checkIndex_df160_9
set_option maxHeartbeats 4000000 in
set_option maxRecDepth 100000 in
theorem c_J1_charAt_3b067 (l : Launch) (D : va_G) (cI cB cZ : ClassId) (ta : Nat → Nat) (sz : Nat) (si : Nat) (x2 : Int32) (r0 : Int32) (hsi : si < 4) (hm : m_J1_charAt_3b067 si x2 = some r0) : Met l yJ1_charAt_3b067 wsJ1_charAt_3b067 ({ frames := 2, cells := 0, slots := 0, locals := 43 } : Room) (va_Pc [.ref (ta (20 + si)), .int x2] (PW D cI cB cZ ta (w_none cI cB cZ) sz)) (QZ .char D cI cB cZ (va_A (w_none cI cB cZ) sz) (w_none cI cB cZ) r0) 0 0 (va_A (w_none cI cB cZ) sz) := by
  refine Met.ofW (cc := cJ1_charAt_3b067) (maxL := 2) (ret := (some .char)) (by decide) rfl ?_
  intro p e s m args below meth c s₁ B hml hv
  obtain ⟨rfl, hsz, hP, hK, hD0, hG⟩ := hv
  have hx := B.exec
  have hb := B.bytes
  have hr := B.returns
  have hts := atoms_spec (ws := wsJ1_charAt_3b067) B.pre
  have hown : s.vm.findClass RJ1 = some m.cls := findClass_of_methodNamed B.named
  have hlocks := B.notSynchronized
  subst hsz
  have hD := hD0.self (sz := s.heap.size)
  clear hD0
  have hA0 : ∀ q : Nat, s.heap.size ≤ q → va_A (w_none cI cB cZ) s.heap.size q := fun q h => Or.inr h
  generalize hAe : va_A (w_none cI cB cZ) s.heap.size = A at hD hG hA0 ⊢
  have hA : ∀ q : Nat, s.heap.size ≤ q → A q := hA0
  clear hA0
  have hS : va_S A s.heap s.heap [] := va_S.rf
  have hl := lv_entry ([.ref (ta (20 + si)), .int x2]) (n := 2) (Nat.le_of_ble_eq_true rfl)
  rw [lg_entry_eq]
  generalize (lg_sl ([.ref (ta (20 + si)), .int x2]) ++ List.replicate (2 - (lg_sl ([.ref (ta (20 + si)), .int x2])).length) Slot.unset).toArray = ls at hl ⊢
  have hl : lv_has ls 2 [(0, .ref (ta (20 + si))), (1, .int x2)] := hl
  replace hm : (ob0 (m_J0_checkIndex_df160 x2 (Int32.ofNat (st_len.getD si 0))) (if x2 < 0 ∨ st_len.getD si 0 ≤ x2.toNatClampNeg then none else some (((((st_byt.getD si []).getD x2.toNatClampNeg 0) &&& (255 : Int32)).toUInt32 % 65536).toInt32))) = some r0 := hm
  refine lv_iload_n hx hb dJ1_charAt_3b067_0 rfl (lv_at hl 1 rfl) ?_
  refine lv_aload_n hx hb dJ1_charAt_3b067_1 rfl (lv_at hl 0 rfl) ?_
  refine va_tlen hx hb (hG.2.2.2.2.2.2.2.2.1.1 si hsi).2.2.2 hS (v := (Int32.ofNat (st_len.getD si 0))) rfl dJ1_charAt_3b067_2 ?_
  obtain ⟨h1, hm1⟩ := ob0_e hm
  refine gcall_v (ws' := (w_none cI cB cZ)) (va_runS (As := [.int x2, .int (Int32.ofNat (st_len.getD si 0))]) (rest := []) ⟨hx, hb, hml, hown, hts⟩ (c_J0_checkIndex_df160 l D cI cB cZ ta s.heap.size x2 (Int32.ofNat (st_len.getD si 0)) h1) (va_cwS 2 hts gJ1_charAt_3b067_J0_checkIndex_df160 rfl rfl rfl (by decide +kernel) ⟨(Nat.le_of_ble_eq_true rfl), (Nat.le_of_ble_eq_true rfl)⟩) ⟨PW_blind, PW_at hP hD hK hS hA hG [] rfl (by decide)⟩ rfl rfl hl.1 rfl (lv_room (Nat.le_of_ble_eq_true rfl)) dJ1_charAt_3b067_3 ⟨(Nat.le_of_ble_eq_true rfl), (Nat.le_of_ble_eq_true rfl)⟩) hP hD hS hA [] [] [] rfl rfl (by decide) (by decide) (by decide) rfl (fun H2 lo2 hP2 hD2 hS2 => ?_)
  clear hP hD hS
  refine lv_aload_n hx hb dJ1_charAt_3b067_6 rfl (lv_at hl 0 rfl) ?_
  refine lv_iload_n hx hb dJ1_charAt_3b067_7 rfl (lv_at hl 1 rfl) ?_
  obtain ⟨c3, hm4⟩ := zz_no hm1
  refine va_tb hx hb (hG.2.2.2.2.2.2.2.2.1.1 si hsi).2.2.2 hS2 c3 rfl dJ1_charAt_3b067_8 ?_
  refine lv_sipush (v := (255 : Int32)) hx hb dJ1_charAt_3b067_9 (by decide) ?_
  refine lv_iand hx hb dJ1_charAt_3b067_12 ?_
  refine lv_i2c (v := ((((st_byt.getD si []).getD x2.toNatClampNeg 0) &&& (255 : Int32)).toUInt32 % 65536).toInt32) hx hb dJ1_charAt_3b067_13 rfl ?_
  have hq1 := Option.some.inj hm4
  subst hq1
  exact W.zret (ty := .char) hx hb hr (pk_nc _) (fun t ht hW => ⟨⟨_, (), rfl, ⟨rfl, (pk_nc _)⟩, by rw [ht]; exact hP2, va_K.moved hW.alike hK, hD2⟩, hS2.F ht⟩) hS2.2.2 dJ1_charAt_3b067_14
set_option maxHeartbeats 4000000 in
set_option maxRecDepth 100000 in
theorem c_J0_charAt_5068e (l : Launch) (D : va_G) (cI cB cZ : ClassId) (ta : Nat → Nat) (sz : Nat) (si : Nat) (x1 : Int32) (r0 : Int32) (hsi : si < 4) (hm : m_J0_charAt_5068e si x1 = some r0) : Met l yJ0_charAt_5068e wsJ0_charAt_5068e ({ frames := 3, cells := 0, slots := 0, locals := 64 } : Room) (va_Pc [.ref (ta (10 + si)), .int x1] (PW D cI cB cZ ta (w_none cI cB cZ) sz)) (QZ .char D cI cB cZ (va_A (w_none cI cB cZ) sz) (w_none cI cB cZ) r0) 0 0 (va_A (w_none cI cB cZ) sz) := by
  refine Met.ofW (cc := cJ0_charAt_5068e) (maxL := 2) (ret := (some .char)) (by decide) rfl ?_
  intro p e s m args below meth c s₁ B hml hv
  obtain ⟨rfl, hsz, hP, hK, hD0, hG⟩ := hv
  have hx := B.exec
  have hb := B.bytes
  have hr := B.returns
  have hts := atoms_spec (ws := wsJ0_charAt_5068e) B.pre
  have hown : s.vm.findClass RJ0 = some m.cls := findClass_of_methodNamed B.named
  have hlocks := B.notSynchronized
  subst hsz
  have hD := hD0.self (sz := s.heap.size)
  clear hD0
  have hA0 : ∀ q : Nat, s.heap.size ≤ q → va_A (w_none cI cB cZ) s.heap.size q := fun q h => Or.inr h
  generalize hAe : va_A (w_none cI cB cZ) s.heap.size = A at hD hG hA0 ⊢
  have hA : ∀ q : Nat, s.heap.size ≤ q → A q := hA0
  clear hA0
  have hS : va_S A s.heap s.heap [] := va_S.rf
  have hl := lv_entry ([.ref (ta (10 + si)), .int x1]) (n := 2) (Nat.le_of_ble_eq_true rfl)
  rw [lg_entry_eq]
  generalize (lg_sl ([.ref (ta (10 + si)), .int x1]) ++ List.replicate (2 - (lg_sl ([.ref (ta (10 + si)), .int x1])).length) Slot.unset).toArray = ls at hl ⊢
  have hl : lv_has ls 2 [(0, .ref (ta (10 + si))), (1, .int x1)] := hl
  replace hm : (ob1 (m_J0_isLatin1_aae02 si) (fun r1 => (if r1 = 0 then none else (ob1 (m_J1_charAt_3b067 si x1) (fun r6 => some r6))))) = some r0 := hm
  refine lv_aload_n hx hb dJ0_charAt_5068e_0 rfl (lv_at hl 0 rfl) ?_
  obtain ⟨r1, h1, hm1⟩ := ob1_e hm
  refine gcall_b (ws' := (w_none cI cB cZ)) (va_runV (As := []) (rest := []) ⟨hx, hb, hml, hown, hts⟩ (c_J0_isLatin1_aae02 l D cI cB cZ ta s.heap.size si r1 hsi h1) (cwV 0 hts gJ0_charAt_5068e_J0_isLatin1_aae02 rfl rfl rfl (by decide +kernel) ⟨(Nat.le_of_ble_eq_true rfl), (Nat.le_of_ble_eq_true rfl)⟩) ⟨PW_blind, vk_recv hG.2.2.2.2.2.2.2.2.1 hsi hS, PW_at hP hD hK hS hA hG [] rfl (by decide)⟩ rfl rfl hl.1 rfl (lv_room (Nat.le_of_ble_eq_true rfl)) dJ0_charAt_5068e_1 ⟨(Nat.le_of_ble_eq_true rfl), (Nat.le_of_ble_eq_true rfl)⟩) hP hD hS hA [] [] [] rfl rfl (by decide) (by decide) (by decide) rfl (fun H2 lo2 hz1 hP2 hD2 hS2 => ?_)
  clear hP hD hS
  refine lv_if_eq (tgt := 16) hx hb dJ0_charAt_5068e_4 (by decide) (fun c3 => ?_) (fun c3 => ?_)
  · have hm4 := zz_if c3 hm1
    exact zz_nn hm4
  · have hm5 := zz_nf c3 hm1
    refine lv_aload_n hx hb dJ0_charAt_5068e_7 rfl (lv_at hl 0 rfl) ?_
    refine vk_getf hx hb (hG.2.2.2.2.2.2.2.2.1.1 si hsi).2.2.1 hS2 hown (hts (.fieldLink RJ0 9 "java/lang/String" "value" "[B") (by decide +kernel)) (fun _ h9 => h9) dJ0_charAt_5068e_8 ?_
    refine lv_iload_n hx hb dJ0_charAt_5068e_11 rfl (lv_at hl 1 rfl) ?_
    obtain ⟨r6, h6, hm6⟩ := ob1_e hm5
    refine gcall_b (ws' := (w_none cI cB cZ)) (va_runS (As := [.ref (ta (20 + si)), .int x1]) (rest := []) ⟨hx, hb, hml, hown, hts⟩ (c_J1_charAt_3b067 l D cI cB cZ ta H2.size si x1 r6 hsi h6) (va_cwS 2 hts gJ0_charAt_5068e_J1_charAt_3b067 rfl rfl rfl (by decide +kernel) ⟨(Nat.le_of_ble_eq_true rfl), (Nat.le_of_ble_eq_true rfl)⟩) ⟨PW_blind, PW_at hP2 hD2 hK hS2 hA hG [] rfl (by decide)⟩ rfl rfl hl.1 rfl (lv_room (Nat.le_of_ble_eq_true rfl)) dJ0_charAt_5068e_12 ⟨(Nat.le_of_ble_eq_true rfl), (Nat.le_of_ble_eq_true rfl)⟩) hP2 hD2 hS2 hA [] [] [] rfl rfl (by decide) (by decide) (by decide) rfl (fun H7 lo7 hz6 hP7 hD7 hS7 => ?_)
    clear hP2 hD2 hS2
    have hq1 := Option.some.inj hm6
    subst hq1
    exact W.zret (ty := .char) hx hb hr hz6 (fun t ht hW => ⟨⟨_, (), rfl, ⟨rfl, hz6⟩, by rw [ht]; exact hP7, va_K.moved hW.alike hK, hD7⟩, hS7.F ht⟩) hS7.2.2 dJ0_charAt_5068e_15
theorem iw_X5_isWord_X4 : ∀ w ∈ wsX40, w ∈ wsX5_isWord := by decide +kernel
theorem iw_X5_isWord_X5 : ∀ w ∈ wsX50, w ∈ wsX5_isWord := by decide +kernel
set_option maxHeartbeats 4000000 in
set_option maxRecDepth 100000 in
theorem c_X5_isWord (l : Launch) (D : va_G) (cI cB cZ : ClassId) (ta : Nat → Nat) (aK : Nat) (aT : Nat) (aTb : Nat) (sz : Nat) (kp : Int32) (kb : Int32) (kk : Int32) (kn : Int32) (tl : Int32) (tb : (Nat → Int32)) (si : Nat) (r0 : Int32) (hsi : si < 4) (hm : m_X5_isWord kp kb kk tb si = some r0) : Met l yX5_isWord wsX5_isWord ({ frames := 4, cells := 0, slots := 0, locals := 85 } : Room) (va_Pc [.ref aK, .ref (ta (10 + si))] (PW D cI cB cZ ta (w_Tokens cI cB cZ aK aT aTb kp kb kk kn tl tb) sz)) (QZ .boolean D cI cB cZ (va_A (w_Tokens cI cB cZ aK aT aTb kp kb kk kn tl tb) sz) (w_Tokens cI cB cZ aK aT aTb kp kb kk kn tl tb) r0) 0 0 (va_A (w_Tokens cI cB cZ aK aT aTb kp kb kk kn tl tb) sz) := by
  refine Met.ofW (cc := cX5_isWord) (maxL := 3) (ret := (some .boolean)) (by decide) rfl ?_
  intro p e s m args below meth c s₁ B hml hv
  obtain ⟨rfl, hsz, hP, hK, hD0, hG⟩ := hv
  have hx := B.exec
  have hb := B.bytes
  have hr := B.returns
  have hts := atoms_spec (ws := wsX5_isWord) B.pre
  have hown : s.vm.findClass RX5 = some m.cls := findClass_of_methodNamed B.named
  have hlocks := B.notSynchronized
  subst hsz
  have hD := hD0.self (sz := s.heap.size)
  clear hD0
  have hA0 : ∀ q : Nat, s.heap.size ≤ q → va_A (w_Tokens cI cB cZ aK aT aTb kp kb kk kn tl tb) s.heap.size q := fun q h => Or.inr h
  generalize hAe : va_A (w_Tokens cI cB cZ aK aT aTb kp kb kk kn tl tb) s.heap.size = A at hD hG hA0 ⊢
  have hA : ∀ q : Nat, s.heap.size ≤ q → A q := hA0
  clear hA0
  have hS : va_S A s.heap s.heap [] := va_S.rf
  have iw_X4 := iw_X5_isWord_X4
  have iw_X5 := iw_X5_isWord_X5
  have hk_28 : ∀ (n : Nat) (y2 : Int32), k_X5_isWord_28 kp kb kk tb si n y2 = some r0 → ∀ (ls : Array Slot) (H : Heap) (lo : List Loc), lv_has ls 3 [(0, .ref aK), (1, .ref (ta (10 + si))), (2, .int y2)] → va_P D vwCl (w_Tokens cI cB cZ aK aT aTb kp kb kk kn tl tb) H → va_D A (w_Tokens cI cB cZ aK aT aTb kp kb kk kn tl tb) → va_S A s.heap H lo → W p l e (headSpec wsX5_isWord ({ frames := 4, cells := 0, slots := 0, locals := 85 } : Room)).room s m (([.ref aK, .ref (ta (10 + si))] : List Value).toArray) below meth c H lo 0 0 (MQ below (QZ .boolean D cI cB cZ A (w_Tokens cI cB cZ aK aT aTb kp kb kk kn tl tb) r0) (([.ref aK, .ref (ta (10 + si))] : List Value).toArray) s 0 0 A) (F0 m 28 ls []) := by
    intro n
    induction n with
    | zero => intro y2 hm; exact zz_nn hm
    | succ n ih =>
      intro y2 hm ls H lo hl hP hD hS
      replace hm := (k_X5_isWord_28_s kp kb kk tb si n y2).symm.trans hm
      refine lv_iload_n hx hb dX5_isWord_28 rfl (lv_at hl 2 rfl) ?_
      refine lv_aload_n hx hb dX5_isWord_29 rfl (lv_at hl 1 rfl) ?_
      obtain ⟨r1, h1, hm1⟩ := ob1_e hm
      refine gcall_i (ws' := (w_Tokens cI cB cZ aK aT aTb kp kb kk kn tl tb)) (va_runV (As := []) (rest := [.int y2]) ⟨hx, hb, hml, hown, hts⟩ (c_J0_length_8abf5 l D cI cB cZ ta H.size si r1 hsi h1) (cwV 0 hts gX5_isWord_J0_length_8abf5 rfl rfl rfl (by decide +kernel) ⟨(Nat.le_of_ble_eq_true rfl), (Nat.le_of_ble_eq_true rfl)⟩) ⟨PW_blind, vk_recv hG.2.2.2.2.2.2.2.2.1 hsi hS, PW_at hP hD hK hS hA hG [] rfl (by decide)⟩ rfl rfl hl.1 rfl (lv_room (Nat.le_of_ble_eq_true rfl)) dX5_isWord_30 ⟨(Nat.le_of_ble_eq_true rfl), (Nat.le_of_ble_eq_true rfl)⟩) hP hD hS hA [] [0, 1, 2] [0, 1, 2] rfl rfl (by decide) (by decide) (by decide) rfl (fun H2 lo2 hP2 hD2 hS2 => ?_)
      clear hP hD hS
      refine lv_icmp_ge (tgt := 66) hx hb dX5_isWord_33 (by decide) (fun c3 => ?_) (fun c3 => ?_)
      · have hm4 := zz_if c3 hm1
        refine lv_iconst (v := (1 : Int32)) hx hb dX5_isWord_66 (by decide) ?_
        have hq1 := Option.some.inj hm4
        subst hq1
        exact W.zret (ty := .boolean) hx hb hr (by decide) (fun t ht hW => ⟨⟨_, (), rfl, ⟨rfl, (by decide)⟩, by rw [ht]; exact hP2, va_K.moved hW.alike hK, hD2⟩, hS2.F ht⟩) hS2.2.2 dX5_isWord_67
      · have hm5 := zz_nf c3 hm1
        refine lv_aload_n hx hb dX5_isWord_36 rfl (lv_at hl 0 rfl) ?_
        refine va_get (D := D) (ci := 5) (v := .ref aT) (C := RX5) (T := TX5) (N := 5) hx hb hts iw_X5 hown hK hP2 0 rfl rfl 0 (by decide) (hts (.fieldLink RX5 24 "VarianceBridge$Tokens" "tape" "LVarianceBridge$Tape;") (by decide +kernel)) (fun _ h9 => h9) rfl dX5_isWord_37 ?_
        refine va_getN (D := D) (ci := 4) (v := .ref aTb) (C := RX4) (T := TX4) (N := 2) hx hb hts iw_X4 hown hK hP2 1 rfl rfl 0 (by decide) (va_Nw.use rfl (hG.1 (.fieldLinkNest RX5 36 RX4 "bytes" "[B" RX6) (by decide +kernel))) (fun _ h9 => h9) rfl dX5_isWord_40 ?_
        refine lv_aload_n hx hb dX5_isWord_43 rfl (lv_at hl 0 rfl) ?_
        refine va_get (D := D) (ci := 5) (v := .int kb) (C := RX5) (T := TX5) (N := 5) hx hb hts iw_X5 hown hK hP2 0 rfl rfl 2 (by decide) (hts (.fieldLink RX5 15 "VarianceBridge$Tokens" "begin" "I") (by decide +kernel)) (fun _ h9 => h9) rfl dX5_isWord_44 ?_
        refine lv_iload_n hx hb dX5_isWord_47 rfl (lv_at hl 2 rfl) ?_
        refine lv_iadd hx hb dX5_isWord_48 ?_
        obtain ⟨c6, hm7⟩ := zz_no hm5
        refine va_bald hx hb hK hP2 2 1 rfl rfl c6 dX5_isWord_49 ?_
        refine lv_aload_n hx hb dX5_isWord_50 rfl (lv_at hl 1 rfl) ?_
        refine lv_iload_n hx hb dX5_isWord_51 rfl (lv_at hl 2 rfl) ?_
        obtain ⟨r8, h8, hm8⟩ := ob1_e hm7
        refine gcall_b (ws' := (w_Tokens cI cB cZ aK aT aTb kp kb kk kn tl tb)) (va_runV (As := [.int y2]) (rest := [.int (tb (kb + y2).toNatClampNeg)]) ⟨hx, hb, hml, hown, hts⟩ (c_J0_charAt_5068e l D cI cB cZ ta H2.size si y2 r8 hsi h8) (cwV 1 hts gX5_isWord_J0_charAt_5068e rfl rfl rfl (by decide +kernel) ⟨(Nat.le_of_ble_eq_true rfl), (Nat.le_of_ble_eq_true rfl)⟩) ⟨PW_blind, vk_recv hG.2.2.2.2.2.2.2.2.1 hsi hS2, PW_at hP2 hD2 hK hS2 hA hG [] rfl (by decide)⟩ rfl rfl hl.1 rfl (lv_room (Nat.le_of_ble_eq_true rfl)) dX5_isWord_52 ⟨(Nat.le_of_ble_eq_true rfl), (Nat.le_of_ble_eq_true rfl)⟩) hP2 hD2 hS2 hA [] [0, 1, 2] [0, 1, 2] rfl rfl (by decide) (by decide) (by decide) rfl (fun H9 lo9 hz8 hP9 hD9 hS9 => ?_)
        clear hP2 hD2 hS2
        refine lv_icmp_eq (tgt := 60) hx hb dX5_isWord_55 (by decide) (fun c10 => ?_) (fun c10 => ?_)
        · have hm11 := zz_if c10 hm8
          refine lv_iinc (v := (y2 + (1 : Int32))) (lv' := [(2, .int (y2 + (1 : Int32))), (0, .ref aK), (1, .ref (ta (10 + si)))]) hx hb dX5_isWord_60 hl (k := 2) rfl (by rfl) (by decide) rfl (fun ls13 hl13 => ?_)
          refine lv_goto (tgt := 28) hx hb dX5_isWord_63 (by decide) ?_
          exact ih (y2 + (1 : Int32)) hm11 ls13 H9 lo9 (lv_sub hl13 [1, 2, 0] rfl) hP9 hD9 hS9
        · have hm12 := zz_nf c10 hm8
          refine lv_iconst (v := (0 : Int32)) hx hb dX5_isWord_58 (by decide) ?_
          have hq1 := Option.some.inj hm12
          subst hq1
          exact W.zret (ty := .boolean) hx hb hr (by decide) (fun t ht hW => ⟨⟨_, (), rfl, ⟨rfl, (by decide)⟩, by rw [ht]; exact hP9, va_K.moved hW.alike hK, hD9⟩, hS9.F ht⟩) hS9.2.2 dX5_isWord_59
  have hl := lv_entry ([.ref aK, .ref (ta (10 + si))]) (n := 3) (Nat.le_of_ble_eq_true rfl)
  rw [lg_entry_eq]
  generalize (lg_sl ([.ref aK, .ref (ta (10 + si))]) ++ List.replicate (3 - (lg_sl ([.ref aK, .ref (ta (10 + si))])).length) Slot.unset).toArray = ls at hl ⊢
  have hl : lv_has ls 3 [(0, .ref aK), (1, .ref (ta (10 + si)))] := hl
  replace hm : (if kk = (1 : Int32) then (ob1 (m_J0_length_8abf5 si) (fun r17 => (if (kp - kb) = r17 then (k_X5_isWord_28 kp kb kk tb si FU (0 : Int32)) else some (0 : Int32)))) else some (0 : Int32)) = some r0 := hm
  refine lv_aload_n hx hb dX5_isWord_0 rfl (lv_at hl 0 rfl) ?_
  refine va_get (D := D) (ci := 5) (v := .int kk) (C := RX5) (T := TX5) (N := 5) hx hb hts iw_X5 hown hK hP 0 rfl rfl 3 (by decide) (hts (.fieldLink RX5 18 "VarianceBridge$Tokens" "kind" "I") (by decide +kernel)) (fun _ h9 => h9) rfl dX5_isWord_1 ?_
  refine lv_iconst (v := (1 : Int32)) hx hb dX5_isWord_4 (by decide) ?_
  refine lv_icmp_ne (tgt := 24) hx hb dX5_isWord_5 (by decide) (fun c14 => ?_) (fun c14 => ?_)
  · have hm15 := zz_nf c14 hm
    refine lv_iconst (v := (0 : Int32)) hx hb dX5_isWord_24 (by decide) ?_
    have hq1 := Option.some.inj hm15
    subst hq1
    exact W.zret (ty := .boolean) hx hb hr (by decide) (fun t ht hW => ⟨⟨_, (), rfl, ⟨rfl, (by decide)⟩, by rw [ht]; exact hP, va_K.moved hW.alike hK, hD⟩, hS.F ht⟩) hS.2.2 dX5_isWord_25
  · have hm16 := zz_if c14 hm
    refine lv_aload_n hx hb dX5_isWord_8 rfl (lv_at hl 0 rfl) ?_
    refine va_get (D := D) (ci := 5) (v := .int kp) (C := RX5) (T := TX5) (N := 5) hx hb hts iw_X5 hown hK hP 0 rfl rfl 1 (by decide) (hts (.fieldLink RX5 9 "VarianceBridge$Tokens" "place" "I") (by decide +kernel)) (fun _ h9 => h9) rfl dX5_isWord_9 ?_
    refine lv_aload_n hx hb dX5_isWord_12 rfl (lv_at hl 0 rfl) ?_
    refine va_get (D := D) (ci := 5) (v := .int kb) (C := RX5) (T := TX5) (N := 5) hx hb hts iw_X5 hown hK hP 0 rfl rfl 2 (by decide) (hts (.fieldLink RX5 15 "VarianceBridge$Tokens" "begin" "I") (by decide +kernel)) (fun _ h9 => h9) rfl dX5_isWord_13 ?_
    refine lv_isub hx hb dX5_isWord_16 ?_
    refine lv_aload_n hx hb dX5_isWord_17 rfl (lv_at hl 1 rfl) ?_
    obtain ⟨r17, h17, hm17⟩ := ob1_e hm16
    refine gcall_i (ws' := (w_Tokens cI cB cZ aK aT aTb kp kb kk kn tl tb)) (va_runV (As := []) (rest := [.int (kp - kb)]) ⟨hx, hb, hml, hown, hts⟩ (c_J0_length_8abf5 l D cI cB cZ ta s.heap.size si r17 hsi h17) (cwV 0 hts gX5_isWord_J0_length_8abf5 rfl rfl rfl (by decide +kernel) ⟨(Nat.le_of_ble_eq_true rfl), (Nat.le_of_ble_eq_true rfl)⟩) ⟨PW_blind, vk_recv hG.2.2.2.2.2.2.2.2.1 hsi hS, PW_at hP hD hK hS hA hG [] rfl (by decide)⟩ rfl rfl hl.1 rfl (lv_room (Nat.le_of_ble_eq_true rfl)) dX5_isWord_18 ⟨(Nat.le_of_ble_eq_true rfl), (Nat.le_of_ble_eq_true rfl)⟩) hP hD hS hA [] [0, 1, 2] [0, 1, 2] rfl rfl (by decide) (by decide) (by decide) rfl (fun H18 lo18 hP18 hD18 hS18 => ?_)
    clear hP hD hS
    refine lv_icmp_eq (tgt := 26) hx hb dX5_isWord_21 (by decide) (fun c19 => ?_) (fun c19 => ?_)
    · have hm20 := zz_if c19 hm17
      refine lv_iconst (v := (0 : Int32)) hx hb dX5_isWord_26 (by decide) ?_
      refine lv_istore_n (lv' := [(2, .int (0 : Int32)), (0, .ref aK), (1, .ref (ta (10 + si)))]) hx hb dX5_isWord_27 rfl hl (by decide) rfl (fun ls22 hl22 => ?_)
      exact hk_28 FU (0 : Int32) hm20 ls22 H18 lo18 (lv_sub hl22 [1, 2, 0] rfl) hP18 hD18 hS18
    · have hm21 := zz_nf c19 hm17
      refine lv_iconst (v := (0 : Int32)) hx hb dX5_isWord_24 (by decide) ?_
      have hq1 := Option.some.inj hm21
      subst hq1
      exact W.zret (ty := .boolean) hx hb hr (by decide) (fun t ht hW => ⟨⟨_, (), rfl, ⟨rfl, (by decide)⟩, by rw [ht]; exact hP18, va_K.moved hW.alike hK, hD18⟩, hS18.F ht⟩) hS18.2.2 dX5_isWord_25
theorem iw_X3_refuse_X3 : ∀ w ∈ wsX30, w ∈ wsX3_refuse := by decide +kernel
theorem iw_X3_refuse_X5 : ∀ w ∈ wsX50, w ∈ wsX3_refuse := by decide +kernel
set_option maxHeartbeats 4000000 in
set_option maxRecDepth 100000 in
theorem c_X3_refuse (l : Launch) (D : va_G) (cI cB cZ : ClassId) (ta : Nat → Nat) (aR : Nat) (aRt : Nat) (aK : Nat) (aT : Nat) (aTb : Nat) (aD : Nat) (aDp : Nat) (aDf : Nat) (sz : Nat) (rl : Int32) (rk : Int32) (rp : Int32) (rt : (Nat → Int32)) (kp : Int32) (kb : Int32) (kk : Int32) (kn : Int32) (tl : Int32) (tb : (Nat → Int32)) (dg : Int32) (ds : Int32) (dn : Int32) (dp : (Nat → Int32)) (df : (Nat → Int32)) (x1 : Int32) (r0 : Int32) (u_rk : Int32) (u_rp : Int32) (hm : m_X3_refuse rk rp kb x1 = some (r0, u_rk, u_rp)) : Met l yX3_refuse wsX3_refuse ({ frames := 0, cells := 0, slots := 0, locals := 0 } : Room) (va_Pc [.ref aR, .int x1] (PW D cI cB cZ ta (w_Reader cI cB cZ aR aRt aK aT aTb aD aDp aDf rl rk rp rt kp kb kk kn tl tb dg ds dn dp df) sz)) (QZ .boolean D cI cB cZ (va_A (w_Reader cI cB cZ aR aRt aK aT aTb aD aDp aDf rl rk rp rt kp kb kk kn tl tb dg ds dn dp df) sz) (w_Reader cI cB cZ aR aRt aK aT aTb aD aDp aDf rl u_rk u_rp rt kp kb kk kn tl tb dg ds dn dp df) r0) 0 0 (va_A (w_Reader cI cB cZ aR aRt aK aT aTb aD aDp aDf rl rk rp rt kp kb kk kn tl tb dg ds dn dp df) sz) := by
  refine Met.ofW (cc := cX3_refuse) (maxL := 2) (ret := (some .boolean)) (by decide) rfl ?_
  intro p e s m args below meth c s₁ B hml hv
  obtain ⟨rfl, hsz, hP, hK, hD0, hG⟩ := hv
  have hx := B.exec
  have hb := B.bytes
  have hr := B.returns
  have hts := atoms_spec (ws := wsX3_refuse) B.pre
  have hown : s.vm.findClass RX3 = some m.cls := findClass_of_methodNamed B.named
  have hlocks := B.notSynchronized
  subst hsz
  have hD := hD0.self (sz := s.heap.size)
  clear hD0
  have hA0 : ∀ q : Nat, s.heap.size ≤ q → va_A (w_Reader cI cB cZ aR aRt aK aT aTb aD aDp aDf rl rk rp rt kp kb kk kn tl tb dg ds dn dp df) s.heap.size q := fun q h => Or.inr h
  generalize hAe : va_A (w_Reader cI cB cZ aR aRt aK aT aTb aD aDp aDf rl rk rp rt kp kb kk kn tl tb dg ds dn dp df) s.heap.size = A at hD hG hA0 ⊢
  have hA : ∀ q : Nat, s.heap.size ≤ q → A q := hA0
  clear hA0
  have hS : va_S A s.heap s.heap [] := va_S.rf
  have iw_X3 := iw_X3_refuse_X3
  have iw_X5 := iw_X3_refuse_X5
  have hl := lv_entry ([.ref aR, .int x1]) (n := 2) (Nat.le_of_ble_eq_true rfl)
  rw [lg_entry_eq]
  generalize (lg_sl ([.ref aR, .int x1]) ++ List.replicate (2 - (lg_sl ([.ref aR, .int x1])).length) Slot.unset).toArray = ls at hl ⊢
  have hl : lv_has ls 2 [(0, .ref aR), (1, .int x1)] := hl
  replace hm : some ((0 : Int32), x1, kb) = some (r0, u_rk, u_rp) := hm
  refine lv_aload_n hx hb dX3_refuse_0 rfl (lv_at hl 0 rfl) ?_
  refine lv_iload_n hx hb dX3_refuse_1 rfl (lv_at hl 1 rfl) ?_
  refine va_put (D := D) (ci := 3) (v := .int x1) (ty := .int) (C := RX3) (T := TX3) (N := 6) hx hb hts iw_X3 tyX3 tyX3_ok nmX3 hown hK hP hD hS 0 rfl rfl 4 (by decide) (hts (.fieldLink RX3 19 "VarianceBridge$Reader" "faultKind" "I") (by decide +kernel)) (fun _ h9 => h9) rfl (by decide +kernel) rfl rfl (Nat.le_of_ble_eq_true rfl) dX3_refuse_2 (fun H1 lo1 hP1 hD1 hS1 => ?_)
  replace hP1 : va_P D vwCl (w_Reader cI cB cZ aR aRt aK aT aTb aD aDp aDf rl x1 rp rt kp kb kk kn tl tb dg ds dn dp df) H1 := hP1
  replace hD1 : va_D A (w_Reader cI cB cZ aR aRt aK aT aTb aD aDp aDf rl x1 rp rt kp kb kk kn tl tb dg ds dn dp df) := hD1
  clear hP hD hS
  refine lv_aload_n hx hb dX3_refuse_5 rfl (lv_at hl 0 rfl) ?_
  refine lv_aload_n hx hb dX3_refuse_6 rfl (lv_at hl 0 rfl) ?_
  refine va_get (D := D) (ci := 3) (v := .ref aK) (C := RX3) (T := TX3) (N := 6) hx hb hts iw_X3 hown hK hP1 0 rfl rfl 0 (by decide) (hts (.fieldLink RX3 30 "VarianceBridge$Reader" "tokens" "LVarianceBridge$Tokens;") (by decide +kernel)) (fun _ h9 => h9) rfl dX3_refuse_7 ?_
  refine va_getN (D := D) (ci := 5) (v := .int kb) (C := RX5) (T := TX5) (N := 5) hx hb hts iw_X5 hown hK hP1 2 rfl rfl 2 (by decide) (va_Nw.use rfl (hG.1 (.fieldLinkNest RX3 127 RX5 "begin" "I" RX6) (by decide +kernel))) (fun _ h9 => h9) rfl dX3_refuse_10 ?_
  refine va_put (D := D) (ci := 3) (v := .int kb) (ty := .int) (C := RX3) (T := TX3) (N := 6) hx hb hts iw_X3 tyX3 tyX3_ok nmX3 hown hK hP1 hD1 hS1 0 rfl rfl 5 (by decide) (hts (.fieldLink RX3 22 "VarianceBridge$Reader" "faultPlace" "I") (by decide +kernel)) (fun _ h9 => h9) rfl (by decide +kernel) rfl rfl (Nat.le_of_ble_eq_true rfl) dX3_refuse_13 (fun H2 lo2 hP2 hD2 hS2 => ?_)
  replace hP2 : va_P D vwCl (w_Reader cI cB cZ aR aRt aK aT aTb aD aDp aDf rl x1 kb rt kp kb kk kn tl tb dg ds dn dp df) H2 := hP2
  replace hD2 : va_D A (w_Reader cI cB cZ aR aRt aK aT aTb aD aDp aDf rl x1 kb rt kp kb kk kn tl tb dg ds dn dp df) := hD2
  clear hP1 hD1 hS1
  refine lv_iconst (v := (0 : Int32)) hx hb dX3_refuse_16 (by decide) ?_
  obtain ⟨hq1, hq99⟩ := Prod.mk.inj (Option.some.inj hm)
  obtain ⟨hq2, hq3⟩ := Prod.mk.inj (hq99)
  subst hq1
  subst hq2
  subst hq3
  exact W.zret (ty := .boolean) hx hb hr (by decide) (fun t ht hW => ⟨⟨_, (), rfl, ⟨rfl, (by decide)⟩, by rw [ht]; exact hP2, va_K.moved hW.alike hK, hD2⟩, hS2.F ht⟩) hS2.2.2 dX3_refuse_17
