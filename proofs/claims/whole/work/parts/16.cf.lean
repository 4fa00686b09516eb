theorem iw_X3_readText_X3 : ∀ w ∈ wsX30, w ∈ wsX3_readText := by decide +kernel
theorem iw_X3_readText_X5 : ∀ w ∈ wsX50, w ∈ wsX3_readText := by decide +kernel
set_option maxHeartbeats 4000000 in
set_option maxRecDepth 100000 in
theorem c_X3_readText (l : Launch) (D : va_G) (cI cB cZ : ClassId) (ta : Nat → Nat) (aR : Nat) (aRt : Nat) (aK : Nat) (aT : Nat) (aTb : Nat) (aD : Nat) (aDp : Nat) (aDf : Nat) (sz : Nat) (rl : Int32) (rk : Int32) (rp : Int32) (rt : (Nat → Int32)) (kp : Int32) (kb : Int32) (kk : Int32) (kn : Int32) (tl : Int32) (tb : (Nat → Int32)) (dg : Int32) (ds : Int32) (dn : Int32) (dp : (Nat → Int32)) (df : (Nat → Int32)) (r0 : Int32) (u_rl : Int32) (u_rk : Int32) (u_rp : Int32) (u_rt : (Nat → Int32)) (u_kp : Int32) (u_kb : Int32) (u_kk : Int32) (u_kn : Int32) (u_dg : Int32) (u_ds : Int32) (u_dn : Int32) (u_dp : (Nat → Int32)) (u_df : (Nat → Int32)) (hm : m_X3_readText rl rk rp rt kp kb kk kn tl tb dg ds dn dp df = some (r0, u_rl, u_rk, u_rp, u_rt, u_kp, u_kb, u_kk, u_kn, u_dg, u_ds, u_dn, u_dp, u_df)) : Met l yX3_readText wsX3_readText ({ frames := 6, cells := 0, slots := 0, locals := 127 } : Room) (va_Pc [.ref aR] (PW D cI cB cZ ta (w_Reader cI cB cZ aR aRt aK aT aTb aD aDp aDf rl rk rp rt kp kb kk kn tl tb dg ds dn dp df) sz)) (QZ .boolean D cI cB cZ (va_A (w_Reader cI cB cZ aR aRt aK aT aTb aD aDp aDf rl rk rp rt kp kb kk kn tl tb dg ds dn dp df) sz) (w_Reader cI cB cZ aR aRt aK aT aTb aD aDp aDf u_rl u_rk u_rp u_rt u_kp u_kb u_kk u_kn tl tb u_dg u_ds u_dn u_dp u_df) r0) 0 0 (va_A (w_Reader cI cB cZ aR aRt aK aT aTb aD aDp aDf rl rk rp rt kp kb kk kn tl tb dg ds dn dp df) sz) := by
  refine Met.ofW (cc := cX3_readText) (maxL := 1) (ret := (some .boolean)) (by decide) rfl ?_
  intro p e s m args below meth c s₁ B hml hv
  obtain ⟨rfl, hsz, hP, hK, hD0, hG⟩ := hv
  have hx := B.exec
  have hb := B.bytes
  have hr := B.returns
  have hts := atoms_spec (ws := wsX3_readText) B.pre
  have hown : s.vm.findClass RX3 = some m.cls := findClass_of_methodNamed B.named
  have hlocks := B.notSynchronized
  subst hsz
  have hD := hD0.self (sz := s.heap.size)
  clear hD0
  have hA0 : ∀ q : Nat, s.heap.size ≤ q → va_A (w_Reader cI cB cZ aR aRt aK aT aTb aD aDp aDf rl rk rp rt kp kb kk kn tl tb dg ds dn dp df) s.heap.size q := fun q h => Or.inr h
  generalize hAe : va_A (w_Reader cI cB cZ aR aRt aK aT aTb aD aDp aDf rl rk rp rt kp kb kk kn tl tb dg ds dn dp df) s.heap.size = A at hD hG hA0 ⊢
  have hA : ∀ q : Nat, s.heap.size ≤ q → A q := hA0
  clear hA0
  have hS : va_S A s.heap s.heap [] := va_S.rf
  have iw_X3 := iw_X3_readText_X3
  have iw_X5 := iw_X3_readText_X5
  have hk_51 : ∀ (n : Nat) (rl : Int32) (rk : Int32) (rp : Int32) (rt : (Nat → Int32)) (kp : Int32) (kb : Int32) (kk : Int32) (kn : Int32) (dg : Int32) (ds : Int32) (dn : Int32) (dp : (Nat → Int32)) (df : (Nat → Int32)), k_X3_readText_51 tl tb n rl rk rp rt kp kb kk kn dg ds dn dp df = some (r0, u_rl, u_rk, u_rp, u_rt, u_kp, u_kb, u_kk, u_kn, u_dg, u_ds, u_dn, u_dp, u_df) → ∀ (ls : Array Slot) (H : Heap) (lo : List Loc), lv_has ls 1 [(0, .ref aR)] → va_P D vwCl (w_Reader cI cB cZ aR aRt aK aT aTb aD aDp aDf rl rk rp rt kp kb kk kn tl tb dg ds dn dp df) H → va_D A (w_Reader cI cB cZ aR aRt aK aT aTb aD aDp aDf rl rk rp rt kp kb kk kn tl tb dg ds dn dp df) → va_S A s.heap H lo → W p l e (headSpec wsX3_readText ({ frames := 6, cells := 0, slots := 0, locals := 127 } : Room)).room s m (([.ref aR] : List Value).toArray) below meth c H lo 0 0 (MQ below (QZ .boolean D cI cB cZ A (w_Reader cI cB cZ aR aRt aK aT aTb aD aDp aDf u_rl u_rk u_rp u_rt u_kp u_kb u_kk u_kn tl tb u_dg u_ds u_dn u_dp u_df) r0) (([.ref aR] : List Value).toArray) s 0 0 A) (F0 m 51 ls []) := by
    intro n
    induction n with
    | zero => intro rl rk rp rt kp kb kk kn dg ds dn dp df hm; exact zz_nn hm
    | succ n ih =>
      intro rl rk rp rt kp kb kk kn dg ds dn dp df hm ls H lo hl hP hD hS
      replace hm := (k_X3_readText_51_s tl tb n rl rk rp rt kp kb kk kn dg ds dn dp df).symm.trans hm
      refine lv_aload_n hx hb dX3_readText_51 rfl (lv_at hl 0 rfl) ?_
      refine va_get (D := D) (ci := 3) (v := .int rl) (C := RX3) (T := TX3) (N := 6) hx hb hts iw_X3 hown hK hP 0 rfl rfl 3 (by decide) (hts (.fieldLink RX3 15 "VarianceBridge$Reader" "lines" "I") (by decide +kernel)) (fun _ h9 => h9) rfl dX3_readText_52 ?_
      refine lv_sipush (v := (640 : Int32)) hx hb dX3_readText_55 (by decide) ?_
      refine lv_icmp_gt (tgt := 103) hx hb dX3_readText_58 (by decide) (fun c1 => ?_) (fun c1 => ?_)
      · have hm2 := zz_if c1 hm
        refine lv_aload_n hx hb dX3_readText_103 rfl (lv_at hl 0 rfl) ?_
        refine lv_iconst (v := (1 : Int32)) hx hb dX3_readText_104 (by decide) ?_
        obtain ⟨r4, rk_4, rp_4, h4, hm4⟩ := ob3_e hm2
        refine gcall_b (ws' := (w_Reader cI cB cZ aR aRt aK aT aTb aD aDp aDf rl rk_4 rp_4 rt kp kb kk kn tl tb dg ds dn dp df)) (va_runV (As := [.int (1 : Int32)]) (rest := []) ⟨hx, hb, hml, hown, hts⟩ (c_X3_refuse l D cI cB cZ ta aR aRt aK aT aTb aD aDp aDf H.size rl rk rp rt kp kb kk kn tl tb dg ds dn dp df (1 : Int32) r4 rk_4 rp_4 h4) (cwV 1 hts gX3_readText_X3_refuse rfl rfl rfl (by decide +kernel) ⟨(Nat.le_of_ble_eq_true rfl), (Nat.le_of_ble_eq_true rfl)⟩) ⟨PW_blind, va_recv hK hP rfl (q0 := 0) rfl, PW_at hP hD hK hS hA hG [0, 1, 2, 3, 4, 5, 6, 7] rfl (by decide)⟩ rfl rfl hl.1 rfl (lv_room (Nat.le_of_ble_eq_true rfl)) dX3_readText_105 ⟨(Nat.le_of_ble_eq_true rfl), (Nat.le_of_ble_eq_true rfl)⟩) hP hD hS hA [0, 1, 2, 3, 4, 5, 6, 7] [] [0, 1, 2, 3, 4, 5, 6, 7] rfl rfl (by decide) (by decide) (by decide) rfl (fun H5 lo5 hz4 hP5 hD5 hS5 => ?_)
        clear hP hD hS
        obtain ⟨hq1, hq99⟩ := Prod.mk.inj (Option.some.inj hm4)
        obtain ⟨hq2, hq99⟩ := Prod.mk.inj (hq99)
        obtain ⟨hq3, hq99⟩ := Prod.mk.inj (hq99)
        obtain ⟨hq4, hq99⟩ := Prod.mk.inj (hq99)
        obtain ⟨hq5, hq99⟩ := Prod.mk.inj (hq99)
        obtain ⟨hq6, hq99⟩ := Prod.mk.inj (hq99)
        obtain ⟨hq7, hq99⟩ := Prod.mk.inj (hq99)
        obtain ⟨hq8, hq99⟩ := Prod.mk.inj (hq99)
        obtain ⟨hq9, hq99⟩ := Prod.mk.inj (hq99)
        obtain ⟨hq10, hq99⟩ := Prod.mk.inj (hq99)
        obtain ⟨hq11, hq99⟩ := Prod.mk.inj (hq99)
        obtain ⟨hq12, hq99⟩ := Prod.mk.inj (hq99)
        obtain ⟨hq13, hq14⟩ := Prod.mk.inj (hq99)
        subst hq1
        subst hq2
        subst hq3
        subst hq4
        subst hq5
        subst hq6
        subst hq7
        subst hq8
        subst hq9
        subst hq10
        subst hq11
        subst hq12
        subst hq13
        subst hq14
        exact W.zret (ty := .boolean) hx hb hr hz4 (fun t ht hW => ⟨⟨_, (), rfl, ⟨rfl, hz4⟩, by rw [ht]; exact hP5, va_K.moved hW.alike hK, hD5⟩, hS5.F ht⟩) hS5.2.2 dX3_readText_108
      · have hm3 := zz_nf c1 hm
        refine lv_aload_n hx hb dX3_readText_61 rfl (lv_at hl 0 rfl) ?_
        refine va_get (D := D) (ci := 3) (v := .ref aK) (C := RX3) (T := TX3) (N := 6) hx hb hts iw_X3 hown hK hP 0 rfl rfl 0 (by decide) (hts (.fieldLink RX3 30 "VarianceBridge$Reader" "tokens" "LVarianceBridge$Tokens;") (by decide +kernel)) (fun _ h9 => h9) rfl dX3_readText_62 ?_
        obtain ⟨kp_6, kb_6, kk_6, kn_6, h6, hm6⟩ := ob4_e hm3
        refine gcall_v (ws' := (w_Reader cI cB cZ aR aRt aK aT aTb aD aDp aDf rl rk rp rt kp_6 kb_6 kk_6 kn_6 tl tb dg ds dn dp df)) (va_runVN (As := []) (rest := []) ⟨hx, hb, hml, hown, hts⟩ (c_X5_advance l D cI cB cZ ta aK aT aTb H.size kp kb kk kn tl tb kp_6 kb_6 kk_6 kn_6 h6) ⟨va_cnB 0 hts gX3_readText_X5_advance_n47 rfl rfl rfl (hG.1 (.methodLinkNest RX3 47 yX5_advance RX6) (by decide +kernel)) (hts (.initialized RX5) (by decide +kernel)) (by decide +kernel) ⟨(Nat.le_of_ble_eq_true rfl), (Nat.le_of_ble_eq_true rfl)⟩, hts (.instanceMethod yX5_advance) (by decide +kernel), hts (.selects RX5 yX5_advance yX5_advance) (by decide +kernel)⟩ ⟨PW_blind, va_recv hK hP rfl (q0 := 2) rfl, PW_at hP hD hK hS hA hG [2, 3, 4] rfl (by decide)⟩ rfl rfl hl.1 rfl (lv_room (Nat.le_of_ble_eq_true rfl)) dX3_readText_65 ⟨(Nat.le_of_ble_eq_true rfl), (Nat.le_of_ble_eq_true rfl)⟩) hP hD hS hA [2, 3, 4] [0, 1, 5, 6, 7] [0, 1, 5, 6, 7, 2, 3, 4] rfl rfl (by decide) (by decide) (by decide) rfl (fun H7 lo7 hP7 hD7 hS7 => ?_)
        clear hP hD hS
        refine lv_aload_n hx hb dX3_readText_68 rfl (lv_at hl 0 rfl) ?_
        refine va_get (D := D) (ci := 3) (v := .ref aK) (C := RX3) (T := TX3) (N := 6) hx hb hts iw_X3 hown hK hP7 0 rfl rfl 0 (by decide) (hts (.fieldLink RX3 30 "VarianceBridge$Reader" "tokens" "LVarianceBridge$Tokens;") (by decide +kernel)) (fun _ h9 => h9) rfl dX3_readText_69 ?_
        refine va_getN (D := D) (ci := 5) (v := .int kk_6) (C := RX5) (T := TX5) (N := 5) hx hb hts iw_X5 hown hK hP7 2 rfl rfl 3 (by decide) (va_Nw.use rfl (hG.1 (.fieldLinkNest RX3 54 RX5 "kind" "I" RX6) (by decide +kernel))) (fun _ h9 => h9) rfl dX3_readText_72 ?_
        refine lv_iconst (v := (4 : Int32)) hx hb dX3_readText_75 (by decide) ?_
        refine lv_icmp_ne (tgt := 81) hx hb dX3_readText_76 (by decide) (fun c8 => ?_) (fun c8 => ?_)
        · have hm9 := zz_nf c8 hm6
          refine lv_aload_n hx hb dX3_readText_81 rfl (lv_at hl 0 rfl) ?_
          obtain ⟨r11, rk_11, rp_11, rt_11, kp_11, kb_11, kk_11, kn_11, dg_11, dn_11, dp_11, df_11, h11, hm11⟩ := ob12_e hm9
          refine gcall_b (ws' := (w_Reader cI cB cZ aR aRt aK aT aTb aD aDp aDf rl rk_11 rp_11 rt_11 kp_11 kb_11 kk_11 kn_11 tl tb dg_11 ds dn_11 dp_11 df_11)) (va_runV (As := []) (rest := []) ⟨hx, hb, hml, hown, hts⟩ (c_X3_readLine l D cI cB cZ ta aR aRt aK aT aTb aD aDp aDf H7.size rl rk rp rt kp_6 kb_6 kk_6 kn_6 tl tb dg ds dn dp df r11 rk_11 rp_11 rt_11 kp_11 kb_11 kk_11 kn_11 dg_11 dn_11 dp_11 df_11 h11) (cwV 0 hts gX3_readText_X3_readLine rfl rfl rfl (by decide +kernel) ⟨(Nat.le_of_ble_eq_true rfl), (Nat.le_of_ble_eq_true rfl)⟩) ⟨PW_blind, va_recv hK hP7 rfl (q0 := 0) rfl, PW_at hP7 hD7 hK hS7 hA hG [0, 1, 2, 3, 4, 5, 6, 7] rfl (by decide)⟩ rfl rfl hl.1 rfl (lv_room (Nat.le_of_ble_eq_true rfl)) dX3_readText_82 ⟨(Nat.le_of_ble_eq_true rfl), (Nat.le_of_ble_eq_true rfl)⟩) hP7 hD7 hS7 hA [0, 1, 2, 3, 4, 5, 6, 7] [] [0, 1, 2, 3, 4, 5, 6, 7] rfl rfl (by decide) (by decide) (by decide) rfl (fun H12 lo12 hz11 hP12 hD12 hS12 => ?_)
          clear hP7 hD7 hS7
          refine lv_if_ne (tgt := 90) hx hb dX3_readText_85 (by decide) (fun c13 => ?_) (fun c13 => ?_)
          · have hm14 := zz_nf c13 hm11
            refine lv_aload_n hx hb dX3_readText_90 rfl (lv_at hl 0 rfl) ?_
            refine lv_dup hx hb dX3_readText_91 rfl ?_
            refine va_get (D := D) (ci := 3) (v := .int rl) (C := RX3) (T := TX3) (N := 6) hx hb hts iw_X3 hown hK hP12 0 rfl rfl 3 (by decide) (hts (.fieldLink RX3 15 "VarianceBridge$Reader" "lines" "I") (by decide +kernel)) (fun _ h9 => h9) rfl dX3_readText_92 ?_
            refine lv_iconst (v := (1 : Int32)) hx hb dX3_readText_95 (by decide) ?_
            refine lv_iadd hx hb dX3_readText_96 ?_
            refine va_put (D := D) (ci := 3) (v := .int (rl + (1 : Int32))) (ty := .int) (C := RX3) (T := TX3) (N := 6) hx hb hts iw_X3 tyX3 tyX3_ok nmX3 hown hK hP12 hD12 hS12 0 rfl rfl 3 (by decide) (hts (.fieldLink RX3 15 "VarianceBridge$Reader" "lines" "I") (by decide +kernel)) (fun _ h9 => h9) rfl (by decide +kernel) rfl rfl (Nat.le_of_ble_eq_true rfl) dX3_readText_97 (fun H16 lo16 hP16 hD16 hS16 => ?_)
            replace hP16 : va_P D vwCl (w_Reader cI cB cZ aR aRt aK aT aTb aD aDp aDf (rl + (1 : Int32)) rk_11 rp_11 rt_11 kp_11 kb_11 kk_11 kn_11 tl tb dg_11 ds dn_11 dp_11 df_11) H16 := hP16
            replace hD16 : va_D A (w_Reader cI cB cZ aR aRt aK aT aTb aD aDp aDf (rl + (1 : Int32)) rk_11 rp_11 rt_11 kp_11 kb_11 kk_11 kn_11 tl tb dg_11 ds dn_11 dp_11 df_11) := hD16
            clear hP12 hD12 hS12
            refine lv_goto (tgt := 51) hx hb dX3_readText_100 (by decide) ?_
            exact ih (rl + (1 : Int32)) rk_11 rp_11 rt_11 kp_11 kb_11 kk_11 kn_11 dg_11 ds dn_11 dp_11 df_11 hm14 ls H16 lo16 (lv_sub hl [0] rfl) hP16 hD16 hS16
          · have hm15 := zz_if c13 hm11
            refine lv_iconst (v := (0 : Int32)) hx hb dX3_readText_88 (by decide) ?_
            obtain ⟨hq1, hq99⟩ := Prod.mk.inj (Option.some.inj hm15)
            obtain ⟨hq2, hq99⟩ := Prod.mk.inj (hq99)
            obtain ⟨hq3, hq99⟩ := Prod.mk.inj (hq99)
            obtain ⟨hq4, hq99⟩ := Prod.mk.inj (hq99)
            obtain ⟨hq5, hq99⟩ := Prod.mk.inj (hq99)
            obtain ⟨hq6, hq99⟩ := Prod.mk.inj (hq99)
            obtain ⟨hq7, hq99⟩ := Prod.mk.inj (hq99)
            obtain ⟨hq8, hq99⟩ := Prod.mk.inj (hq99)
            obtain ⟨hq9, hq99⟩ := Prod.mk.inj (hq99)
            obtain ⟨hq10, hq99⟩ := Prod.mk.inj (hq99)
            obtain ⟨hq11, hq99⟩ := Prod.mk.inj (hq99)
            obtain ⟨hq12, hq99⟩ := Prod.mk.inj (hq99)
            obtain ⟨hq13, hq14⟩ := Prod.mk.inj (hq99)
            subst hq1
            subst hq2
            subst hq3
            subst hq4
            subst hq5
            subst hq6
            subst hq7
            subst hq8
            subst hq9
            subst hq10
            subst hq11
            subst hq12
            subst hq13
            subst hq14
            exact W.zret (ty := .boolean) hx hb hr (by decide) (fun t ht hW => ⟨⟨_, (), rfl, ⟨rfl, (by decide)⟩, by rw [ht]; exact hP12, va_K.moved hW.alike hK, hD12⟩, hS12.F ht⟩) hS12.2.2 dX3_readText_89
        · have hm10 := zz_if c8 hm6
          refine lv_iconst (v := (1 : Int32)) hx hb dX3_readText_79 (by decide) ?_
          obtain ⟨hq1, hq99⟩ := Prod.mk.inj (Option.some.inj hm10)
          obtain ⟨hq2, hq99⟩ := Prod.mk.inj (hq99)
          obtain ⟨hq3, hq99⟩ := Prod.mk.inj (hq99)
          obtain ⟨hq4, hq99⟩ := Prod.mk.inj (hq99)
          obtain ⟨hq5, hq99⟩ := Prod.mk.inj (hq99)
          obtain ⟨hq6, hq99⟩ := Prod.mk.inj (hq99)
          obtain ⟨hq7, hq99⟩ := Prod.mk.inj (hq99)
          obtain ⟨hq8, hq99⟩ := Prod.mk.inj (hq99)
          obtain ⟨hq9, hq99⟩ := Prod.mk.inj (hq99)
          obtain ⟨hq10, hq99⟩ := Prod.mk.inj (hq99)
          obtain ⟨hq11, hq99⟩ := Prod.mk.inj (hq99)
          obtain ⟨hq12, hq99⟩ := Prod.mk.inj (hq99)
          obtain ⟨hq13, hq14⟩ := Prod.mk.inj (hq99)
          subst hq1
          subst hq2
          subst hq3
          subst hq4
          subst hq5
          subst hq6
          subst hq7
          subst hq8
          subst hq9
          subst hq10
          subst hq11
          subst hq12
          subst hq13
          subst hq14
          exact W.zret (ty := .boolean) hx hb hr (by decide) (fun t ht hW => ⟨⟨_, (), rfl, ⟨rfl, (by decide)⟩, by rw [ht]; exact hP7, va_K.moved hW.alike hK, hD7⟩, hS7.F ht⟩) hS7.2.2 dX3_readText_80
  have hl := lv_entry ([.ref aR]) (n := 1) (Nat.le_of_ble_eq_true rfl)
  rw [lg_entry_eq]
  generalize (lg_sl ([.ref aR]) ++ List.replicate (1 - (lg_sl ([.ref aR])).length) Slot.unset).toArray = ls at hl ⊢
  have hl : lv_has ls 1 [(0, .ref aR)] := hl
  replace hm : (ob4 (m_X5_rewind kp kb kk kn) (fun kp_17 kb_17 kk_17 kn_17 => (ob1 (m_J7_fill_53178 20 rt (0 : Int32)) (fun rt_19 => (ob4 (m_X5_advance kp_17 kb_17 kk_17 kn_17 tl tb) (fun kp_24 kb_24 kk_24 kn_24 => (ob11 (m_X3_readScenes (0 : Int32) (0 : Int32) kp_24 kb_24 kk_24 kn_24 tl tb dg ds dn dp) (fun r26 rk_26 rp_26 kp_26 kb_26 kk_26 kn_26 dg_26 ds_26 dn_26 dp_26 => (if r26 = 0 then some ((0 : Int32), (0 : Int32), rk_26, rp_26, rt_19, kp_26, kb_26, kk_26, kn_26, dg_26, ds_26, dn_26, dp_26, df) else (k_X3_readText_51 tl tb FU (1 : Int32) rk_26 rp_26 rt_19 kp_26 kb_26 kk_26 kn_26 dg_26 ds_26 dn_26 dp_26 df)))))))))) = some (r0, u_rl, u_rk, u_rp, u_rt, u_kp, u_kb, u_kk, u_kn, u_dg, u_ds, u_dn, u_dp, u_df) := hm
  refine lv_aload_n hx hb dX3_readText_0 rfl (lv_at hl 0 rfl) ?_
  refine va_get (D := D) (ci := 3) (v := .ref aK) (C := RX3) (T := TX3) (N := 6) hx hb hts iw_X3 hown hK hP 0 rfl rfl 0 (by decide) (hts (.fieldLink RX3 30 "VarianceBridge$Reader" "tokens" "LVarianceBridge$Tokens;") (by decide +kernel)) (fun _ h9 => h9) rfl dX3_readText_1 ?_
  obtain ⟨kp_17, kb_17, kk_17, kn_17, h17, hm17⟩ := ob4_e hm
  refine gcall_v (ws' := (w_Reader cI cB cZ aR aRt aK aT aTb aD aDp aDf rl rk rp rt kp_17 kb_17 kk_17 kn_17 tl tb dg ds dn dp df)) (va_runVN (As := []) (rest := []) ⟨hx, hb, hml, hown, hts⟩ (c_X5_rewind l D cI cB cZ ta aK aT aTb s.heap.size kp kb kk kn tl tb kp_17 kb_17 kk_17 kn_17 h17) ⟨va_cnB 0 hts gX3_readText_X5_rewind_n38 rfl rfl rfl (hG.1 (.methodLinkNest RX3 38 yX5_rewind RX6) (by decide +kernel)) (hts (.initialized RX5) (by decide +kernel)) (by decide +kernel) ⟨(Nat.le_of_ble_eq_true rfl), (Nat.le_of_ble_eq_true rfl)⟩, hts (.instanceMethod yX5_rewind) (by decide +kernel), hts (.selects RX5 yX5_rewind yX5_rewind) (by decide +kernel)⟩ ⟨PW_blind, va_recv hK hP rfl (q0 := 2) rfl, PW_at hP hD hK hS hA hG [2, 3, 4] rfl (by decide)⟩ rfl rfl hl.1 rfl (lv_room (Nat.le_of_ble_eq_true rfl)) dX3_readText_4 ⟨(Nat.le_of_ble_eq_true rfl), (Nat.le_of_ble_eq_true rfl)⟩) hP hD hS hA [2, 3, 4] [0, 1, 5, 6, 7] [0, 1, 5, 6, 7, 2, 3, 4] rfl rfl (by decide) (by decide) (by decide) rfl (fun H18 lo18 hP18 hD18 hS18 => ?_)
  clear hP hD hS
  refine lv_aload_n hx hb dX3_readText_7 rfl (lv_at hl 0 rfl) ?_
  refine va_get (D := D) (ci := 3) (v := .ref aRt) (C := RX3) (T := TX3) (N := 6) hx hb hts iw_X3 hown hK hP18 0 rfl rfl 2 (by decide) (hts (.fieldLink RX3 9 "VarianceBridge$Reader" "scenesTold" "[I") (by decide +kernel)) (fun _ h9 => h9) rfl dX3_readText_8 ?_
  refine lv_iconst (v := (0 : Int32)) hx hb dX3_readText_11 (by decide) ?_
  obtain ⟨rt_19, h19, hm19⟩ := ob1_e hm17
  refine gcall_v (ws' := (w_Reader cI cB cZ aR aRt aK aT aTb aD aDp aDf rl rk rp rt_19 kp_17 kb_17 kk_17 kn_17 tl tb dg ds dn dp df)) (va_runS (As := [.ref aRt, .int (0 : Int32)]) (rest := []) ⟨hx, hb, hml, hown, hts⟩ (c_J7_fill_53178 l D cI cB cZ ta aRt H18.size 20 rt (0 : Int32) rt_19 h19) (va_cwS 2 hts gX3_readText_J7_fill_53178 rfl rfl rfl (by decide +kernel) ⟨(Nat.le_of_ble_eq_true rfl), (Nat.le_of_ble_eq_true rfl)⟩) ⟨PW_blind, PW_at hP18 hD18 hK hS18 hA hG [1] rfl (by decide)⟩ rfl rfl hl.1 rfl (lv_room (Nat.le_of_ble_eq_true rfl)) dX3_readText_12 ⟨(Nat.le_of_ble_eq_true rfl), (Nat.le_of_ble_eq_true rfl)⟩) hP18 hD18 hS18 hA [1] [0, 2, 3, 4, 5, 6, 7] [0, 7, 1, 2, 3, 4, 5, 6] rfl rfl (by decide) (by decide) (by decide) rfl (fun H20 lo20 hP20 hD20 hS20 => ?_)
  clear hP18 hD18 hS18
  refine lv_aload_n hx hb dX3_readText_15 rfl (lv_at hl 0 rfl) ?_
  refine lv_iconst (v := (0 : Int32)) hx hb dX3_readText_16 (by decide) ?_
  refine va_put (D := D) (ci := 3) (v := .int (0 : Int32)) (ty := .int) (C := RX3) (T := TX3) (N := 6) hx hb hts iw_X3 tyX3 tyX3_ok nmX3 hown hK hP20 hD20 hS20 0 rfl rfl 3 (by decide) (hts (.fieldLink RX3 15 "VarianceBridge$Reader" "lines" "I") (by decide +kernel)) (fun _ h9 => h9) rfl (by decide +kernel) rfl rfl (Nat.le_of_ble_eq_true rfl) dX3_readText_17 (fun H21 lo21 hP21 hD21 hS21 => ?_)
  replace hP21 : va_P D vwCl (w_Reader cI cB cZ aR aRt aK aT aTb aD aDp aDf (0 : Int32) rk rp rt_19 kp_17 kb_17 kk_17 kn_17 tl tb dg ds dn dp df) H21 := hP21
  replace hD21 : va_D A (w_Reader cI cB cZ aR aRt aK aT aTb aD aDp aDf (0 : Int32) rk rp rt_19 kp_17 kb_17 kk_17 kn_17 tl tb dg ds dn dp df) := hD21
  clear hP20 hD20 hS20
  refine lv_aload_n hx hb dX3_readText_20 rfl (lv_at hl 0 rfl) ?_
  refine lv_iconst (v := (0 : Int32)) hx hb dX3_readText_21 (by decide) ?_
  refine va_put (D := D) (ci := 3) (v := .int (0 : Int32)) (ty := .int) (C := RX3) (T := TX3) (N := 6) hx hb hts iw_X3 tyX3 tyX3_ok nmX3 hown hK hP21 hD21 hS21 0 rfl rfl 4 (by decide) (hts (.fieldLink RX3 19 "VarianceBridge$Reader" "faultKind" "I") (by decide +kernel)) (fun _ h9 => h9) rfl (by decide +kernel) rfl rfl (Nat.le_of_ble_eq_true rfl) dX3_readText_22 (fun H22 lo22 hP22 hD22 hS22 => ?_)
  replace hP22 : va_P D vwCl (w_Reader cI cB cZ aR aRt aK aT aTb aD aDp aDf (0 : Int32) (0 : Int32) rp rt_19 kp_17 kb_17 kk_17 kn_17 tl tb dg ds dn dp df) H22 := hP22
  replace hD22 : va_D A (w_Reader cI cB cZ aR aRt aK aT aTb aD aDp aDf (0 : Int32) (0 : Int32) rp rt_19 kp_17 kb_17 kk_17 kn_17 tl tb dg ds dn dp df) := hD22
  clear hP21 hD21 hS21
  refine lv_aload_n hx hb dX3_readText_25 rfl (lv_at hl 0 rfl) ?_
  refine lv_iconst (v := (0 : Int32)) hx hb dX3_readText_26 (by decide) ?_
  refine va_put (D := D) (ci := 3) (v := .int (0 : Int32)) (ty := .int) (C := RX3) (T := TX3) (N := 6) hx hb hts iw_X3 tyX3 tyX3_ok nmX3 hown hK hP22 hD22 hS22 0 rfl rfl 5 (by decide) (hts (.fieldLink RX3 22 "VarianceBridge$Reader" "faultPlace" "I") (by decide +kernel)) (fun _ h9 => h9) rfl (by decide +kernel) rfl rfl (Nat.le_of_ble_eq_true rfl) dX3_readText_27 (fun H23 lo23 hP23 hD23 hS23 => ?_)
  replace hP23 : va_P D vwCl (w_Reader cI cB cZ aR aRt aK aT aTb aD aDp aDf (0 : Int32) (0 : Int32) (0 : Int32) rt_19 kp_17 kb_17 kk_17 kn_17 tl tb dg ds dn dp df) H23 := hP23
  replace hD23 : va_D A (w_Reader cI cB cZ aR aRt aK aT aTb aD aDp aDf (0 : Int32) (0 : Int32) (0 : Int32) rt_19 kp_17 kb_17 kk_17 kn_17 tl tb dg ds dn dp df) := hD23
  clear hP22 hD22 hS22
  refine lv_aload_n hx hb dX3_readText_30 rfl (lv_at hl 0 rfl) ?_
  refine va_get (D := D) (ci := 3) (v := .ref aK) (C := RX3) (T := TX3) (N := 6) hx hb hts iw_X3 hown hK hP23 0 rfl rfl 0 (by decide) (hts (.fieldLink RX3 30 "VarianceBridge$Reader" "tokens" "LVarianceBridge$Tokens;") (by decide +kernel)) (fun _ h9 => h9) rfl dX3_readText_31 ?_
  obtain ⟨kp_24, kb_24, kk_24, kn_24, h24, hm24⟩ := ob4_e hm19
  refine gcall_v (ws' := (w_Reader cI cB cZ aR aRt aK aT aTb aD aDp aDf (0 : Int32) (0 : Int32) (0 : Int32) rt_19 kp_24 kb_24 kk_24 kn_24 tl tb dg ds dn dp df)) (va_runVN (As := []) (rest := []) ⟨hx, hb, hml, hown, hts⟩ (c_X5_advance l D cI cB cZ ta aK aT aTb H23.size kp_17 kb_17 kk_17 kn_17 tl tb kp_24 kb_24 kk_24 kn_24 h24) ⟨va_cnB 0 hts gX3_readText_X5_advance_n47 rfl rfl rfl (hG.1 (.methodLinkNest RX3 47 yX5_advance RX6) (by decide +kernel)) (hts (.initialized RX5) (by decide +kernel)) (by decide +kernel) ⟨(Nat.le_of_ble_eq_true rfl), (Nat.le_of_ble_eq_true rfl)⟩, hts (.instanceMethod yX5_advance) (by decide +kernel), hts (.selects RX5 yX5_advance yX5_advance) (by decide +kernel)⟩ ⟨PW_blind, va_recv hK hP23 rfl (q0 := 2) rfl, PW_at hP23 hD23 hK hS23 hA hG [2, 3, 4] rfl (by decide)⟩ rfl rfl hl.1 rfl (lv_room (Nat.le_of_ble_eq_true rfl)) dX3_readText_34 ⟨(Nat.le_of_ble_eq_true rfl), (Nat.le_of_ble_eq_true rfl)⟩) hP23 hD23 hS23 hA [2, 3, 4] [0, 1, 5, 6, 7] [0, 1, 5, 6, 7, 2, 3, 4] rfl rfl (by decide) (by decide) (by decide) rfl (fun H25 lo25 hP25 hD25 hS25 => ?_)
  clear hP23 hD23 hS23
  refine lv_aload_n hx hb dX3_readText_37 rfl (lv_at hl 0 rfl) ?_
  obtain ⟨r26, rk_26, rp_26, kp_26, kb_26, kk_26, kn_26, dg_26, ds_26, dn_26, dp_26, h26, hm26⟩ := ob11_e hm24
  refine gcall_b (ws' := (w_Reader cI cB cZ aR aRt aK aT aTb aD aDp aDf (0 : Int32) rk_26 rp_26 rt_19 kp_26 kb_26 kk_26 kn_26 tl tb dg_26 ds_26 dn_26 dp_26 df)) (va_runV (As := []) (rest := []) ⟨hx, hb, hml, hown, hts⟩ (c_X3_readScenes l D cI cB cZ ta aR aRt aK aT aTb aD aDp aDf H25.size (0 : Int32) (0 : Int32) (0 : Int32) rt_19 kp_24 kb_24 kk_24 kn_24 tl tb dg ds dn dp df r26 rk_26 rp_26 kp_26 kb_26 kk_26 kn_26 dg_26 ds_26 dn_26 dp_26 h26) (cwV 0 hts gX3_readText_X3_readScenes rfl rfl rfl (by decide +kernel) ⟨(Nat.le_of_ble_eq_true rfl), (Nat.le_of_ble_eq_true rfl)⟩) ⟨PW_blind, va_recv hK hP25 rfl (q0 := 0) rfl, PW_at hP25 hD25 hK hS25 hA hG [0, 1, 2, 3, 4, 5, 6, 7] rfl (by decide)⟩ rfl rfl hl.1 rfl (lv_room (Nat.le_of_ble_eq_true rfl)) dX3_readText_38 ⟨(Nat.le_of_ble_eq_true rfl), (Nat.le_of_ble_eq_true rfl)⟩) hP25 hD25 hS25 hA [0, 1, 2, 3, 4, 5, 6, 7] [] [0, 1, 2, 3, 4, 5, 6, 7] rfl rfl (by decide) (by decide) (by decide) rfl (fun H27 lo27 hz26 hP27 hD27 hS27 => ?_)
  clear hP25 hD25 hS25
  refine lv_if_ne (tgt := 46) hx hb dX3_readText_41 (by decide) (fun c28 => ?_) (fun c28 => ?_)
  · have hm29 := zz_nf c28 hm26
    refine lv_aload_n hx hb dX3_readText_46 rfl (lv_at hl 0 rfl) ?_
    refine lv_iconst (v := (1 : Int32)) hx hb dX3_readText_47 (by decide) ?_
    refine va_put (D := D) (ci := 3) (v := .int (1 : Int32)) (ty := .int) (C := RX3) (T := TX3) (N := 6) hx hb hts iw_X3 tyX3 tyX3_ok nmX3 hown hK hP27 hD27 hS27 0 rfl rfl 3 (by decide) (hts (.fieldLink RX3 15 "VarianceBridge$Reader" "lines" "I") (by decide +kernel)) (fun _ h9 => h9) rfl (by decide +kernel) rfl rfl (Nat.le_of_ble_eq_true rfl) dX3_readText_48 (fun H31 lo31 hP31 hD31 hS31 => ?_)
    replace hP31 : va_P D vwCl (w_Reader cI cB cZ aR aRt aK aT aTb aD aDp aDf (1 : Int32) rk_26 rp_26 rt_19 kp_26 kb_26 kk_26 kn_26 tl tb dg_26 ds_26 dn_26 dp_26 df) H31 := hP31
    replace hD31 : va_D A (w_Reader cI cB cZ aR aRt aK aT aTb aD aDp aDf (1 : Int32) rk_26 rp_26 rt_19 kp_26 kb_26 kk_26 kn_26 tl tb dg_26 ds_26 dn_26 dp_26 df) := hD31
    clear hP27 hD27 hS27
    exact hk_51 FU (1 : Int32) rk_26 rp_26 rt_19 kp_26 kb_26 kk_26 kn_26 dg_26 ds_26 dn_26 dp_26 df hm29 ls H31 lo31 (lv_sub hl [0] rfl) hP31 hD31 hS31
  · have hm30 := zz_if c28 hm26
    refine lv_iconst (v := (0 : Int32)) hx hb dX3_readText_44 (by decide) ?_
    obtain ⟨hq1, hq99⟩ := Prod.mk.inj (Option.some.inj hm30)
    obtain ⟨hq2, hq99⟩ := Prod.mk.inj (hq99)
    obtain ⟨hq3, hq99⟩ := Prod.mk.inj (hq99)
    obtain ⟨hq4, hq99⟩ := Prod.mk.inj (hq99)
    obtain ⟨hq5, hq99⟩ := Prod.mk.inj (hq99)
    obtain ⟨hq6, hq99⟩ := Prod.mk.inj (hq99)
    obtain ⟨hq7, hq99⟩ := Prod.mk.inj (hq99)
    obtain ⟨hq8, hq99⟩ := Prod.mk.inj (hq99)
    obtain ⟨hq9, hq99⟩ := Prod.mk.inj (hq99)
    obtain ⟨hq10, hq99⟩ := Prod.mk.inj (hq99)
    obtain ⟨hq11, hq99⟩ := Prod.mk.inj (hq99)
    obtain ⟨hq12, hq99⟩ := Prod.mk.inj (hq99)
    obtain ⟨hq13, hq14⟩ := Prod.mk.inj (hq99)
    subst hq1
    subst hq2
    subst hq3
    subst hq4
    subst hq5
    subst hq6
    subst hq7
    subst hq8
    subst hq9
    subst hq10
    subst hq11
    subst hq12
    subst hq13
    subst hq14
    exact W.zret (ty := .boolean) hx hb hr (by decide) (fun t ht hW => ⟨⟨_, (), rfl, ⟨rfl, (by decide)⟩, by rw [ht]; exact hP27, va_K.moved hW.alike hK, hD27⟩, hS27.F ht⟩) hS27.2.2 dX3_readText_45
theorem iw_X4_addNumber_X4 : ∀ w ∈ wsX40, w ∈ wsX4_addNumber := by decide +kernel
set_option maxHeartbeats 4000000 in
set_option maxRecDepth 100000 in
theorem c_X4_addNumber (l : Launch) (D : va_G) (cI cB cZ : ClassId) (ta : Nat → Nat) (aT : Nat) (aTb : Nat) (sz : Nat) (tl : Int32) (tb : (Nat → Int32)) (x1 : Int32) (u_tl : Int32) (u_tb : (Nat → Int32)) (hm : m_X4_addNumber tl tb x1 = some (u_tl, u_tb)) : Met l yX4_addNumber wsX4_addNumber ({ frames := 0, cells := 0, slots := 0, locals := 0 } : Room) (va_Pc [.ref aT, .int x1] (PW D cI cB cZ ta (w_Tape cI cB cZ aT aTb tl tb) sz)) (QV D cI cB cZ (va_A (w_Tape cI cB cZ aT aTb tl tb) sz) (w_Tape cI cB cZ aT aTb u_tl u_tb)) 0 0 (va_A (w_Tape cI cB cZ aT aTb tl tb) sz) := by
  refine Met.ofW (cc := cX4_addNumber) (maxL := 3) (ret := none) (by decide) rfl ?_
  intro p e s m args below meth c s₁ B hml hv
  obtain ⟨rfl, hsz, hP, hK, hD0, hG⟩ := hv
  have hx := B.exec
  have hb := B.bytes
  have hr := B.returns
  have hts := atoms_spec (ws := wsX4_addNumber) B.pre
  have hown : s.vm.findClass RX4 = some m.cls := findClass_of_methodNamed B.named
  have hlocks := B.notSynchronized
  subst hsz
  have hD := hD0.self (sz := s.heap.size)
  clear hD0
  have hA0 : ∀ q : Nat, s.heap.size ≤ q → va_A (w_Tape cI cB cZ aT aTb tl tb) s.heap.size q := fun q h => Or.inr h
  generalize hAe : va_A (w_Tape cI cB cZ aT aTb tl tb) s.heap.size = A at hD hG hA0 ⊢
  have hA : ∀ q : Nat, s.heap.size ≤ q → A q := hA0
  clear hA0
  have hS : va_S A s.heap s.heap [] := va_S.rf
  have iw_X4 := iw_X4_addNumber_X4
  have hk_3 : ∀ (n : Nat) (tl : Int32) (tb : (Nat → Int32)) (y1 : Int32) (y2 : Int32), k_X4_addNumber_3 n tl tb y1 y2 = some (u_tl, u_tb) → ∀ (ls : Array Slot) (H : Heap) (lo : List Loc), lv_has ls 3 [(0, .ref aT), (1, .int y1), (2, .int y2)] → va_P D vwCl (w_Tape cI cB cZ aT aTb tl tb) H → va_D A (w_Tape cI cB cZ aT aTb tl tb) → va_S A s.heap H lo → W p l e (headSpec wsX4_addNumber ({ frames := 0, cells := 0, slots := 0, locals := 0 } : Room)).room s m (([.ref aT, .int x1] : List Value).toArray) below meth c H lo 0 0 (MQ below (QV D cI cB cZ A (w_Tape cI cB cZ aT aTb u_tl u_tb)) (([.ref aT, .int x1] : List Value).toArray) s 0 0 A) (F0 m 3 ls []) := by
    intro n
    induction n with
    | zero => intro tl tb y1 y2 hm; exact zz_nn hm
    | succ n ih =>
      intro tl tb y1 y2 hm ls H lo hl hP hD hS
      replace hm := (k_X4_addNumber_3_s n tl tb y1 y2).symm.trans hm
      refine lv_iload_n hx hb dX4_addNumber_3 rfl (lv_at hl 2 rfl) ?_
      refine lv_if_lt (tgt := 46) hx hb dX4_addNumber_4 (by decide) (fun c1 => ?_) (fun c1 => ?_)
      · have hm2 := zz_if c1 hm
        obtain ⟨hq1, hq2⟩ := Prod.mk.inj (Option.some.inj hm2)
        subst hq1
        subst hq2
        exact W.vret hx hb hr (fun t ht hW => ⟨⟨(), rfl, trivial, by rw [ht]; exact hP, va_K.moved hW.alike hK, hD⟩, hS.F ht⟩) hS.2.2 dX4_addNumber_46
      · have hm3 := zz_nf c1 hm
        refine lv_aload_n hx hb dX4_addNumber_7 rfl (lv_at hl 0 rfl) ?_
        refine va_get (D := D) (ci := 4) (v := .int tl) (C := RX4) (T := TX4) (N := 2) hx hb hts iw_X4 hown hK hP 0 rfl rfl 1 (by decide) (hts (.fieldLink RX4 15 "VarianceBridge$Tape" "length" "I") (by decide +kernel)) (fun _ h9 => h9) rfl dX4_addNumber_8 ?_
        refine lv_sipush (v := (640 : Int32)) hx hb dX4_addNumber_11 (by decide) ?_
        refine lv_icmp_ge (tgt := 46) hx hb dX4_addNumber_14 (by decide) (fun c4 => ?_) (fun c4 => ?_)
        · have hm5 := zz_if c4 hm3
          obtain ⟨hq1, hq2⟩ := Prod.mk.inj (Option.some.inj hm5)
          subst hq1
          subst hq2
          exact W.vret hx hb hr (fun t ht hW => ⟨⟨(), rfl, trivial, by rw [ht]; exact hP, va_K.moved hW.alike hK, hD⟩, hS.F ht⟩) hS.2.2 dX4_addNumber_46
        · have hm6 := zz_nf c4 hm3
          refine lv_aload_n hx hb dX4_addNumber_17 rfl (lv_at hl 0 rfl) ?_
          refine va_get (D := D) (ci := 4) (v := .ref aTb) (C := RX4) (T := TX4) (N := 2) hx hb hts iw_X4 hown hK hP 0 rfl rfl 0 (by decide) (hts (.fieldLink RX4 9 "VarianceBridge$Tape" "bytes" "[B") (by decide +kernel)) (fun _ h9 => h9) rfl dX4_addNumber_18 ?_
          refine lv_aload_n hx hb dX4_addNumber_21 rfl (lv_at hl 0 rfl) ?_
          refine va_get (D := D) (ci := 4) (v := .int tl) (C := RX4) (T := TX4) (N := 2) hx hb hts iw_X4 hown hK hP 0 rfl rfl 1 (by decide) (hts (.fieldLink RX4 15 "VarianceBridge$Tape" "length" "I") (by decide +kernel)) (fun _ h9 => h9) rfl dX4_addNumber_22 ?_
          refine lv_iload_n hx hb dX4_addNumber_25 rfl (lv_at hl 1 rfl) ?_
          refine lv_iload_n hx hb dX4_addNumber_26 rfl (lv_at hl 2 rfl) ?_
          refine lv_ishr hx hb dX4_addNumber_27 ?_
          refine lv_i2b (v := (y1 >>> (y2 &&& 31)).toInt8.toInt32) hx hb dX4_addNumber_28 rfl ?_
          obtain ⟨c7, hm8⟩ := zz_no hm6
          refine va_bast hx hb hK hP hD hS 1 1 rfl rfl c7 dX4_addNumber_29 (fun H9 lo9 hP9 hD9 hS9 => ?_)
          replace hP9 : va_P D vwCl (w_Tape cI cB cZ aT aTb tl (upd tb tl.toNatClampNeg (vp_nar .byte ((y1 >>> (y2 &&& 31)).toInt8.toInt32)))) H9 := hP9
          replace hD9 : va_D A (w_Tape cI cB cZ aT aTb tl (upd tb tl.toNatClampNeg (vp_nar .byte ((y1 >>> (y2 &&& 31)).toInt8.toInt32)))) := hD9
          clear hP hD hS
          refine lv_aload_n hx hb dX4_addNumber_30 rfl (lv_at hl 0 rfl) ?_
          refine lv_dup hx hb dX4_addNumber_31 rfl ?_
          refine va_get (D := D) (ci := 4) (v := .int tl) (C := RX4) (T := TX4) (N := 2) hx hb hts iw_X4 hown hK hP9 0 rfl rfl 1 (by decide) (hts (.fieldLink RX4 15 "VarianceBridge$Tape" "length" "I") (by decide +kernel)) (fun _ h9 => h9) rfl dX4_addNumber_32 ?_
          refine lv_iconst (v := (1 : Int32)) hx hb dX4_addNumber_35 (by decide) ?_
          refine lv_iadd hx hb dX4_addNumber_36 ?_
          refine va_put (D := D) (ci := 4) (v := .int (tl + (1 : Int32))) (ty := .int) (C := RX4) (T := TX4) (N := 2) hx hb hts iw_X4 tyX4 tyX4_ok nmX4 hown hK hP9 hD9 hS9 0 rfl rfl 1 (by decide) (hts (.fieldLink RX4 15 "VarianceBridge$Tape" "length" "I") (by decide +kernel)) (fun _ h9 => h9) rfl (by decide +kernel) rfl rfl (Nat.le_of_ble_eq_true rfl) dX4_addNumber_37 (fun H10 lo10 hP10 hD10 hS10 => ?_)
          replace hP10 : va_P D vwCl (w_Tape cI cB cZ aT aTb (tl + (1 : Int32)) (upd tb tl.toNatClampNeg (vp_nar .byte ((y1 >>> (y2 &&& 31)).toInt8.toInt32)))) H10 := hP10
          replace hD10 : va_D A (w_Tape cI cB cZ aT aTb (tl + (1 : Int32)) (upd tb tl.toNatClampNeg (vp_nar .byte ((y1 >>> (y2 &&& 31)).toInt8.toInt32)))) := hD10
          clear hP9 hD9 hS9
          refine lv_iinc (v := (y2 + (-8 : Int32))) (lv' := [(2, .int (y2 + (-8 : Int32))), (0, .ref aT), (1, .int y1)]) hx hb dX4_addNumber_40 hl (k := 2) rfl (by rfl) (by decide) rfl (fun ls11 hl11 => ?_)
          refine lv_goto (tgt := 3) hx hb dX4_addNumber_43 (by decide) ?_
          exact ih (tl + (1 : Int32)) (upd tb tl.toNatClampNeg (vp_nar .byte ((y1 >>> (y2 &&& 31)).toInt8.toInt32))) y1 (y2 + (-8 : Int32)) hm8 ls11 H10 lo10 (lv_sub hl11 [1, 2, 0] rfl) hP10 hD10 hS10
  have hl := lv_entry ([.ref aT, .int x1]) (n := 3) (Nat.le_of_ble_eq_true rfl)
  rw [lg_entry_eq]
  generalize (lg_sl ([.ref aT, .int x1]) ++ List.replicate (3 - (lg_sl ([.ref aT, .int x1])).length) Slot.unset).toArray = ls at hl ⊢
  have hl : lv_has ls 3 [(0, .ref aT), (1, .int x1)] := hl
  replace hm : (k_X4_addNumber_3 FU tl tb x1 (24 : Int32)) = some (u_tl, u_tb) := hm
  refine lv_bipush (v := (24 : Int32)) hx hb dX4_addNumber_0 (by decide) ?_
  refine lv_istore_n (lv' := [(2, .int (24 : Int32)), (0, .ref aT), (1, .int x1)]) hx hb dX4_addNumber_2 rfl hl (by decide) rfl (fun ls12 hl12 => ?_)
  exact hk_3 FU tl tb x1 (24 : Int32) hm ls12 s.heap [] (lv_sub hl12 [1, 2, 0] rfl) hP hD hS
theorem iw_X6_feed_X4 : ∀ w ∈ wsX40, w ∈ wsX6_feed := by decide +kernel
theorem iw_X6_feed_X6 : ∀ w ∈ wsX60, w ∈ wsX6_feed := by decide +kernel
set_option maxHeartbeats 4000000 in
set_option maxRecDepth 100000 in
theorem c_X6_feed (l : Launch) (D : va_G) (cI cB cZ : ClassId) (ta : Nat → Nat) (aV : Nat) (aT : Nat) (aTb : Nat) (aP : Nat) (aPp : Nat) (aPf : Nat) (aD : Nat) (aDp : Nat) (aDf : Nat) (aR : Nat) (aRt : Nat) (aK : Nat) (aB : Nat) (aBb : Nat) (aBs : Nat) (aH : Nat) (aHk : Nat) (aHp : Nat) (aHb : Nat) (aHr : Nat) (sz : Nat) (tl : Int32) (tb : (Nat → Int32)) (pg : Int32) (ps : Int32) (pn : Int32) (pp : (Nat → Int32)) (pf : (Nat → Int32)) (dg : Int32) (ds : Int32) (dn : Int32) (dp : (Nat → Int32)) (df : (Nat → Int32)) (rl : Int32) (rk : Int32) (rp : Int32) (rt : (Nat → Int32)) (kp : Int32) (kb : Int32) (kk : Int32) (kn : Int32) (bb : (Nat → Int32)) (bs : (Nat → Int32)) (jl : Int32) (jn : Int32) (jk : (Nat → Int32)) (jp : (Nat → Int32)) (jb : (Nat → Int32)) (jr : (Nat → Int32)) (x1 : Int32) (x2 : Int32) (x3 : Int32) (x4 : Int32) (x5 : Int32) (r0 : Int32) (u_tl : Int32) (u_tb : (Nat → Int32)) (hm : m_X6_feed tl tb x1 x2 x3 x4 x5 = some (r0, u_tl, u_tb)) : Met l yX6_feed wsX6_feed ({ frames := 1, cells := 0, slots := 0, locals := 22 } : Room) (va_Pc [.ref aV, .int x1, .int x2, .int x3, .int x4, .int x5] (PW D cI cB cZ ta (w_VB cI cB cZ aV aT aTb aP aPp aPf aD aDp aDf aR aRt aK aB aBb aBs aH aHk aHp aHb aHr tl tb pg ps pn pp pf dg ds dn dp df rl rk rp rt kp kb kk kn bb bs jl jn jk jp jb jr) sz)) (QI D cI cB cZ (va_A (w_VB cI cB cZ aV aT aTb aP aPp aPf aD aDp aDf aR aRt aK aB aBb aBs aH aHk aHp aHb aHr tl tb pg ps pn pp pf dg ds dn dp df rl rk rp rt kp kb kk kn bb bs jl jn jk jp jb jr) sz) (w_VB cI cB cZ aV aT aTb aP aPp aPf aD aDp aDf aR aRt aK aB aBb aBs aH aHk aHp aHb aHr u_tl u_tb pg ps pn pp pf dg ds dn dp df rl rk rp rt kp kb kk kn bb bs jl jn jk jp jb jr) r0) 0 0 (va_A (w_VB cI cB cZ aV aT aTb aP aPp aPf aD aDp aDf aR aRt aK aB aBb aBs aH aHk aHp aHb aHr tl tb pg ps pn pp pf dg ds dn dp df rl rk rp rt kp kb kk kn bb bs jl jn jk jp jb jr) sz) := by
  refine Met.ofW (cc := cX6_feed) (maxL := 6) (ret := (some .int)) (by decide) rfl ?_
  intro p e s m args below meth c s₁ B hml hv
  obtain ⟨rfl, hsz, hP, hK, hD0, hG⟩ := hv
  have hx := B.exec
  have hb := B.bytes
  have hr := B.returns
  have hts := atoms_spec (ws := wsX6_feed) B.pre
  have hown : s.vm.findClass RX6 = some m.cls := findClass_of_methodNamed B.named
  have hlocks := B.notSynchronized
  subst hsz
  have hD := hD0.self (sz := s.heap.size)
  clear hD0
  have hA0 : ∀ q : Nat, s.heap.size ≤ q → va_A (w_VB cI cB cZ aV aT aTb aP aPp aPf aD aDp aDf aR aRt aK aB aBb aBs aH aHk aHp aHb aHr tl tb pg ps pn pp pf dg ds dn dp df rl rk rp rt kp kb kk kn bb bs jl jn jk jp jb jr) s.heap.size q := fun q h => Or.inr h
  generalize hAe : va_A (w_VB cI cB cZ aV aT aTb aP aPp aPf aD aDp aDf aR aRt aK aB aBb aBs aH aHk aHp aHb aHr tl tb pg ps pn pp pf dg ds dn dp df rl rk rp rt kp kb kk kn bb bs jl jn jk jp jb jr) s.heap.size = A at hD hG hA0 ⊢
  have hA : ∀ q : Nat, s.heap.size ≤ q → A q := hA0
  clear hA0
  have hS : va_S A s.heap s.heap [] := va_S.rf
  have iw_X4 := iw_X6_feed_X4
  have iw_X6 := iw_X6_feed_X6
  have hl := lv_entry ([.ref aV, .int x1, .int x2, .int x3, .int x4, .int x5]) (n := 6) (Nat.le_of_ble_eq_true rfl)
  rw [lg_entry_eq]
  generalize (lg_sl ([.ref aV, .int x1, .int x2, .int x3, .int x4, .int x5]) ++ List.replicate (6 - (lg_sl ([.ref aV, .int x1, .int x2, .int x3, .int x4, .int x5])).length) Slot.unset).toArray = ls at hl ⊢
  have hl : lv_has ls 6 [(0, .ref aV), (1, .int x1), (2, .int x2), (3, .int x3), (4, .int x4), (5, .int x5)] := hl
  replace hm : (if (tl + (20 : Int32)) ≤ (640 : Int32) then (ob2 (m_X4_addNumber tl tb x1) (fun tl_4 tb_4 => (ob2 (m_X4_addNumber tl_4 tb_4 x2) (fun tl_6 tb_6 => (ob2 (m_X4_addNumber tl_6 tb_6 x3) (fun tl_8 tb_8 => (ob2 (m_X4_addNumber tl_8 tb_8 x4) (fun tl_10 tb_10 => (ob2 (m_X4_addNumber tl_10 tb_10 x5) (fun tl_12 tb_12 => some (tl_12, tl_12, tb_12))))))))))) else some ((-1 : Int32), tl, tb)) = some (r0, u_tl, u_tb) := hm
  refine lv_aload_n hx hb dX6_feed_0 rfl (lv_at hl 0 rfl) ?_
  refine va_get (D := D) (ci := 6) (v := .ref aT) (C := RX6) (T := TX6) (N := 6) hx hb hts iw_X6 hown hK hP 0 rfl rfl 0 (by decide) (hts (.fieldLink RX6 12 "VarianceBridge" "tape" "LVarianceBridge$Tape;") (by decide +kernel)) (fun _ h9 => h9) rfl dX6_feed_1 ?_
  refine va_getN (D := D) (ci := 4) (v := .int tl) (C := RX4) (T := TX4) (N := 2) hx hb hts iw_X4 hown hK hP 1 rfl rfl 1 (by decide) (va_Nw.use rfl (hG.1 (.fieldLinkNest RX6 51 RX4 "length" "I" RX6) (by decide +kernel))) (fun _ h9 => h9) rfl dX6_feed_4 ?_
  refine lv_bipush (v := (20 : Int32)) hx hb dX6_feed_7 (by decide) ?_
  refine lv_iadd hx hb dX6_feed_9 ?_
  refine lv_sipush (v := (640 : Int32)) hx hb dX6_feed_10 (by decide) ?_
  refine lv_icmp_le (tgt := 18) hx hb dX6_feed_13 (by decide) (fun c1 => ?_) (fun c1 => ?_)
  · have hm2 := zz_if c1 hm
    refine lv_aload_n hx hb dX6_feed_18 rfl (lv_at hl 0 rfl) ?_
    refine va_get (D := D) (ci := 6) (v := .ref aT) (C := RX6) (T := TX6) (N := 6) hx hb hts iw_X6 hown hK hP 0 rfl rfl 0 (by decide) (hts (.fieldLink RX6 12 "VarianceBridge" "tape" "LVarianceBridge$Tape;") (by decide +kernel)) (fun _ h9 => h9) rfl dX6_feed_19 ?_
    refine lv_iload_n hx hb dX6_feed_22 rfl (lv_at hl 1 rfl) ?_
    obtain ⟨tl_4, tb_4, h4, hm4⟩ := ob2_e hm2
    refine gcall_v (ws' := (w_VB cI cB cZ aV aT aTb aP aPp aPf aD aDp aDf aR aRt aK aB aBb aBs aH aHk aHp aHb aHr tl_4 tb_4 pg ps pn pp pf dg ds dn dp df rl rk rp rt kp kb kk kn bb bs jl jn jk jp jb jr)) (va_runVN (As := [.int x1]) (rest := []) ⟨hx, hb, hml, hown, hts⟩ (c_X4_addNumber l D cI cB cZ ta aT aTb s.heap.size tl tb x1 tl_4 tb_4 h4) ⟨va_cnB 1 hts gX6_feed_X4_addNumber_n55 rfl rfl rfl (hG.1 (.methodLinkNest RX6 55 yX4_addNumber RX6) (by decide +kernel)) (hts (.initialized RX4) (by decide +kernel)) (by decide +kernel) ⟨(Nat.le_of_ble_eq_true rfl), (Nat.le_of_ble_eq_true rfl)⟩, hts (.instanceMethod yX4_addNumber) (by decide +kernel), hts (.selects RX4 yX4_addNumber yX4_addNumber) (by decide +kernel)⟩ ⟨PW_blind, va_recv hK hP rfl (q0 := 1) rfl, PW_at hP hD hK hS hA hG [1, 2] rfl (by decide)⟩ rfl rfl hl.1 rfl (lv_room (Nat.le_of_ble_eq_true rfl)) dX6_feed_23 ⟨(Nat.le_of_ble_eq_true rfl), (Nat.le_of_ble_eq_true rfl)⟩) hP hD hS hA [1, 2] [0, 3, 4, 5, 6, 7, 8, 9, 10, 11, 12, 13, 14, 15, 16, 17, 18, 19] [0, 18, 19, 1, 2, 3, 4, 5, 6, 7, 8, 9, 10, 11, 12, 13, 14, 15, 16, 17] rfl rfl (by decide) (by decide) (by decide) rfl (fun H5 lo5 hP5 hD5 hS5 => ?_)
    clear hP hD hS
    refine lv_aload_n hx hb dX6_feed_26 rfl (lv_at hl 0 rfl) ?_
    refine va_get (D := D) (ci := 6) (v := .ref aT) (C := RX6) (T := TX6) (N := 6) hx hb hts iw_X6 hown hK hP5 0 rfl rfl 0 (by decide) (hts (.fieldLink RX6 12 "VarianceBridge" "tape" "LVarianceBridge$Tape;") (by decide +kernel)) (fun _ h9 => h9) rfl dX6_feed_27 ?_
    refine lv_iload_n hx hb dX6_feed_30 rfl (lv_at hl 2 rfl) ?_
    obtain ⟨tl_6, tb_6, h6, hm6⟩ := ob2_e hm4
    refine gcall_v (ws' := (w_VB cI cB cZ aV aT aTb aP aPp aPf aD aDp aDf aR aRt aK aB aBb aBs aH aHk aHp aHb aHr tl_6 tb_6 pg ps pn pp pf dg ds dn dp df rl rk rp rt kp kb kk kn bb bs jl jn jk jp jb jr)) (va_runVN (As := [.int x2]) (rest := []) ⟨hx, hb, hml, hown, hts⟩ (c_X4_addNumber l D cI cB cZ ta aT aTb H5.size tl_4 tb_4 x2 tl_6 tb_6 h6) ⟨va_cnB 1 hts gX6_feed_X4_addNumber_n55 rfl rfl rfl (hG.1 (.methodLinkNest RX6 55 yX4_addNumber RX6) (by decide +kernel)) (hts (.initialized RX4) (by decide +kernel)) (by decide +kernel) ⟨(Nat.le_of_ble_eq_true rfl), (Nat.le_of_ble_eq_true rfl)⟩, hts (.instanceMethod yX4_addNumber) (by decide +kernel), hts (.selects RX4 yX4_addNumber yX4_addNumber) (by decide +kernel)⟩ ⟨PW_blind, va_recv hK hP5 rfl (q0 := 1) rfl, PW_at hP5 hD5 hK hS5 hA hG [1, 2] rfl (by decide)⟩ rfl rfl hl.1 rfl (lv_room (Nat.le_of_ble_eq_true rfl)) dX6_feed_31 ⟨(Nat.le_of_ble_eq_true rfl), (Nat.le_of_ble_eq_true rfl)⟩) hP5 hD5 hS5 hA [1, 2] [0, 3, 4, 5, 6, 7, 8, 9, 10, 11, 12, 13, 14, 15, 16, 17, 18, 19] [0, 18, 19, 1, 2, 3, 4, 5, 6, 7, 8, 9, 10, 11, 12, 13, 14, 15, 16, 17] rfl rfl (by decide) (by decide) (by decide) rfl (fun H7 lo7 hP7 hD7 hS7 => ?_)
    clear hP5 hD5 hS5
    refine lv_aload_n hx hb dX6_feed_34 rfl (lv_at hl 0 rfl) ?_
    refine va_get (D := D) (ci := 6) (v := .ref aT) (C := RX6) (T := TX6) (N := 6) hx hb hts iw_X6 hown hK hP7 0 rfl rfl 0 (by decide) (hts (.fieldLink RX6 12 "VarianceBridge" "tape" "LVarianceBridge$Tape;") (by decide +kernel)) (fun _ h9 => h9) rfl dX6_feed_35 ?_
    refine lv_iload_n hx hb dX6_feed_38 rfl (lv_at hl 3 rfl) ?_
    obtain ⟨tl_8, tb_8, h8, hm8⟩ := ob2_e hm6
    refine gcall_v (ws' := (w_VB cI cB cZ aV aT aTb aP aPp aPf aD aDp aDf aR aRt aK aB aBb aBs aH aHk aHp aHb aHr tl_8 tb_8 pg ps pn pp pf dg ds dn dp df rl rk rp rt kp kb kk kn bb bs jl jn jk jp jb jr)) (va_runVN (As := [.int x3]) (rest := []) ⟨hx, hb, hml, hown, hts⟩ (c_X4_addNumber l D cI cB cZ ta aT aTb H7.size tl_6 tb_6 x3 tl_8 tb_8 h8) ⟨va_cnB 1 hts gX6_feed_X4_addNumber_n55 rfl rfl rfl (hG.1 (.methodLinkNest RX6 55 yX4_addNumber RX6) (by decide +kernel)) (hts (.initialized RX4) (by decide +kernel)) (by decide +kernel) ⟨(Nat.le_of_ble_eq_true rfl), (Nat.le_of_ble_eq_true rfl)⟩, hts (.instanceMethod yX4_addNumber) (by decide +kernel), hts (.selects RX4 yX4_addNumber yX4_addNumber) (by decide +kernel)⟩ ⟨PW_blind, va_recv hK hP7 rfl (q0 := 1) rfl, PW_at hP7 hD7 hK hS7 hA hG [1, 2] rfl (by decide)⟩ rfl rfl hl.1 rfl (lv_room (Nat.le_of_ble_eq_true rfl)) dX6_feed_39 ⟨(Nat.le_of_ble_eq_true rfl), (Nat.le_of_ble_eq_true rfl)⟩) hP7 hD7 hS7 hA [1, 2] [0, 3, 4, 5, 6, 7, 8, 9, 10, 11, 12, 13, 14, 15, 16, 17, 18, 19] [0, 18, 19, 1, 2, 3, 4, 5, 6, 7, 8, 9, 10, 11, 12, 13, 14, 15, 16, 17] rfl rfl (by decide) (by decide) (by decide) rfl (fun H9 lo9 hP9 hD9 hS9 => ?_)
    clear hP7 hD7 hS7
    refine lv_aload_n hx hb dX6_feed_42 rfl (lv_at hl 0 rfl) ?_
    refine va_get (D := D) (ci := 6) (v := .ref aT) (C := RX6) (T := TX6) (N := 6) hx hb hts iw_X6 hown hK hP9 0 rfl rfl 0 (by decide) (hts (.fieldLink RX6 12 "VarianceBridge" "tape" "LVarianceBridge$Tape;") (by decide +kernel)) (fun _ h9 => h9) rfl dX6_feed_43 ?_
    refine lv_iload hx hb dX6_feed_46 (lv_at hl 4 rfl) ?_
    obtain ⟨tl_10, tb_10, h10, hm10⟩ := ob2_e hm8
    refine gcall_v (ws' := (w_VB cI cB cZ aV aT aTb aP aPp aPf aD aDp aDf aR aRt aK aB aBb aBs aH aHk aHp aHb aHr tl_10 tb_10 pg ps pn pp pf dg ds dn dp df rl rk rp rt kp kb kk kn bb bs jl jn jk jp jb jr)) (va_runVN (As := [.int x4]) (rest := []) ⟨hx, hb, hml, hown, hts⟩ (c_X4_addNumber l D cI cB cZ ta aT aTb H9.size tl_8 tb_8 x4 tl_10 tb_10 h10) ⟨va_cnB 1 hts gX6_feed_X4_addNumber_n55 rfl rfl rfl (hG.1 (.methodLinkNest RX6 55 yX4_addNumber RX6) (by decide +kernel)) (hts (.initialized RX4) (by decide +kernel)) (by decide +kernel) ⟨(Nat.le_of_ble_eq_true rfl), (Nat.le_of_ble_eq_true rfl)⟩, hts (.instanceMethod yX4_addNumber) (by decide +kernel), hts (.selects RX4 yX4_addNumber yX4_addNumber) (by decide +kernel)⟩ ⟨PW_blind, va_recv hK hP9 rfl (q0 := 1) rfl, PW_at hP9 hD9 hK hS9 hA hG [1, 2] rfl (by decide)⟩ rfl rfl hl.1 rfl (lv_room (Nat.le_of_ble_eq_true rfl)) dX6_feed_48 ⟨(Nat.le_of_ble_eq_true rfl), (Nat.le_of_ble_eq_true rfl)⟩) hP9 hD9 hS9 hA [1, 2] [0, 3, 4, 5, 6, 7, 8, 9, 10, 11, 12, 13, 14, 15, 16, 17, 18, 19] [0, 18, 19, 1, 2, 3, 4, 5, 6, 7, 8, 9, 10, 11, 12, 13, 14, 15, 16, 17] rfl rfl (by decide) (by decide) (by decide) rfl (fun H11 lo11 hP11 hD11 hS11 => ?_)
    clear hP9 hD9 hS9
    refine lv_aload_n hx hb dX6_feed_51 rfl (lv_at hl 0 rfl) ?_
    refine va_get (D := D) (ci := 6) (v := .ref aT) (C := RX6) (T := TX6) (N := 6) hx hb hts iw_X6 hown hK hP11 0 rfl rfl 0 (by decide) (hts (.fieldLink RX6 12 "VarianceBridge" "tape" "LVarianceBridge$Tape;") (by decide +kernel)) (fun _ h9 => h9) rfl dX6_feed_52 ?_
    refine lv_iload hx hb dX6_feed_55 (lv_at hl 5 rfl) ?_
    obtain ⟨tl_12, tb_12, h12, hm12⟩ := ob2_e hm10
    refine gcall_v (ws' := (w_VB cI cB cZ aV aT aTb aP aPp aPf aD aDp aDf aR aRt aK aB aBb aBs aH aHk aHp aHb aHr tl_12 tb_12 pg ps pn pp pf dg ds dn dp df rl rk rp rt kp kb kk kn bb bs jl jn jk jp jb jr)) (va_runVN (As := [.int x5]) (rest := []) ⟨hx, hb, hml, hown, hts⟩ (c_X4_addNumber l D cI cB cZ ta aT aTb H11.size tl_10 tb_10 x5 tl_12 tb_12 h12) ⟨va_cnB 1 hts gX6_feed_X4_addNumber_n55 rfl rfl rfl (hG.1 (.methodLinkNest RX6 55 yX4_addNumber RX6) (by decide +kernel)) (hts (.initialized RX4) (by decide +kernel)) (by decide +kernel) ⟨(Nat.le_of_ble_eq_true rfl), (Nat.le_of_ble_eq_true rfl)⟩, hts (.instanceMethod yX4_addNumber) (by decide +kernel), hts (.selects RX4 yX4_addNumber yX4_addNumber) (by decide +kernel)⟩ ⟨PW_blind, va_recv hK hP11 rfl (q0 := 1) rfl, PW_at hP11 hD11 hK hS11 hA hG [1, 2] rfl (by decide)⟩ rfl rfl hl.1 rfl (lv_room (Nat.le_of_ble_eq_true rfl)) dX6_feed_57 ⟨(Nat.le_of_ble_eq_true rfl), (Nat.le_of_ble_eq_true rfl)⟩) hP11 hD11 hS11 hA [1, 2] [0, 3, 4, 5, 6, 7, 8, 9, 10, 11, 12, 13, 14, 15, 16, 17, 18, 19] [0, 18, 19, 1, 2, 3, 4, 5, 6, 7, 8, 9, 10, 11, 12, 13, 14, 15, 16, 17] rfl rfl (by decide) (by decide) (by decide) rfl (fun H13 lo13 hP13 hD13 hS13 => ?_)
    clear hP11 hD11 hS11
    refine lv_aload_n hx hb dX6_feed_60 rfl (lv_at hl 0 rfl) ?_
    refine va_get (D := D) (ci := 6) (v := .ref aT) (C := RX6) (T := TX6) (N := 6) hx hb hts iw_X6 hown hK hP13 0 rfl rfl 0 (by decide) (hts (.fieldLink RX6 12 "VarianceBridge" "tape" "LVarianceBridge$Tape;") (by decide +kernel)) (fun _ h9 => h9) rfl dX6_feed_61 ?_
    refine va_getN (D := D) (ci := 4) (v := .int tl_12) (C := RX4) (T := TX4) (N := 2) hx hb hts iw_X4 hown hK hP13 1 rfl rfl 1 (by decide) (va_Nw.use rfl (hG.1 (.fieldLinkNest RX6 51 RX4 "length" "I" RX6) (by decide +kernel))) (fun _ h9 => h9) rfl dX6_feed_64 ?_
    obtain ⟨hq1, hq99⟩ := Prod.mk.inj (Option.some.inj hm12)
    obtain ⟨hq2, hq3⟩ := Prod.mk.inj (hq99)
    subst hq1
    subst hq2
    subst hq3
    exact W.iret hx hb hr (fun t ht hW => ⟨⟨_, (), rfl, rfl, by rw [ht]; exact hP13, va_K.moved hW.alike hK, hD13⟩, hS13.F ht⟩) hS13.2.2 dX6_feed_67
  · have hm3 := zz_nf c1 hm
    refine lv_iconst (v := (-1 : Int32)) hx hb dX6_feed_16 (by decide) ?_
    obtain ⟨hq1, hq99⟩ := Prod.mk.inj (Option.some.inj hm3)
    obtain ⟨hq2, hq3⟩ := Prod.mk.inj (hq99)
    subst hq1
    subst hq2
    subst hq3
    exact W.iret hx hb hr (fun t ht hW => ⟨⟨_, (), rfl, rfl, by rw [ht]; exact hP, va_K.moved hW.alike hK, hD⟩, hS.F ht⟩) hS.2.2 dX6_feed_17
theorem iw_X6_end_X4 : ∀ w ∈ wsX40, w ∈ wsX6_end := by decide +kernel
theorem iw_X6_end_X6 : ∀ w ∈ wsX60, w ∈ wsX6_end := by decide +kernel
set_option maxHeartbeats 4000000 in
set_option maxRecDepth 100000 in
theorem c_X6_end (l : Launch) (D : va_G) (cI cB cZ : ClassId) (ta : Nat → Nat) (aV : Nat) (aT : Nat) (aTb : Nat) (aP : Nat) (aPp : Nat) (aPf : Nat) (aD : Nat) (aDp : Nat) (aDf : Nat) (aR : Nat) (aRt : Nat) (aK : Nat) (aB : Nat) (aBb : Nat) (aBs : Nat) (aH : Nat) (aHk : Nat) (aHp : Nat) (aHb : Nat) (aHr : Nat) (sz : Nat) (tl : Int32) (tb : (Nat → Int32)) (pg : Int32) (ps : Int32) (pn : Int32) (pp : (Nat → Int32)) (pf : (Nat → Int32)) (dg : Int32) (ds : Int32) (dn : Int32) (dp : (Nat → Int32)) (df : (Nat → Int32)) (rl : Int32) (rk : Int32) (rp : Int32) (rt : (Nat → Int32)) (kp : Int32) (kb : Int32) (kk : Int32) (kn : Int32) (bb : (Nat → Int32)) (bs : (Nat → Int32)) (jl : Int32) (jn : Int32) (jk : (Nat → Int32)) (jp : (Nat → Int32)) (jb : (Nat → Int32)) (jr : (Nat → Int32)) (x1 : Int32) (r0 : Int32) (u_tl : Int32) (hm : m_X6_end tl x1 = some (r0, u_tl)) : Met l yX6_end wsX6_end ({ frames := 0, cells := 0, slots := 0, locals := 0 } : Room) (va_Pc [.ref aV, .int x1] (PW D cI cB cZ ta (w_VB cI cB cZ aV aT aTb aP aPp aPf aD aDp aDf aR aRt aK aB aBb aBs aH aHk aHp aHb aHr tl tb pg ps pn pp pf dg ds dn dp df rl rk rp rt kp kb kk kn bb bs jl jn jk jp jb jr) sz)) (QZ .boolean D cI cB cZ (va_A (w_VB cI cB cZ aV aT aTb aP aPp aPf aD aDp aDf aR aRt aK aB aBb aBs aH aHk aHp aHb aHr tl tb pg ps pn pp pf dg ds dn dp df rl rk rp rt kp kb kk kn bb bs jl jn jk jp jb jr) sz) (w_VB cI cB cZ aV aT aTb aP aPp aPf aD aDp aDf aR aRt aK aB aBb aBs aH aHk aHp aHb aHr u_tl tb pg ps pn pp pf dg ds dn dp df rl rk rp rt kp kb kk kn bb bs jl jn jk jp jb jr) r0) 0 0 (va_A (w_VB cI cB cZ aV aT aTb aP aPp aPf aD aDp aDf aR aRt aK aB aBb aBs aH aHk aHp aHb aHr tl tb pg ps pn pp pf dg ds dn dp df rl rk rp rt kp kb kk kn bb bs jl jn jk jp jb jr) sz) := by
  refine Met.ofW (cc := cX6_end) (maxL := 2) (ret := (some .boolean)) (by decide) rfl ?_
  intro p e s m args below meth c s₁ B hml hv
  obtain ⟨rfl, hsz, hP, hK, hD0, hG⟩ := hv
  have hx := B.exec
  have hb := B.bytes
  have hr := B.returns
  have hts := atoms_spec (ws := wsX6_end) B.pre
  have hown : s.vm.findClass RX6 = some m.cls := findClass_of_methodNamed B.named
  have hlocks := B.notSynchronized
  subst hsz
  have hD := hD0.self (sz := s.heap.size)
  clear hD0
  have hA0 : ∀ q : Nat, s.heap.size ≤ q → va_A (w_VB cI cB cZ aV aT aTb aP aPp aPf aD aDp aDf aR aRt aK aB aBb aBs aH aHk aHp aHb aHr tl tb pg ps pn pp pf dg ds dn dp df rl rk rp rt kp kb kk kn bb bs jl jn jk jp jb jr) s.heap.size q := fun q h => Or.inr h
  generalize hAe : va_A (w_VB cI cB cZ aV aT aTb aP aPp aPf aD aDp aDf aR aRt aK aB aBb aBs aH aHk aHp aHb aHr tl tb pg ps pn pp pf dg ds dn dp df rl rk rp rt kp kb kk kn bb bs jl jn jk jp jb jr) s.heap.size = A at hD hG hA0 ⊢
  have hA : ∀ q : Nat, s.heap.size ≤ q → A q := hA0
  clear hA0
  have hS : va_S A s.heap s.heap [] := va_S.rf
  have iw_X4 := iw_X6_end_X4
  have iw_X6 := iw_X6_end_X6
  have hl := lv_entry ([.ref aV, .int x1]) (n := 2) (Nat.le_of_ble_eq_true rfl)
  rw [lg_entry_eq]
  generalize (lg_sl ([.ref aV, .int x1]) ++ List.replicate (2 - (lg_sl ([.ref aV, .int x1])).length) Slot.unset).toArray = ls at hl ⊢
  have hl : lv_has ls 2 [(0, .ref aV), (1, .int x1)] := hl
  replace hm : (if x1 < 0 then some ((0 : Int32), tl) else (if x1 ≤ tl then some ((1 : Int32), x1) else some ((0 : Int32), tl))) = some (r0, u_tl) := hm
  refine lv_iload_n hx hb dX6_end_0 rfl (lv_at hl 1 rfl) ?_
  refine lv_if_lt (tgt := 15) hx hb dX6_end_1 (by decide) (fun c1 => ?_) (fun c1 => ?_)
  · have hm2 := zz_if c1 hm
    refine lv_iconst (v := (0 : Int32)) hx hb dX6_end_15 (by decide) ?_
    obtain ⟨hq1, hq2⟩ := Prod.mk.inj (Option.some.inj hm2)
    subst hq1
    subst hq2
    exact W.zret (ty := .boolean) hx hb hr (by decide) (fun t ht hW => ⟨⟨_, (), rfl, ⟨rfl, (by decide)⟩, by rw [ht]; exact hP, va_K.moved hW.alike hK, hD⟩, hS.F ht⟩) hS.2.2 dX6_end_16
  · have hm3 := zz_nf c1 hm
    refine lv_iload_n hx hb dX6_end_4 rfl (lv_at hl 1 rfl) ?_
    refine lv_aload_n hx hb dX6_end_5 rfl (lv_at hl 0 rfl) ?_
    refine va_get (D := D) (ci := 6) (v := .ref aT) (C := RX6) (T := TX6) (N := 6) hx hb hts iw_X6 hown hK hP 0 rfl rfl 0 (by decide) (hts (.fieldLink RX6 12 "VarianceBridge" "tape" "LVarianceBridge$Tape;") (by decide +kernel)) (fun _ h9 => h9) rfl dX6_end_6 ?_
    refine va_getN (D := D) (ci := 4) (v := .int tl) (C := RX4) (T := TX4) (N := 2) hx hb hts iw_X4 hown hK hP 1 rfl rfl 1 (by decide) (va_Nw.use rfl (hG.1 (.fieldLinkNest RX6 51 RX4 "length" "I" RX6) (by decide +kernel))) (fun _ h9 => h9) rfl dX6_end_9 ?_
    refine lv_icmp_le (tgt := 17) hx hb dX6_end_12 (by decide) (fun c4 => ?_) (fun c4 => ?_)
    · have hm5 := zz_if c4 hm3
      refine lv_aload_n hx hb dX6_end_17 rfl (lv_at hl 0 rfl) ?_
      refine va_get (D := D) (ci := 6) (v := .ref aT) (C := RX6) (T := TX6) (N := 6) hx hb hts iw_X6 hown hK hP 0 rfl rfl 0 (by decide) (hts (.fieldLink RX6 12 "VarianceBridge" "tape" "LVarianceBridge$Tape;") (by decide +kernel)) (fun _ h9 => h9) rfl dX6_end_18 ?_
      refine lv_iload_n hx hb dX6_end_21 rfl (lv_at hl 1 rfl) ?_
      refine va_putN (D := D) (ci := 4) (v := .int x1) (ty := .int) (C := RX4) (T := TX4) (N := 2) hx hb hts iw_X4 tyX4 tyX4_ok nmX4 hown hK hP hD hS 1 rfl rfl 1 (by decide) (va_Nw.use rfl (hG.1 (.fieldLinkNest RX6 51 RX4 "length" "I" RX6) (by decide +kernel))) (fun _ h9 => h9) rfl (by decide +kernel) rfl rfl (Nat.le_of_ble_eq_true rfl) dX6_end_22 (fun H7 lo7 hP7 hD7 hS7 => ?_)
      replace hP7 : va_P D vwCl (w_VB cI cB cZ aV aT aTb aP aPp aPf aD aDp aDf aR aRt aK aB aBb aBs aH aHk aHp aHb aHr x1 tb pg ps pn pp pf dg ds dn dp df rl rk rp rt kp kb kk kn bb bs jl jn jk jp jb jr) H7 := hP7
      replace hD7 : va_D A (w_VB cI cB cZ aV aT aTb aP aPp aPf aD aDp aDf aR aRt aK aB aBb aBs aH aHk aHp aHb aHr x1 tb pg ps pn pp pf dg ds dn dp df rl rk rp rt kp kb kk kn bb bs jl jn jk jp jb jr) := hD7
      clear hP hD hS
      refine lv_iconst (v := (1 : Int32)) hx hb dX6_end_25 (by decide) ?_
      obtain ⟨hq1, hq2⟩ := Prod.mk.inj (Option.some.inj hm5)
      subst hq1
      subst hq2
      exact W.zret (ty := .boolean) hx hb hr (by decide) (fun t ht hW => ⟨⟨_, (), rfl, ⟨rfl, (by decide)⟩, by rw [ht]; exact hP7, va_K.moved hW.alike hK, hD7⟩, hS7.F ht⟩) hS7.2.2 dX6_end_26
    · have hm6 := zz_nf c4 hm3
      refine lv_iconst (v := (0 : Int32)) hx hb dX6_end_15 (by decide) ?_
      obtain ⟨hq1, hq2⟩ := Prod.mk.inj (Option.some.inj hm6)
      subst hq1
      subst hq2
      exact W.zret (ty := .boolean) hx hb hr (by decide) (fun t ht hW => ⟨⟨_, (), rfl, ⟨rfl, (by decide)⟩, by rw [ht]; exact hP, va_K.moved hW.alike hK, hD⟩, hS.F ht⟩) hS.2.2 dX6_end_16
theorem iw_X6_text_X3 : ∀ w ∈ wsX30, w ∈ wsX6_text := by decide +kernel
theorem iw_X6_text_X4 : ∀ w ∈ wsX40, w ∈ wsX6_text := by decide +kernel
theorem iw_X6_text_X6 : ∀ w ∈ wsX60, w ∈ wsX6_text := by decide +kernel
set_option maxHeartbeats 4000000 in
set_option maxRecDepth 100000 in
theorem c_X6_text (l : Launch) (D : va_G) (cI cB cZ : ClassId) (ta : Nat → Nat) (aV : Nat) (aT : Nat) (aTb : Nat) (aP : Nat) (aPp : Nat) (aPf : Nat) (aD : Nat) (aDp : Nat) (aDf : Nat) (aR : Nat) (aRt : Nat) (aK : Nat) (aB : Nat) (aBb : Nat) (aBs : Nat) (aH : Nat) (aHk : Nat) (aHp : Nat) (aHb : Nat) (aHr : Nat) (sz : Nat) (tl : Int32) (tb : (Nat → Int32)) (pg : Int32) (ps : Int32) (pn : Int32) (pp : (Nat → Int32)) (pf : (Nat → Int32)) (dg : Int32) (ds : Int32) (dn : Int32) (dp : (Nat → Int32)) (df : (Nat → Int32)) (rl : Int32) (rk : Int32) (rp : Int32) (rt : (Nat → Int32)) (kp : Int32) (kb : Int32) (kk : Int32) (kn : Int32) (bb : (Nat → Int32)) (bs : (Nat → Int32)) (jl : Int32) (jn : Int32) (jk : (Nat → Int32)) (jp : (Nat → Int32)) (jb : (Nat → Int32)) (jr : (Nat → Int32)) (r0 : Int32) (u_tl : Int32) (u_pg : Int32) (u_ps : Int32) (u_pn : Int32) (u_pp : (Nat → Int32)) (u_pf : (Nat → Int32)) (u_dg : Int32) (u_ds : Int32) (u_dn : Int32) (u_dp : (Nat → Int32)) (u_df : (Nat → Int32)) (u_rl : Int32) (u_rk : Int32) (u_rp : Int32) (u_rt : (Nat → Int32)) (u_kp : Int32) (u_kb : Int32) (u_kk : Int32) (u_kn : Int32) (u_jn : Int32) (hm : m_X6_text tl tb pg ps pn pp pf dg ds dn dp df rl rk rp rt kp kb kk kn jn = some (r0, u_tl, u_pg, u_ps, u_pn, u_pp, u_pf, u_dg, u_ds, u_dn, u_dp, u_df, u_rl, u_rk, u_rp, u_rt, u_kp, u_kb, u_kk, u_kn, u_jn)) : Met l yX6_text wsX6_text ({ frames := 7, cells := 0, slots := 0, locals := 147 } : Room) (va_Pc [.ref aV] (PW D cI cB cZ ta (w_VB cI cB cZ aV aT aTb aP aPp aPf aD aDp aDf aR aRt aK aB aBb aBs aH aHk aHp aHb aHr tl tb pg ps pn pp pf dg ds dn dp df rl rk rp rt kp kb kk kn bb bs jl jn jk jp jb jr) sz)) (QI D cI cB cZ (va_A (w_VB cI cB cZ aV aT aTb aP aPp aPf aD aDp aDf aR aRt aK aB aBb aBs aH aHk aHp aHb aHr tl tb pg ps pn pp pf dg ds dn dp df rl rk rp rt kp kb kk kn bb bs jl jn jk jp jb jr) sz) (w_VB cI cB cZ aV aT aTb aP aPp aPf aD aDp aDf aR aRt aK aB aBb aBs aH aHk aHp aHb aHr u_tl tb u_pg u_ps u_pn u_pp u_pf u_dg u_ds u_dn u_dp u_df u_rl u_rk u_rp u_rt u_kp u_kb u_kk u_kn bb bs jl u_jn jk jp jb jr) r0) 0 0 (va_A (w_VB cI cB cZ aV aT aTb aP aPp aPf aD aDp aDf aR aRt aK aB aBb aBs aH aHk aHp aHb aHr tl tb pg ps pn pp pf dg ds dn dp df rl rk rp rt kp kb kk kn bb bs jl jn jk jp jb jr) sz) := by
  refine Met.ofW (cc := cX6_text) (maxL := 2) (ret := (some .int)) (by decide) rfl ?_
  intro p e s m args below meth c s₁ B hml hv
  obtain ⟨rfl, hsz, hP, hK, hD0, hG⟩ := hv
  have hx := B.exec
  have hb := B.bytes
  have hr := B.returns
  have hts := atoms_spec (ws := wsX6_text) B.pre
  have hown : s.vm.findClass RX6 = some m.cls := findClass_of_methodNamed B.named
  have hlocks := B.notSynchronized
  subst hsz
  have hD := hD0.self (sz := s.heap.size)
  clear hD0
  have hA0 : ∀ q : Nat, s.heap.size ≤ q → va_A (w_VB cI cB cZ aV aT aTb aP aPp aPf aD aDp aDf aR aRt aK aB aBb aBs aH aHk aHp aHb aHr tl tb pg ps pn pp pf dg ds dn dp df rl rk rp rt kp kb kk kn bb bs jl jn jk jp jb jr) s.heap.size q := fun q h => Or.inr h
  generalize hAe : va_A (w_VB cI cB cZ aV aT aTb aP aPp aPf aD aDp aDf aR aRt aK aB aBb aBs aH aHk aHp aHb aHr tl tb pg ps pn pp pf dg ds dn dp df rl rk rp rt kp kb kk kn bb bs jl jn jk jp jb jr) s.heap.size = A at hD hG hA0 ⊢
  have hA : ∀ q : Nat, s.heap.size ≤ q → A q := hA0
  clear hA0
  have hS : va_S A s.heap s.heap [] := va_S.rf
  have iw_X3 := iw_X6_text_X3
  have iw_X4 := iw_X6_text_X4
  have iw_X6 := iw_X6_text_X6
  have hl := lv_entry ([.ref aV]) (n := 2) (Nat.le_of_ble_eq_true rfl)
  rw [lg_entry_eq]
  generalize (lg_sl ([.ref aV]) ++ List.replicate (2 - (lg_sl ([.ref aV])).length) Slot.unset).toArray = ls at hl ⊢
  have hl : lv_has ls 2 [(0, .ref aV)] := hl
  replace hm : (ob14 (m_X3_readText rl rk rp rt kp kb kk kn tl tb dg ds dn dp df) (fun r1 rl_1 rk_1 rp_1 rt_1 kp_1 kb_1 kk_1 kn_1 dg_1 ds_1 dn_1 dp_1 df_1 => (if r1 = 0 then some (((-1 : Int32) - rp_1), (0 : Int32), pg, ps, pn, pp, pf, dg_1, ds_1, dn_1, dp_1, df_1, rl_1, rk_1, rp_1, rt_1, kp_1, kb_1, kk_1, kn_1, jn) else (ob5 (m_X2_takeFrom pg ps pn pp pf dg_1 ds_1 dn_1 dp_1 df_1) (fun pg_8 ps_8 pn_8 pp_8 pf_8 => (ob1 (m_X1_forget jn) (fun jn_10 => some (rl_1, (0 : Int32), pg_8, ps_8, pn_8, pp_8, pf_8, dg_1, ds_1, dn_1, dp_1, df_1, rl_1, rk_1, rp_1, rt_1, kp_1, kb_1, kk_1, kn_1, jn_10)))))))) = some (r0, u_tl, u_pg, u_ps, u_pn, u_pp, u_pf, u_dg, u_ds, u_dn, u_dp, u_df, u_rl, u_rk, u_rp, u_rt, u_kp, u_kb, u_kk, u_kn, u_jn) := hm
  refine lv_aload_n hx hb dX6_text_0 rfl (lv_at hl 0 rfl) ?_
  refine va_get (D := D) (ci := 6) (v := .ref aR) (C := RX6) (T := TX6) (N := 6) hx hb hts iw_X6 hown hK hP 0 rfl rfl 3 (by decide) (hts (.fieldLink RX6 31 "VarianceBridge" "reader" "LVarianceBridge$Reader;") (by decide +kernel)) (fun _ h9 => h9) rfl dX6_text_1 ?_
  obtain ⟨r1, rl_1, rk_1, rp_1, rt_1, kp_1, kb_1, kk_1, kn_1, dg_1, ds_1, dn_1, dp_1, df_1, h1, hm1⟩ := ob14_e hm
  refine gcall_b (ws' := (w_VB cI cB cZ aV aT aTb aP aPp aPf aD aDp aDf aR aRt aK aB aBb aBs aH aHk aHp aHb aHr tl tb pg ps pn pp pf dg_1 ds_1 dn_1 dp_1 df_1 rl_1 rk_1 rp_1 rt_1 kp_1 kb_1 kk_1 kn_1 bb bs jl jn jk jp jb jr)) (va_runVN (As := []) (rest := []) ⟨hx, hb, hml, hown, hts⟩ (c_X3_readText l D cI cB cZ ta aR aRt aK aT aTb aD aDp aDf s.heap.size rl rk rp rt kp kb kk kn tl tb dg ds dn dp df r1 rl_1 rk_1 rp_1 rt_1 kp_1 kb_1 kk_1 kn_1 dg_1 ds_1 dn_1 dp_1 df_1 h1) ⟨va_cnB 0 hts gX6_text_X3_readText_n59 rfl rfl rfl (hG.1 (.methodLinkNest RX6 59 yX3_readText RX6) (by decide +kernel)) (hts (.initialized RX3) (by decide +kernel)) (by decide +kernel) ⟨(Nat.le_of_ble_eq_true rfl), (Nat.le_of_ble_eq_true rfl)⟩, hts (.instanceMethod yX3_readText) (by decide +kernel), hts (.selects RX3 yX3_readText yX3_readText) (by decide +kernel)⟩ ⟨PW_blind, va_recv hK hP rfl (q0 := 9) rfl, PW_at hP hD hK hS hA hG [9, 10, 11, 1, 2, 6, 7, 8] rfl (by decide)⟩ rfl rfl hl.1 rfl (lv_room (Nat.le_of_ble_eq_true rfl)) dX6_text_4 ⟨(Nat.le_of_ble_eq_true rfl), (Nat.le_of_ble_eq_true rfl)⟩) hP hD hS hA [9, 10, 11, 1, 2, 6, 7, 8] [0, 3, 4, 5, 12, 13, 14, 15, 16, 17, 18, 19] [0, 15, 16, 1, 2, 3, 17, 18, 19, 12, 13, 14, 4, 5, 6, 7, 8, 9, 10, 11] rfl rfl (by decide) (by decide) (by decide) rfl (fun H2 lo2 hz1 hP2 hD2 hS2 => ?_)
  clear hP hD hS
  refine lv_istore_n (lv' := [(1, .int r1), (0, .ref aV)]) hx hb dX6_text_7 rfl hl (by decide) rfl (fun ls3 hl3 => ?_)
  refine lv_aload_n hx hb dX6_text_8 rfl (lv_at hl3 1 rfl) ?_
  refine va_get (D := D) (ci := 6) (v := .ref aT) (C := RX6) (T := TX6) (N := 6) hx hb hts iw_X6 hown hK hP2 0 rfl rfl 0 (by decide) (hts (.fieldLink RX6 12 "VarianceBridge" "tape" "LVarianceBridge$Tape;") (by decide +kernel)) (fun _ h9 => h9) rfl dX6_text_9 ?_
  refine lv_iconst (v := (0 : Int32)) hx hb dX6_text_12 (by decide) ?_
  refine va_putN (D := D) (ci := 4) (v := .int (0 : Int32)) (ty := .int) (C := RX4) (T := TX4) (N := 2) hx hb hts iw_X4 tyX4 tyX4_ok nmX4 hown hK hP2 hD2 hS2 1 rfl rfl 1 (by decide) (va_Nw.use rfl (hG.1 (.fieldLinkNest RX6 51 RX4 "length" "I" RX6) (by decide +kernel))) (fun _ h9 => h9) rfl (by decide +kernel) rfl rfl (Nat.le_of_ble_eq_true rfl) dX6_text_13 (fun H4 lo4 hP4 hD4 hS4 => ?_)
  replace hP4 : va_P D vwCl (w_VB cI cB cZ aV aT aTb aP aPp aPf aD aDp aDf aR aRt aK aB aBb aBs aH aHk aHp aHb aHr (0 : Int32) tb pg ps pn pp pf dg_1 ds_1 dn_1 dp_1 df_1 rl_1 rk_1 rp_1 rt_1 kp_1 kb_1 kk_1 kn_1 bb bs jl jn jk jp jb jr) H4 := hP4
  replace hD4 : va_D A (w_VB cI cB cZ aV aT aTb aP aPp aPf aD aDp aDf aR aRt aK aB aBb aBs aH aHk aHp aHb aHr (0 : Int32) tb pg ps pn pp pf dg_1 ds_1 dn_1 dp_1 df_1 rl_1 rk_1 rp_1 rt_1 kp_1 kb_1 kk_1 kn_1 bb bs jl jn jk jp jb jr) := hD4
  clear hP2 hD2 hS2
  refine lv_iload_n hx hb dX6_text_16 rfl (lv_at hl3 0 rfl) ?_
  refine lv_if_ne (tgt := 30) hx hb dX6_text_17 (by decide) (fun c5 => ?_) (fun c5 => ?_)
  · have hm6 := zz_nf c5 hm1
    refine lv_aload_n hx hb dX6_text_30 rfl (lv_at hl3 1 rfl) ?_
    refine va_get (D := D) (ci := 6) (v := .ref aP) (C := RX6) (T := TX6) (N := 6) hx hb hts iw_X6 hown hK hP4 0 rfl rfl 1 (by decide) (hts (.fieldLink RX6 19 "VarianceBridge" "plan" "LVarianceBridge$Plan;") (by decide +kernel)) (fun _ h9 => h9) rfl dX6_text_31 ?_
    refine lv_aload_n hx hb dX6_text_34 rfl (lv_at hl3 1 rfl) ?_
    refine va_get (D := D) (ci := 6) (v := .ref aD) (C := RX6) (T := TX6) (N := 6) hx hb hts iw_X6 hown hK hP4 0 rfl rfl 2 (by decide) (hts (.fieldLink RX6 23 "VarianceBridge" "draft" "LVarianceBridge$Plan;") (by decide +kernel)) (fun _ h9 => h9) rfl dX6_text_35 ?_
    obtain ⟨pg_8, ps_8, pn_8, pp_8, pf_8, h8, hm8⟩ := ob5_e hm6
    refine gcall_v (ws' := (w_VB cI cB cZ aV aT aTb aP aPp aPf aD aDp aDf aR aRt aK aB aBb aBs aH aHk aHp aHb aHr (0 : Int32) tb pg_8 ps_8 pn_8 pp_8 pf_8 dg_1 ds_1 dn_1 dp_1 df_1 rl_1 rk_1 rp_1 rt_1 kp_1 kb_1 kk_1 kn_1 bb bs jl jn jk jp jb jr)) (va_runVN (As := [.ref aD]) (rest := []) ⟨hx, hb, hml, hown, hts⟩ (c_X2_takeFrom l D cI cB cZ ta aP aPp aPf aD aDp aDf H4.size pg ps pn pp pf dg_1 ds_1 dn_1 dp_1 df_1 pg_8 ps_8 pn_8 pp_8 pf_8 h8) ⟨va_cnB 1 hts gX6_text_X2_takeFrom_n66 rfl rfl rfl (hG.1 (.methodLinkNest RX6 66 yX2_takeFrom RX6) (by decide +kernel)) (hts (.initialized RX2) (by decide +kernel)) (by decide +kernel) ⟨(Nat.le_of_ble_eq_true rfl), (Nat.le_of_ble_eq_true rfl)⟩, hts (.instanceMethod yX2_takeFrom) (by decide +kernel), hts (.selects RX2 yX2_takeFrom yX2_takeFrom) (by decide +kernel)⟩ ⟨PW_blind, va_recv hK hP4 rfl (q0 := 3) rfl, PW_at hP4 hD4 hK hS4 hA hG [3, 4, 5, 6, 7, 8] rfl (by decide)⟩ rfl rfl hl3.1 rfl (lv_room (Nat.le_of_ble_eq_true rfl)) dX6_text_38 ⟨(Nat.le_of_ble_eq_true rfl), (Nat.le_of_ble_eq_true rfl)⟩) hP4 hD4 hS4 hA [3, 4, 5, 6, 7, 8] [0, 1, 2, 9, 10, 11, 12, 13, 14, 15, 16, 17, 18, 19] [0, 1, 2, 14, 15, 16, 17, 18, 19, 3, 4, 5, 6, 7, 8, 9, 10, 11, 12, 13] rfl rfl (by decide) (by decide) (by decide) rfl (fun H9 lo9 hP9 hD9 hS9 => ?_)
    clear hP4 hD4 hS4
    refine lv_aload_n hx hb dX6_text_41 rfl (lv_at hl3 1 rfl) ?_
    refine va_get (D := D) (ci := 6) (v := .ref aH) (C := RX6) (T := TX6) (N := 6) hx hb hts iw_X6 hown hK hP9 0 rfl rfl 5 (by decide) (hts (.fieldLink RX6 47 "VarianceBridge" "history" "LVarianceBridge$History;") (by decide +kernel)) (fun _ h9 => h9) rfl dX6_text_42 ?_
    obtain ⟨jn_10, h10, hm10⟩ := ob1_e hm8
    refine gcall_v (ws' := (w_VB cI cB cZ aV aT aTb aP aPp aPf aD aDp aDf aR aRt aK aB aBb aBs aH aHk aHp aHb aHr (0 : Int32) tb pg_8 ps_8 pn_8 pp_8 pf_8 dg_1 ds_1 dn_1 dp_1 df_1 rl_1 rk_1 rp_1 rt_1 kp_1 kb_1 kk_1 kn_1 bb bs jl jn_10 jk jp jb jr)) (va_runVN (As := []) (rest := []) ⟨hx, hb, hml, hown, hts⟩ (c_X1_forget l D cI cB cZ ta aH aHk aHp aHb aHr aP aPp aPf H9.size jl jn jk jp jb jr pg_8 ps_8 pn_8 pp_8 pf_8 jn_10 h10) ⟨va_cnB 0 hts gX6_text_X1_forget_n69 rfl rfl rfl (hG.1 (.methodLinkNest RX6 69 yX1_forget RX6) (by decide +kernel)) (hts (.initialized RX1) (by decide +kernel)) (by decide +kernel) ⟨(Nat.le_of_ble_eq_true rfl), (Nat.le_of_ble_eq_true rfl)⟩, hts (.instanceMethod yX1_forget) (by decide +kernel), hts (.selects RX1 yX1_forget yX1_forget) (by decide +kernel)⟩ ⟨PW_blind, va_recv hK hP9 rfl (q0 := 15) rfl, PW_at hP9 hD9 hK hS9 hA hG [15, 16, 17, 18, 19, 3, 4, 5] rfl (by decide)⟩ rfl rfl hl3.1 rfl (lv_room (Nat.le_of_ble_eq_true rfl)) dX6_text_45 ⟨(Nat.le_of_ble_eq_true rfl), (Nat.le_of_ble_eq_true rfl)⟩) hP9 hD9 hS9 hA [15, 16, 17, 18, 19, 3, 4, 5] [0, 1, 2, 6, 7, 8, 9, 10, 11, 12, 13, 14] [0, 1, 2, 17, 18, 19, 3, 4, 5, 6, 7, 8, 9, 10, 11, 12, 13, 14, 15, 16] rfl rfl (by decide) (by decide) (by decide) rfl (fun H11 lo11 hP11 hD11 hS11 => ?_)
    clear hP9 hD9 hS9
    refine lv_aload_n hx hb dX6_text_48 rfl (lv_at hl3 1 rfl) ?_
    refine va_get (D := D) (ci := 6) (v := .ref aR) (C := RX6) (T := TX6) (N := 6) hx hb hts iw_X6 hown hK hP11 0 rfl rfl 3 (by decide) (hts (.fieldLink RX6 31 "VarianceBridge" "reader" "LVarianceBridge$Reader;") (by decide +kernel)) (fun _ h9 => h9) rfl dX6_text_49 ?_
    refine va_getN (D := D) (ci := 3) (v := .int rl_1) (C := RX3) (T := TX3) (N := 6) hx hb hts iw_X3 hown hK hP11 9 rfl rfl 3 (by decide) (va_Nw.use rfl (hG.1 (.fieldLinkNest RX6 72 RX3 "lines" "I" RX6) (by decide +kernel))) (fun _ h9 => h9) rfl dX6_text_52 ?_
    obtain ⟨hq1, hq99⟩ := Prod.mk.inj (Option.some.inj hm10)
    obtain ⟨hq2, hq99⟩ := Prod.mk.inj (hq99)
    obtain ⟨hq3, hq99⟩ := Prod.mk.inj (hq99)
    obtain ⟨hq4, hq99⟩ := Prod.mk.inj (hq99)
    obtain ⟨hq5, hq99⟩ := Prod.mk.inj (hq99)
    obtain ⟨hq6, hq99⟩ := Prod.mk.inj (hq99)
    obtain ⟨hq7, hq99⟩ := Prod.mk.inj (hq99)
    obtain ⟨hq8, hq99⟩ := Prod.mk.inj (hq99)
    obtain ⟨hq9, hq99⟩ := Prod.mk.inj (hq99)
    obtain ⟨hq10, hq99⟩ := Prod.mk.inj (hq99)
    obtain ⟨hq11, hq99⟩ := Prod.mk.inj (hq99)
    obtain ⟨hq12, hq99⟩ := Prod.mk.inj (hq99)
    obtain ⟨hq13, hq99⟩ := Prod.mk.inj (hq99)
    obtain ⟨hq14, hq99⟩ := Prod.mk.inj (hq99)
    obtain ⟨hq15, hq99⟩ := Prod.mk.inj (hq99)
    obtain ⟨hq16, hq99⟩ := Prod.mk.inj (hq99)
    obtain ⟨hq17, hq99⟩ := Prod.mk.inj (hq99)
    obtain ⟨hq18, hq99⟩ := Prod.mk.inj (hq99)
    obtain ⟨hq19, hq99⟩ := Prod.mk.inj (hq99)
    obtain ⟨hq20, hq21⟩ := Prod.mk.inj (hq99)
    subst hq1
    subst hq2
    subst hq3
    subst hq4
    subst hq5
    subst hq6
    subst hq7
    subst hq8
    subst hq9
    subst hq10
    subst hq11
    subst hq12
    subst hq13
    subst hq14
    subst hq15
    subst hq16
    subst hq17
    subst hq18
    subst hq19
    subst hq20
    subst hq21
    exact W.iret hx hb hr (fun t ht hW => ⟨⟨_, (), rfl, rfl, by rw [ht]; exact hP11, va_K.moved hW.alike hK, hD11⟩, hS11.F ht⟩) hS11.2.2 dX6_text_55
  · have hm7 := zz_if c5 hm1
    refine lv_iconst (v := (-1 : Int32)) hx hb dX6_text_20 (by decide) ?_
    refine lv_aload_n hx hb dX6_text_21 rfl (lv_at hl3 1 rfl) ?_
    refine va_get (D := D) (ci := 6) (v := .ref aR) (C := RX6) (T := TX6) (N := 6) hx hb hts iw_X6 hown hK hP4 0 rfl rfl 3 (by decide) (hts (.fieldLink RX6 31 "VarianceBridge" "reader" "LVarianceBridge$Reader;") (by decide +kernel)) (fun _ h9 => h9) rfl dX6_text_22 ?_
    refine va_getN (D := D) (ci := 3) (v := .int rp_1) (C := RX3) (T := TX3) (N := 6) hx hb hts iw_X3 hown hK hP4 9 rfl rfl 5 (by decide) (va_Nw.use rfl (hG.1 (.fieldLinkNest RX6 63 RX3 "faultPlace" "I" RX6) (by decide +kernel))) (fun _ h9 => h9) rfl dX6_text_25 ?_
    refine lv_isub hx hb dX6_text_28 ?_
    obtain ⟨hq1, hq99⟩ := Prod.mk.inj (Option.some.inj hm7)
    obtain ⟨hq2, hq99⟩ := Prod.mk.inj (hq99)
    obtain ⟨hq3, hq99⟩ := Prod.mk.inj (hq99)
    obtain ⟨hq4, hq99⟩ := Prod.mk.inj (hq99)
    obtain ⟨hq5, hq99⟩ := Prod.mk.inj (hq99)
    obtain ⟨hq6, hq99⟩ := Prod.mk.inj (hq99)
    obtain ⟨hq7, hq99⟩ := Prod.mk.inj (hq99)
    obtain ⟨hq8, hq99⟩ := Prod.mk.inj (hq99)
    obtain ⟨hq9, hq99⟩ := Prod.mk.inj (hq99)
    obtain ⟨hq10, hq99⟩ := Prod.mk.inj (hq99)
    obtain ⟨hq11, hq99⟩ := Prod.mk.inj (hq99)
    obtain ⟨hq12, hq99⟩ := Prod.mk.inj (hq99)
    obtain ⟨hq13, hq99⟩ := Prod.mk.inj (hq99)
    obtain ⟨hq14, hq99⟩ := Prod.mk.inj (hq99)
    obtain ⟨hq15, hq99⟩ := Prod.mk.inj (hq99)
    obtain ⟨hq16, hq99⟩ := Prod.mk.inj (hq99)
    obtain ⟨hq17, hq99⟩ := Prod.mk.inj (hq99)
    obtain ⟨hq18, hq99⟩ := Prod.mk.inj (hq99)
    obtain ⟨hq19, hq99⟩ := Prod.mk.inj (hq99)
    obtain ⟨hq20, hq21⟩ := Prod.mk.inj (hq99)
    subst hq1
    subst hq2
    subst hq3
    subst hq4
    subst hq5
    subst hq6
    subst hq7
    subst hq8
    subst hq9
    subst hq10
    subst hq11
    subst hq12
    subst hq13
    subst hq14
    subst hq15
    subst hq16
    subst hq17
    subst hq18
    subst hq19
    subst hq20
    subst hq21
    exact W.iret hx hb hr (fun t ht hW => ⟨⟨_, (), rfl, rfl, by rw [ht]; exact hP4, va_K.moved hW.alike hK, hD4⟩, hS4.F ht⟩) hS4.2.2 dX6_text_29
theorem iw_X6_fault_X3 : ∀ w ∈ wsX30, w ∈ wsX6_fault := by decide +kernel
theorem iw_X6_fault_X6 : ∀ w ∈ wsX60, w ∈ wsX6_fault := by decide +kernel
set_option maxHeartbeats 4000000 in
set_option maxRecDepth 100000 in
theorem c_X6_fault (l : Launch) (D : va_G) (cI cB cZ : ClassId) (ta : Nat → Nat) (aV : Nat) (aT : Nat) (aTb : Nat) (aP : Nat) (aPp : Nat) (aPf : Nat) (aD : Nat) (aDp : Nat) (aDf : Nat) (aR : Nat) (aRt : Nat) (aK : Nat) (aB : Nat) (aBb : Nat) (aBs : Nat) (aH : Nat) (aHk : Nat) (aHp : Nat) (aHb : Nat) (aHr : Nat) (sz : Nat) (tl : Int32) (tb : (Nat → Int32)) (pg : Int32) (ps : Int32) (pn : Int32) (pp : (Nat → Int32)) (pf : (Nat → Int32)) (dg : Int32) (ds : Int32) (dn : Int32) (dp : (Nat → Int32)) (df : (Nat → Int32)) (rl : Int32) (rk : Int32) (rp : Int32) (rt : (Nat → Int32)) (kp : Int32) (kb : Int32) (kk : Int32) (kn : Int32) (bb : (Nat → Int32)) (bs : (Nat → Int32)) (jl : Int32) (jn : Int32) (jk : (Nat → Int32)) (jp : (Nat → Int32)) (jb : (Nat → Int32)) (jr : (Nat → Int32)) (r0 : Int32) (hm : m_X6_fault rk = some r0) : Met l yX6_fault wsX6_fault ({ frames := 0, cells := 0, slots := 0, locals := 0 } : Room) (va_Pc [.ref aV] (PW D cI cB cZ ta (w_VB cI cB cZ aV aT aTb aP aPp aPf aD aDp aDf aR aRt aK aB aBb aBs aH aHk aHp aHb aHr tl tb pg ps pn pp pf dg ds dn dp df rl rk rp rt kp kb kk kn bb bs jl jn jk jp jb jr) sz)) (QI D cI cB cZ (va_A (w_VB cI cB cZ aV aT aTb aP aPp aPf aD aDp aDf aR aRt aK aB aBb aBs aH aHk aHp aHb aHr tl tb pg ps pn pp pf dg ds dn dp df rl rk rp rt kp kb kk kn bb bs jl jn jk jp jb jr) sz) (w_VB cI cB cZ aV aT aTb aP aPp aPf aD aDp aDf aR aRt aK aB aBb aBs aH aHk aHp aHb aHr tl tb pg ps pn pp pf dg ds dn dp df rl rk rp rt kp kb kk kn bb bs jl jn jk jp jb jr) r0) 0 0 (va_A (w_VB cI cB cZ aV aT aTb aP aPp aPf aD aDp aDf aR aRt aK aB aBb aBs aH aHk aHp aHb aHr tl tb pg ps pn pp pf dg ds dn dp df rl rk rp rt kp kb kk kn bb bs jl jn jk jp jb jr) sz) := by
  refine Met.ofW (cc := cX6_fault) (maxL := 1) (ret := (some .int)) (by decide) rfl ?_
  intro p e s m args below meth c s₁ B hml hv
  obtain ⟨rfl, hsz, hP, hK, hD0, hG⟩ := hv
  have hx := B.exec
  have hb := B.bytes
  have hr := B.returns
  have hts := atoms_spec (ws := wsX6_fault) B.pre
  have hown : s.vm.findClass RX6 = some m.cls := findClass_of_methodNamed B.named
  have hlocks := B.notSynchronized
  subst hsz
  have hD := hD0.self (sz := s.heap.size)
  clear hD0
  have hA0 : ∀ q : Nat, s.heap.size ≤ q → va_A (w_VB cI cB cZ aV aT aTb aP aPp aPf aD aDp aDf aR aRt aK aB aBb aBs aH aHk aHp aHb aHr tl tb pg ps pn pp pf dg ds dn dp df rl rk rp rt kp kb kk kn bb bs jl jn jk jp jb jr) s.heap.size q := fun q h => Or.inr h
  generalize hAe : va_A (w_VB cI cB cZ aV aT aTb aP aPp aPf aD aDp aDf aR aRt aK aB aBb aBs aH aHk aHp aHb aHr tl tb pg ps pn pp pf dg ds dn dp df rl rk rp rt kp kb kk kn bb bs jl jn jk jp jb jr) s.heap.size = A at hD hG hA0 ⊢
  have hA : ∀ q : Nat, s.heap.size ≤ q → A q := hA0
  clear hA0
  have hS : va_S A s.heap s.heap [] := va_S.rf
  have iw_X3 := iw_X6_fault_X3
  have iw_X6 := iw_X6_fault_X6
  have hl := lv_entry ([.ref aV]) (n := 1) (Nat.le_of_ble_eq_true rfl)
  rw [lg_entry_eq]
  generalize (lg_sl ([.ref aV]) ++ List.replicate (1 - (lg_sl ([.ref aV])).length) Slot.unset).toArray = ls at hl ⊢
  have hl : lv_has ls 1 [(0, .ref aV)] := hl
  replace hm : some rk = some r0 := hm
  refine lv_aload_n hx hb dX6_fault_0 rfl (lv_at hl 0 rfl) ?_
  refine va_get (D := D) (ci := 6) (v := .ref aR) (C := RX6) (T := TX6) (N := 6) hx hb hts iw_X6 hown hK hP 0 rfl rfl 3 (by decide) (hts (.fieldLink RX6 31 "VarianceBridge" "reader" "LVarianceBridge$Reader;") (by decide +kernel)) (fun _ h9 => h9) rfl dX6_fault_1 ?_
  refine va_getN (D := D) (ci := 3) (v := .int rk) (C := RX3) (T := TX3) (N := 6) hx hb hts iw_X3 hown hK hP 9 rfl rfl 4 (by decide) (va_Nw.use rfl (hG.1 (.fieldLinkNest RX6 75 RX3 "faultKind" "I" RX6) (by decide +kernel))) (fun _ h9 => h9) rfl dX6_fault_4 ?_
  have hq1 := Option.some.inj hm
  subst hq1
  exact W.iret hx hb hr (fun t ht hW => ⟨⟨_, (), rfl, rfl, by rw [ht]; exact hP, va_K.moved hW.alike hK, hD⟩, hS.F ht⟩) hS.2.2 dX6_fault_7
theorem iw_X6_now_X1 : ∀ w ∈ wsX10, w ∈ wsX6_now := by decide +kernel
theorem iw_X6_now_X2 : ∀ w ∈ wsX20, w ∈ wsX6_now := by decide +kernel
theorem iw_X6_now_X4 : ∀ w ∈ wsX40, w ∈ wsX6_now := by decide +kernel
theorem iw_X6_now_X6 : ∀ w ∈ wsX60, w ∈ wsX6_now := by decide +kernel
set_option maxHeartbeats 4000000 in
set_option maxRecDepth 100000 in
theorem c_X6_now (l : Launch) (D : va_G) (cI cB cZ : ClassId) (ta : Nat → Nat) (aV : Nat) (aT : Nat) (aTb : Nat) (aP : Nat) (aPp : Nat) (aPf : Nat) (aD : Nat) (aDp : Nat) (aDf : Nat) (aR : Nat) (aRt : Nat) (aK : Nat) (aB : Nat) (aBb : Nat) (aBs : Nat) (aH : Nat) (aHk : Nat) (aHp : Nat) (aHb : Nat) (aHr : Nat) (sz : Nat) (tl : Int32) (tb : (Nat → Int32)) (pg : Int32) (ps : Int32) (pn : Int32) (pp : (Nat → Int32)) (pf : (Nat → Int32)) (dg : Int32) (ds : Int32) (dn : Int32) (dp : (Nat → Int32)) (df : (Nat → Int32)) (rl : Int32) (rk : Int32) (rp : Int32) (rt : (Nat → Int32)) (kp : Int32) (kb : Int32) (kk : Int32) (kn : Int32) (bb : (Nat → Int32)) (bs : (Nat → Int32)) (jl : Int32) (jn : Int32) (jk : (Nat → Int32)) (jp : (Nat → Int32)) (jb : (Nat → Int32)) (jr : (Nat → Int32)) (x1 : Int32) (r0 : Int32) (hm : m_X6_now tl pg ps pn pp jn x1 = some r0) : Met l yX6_now wsX6_now ({ frames := 3, cells := 0, slots := 0, locals := 68 } : Room) (va_Pc [.ref aV, .int x1] (PW D cI cB cZ ta (w_VB cI cB cZ aV aT aTb aP aPp aPf aD aDp aDf aR aRt aK aB aBb aBs aH aHk aHp aHb aHr tl tb pg ps pn pp pf dg ds dn dp df rl rk rp rt kp kb kk kn bb bs jl jn jk jp jb jr) sz)) (QI D cI cB cZ (va_A (w_VB cI cB cZ aV aT aTb aP aPp aPf aD aDp aDf aR aRt aK aB aBb aBs aH aHk aHp aHb aHr tl tb pg ps pn pp pf dg ds dn dp df rl rk rp rt kp kb kk kn bb bs jl jn jk jp jb jr) sz) (w_VB cI cB cZ aV aT aTb aP aPp aPf aD aDp aDf aR aRt aK aB aBb aBs aH aHk aHp aHb aHr tl tb pg ps pn pp pf dg ds dn dp df rl rk rp rt kp kb kk kn bb bs jl jn jk jp jb jr) r0) 0 0 (va_A (w_VB cI cB cZ aV aT aTb aP aPp aPf aD aDp aDf aR aRt aK aB aBb aBs aH aHk aHp aHb aHr tl tb pg ps pn pp pf dg ds dn dp df rl rk rp rt kp kb kk kn bb bs jl jn jk jp jb jr) sz) := by
  refine Met.ofW (cc := cX6_now) (maxL := 2) (ret := (some .int)) (by decide) rfl ?_
  intro p e s m args below meth c s₁ B hml hv
  obtain ⟨rfl, hsz, hP, hK, hD0, hG⟩ := hv
  have hx := B.exec
  have hb := B.bytes
  have hr := B.returns
  have hts := atoms_spec (ws := wsX6_now) B.pre
  have hown : s.vm.findClass RX6 = some m.cls := findClass_of_methodNamed B.named
  have hlocks := B.notSynchronized
  subst hsz
  have hD := hD0.self (sz := s.heap.size)
  clear hD0
  have hA0 : ∀ q : Nat, s.heap.size ≤ q → va_A (w_VB cI cB cZ aV aT aTb aP aPp aPf aD aDp aDf aR aRt aK aB aBb aBs aH aHk aHp aHb aHr tl tb pg ps pn pp pf dg ds dn dp df rl rk rp rt kp kb kk kn bb bs jl jn jk jp jb jr) s.heap.size q := fun q h => Or.inr h
  generalize hAe : va_A (w_VB cI cB cZ aV aT aTb aP aPp aPf aD aDp aDf aR aRt aK aB aBb aBs aH aHk aHp aHb aHr tl tb pg ps pn pp pf dg ds dn dp df rl rk rp rt kp kb kk kn bb bs jl jn jk jp jb jr) s.heap.size = A at hD hG hA0 ⊢
  have hA : ∀ q : Nat, s.heap.size ≤ q → A q := hA0
  clear hA0
  have hS : va_S A s.heap s.heap [] := va_S.rf
  have iw_X1 := iw_X6_now_X1
  have iw_X2 := iw_X6_now_X2
  have iw_X4 := iw_X6_now_X4
  have iw_X6 := iw_X6_now_X6
  have hl := lv_entry ([.ref aV, .int x1]) (n := 2) (Nat.le_of_ble_eq_true rfl)
  rw [lg_entry_eq]
  generalize (lg_sl ([.ref aV, .int x1]) ++ List.replicate (2 - (lg_sl ([.ref aV, .int x1])).length) Slot.unset).toArray = ls at hl ⊢
  have hl : lv_has ls 2 [(0, .ref aV), (1, .int x1)] := hl
  replace hm : (if x1 = (0 : Int32) then some ps else (if x1 = (1 : Int32) then some pn else (if x1 = (2 : Int32) then (ob1 (m_X2_leavesBelow pg pn pp (0 : Int32)) (fun r10 => (ob1 (m_J6_bitCount_0f7a4 r10) (fun r12 => some r12)))) else (if x1 = (3 : Int32) then some jn else (if x1 = (4 : Int32) then some tl else some (-1 : Int32)))))) = some r0 := hm
  refine lv_iload_n hx hb dX6_now_0 rfl (lv_at hl 1 rfl) ?_
  by_cases c1 : x1 = (0 : Int32)
  · have hm2 := zz_if c1 hm
    refine lv_tableIn (off := 35) (tgt := 36) hx hb dX6_now_1 (by rw [c1]; decide) (by rw [c1]; decide) (by rw [c1]; rfl) (by decide) ?_
    refine lv_aload_n hx hb dX6_now_36 rfl (lv_at hl 0 rfl) ?_
    refine va_get (D := D) (ci := 6) (v := .ref aP) (C := RX6) (T := TX6) (N := 6) hx hb hts iw_X6 hown hK hP 0 rfl rfl 1 (by decide) (hts (.fieldLink RX6 19 "VarianceBridge" "plan" "LVarianceBridge$Plan;") (by decide +kernel)) (fun _ h9 => h9) rfl dX6_now_37 ?_
    refine va_getN (D := D) (ci := 2) (v := .int ps) (C := RX2) (T := TX2) (N := 5) hx hb hts iw_X2 hown hK hP 3 rfl rfl 3 (by decide) (va_Nw.use rfl (hG.1 (.fieldLinkNest RX6 78 RX2 "scenes" "I" RX6) (by decide +kernel))) (fun _ h9 => h9) rfl dX6_now_40 ?_
    have hq1 := Option.some.inj hm2
    subst hq1
    exact W.iret hx hb hr (fun t ht hW => ⟨⟨_, (), rfl, rfl, by rw [ht]; exact hP, va_K.moved hW.alike hK, hD⟩, hS.F ht⟩) hS.2.2 dX6_now_43
  · have hm3 := zz_nf c1 hm
    by_cases c4 : x1 = (1 : Int32)
    · have hm5 := zz_if c4 hm3
      refine lv_tableIn (off := 43) (tgt := 44) hx hb dX6_now_1 (by rw [c4]; decide) (by rw [c4]; decide) (by rw [c4]; rfl) (by decide) ?_
      refine lv_aload_n hx hb dX6_now_44 rfl (lv_at hl 0 rfl) ?_
      refine va_get (D := D) (ci := 6) (v := .ref aP) (C := RX6) (T := TX6) (N := 6) hx hb hts iw_X6 hown hK hP 0 rfl rfl 1 (by decide) (hts (.fieldLink RX6 19 "VarianceBridge" "plan" "LVarianceBridge$Plan;") (by decide +kernel)) (fun _ h9 => h9) rfl dX6_now_45 ?_
      refine va_getN (D := D) (ci := 2) (v := .int pn) (C := RX2) (T := TX2) (N := 5) hx hb hts iw_X2 hown hK hP 3 rfl rfl 4 (by decide) (va_Nw.use rfl (hG.1 (.fieldLinkNest RX6 81 RX2 "nodes" "I" RX6) (by decide +kernel))) (fun _ h9 => h9) rfl dX6_now_48 ?_
      have hq1 := Option.some.inj hm5
      subst hq1
      exact W.iret hx hb hr (fun t ht hW => ⟨⟨_, (), rfl, rfl, by rw [ht]; exact hP, va_K.moved hW.alike hK, hD⟩, hS.F ht⟩) hS.2.2 dX6_now_51
    · have hm6 := zz_nf c4 hm3
      by_cases c7 : x1 = (2 : Int32)
      · have hm8 := zz_if c7 hm6
        refine lv_tableIn (off := 51) (tgt := 52) hx hb dX6_now_1 (by rw [c7]; decide) (by rw [c7]; decide) (by rw [c7]; rfl) (by decide) ?_
        refine lv_aload_n hx hb dX6_now_52 rfl (lv_at hl 0 rfl) ?_
        refine va_get (D := D) (ci := 6) (v := .ref aP) (C := RX6) (T := TX6) (N := 6) hx hb hts iw_X6 hown hK hP 0 rfl rfl 1 (by decide) (hts (.fieldLink RX6 19 "VarianceBridge" "plan" "LVarianceBridge$Plan;") (by decide +kernel)) (fun _ h9 => h9) rfl dX6_now_53 ?_
        refine lv_iconst (v := (0 : Int32)) hx hb dX6_now_56 (by decide) ?_
        obtain ⟨r10, h10, hm10⟩ := ob1_e hm8
        refine gcall_i (ws' := (w_VB cI cB cZ aV aT aTb aP aPp aPf aD aDp aDf aR aRt aK aB aBb aBs aH aHk aHp aHb aHr tl tb pg ps pn pp pf dg ds dn dp df rl rk rp rt kp kb kk kn bb bs jl jn jk jp jb jr)) (va_runVN (As := [.int (0 : Int32)]) (rest := []) ⟨hx, hb, hml, hown, hts⟩ (c_X2_leavesBelow l D cI cB cZ ta aP aPp aPf s.heap.size pg ps pn pp pf (0 : Int32) r10 h10) ⟨va_cnB 1 hts gX6_now_X2_leavesBelow_n84 rfl rfl rfl (hG.1 (.methodLinkNest RX6 84 yX2_leavesBelow RX6) (by decide +kernel)) (hts (.initialized RX2) (by decide +kernel)) (by decide +kernel) ⟨(Nat.le_of_ble_eq_true rfl), (Nat.le_of_ble_eq_true rfl)⟩, hts (.instanceMethod yX2_leavesBelow) (by decide +kernel), hts (.selects RX2 yX2_leavesBelow yX2_leavesBelow) (by decide +kernel)⟩ ⟨PW_blind, va_recv hK hP rfl (q0 := 3) rfl, PW_at hP hD hK hS hA hG [3, 4, 5] rfl (by decide)⟩ rfl rfl hl.1 rfl (lv_room (Nat.le_of_ble_eq_true rfl)) dX6_now_57 ⟨(Nat.le_of_ble_eq_true rfl), (Nat.le_of_ble_eq_true rfl)⟩) hP hD hS hA [3, 4, 5] [0, 1, 2, 6, 7, 8, 9, 10, 11, 12, 13, 14, 15, 16, 17, 18, 19] [0, 1, 2, 17, 18, 19, 3, 4, 5, 6, 7, 8, 9, 10, 11, 12, 13, 14, 15, 16] rfl rfl (by decide) (by decide) (by decide) rfl (fun H11 lo11 hP11 hD11 hS11 => ?_)
        clear hP hD hS
        obtain ⟨r12, h12, hm12⟩ := ob1_e hm10
        refine gcall_i (ws' := (w_VB cI cB cZ aV aT aTb aP aPp aPf aD aDp aDf aR aRt aK aB aBb aBs aH aHk aHp aHb aHr tl tb pg ps pn pp pf dg ds dn dp df rl rk rp rt kp kb kk kn bb bs jl jn jk jp jb jr)) (va_runS (As := [.int r10]) (rest := []) ⟨hx, hb, hml, hown, hts⟩ (c_J6_bitCount_0f7a4 l D cI cB cZ ta H11.size r10 r12 h12) (va_cwS 1 hts gX6_now_J6_bitCount_0f7a4 rfl rfl rfl (by decide +kernel) ⟨(Nat.le_of_ble_eq_true rfl), (Nat.le_of_ble_eq_true rfl)⟩) ⟨PW_blind, PW_at hP11 hD11 hK hS11 hA hG [] rfl (by decide)⟩ rfl rfl hl.1 rfl (lv_room (Nat.le_of_ble_eq_true rfl)) dX6_now_60 ⟨(Nat.le_of_ble_eq_true rfl), (Nat.le_of_ble_eq_true rfl)⟩) hP11 hD11 hS11 hA [] [0, 1, 2, 3, 4, 5, 6, 7, 8, 9, 10, 11, 12, 13, 14, 15, 16, 17, 18, 19] [0, 1, 2, 3, 4, 5, 6, 7, 8, 9, 10, 11, 12, 13, 14, 15, 16, 17, 18, 19] rfl rfl (by decide) (by decide) (by decide) rfl (fun H13 lo13 hP13 hD13 hS13 => ?_)
        clear hP11 hD11 hS11
        have hq1 := Option.some.inj hm12
        subst hq1
        exact W.iret hx hb hr (fun t ht hW => ⟨⟨_, (), rfl, rfl, by rw [ht]; exact hP13, va_K.moved hW.alike hK, hD13⟩, hS13.F ht⟩) hS13.2.2 dX6_now_63
      · have hm9 := zz_nf c7 hm6
        by_cases c14 : x1 = (3 : Int32)
        · have hm15 := zz_if c14 hm9
          refine lv_tableIn (off := 63) (tgt := 64) hx hb dX6_now_1 (by rw [c14]; decide) (by rw [c14]; decide) (by rw [c14]; rfl) (by decide) ?_
          refine lv_aload_n hx hb dX6_now_64 rfl (lv_at hl 0 rfl) ?_
          refine va_get (D := D) (ci := 6) (v := .ref aH) (C := RX6) (T := TX6) (N := 6) hx hb hts iw_X6 hown hK hP 0 rfl rfl 5 (by decide) (hts (.fieldLink RX6 47 "VarianceBridge" "history" "LVarianceBridge$History;") (by decide +kernel)) (fun _ h9 => h9) rfl dX6_now_65 ?_
          refine va_getN (D := D) (ci := 1) (v := .int jn) (C := RX1) (T := TX1) (N := 7) hx hb hts iw_X1 hown hK hP 15 rfl rfl 6 (by decide) (va_Nw.use rfl (hG.1 (.fieldLinkNest RX6 93 RX1 "kept" "I" RX6) (by decide +kernel))) (fun _ h9 => h9) rfl dX6_now_68 ?_
          have hq1 := Option.some.inj hm15
          subst hq1
          exact W.iret hx hb hr (fun t ht hW => ⟨⟨_, (), rfl, rfl, by rw [ht]; exact hP, va_K.moved hW.alike hK, hD⟩, hS.F ht⟩) hS.2.2 dX6_now_71
        · have hm16 := zz_nf c14 hm9
          by_cases c17 : x1 = (4 : Int32)
          · have hm18 := zz_if c17 hm16
            refine lv_tableIn (off := 71) (tgt := 72) hx hb dX6_now_1 (by rw [c17]; decide) (by rw [c17]; decide) (by rw [c17]; rfl) (by decide) ?_
            refine lv_aload_n hx hb dX6_now_72 rfl (lv_at hl 0 rfl) ?_
            refine va_get (D := D) (ci := 6) (v := .ref aT) (C := RX6) (T := TX6) (N := 6) hx hb hts iw_X6 hown hK hP 0 rfl rfl 0 (by decide) (hts (.fieldLink RX6 12 "VarianceBridge" "tape" "LVarianceBridge$Tape;") (by decide +kernel)) (fun _ h9 => h9) rfl dX6_now_73 ?_
            refine va_getN (D := D) (ci := 4) (v := .int tl) (C := RX4) (T := TX4) (N := 2) hx hb hts iw_X4 hown hK hP 1 rfl rfl 1 (by decide) (va_Nw.use rfl (hG.1 (.fieldLinkNest RX6 51 RX4 "length" "I" RX6) (by decide +kernel))) (fun _ h9 => h9) rfl dX6_now_76 ?_
            have hq1 := Option.some.inj hm18
            subst hq1
            exact W.iret hx hb hr (fun t ht hW => ⟨⟨_, (), rfl, rfl, by rw [ht]; exact hP, va_K.moved hW.alike hK, hD⟩, hS.F ht⟩) hS.2.2 dX6_now_79
          · have hm19 := zz_nf c17 hm16
            refine lv_tableOut (tgt := 80) hx hb dX6_now_1 (ts_out 4 (fun k hk => by rcases (show k = 0 ∨ k = 1 ∨ k = 2 ∨ k = 3 ∨ k = 4 by omega) with rfl | rfl | rfl | rfl | rfl <;> first | exact c1 | exact c4 | exact c7 | exact c14 | exact c17) (by decide)) (by decide) ?_
            refine lv_iconst (v := (-1 : Int32)) hx hb dX6_now_80 (by decide) ?_
            have hq1 := Option.some.inj hm19
            subst hq1
            exact W.iret hx hb hr (fun t ht hW => ⟨⟨_, (), rfl, rfl, by rw [ht]; exact hP, va_K.moved hW.alike hK, hD⟩, hS.F ht⟩) hS.2.2 dX6_now_81
set_option maxHeartbeats 4000000 in
set_option maxRecDepth 100000 in
theorem c_X6_isFactor (l : Launch) (D : va_G) (cI cB cZ : ClassId) (ta : Nat → Nat) (sz : Nat) (x1 : Int32) (r0 : Int32) (hm : m_X6_isFactor x1 = some r0) : Met l yX6_isFactor wsX6_isFactor ({ frames := 0, cells := 0, slots := 0, locals := 0 } : Room) (va_Pc [.int x1] (PW D cI cB cZ ta (w_none cI cB cZ) sz)) (QZ .boolean D cI cB cZ (va_A (w_none cI cB cZ) sz) (w_none cI cB cZ) r0) 0 0 (va_A (w_none cI cB cZ) sz) := by
  refine Met.ofW (cc := cX6_isFactor) (maxL := 1) (ret := (some .boolean)) (by decide) rfl ?_
  intro p e s m args below meth c s₁ B hml hv
  obtain ⟨rfl, hsz, hP, hK, hD0, hG⟩ := hv
  have hx := B.exec
  have hb := B.bytes
  have hr := B.returns
  have hts := atoms_spec (ws := wsX6_isFactor) B.pre
  have hown : s.vm.findClass RX6 = some m.cls := findClass_of_methodNamed B.named
  have hlocks := B.notSynchronized
  subst hsz
  have hD := hD0.self (sz := s.heap.size)
  clear hD0
  have hA0 : ∀ q : Nat, s.heap.size ≤ q → va_A (w_none cI cB cZ) s.heap.size q := fun q h => Or.inr h
  generalize hAe : va_A (w_none cI cB cZ) s.heap.size = A at hD hG hA0 ⊢
  have hA : ∀ q : Nat, s.heap.size ≤ q → A q := hA0
  clear hA0
  have hS : va_S A s.heap s.heap [] := va_S.rf
  have hl := lv_entry ([.int x1]) (n := 1) (Nat.le_of_ble_eq_true rfl)
  rw [lg_entry_eq]
  generalize (lg_sl ([.int x1]) ++ List.replicate (1 - (lg_sl ([.int x1])).length) Slot.unset).toArray = ls at hl ⊢
  have hl : lv_has ls 1 [(0, .int x1)] := hl
  replace hm : (if x1 < 0 then some (0 : Int32) else (if (5 : Int32) ≤ x1 then some (0 : Int32) else some (1 : Int32))) = some r0 := hm
  refine lv_iload_n hx hb dX6_isFactor_0 rfl (lv_at hl 0 rfl) ?_
  refine lv_if_lt (tgt := 13) hx hb dX6_isFactor_1 (by decide) (fun c1 => ?_) (fun c1 => ?_)
  · have hm2 := zz_if c1 hm
    refine lv_iconst (v := (0 : Int32)) hx hb dX6_isFactor_13 (by decide) ?_
    have hq1 := Option.some.inj hm2
    subst hq1
    exact W.zret (ty := .boolean) hx hb hr (by decide) (fun t ht hW => ⟨⟨_, (), rfl, ⟨rfl, (by decide)⟩, by rw [ht]; exact hP, va_K.moved hW.alike hK, hD⟩, hS.F ht⟩) hS.2.2 dX6_isFactor_14
  · have hm3 := zz_nf c1 hm
    refine lv_iload_n hx hb dX6_isFactor_4 rfl (lv_at hl 0 rfl) ?_
    refine lv_iconst (v := (5 : Int32)) hx hb dX6_isFactor_5 (by decide) ?_
    refine lv_icmp_ge (tgt := 13) hx hb dX6_isFactor_6 (by decide) (fun c4 => ?_) (fun c4 => ?_)
    · have hm5 := zz_if c4 hm3
      refine lv_iconst (v := (0 : Int32)) hx hb dX6_isFactor_13 (by decide) ?_
      have hq1 := Option.some.inj hm5
      subst hq1
      exact W.zret (ty := .boolean) hx hb hr (by decide) (fun t ht hW => ⟨⟨_, (), rfl, ⟨rfl, (by decide)⟩, by rw [ht]; exact hP, va_K.moved hW.alike hK, hD⟩, hS.F ht⟩) hS.2.2 dX6_isFactor_14
    · have hm6 := zz_nf c4 hm3
      refine lv_iconst (v := (1 : Int32)) hx hb dX6_isFactor_9 (by decide) ?_
      refine lv_goto (tgt := 14) hx hb dX6_isFactor_10 (by decide) ?_
      have hq1 := Option.some.inj hm6
      subst hq1
      exact W.zret (ty := .boolean) hx hb hr (by decide) (fun t ht hW => ⟨⟨_, (), rfl, ⟨rfl, (by decide)⟩, by rw [ht]; exact hP, va_K.moved hW.alike hK, hD⟩, hS.F ht⟩) hS.2.2 dX6_isFactor_14
theorem iw_X6_factor_X6 : ∀ w ∈ wsX60, w ∈ wsX6_factor := by decide +kernel
set_option maxHeartbeats 4000000 in
set_option maxRecDepth 100000 in
theorem c_X6_factor (l : Launch) (D : va_G) (cI cB cZ : ClassId) (ta : Nat → Nat) (aV : Nat) (aT : Nat) (aTb : Nat) (aP : Nat) (aPp : Nat) (aPf : Nat) (aD : Nat) (aDp : Nat) (aDf : Nat) (aR : Nat) (aRt : Nat) (aK : Nat) (aB : Nat) (aBb : Nat) (aBs : Nat) (aH : Nat) (aHk : Nat) (aHp : Nat) (aHb : Nat) (aHr : Nat) (sz : Nat) (tl : Int32) (tb : (Nat → Int32)) (pg : Int32) (ps : Int32) (pn : Int32) (pp : (Nat → Int32)) (pf : (Nat → Int32)) (dg : Int32) (ds : Int32) (dn : Int32) (dp : (Nat → Int32)) (df : (Nat → Int32)) (rl : Int32) (rk : Int32) (rp : Int32) (rt : (Nat → Int32)) (kp : Int32) (kb : Int32) (kk : Int32) (kn : Int32) (bb : (Nat → Int32)) (bs : (Nat → Int32)) (jl : Int32) (jn : Int32) (jk : (Nat → Int32)) (jp : (Nat → Int32)) (jb : (Nat → Int32)) (jr : (Nat → Int32)) (x1 : Int32) (x2 : Int32) (x3 : Int32) (r0 : Int32) (hm : m_X6_factor pg ps pn pf x1 x2 x3 = some r0) : Met l yX6_factor wsX6_factor ({ frames := 2, cells := 0, slots := 0, locals := 42 } : Room) (va_Pc [.ref aV, .int x1, .int x2, .int x3] (PW D cI cB cZ ta (w_VB cI cB cZ aV aT aTb aP aPp aPf aD aDp aDf aR aRt aK aB aBb aBs aH aHk aHp aHb aHr tl tb pg ps pn pp pf dg ds dn dp df rl rk rp rt kp kb kk kn bb bs jl jn jk jp jb jr) sz)) (QI D cI cB cZ (va_A (w_VB cI cB cZ aV aT aTb aP aPp aPf aD aDp aDf aR aRt aK aB aBb aBs aH aHk aHp aHb aHr tl tb pg ps pn pp pf dg ds dn dp df rl rk rp rt kp kb kk kn bb bs jl jn jk jp jb jr) sz) (w_VB cI cB cZ aV aT aTb aP aPp aPf aD aDp aDf aR aRt aK aB aBb aBs aH aHk aHp aHb aHr tl tb pg ps pn pp pf dg ds dn dp df rl rk rp rt kp kb kk kn bb bs jl jn jk jp jb jr) r0) 0 0 (va_A (w_VB cI cB cZ aV aT aTb aP aPp aPf aD aDp aDf aR aRt aK aB aBb aBs aH aHk aHp aHb aHr tl tb pg ps pn pp pf dg ds dn dp df rl rk rp rt kp kb kk kn bb bs jl jn jk jp jb jr) sz) := by
  refine Met.ofW (cc := cX6_factor) (maxL := 4) (ret := (some .int)) (by decide) rfl ?_
  intro p e s m args below meth c s₁ B hml hv
  obtain ⟨rfl, hsz, hP, hK, hD0, hG⟩ := hv
  have hx := B.exec
  have hb := B.bytes
  have hr := B.returns
  have hts := atoms_spec (ws := wsX6_factor) B.pre
  have hown : s.vm.findClass RX6 = some m.cls := findClass_of_methodNamed B.named
  have hlocks := B.notSynchronized
  subst hsz
  have hD := hD0.self (sz := s.heap.size)
  clear hD0
  have hA0 : ∀ q : Nat, s.heap.size ≤ q → va_A (w_VB cI cB cZ aV aT aTb aP aPp aPf aD aDp aDf aR aRt aK aB aBb aBs aH aHk aHp aHb aHr tl tb pg ps pn pp pf dg ds dn dp df rl rk rp rt kp kb kk kn bb bs jl jn jk jp jb jr) s.heap.size q := fun q h => Or.inr h
  generalize hAe : va_A (w_VB cI cB cZ aV aT aTb aP aPp aPf aD aDp aDf aR aRt aK aB aBb aBs aH aHk aHp aHb aHr tl tb pg ps pn pp pf dg ds dn dp df rl rk rp rt kp kb kk kn bb bs jl jn jk jp jb jr) s.heap.size = A at hD hG hA0 ⊢
  have hA : ∀ q : Nat, s.heap.size ≤ q → A q := hA0
  clear hA0
  have hS : va_S A s.heap s.heap [] := va_S.rf
  have iw_X6 := iw_X6_factor_X6
  have hl := lv_entry ([.ref aV, .int x1, .int x2, .int x3]) (n := 4) (Nat.le_of_ble_eq_true rfl)
  rw [lg_entry_eq]
  generalize (lg_sl ([.ref aV, .int x1, .int x2, .int x3]) ++ List.replicate (4 - (lg_sl ([.ref aV, .int x1, .int x2, .int x3])).length) Slot.unset).toArray = ls at hl ⊢
  have hl : lv_has ls 4 [(0, .ref aV), (1, .int x1), (2, .int x2), (3, .int x3)] := hl
  replace hm : (ob1 (m_X2_isLeaf pg pn x1) (fun r1 => (if r1 = 0 then some (-1 : Int32) else (ob1 (m_X2_isScene ps x2) (fun r6 => (if r6 = 0 then some (-1 : Int32) else (ob1 (m_X6_isFactor x3) (fun r11 => (if r11 = 0 then some (-1 : Int32) else (ob1 (m_X2_factorOf pf x1 x2 x3) (fun r16 => some r16))))))))))) = some r0 := hm
  refine lv_aload_n hx hb dX6_factor_0 rfl (lv_at hl 0 rfl) ?_
  refine va_get (D := D) (ci := 6) (v := .ref aP) (C := RX6) (T := TX6) (N := 6) hx hb hts iw_X6 hown hK hP 0 rfl rfl 1 (by decide) (hts (.fieldLink RX6 19 "VarianceBridge" "plan" "LVarianceBridge$Plan;") (by decide +kernel)) (fun _ h9 => h9) rfl dX6_factor_1 ?_
  refine lv_iload_n hx hb dX6_factor_4 rfl (lv_at hl 1 rfl) ?_
  obtain ⟨r1, h1, hm1⟩ := ob1_e hm
  refine gcall_b (ws' := (w_VB cI cB cZ aV aT aTb aP aPp aPf aD aDp aDf aR aRt aK aB aBb aBs aH aHk aHp aHb aHr tl tb pg ps pn pp pf dg ds dn dp df rl rk rp rt kp kb kk kn bb bs jl jn jk jp jb jr)) (va_runVN (As := [.int x1]) (rest := []) ⟨hx, hb, hml, hown, hts⟩ (c_X2_isLeaf l D cI cB cZ ta aP aPp aPf s.heap.size pg ps pn pp pf x1 r1 h1) ⟨va_cnB 1 hts gX6_factor_X2_isLeaf_n117 rfl rfl rfl (hG.1 (.methodLinkNest RX6 117 yX2_isLeaf RX6) (by decide +kernel)) (hts (.initialized RX2) (by decide +kernel)) (by decide +kernel) ⟨(Nat.le_of_ble_eq_true rfl), (Nat.le_of_ble_eq_true rfl)⟩, hts (.instanceMethod yX2_isLeaf) (by decide +kernel), hts (.selects RX2 yX2_isLeaf yX2_isLeaf) (by decide +kernel)⟩ ⟨PW_blind, va_recv hK hP rfl (q0 := 3) rfl, PW_at hP hD hK hS hA hG [3, 4, 5] rfl (by decide)⟩ rfl rfl hl.1 rfl (lv_room (Nat.le_of_ble_eq_true rfl)) dX6_factor_5 ⟨(Nat.le_of_ble_eq_true rfl), (Nat.le_of_ble_eq_true rfl)⟩) hP hD hS hA [3, 4, 5] [0, 1, 2, 6, 7, 8, 9, 10, 11, 12, 13, 14, 15, 16, 17, 18, 19] [0, 1, 2, 17, 18, 19, 3, 4, 5, 6, 7, 8, 9, 10, 11, 12, 13, 14, 15, 16] rfl rfl (by decide) (by decide) (by decide) rfl (fun H2 lo2 hz1 hP2 hD2 hS2 => ?_)
  clear hP hD hS
  refine lv_if_eq (tgt := 29) hx hb dX6_factor_8 (by decide) (fun c3 => ?_) (fun c3 => ?_)
  · have hm4 := zz_if c3 hm1
    refine lv_iconst (v := (-1 : Int32)) hx hb dX6_factor_29 (by decide) ?_
    have hq1 := Option.some.inj hm4
    subst hq1
    exact W.iret hx hb hr (fun t ht hW => ⟨⟨_, (), rfl, rfl, by rw [ht]; exact hP2, va_K.moved hW.alike hK, hD2⟩, hS2.F ht⟩) hS2.2.2 dX6_factor_30
  · have hm5 := zz_nf c3 hm1
    refine lv_aload_n hx hb dX6_factor_11 rfl (lv_at hl 0 rfl) ?_
    refine va_get (D := D) (ci := 6) (v := .ref aP) (C := RX6) (T := TX6) (N := 6) hx hb hts iw_X6 hown hK hP2 0 rfl rfl 1 (by decide) (hts (.fieldLink RX6 19 "VarianceBridge" "plan" "LVarianceBridge$Plan;") (by decide +kernel)) (fun _ h9 => h9) rfl dX6_factor_12 ?_
    refine lv_iload_n hx hb dX6_factor_15 rfl (lv_at hl 2 rfl) ?_
    obtain ⟨r6, h6, hm6⟩ := ob1_e hm5
    refine gcall_b (ws' := (w_VB cI cB cZ aV aT aTb aP aPp aPf aD aDp aDf aR aRt aK aB aBb aBs aH aHk aHp aHb aHr tl tb pg ps pn pp pf dg ds dn dp df rl rk rp rt kp kb kk kn bb bs jl jn jk jp jb jr)) (va_runVN (As := [.int x2]) (rest := []) ⟨hx, hb, hml, hown, hts⟩ (c_X2_isScene l D cI cB cZ ta aP aPp aPf H2.size pg ps pn pp pf x2 r6 h6) ⟨va_cnB 1 hts gX6_factor_X2_isScene_n120 rfl rfl rfl (hG.1 (.methodLinkNest RX6 120 yX2_isScene RX6) (by decide +kernel)) (hts (.initialized RX2) (by decide +kernel)) (by decide +kernel) ⟨(Nat.le_of_ble_eq_true rfl), (Nat.le_of_ble_eq_true rfl)⟩, hts (.instanceMethod yX2_isScene) (by decide +kernel), hts (.selects RX2 yX2_isScene yX2_isScene) (by decide +kernel)⟩ ⟨PW_blind, va_recv hK hP2 rfl (q0 := 3) rfl, PW_at hP2 hD2 hK hS2 hA hG [3, 4, 5] rfl (by decide)⟩ rfl rfl hl.1 rfl (lv_room (Nat.le_of_ble_eq_true rfl)) dX6_factor_16 ⟨(Nat.le_of_ble_eq_true rfl), (Nat.le_of_ble_eq_true rfl)⟩) hP2 hD2 hS2 hA [3, 4, 5] [0, 1, 2, 6, 7, 8, 9, 10, 11, 12, 13, 14, 15, 16, 17, 18, 19] [0, 1, 2, 17, 18, 19, 3, 4, 5, 6, 7, 8, 9, 10, 11, 12, 13, 14, 15, 16] rfl rfl (by decide) (by decide) (by decide) rfl (fun H7 lo7 hz6 hP7 hD7 hS7 => ?_)
    clear hP2 hD2 hS2
    refine lv_if_eq (tgt := 29) hx hb dX6_factor_19 (by decide) (fun c8 => ?_) (fun c8 => ?_)
    · have hm9 := zz_if c8 hm6
      refine lv_iconst (v := (-1 : Int32)) hx hb dX6_factor_29 (by decide) ?_
      have hq1 := Option.some.inj hm9
      subst hq1
      exact W.iret hx hb hr (fun t ht hW => ⟨⟨_, (), rfl, rfl, by rw [ht]; exact hP7, va_K.moved hW.alike hK, hD7⟩, hS7.F ht⟩) hS7.2.2 dX6_factor_30
    · have hm10 := zz_nf c8 hm6
      refine lv_iload_n hx hb dX6_factor_22 rfl (lv_at hl 3 rfl) ?_
      obtain ⟨r11, h11, hm11⟩ := ob1_e hm10
      refine gcall_b (ws' := (w_VB cI cB cZ aV aT aTb aP aPp aPf aD aDp aDf aR aRt aK aB aBb aBs aH aHk aHp aHb aHr tl tb pg ps pn pp pf dg ds dn dp df rl rk rp rt kp kb kk kn bb bs jl jn jk jp jb jr)) (va_runS (As := [.int x3]) (rest := []) ⟨hx, hb, hml, hown, hts⟩ (c_X6_isFactor l D cI cB cZ ta H7.size x3 r11 h11) (va_cwS 1 hts gX6_factor_X6_isFactor rfl rfl rfl (by decide +kernel) ⟨(Nat.le_of_ble_eq_true rfl), (Nat.le_of_ble_eq_true rfl)⟩) ⟨PW_blind, PW_at hP7 hD7 hK hS7 hA hG [] rfl (by decide)⟩ rfl rfl hl.1 rfl (lv_room (Nat.le_of_ble_eq_true rfl)) dX6_factor_23 ⟨(Nat.le_of_ble_eq_true rfl), (Nat.le_of_ble_eq_true rfl)⟩) hP7 hD7 hS7 hA [] [0, 1, 2, 3, 4, 5, 6, 7, 8, 9, 10, 11, 12, 13, 14, 15, 16, 17, 18, 19] [0, 1, 2, 3, 4, 5, 6, 7, 8, 9, 10, 11, 12, 13, 14, 15, 16, 17, 18, 19] rfl rfl (by decide) (by decide) (by decide) rfl (fun H12 lo12 hz11 hP12 hD12 hS12 => ?_)
      clear hP7 hD7 hS7
      refine lv_if_ne (tgt := 31) hx hb dX6_factor_26 (by decide) (fun c13 => ?_) (fun c13 => ?_)
      · have hm14 := zz_nf c13 hm11
        refine lv_aload_n hx hb dX6_factor_31 rfl (lv_at hl 0 rfl) ?_
        refine va_get (D := D) (ci := 6) (v := .ref aP) (C := RX6) (T := TX6) (N := 6) hx hb hts iw_X6 hown hK hP12 0 rfl rfl 1 (by decide) (hts (.fieldLink RX6 19 "VarianceBridge" "plan" "LVarianceBridge$Plan;") (by decide +kernel)) (fun _ h9 => h9) rfl dX6_factor_32 ?_
        refine lv_iload_n hx hb dX6_factor_35 rfl (lv_at hl 1 rfl) ?_
        refine lv_iload_n hx hb dX6_factor_36 rfl (lv_at hl 2 rfl) ?_
        refine lv_iload_n hx hb dX6_factor_37 rfl (lv_at hl 3 rfl) ?_
        obtain ⟨r16, h16, hm16⟩ := ob1_e hm14
        refine gcall_i (ws' := (w_VB cI cB cZ aV aT aTb aP aPp aPf aD aDp aDf aR aRt aK aB aBb aBs aH aHk aHp aHb aHr tl tb pg ps pn pp pf dg ds dn dp df rl rk rp rt kp kb kk kn bb bs jl jn jk jp jb jr)) (va_runVN (As := [.int x1, .int x2, .int x3]) (rest := []) ⟨hx, hb, hml, hown, hts⟩ (c_X2_factorOf l D cI cB cZ ta aP aPp aPf H12.size pg ps pn pp pf x1 x2 x3 r16 h16) ⟨va_cnB 3 hts gX6_factor_X2_factorOf_n126 rfl rfl rfl (hG.1 (.methodLinkNest RX6 126 yX2_factorOf RX6) (by decide +kernel)) (hts (.initialized RX2) (by decide +kernel)) (by decide +kernel) ⟨(Nat.le_of_ble_eq_true rfl), (Nat.le_of_ble_eq_true rfl)⟩, hts (.instanceMethod yX2_factorOf) (by decide +kernel), hts (.selects RX2 yX2_factorOf yX2_factorOf) (by decide +kernel)⟩ ⟨PW_blind, va_recv hK hP12 rfl (q0 := 3) rfl, PW_at hP12 hD12 hK hS12 hA hG [3, 4, 5] rfl (by decide)⟩ rfl rfl hl.1 rfl (lv_room (Nat.le_of_ble_eq_true rfl)) dX6_factor_38 ⟨(Nat.le_of_ble_eq_true rfl), (Nat.le_of_ble_eq_true rfl)⟩) hP12 hD12 hS12 hA [3, 4, 5] [0, 1, 2, 6, 7, 8, 9, 10, 11, 12, 13, 14, 15, 16, 17, 18, 19] [0, 1, 2, 17, 18, 19, 3, 4, 5, 6, 7, 8, 9, 10, 11, 12, 13, 14, 15, 16] rfl rfl (by decide) (by decide) (by decide) rfl (fun H17 lo17 hP17 hD17 hS17 => ?_)
        clear hP12 hD12 hS12
        have hq1 := Option.some.inj hm16
        subst hq1
        exact W.iret hx hb hr (fun t ht hW => ⟨⟨_, (), rfl, rfl, by rw [ht]; exact hP17, va_K.moved hW.alike hK, hD17⟩, hS17.F ht⟩) hS17.2.2 dX6_factor_41
      · have hm15 := zz_if c13 hm11
        refine lv_iconst (v := (-1 : Int32)) hx hb dX6_factor_29 (by decide) ?_
        have hq1 := Option.some.inj hm15
        subst hq1
        exact W.iret hx hb hr (fun t ht hW => ⟨⟨_, (), rfl, rfl, by rw [ht]; exact hP12, va_K.moved hW.alike hK, hD12⟩, hS12.F ht⟩) hS12.2.2 dX6_factor_30
theorem iw_X6_value_X6 : ∀ w ∈ wsX60, w ∈ wsX6_value := by decide +kernel
set_option maxHeartbeats 4000000 in
set_option maxRecDepth 100000 in
theorem c_X6_value (l : Launch) (D : va_G) (cI cB cZ : ClassId) (ta : Nat → Nat) (aV : Nat) (aT : Nat) (aTb : Nat) (aP : Nat) (aPp : Nat) (aPf : Nat) (aD : Nat) (aDp : Nat) (aDf : Nat) (aR : Nat) (aRt : Nat) (aK : Nat) (aB : Nat) (aBb : Nat) (aBs : Nat) (aH : Nat) (aHk : Nat) (aHp : Nat) (aHb : Nat) (aHr : Nat) (sz : Nat) (tl : Int32) (tb : (Nat → Int32)) (pg : Int32) (ps : Int32) (pn : Int32) (pp : (Nat → Int32)) (pf : (Nat → Int32)) (dg : Int32) (ds : Int32) (dn : Int32) (dp : (Nat → Int32)) (df : (Nat → Int32)) (rl : Int32) (rk : Int32) (rp : Int32) (rt : (Nat → Int32)) (kp : Int32) (kb : Int32) (kk : Int32) (kn : Int32) (bb : (Nat → Int32)) (bs : (Nat → Int32)) (jl : Int32) (jn : Int32) (jk : (Nat → Int32)) (jp : (Nat → Int32)) (jb : (Nat → Int32)) (jr : (Nat → Int32)) (x1 : Int32) (x2 : Int32) (r0 : Int32) (hm : m_X6_value pg ps pn pp pf x1 x2 = some r0) : Met l yX6_value wsX6_value ({ frames := 4, cells := 0, slots := 0, locals := 99 } : Room) (va_Pc [.ref aV, .int x1, .int x2] (PW D cI cB cZ ta (w_VB cI cB cZ aV aT aTb aP aPp aPf aD aDp aDf aR aRt aK aB aBb aBs aH aHk aHp aHb aHr tl tb pg ps pn pp pf dg ds dn dp df rl rk rp rt kp kb kk kn bb bs jl jn jk jp jb jr) sz)) (QI D cI cB cZ (va_A (w_VB cI cB cZ aV aT aTb aP aPp aPf aD aDp aDf aR aRt aK aB aBb aBs aH aHk aHp aHb aHr tl tb pg ps pn pp pf dg ds dn dp df rl rk rp rt kp kb kk kn bb bs jl jn jk jp jb jr) sz) (w_VB cI cB cZ aV aT aTb aP aPp aPf aD aDp aDf aR aRt aK aB aBb aBs aH aHk aHp aHb aHr tl tb pg ps pn pp pf dg ds dn dp df rl rk rp rt kp kb kk kn bb bs jl jn jk jp jb jr) r0) 0 0 (va_A (w_VB cI cB cZ aV aT aTb aP aPp aPf aD aDp aDf aR aRt aK aB aBb aBs aH aHk aHp aHb aHr tl tb pg ps pn pp pf dg ds dn dp df rl rk rp rt kp kb kk kn bb bs jl jn jk jp jb jr) sz) := by
  refine Met.ofW (cc := cX6_value) (maxL := 3) (ret := (some .int)) (by decide) rfl ?_
  intro p e s m args below meth c s₁ B hml hv
  obtain ⟨rfl, hsz, hP, hK, hD0, hG⟩ := hv
  have hx := B.exec
  have hb := B.bytes
  have hr := B.returns
  have hts := atoms_spec (ws := wsX6_value) B.pre
  have hown : s.vm.findClass RX6 = some m.cls := findClass_of_methodNamed B.named
  have hlocks := B.notSynchronized
  subst hsz
  have hD := hD0.self (sz := s.heap.size)
  clear hD0
  have hA0 : ∀ q : Nat, s.heap.size ≤ q → va_A (w_VB cI cB cZ aV aT aTb aP aPp aPf aD aDp aDf aR aRt aK aB aBb aBs aH aHk aHp aHb aHr tl tb pg ps pn pp pf dg ds dn dp df rl rk rp rt kp kb kk kn bb bs jl jn jk jp jb jr) s.heap.size q := fun q h => Or.inr h
  generalize hAe : va_A (w_VB cI cB cZ aV aT aTb aP aPp aPf aD aDp aDf aR aRt aK aB aBb aBs aH aHk aHp aHb aHr tl tb pg ps pn pp pf dg ds dn dp df rl rk rp rt kp kb kk kn bb bs jl jn jk jp jb jr) s.heap.size = A at hD hG hA0 ⊢
  have hA : ∀ q : Nat, s.heap.size ≤ q → A q := hA0
  clear hA0
  have hS : va_S A s.heap s.heap [] := va_S.rf
  have iw_X6 := iw_X6_value_X6
  have hl := lv_entry ([.ref aV, .int x1, .int x2]) (n := 3) (Nat.le_of_ble_eq_true rfl)
  rw [lg_entry_eq]
  generalize (lg_sl ([.ref aV, .int x1, .int x2]) ++ List.replicate (3 - (lg_sl ([.ref aV, .int x1, .int x2])).length) Slot.unset).toArray = ls at hl ⊢
  have hl : lv_has ls 3 [(0, .ref aV), (1, .int x1), (2, .int x2)] := hl
  replace hm : (ob1 (m_X2_isNode pn x1) (fun r1 => (if r1 = 0 then some (-1000000000 : Int32) else (ob1 (m_X2_isScene ps x2) (fun r6 => (if r6 = 0 then some (-1000000000 : Int32) else (ob1 (m_X2_nodeValue pg pn pp pf x1 x2) (fun r11 => some r11)))))))) = some r0 := hm
  refine lv_aload_n hx hb dX6_value_0 rfl (lv_at hl 0 rfl) ?_
  refine va_get (D := D) (ci := 6) (v := .ref aP) (C := RX6) (T := TX6) (N := 6) hx hb hts iw_X6 hown hK hP 0 rfl rfl 1 (by decide) (hts (.fieldLink RX6 19 "VarianceBridge" "plan" "LVarianceBridge$Plan;") (by decide +kernel)) (fun _ h9 => h9) rfl dX6_value_1 ?_
  refine lv_iload_n hx hb dX6_value_4 rfl (lv_at hl 1 rfl) ?_
  obtain ⟨r1, h1, hm1⟩ := ob1_e hm
  refine gcall_b (ws' := (w_VB cI cB cZ aV aT aTb aP aPp aPf aD aDp aDf aR aRt aK aB aBb aBs aH aHk aHp aHb aHr tl tb pg ps pn pp pf dg ds dn dp df rl rk rp rt kp kb kk kn bb bs jl jn jk jp jb jr)) (va_runVN (As := [.int x1]) (rest := []) ⟨hx, hb, hml, hown, hts⟩ (c_X2_isNode l D cI cB cZ ta aP aPp aPf s.heap.size pg ps pn pp pf x1 r1 h1) ⟨va_cnB 1 hts gX6_value_X2_isNode_n96 rfl rfl rfl (hG.1 (.methodLinkNest RX6 96 yX2_isNode RX6) (by decide +kernel)) (hts (.initialized RX2) (by decide +kernel)) (by decide +kernel) ⟨(Nat.le_of_ble_eq_true rfl), (Nat.le_of_ble_eq_true rfl)⟩, hts (.instanceMethod yX2_isNode) (by decide +kernel), hts (.selects RX2 yX2_isNode yX2_isNode) (by decide +kernel)⟩ ⟨PW_blind, va_recv hK hP rfl (q0 := 3) rfl, PW_at hP hD hK hS hA hG [3, 4, 5] rfl (by decide)⟩ rfl rfl hl.1 rfl (lv_room (Nat.le_of_ble_eq_true rfl)) dX6_value_5 ⟨(Nat.le_of_ble_eq_true rfl), (Nat.le_of_ble_eq_true rfl)⟩) hP hD hS hA [3, 4, 5] [0, 1, 2, 6, 7, 8, 9, 10, 11, 12, 13, 14, 15, 16, 17, 18, 19] [0, 1, 2, 17, 18, 19, 3, 4, 5, 6, 7, 8, 9, 10, 11, 12, 13, 14, 15, 16] rfl rfl (by decide) (by decide) (by decide) rfl (fun H2 lo2 hz1 hP2 hD2 hS2 => ?_)
  clear hP hD hS
  refine lv_if_eq (tgt := 22) hx hb dX6_value_8 (by decide) (fun c3 => ?_) (fun c3 => ?_)
  · have hm4 := zz_if c3 hm1
    refine lv_ldc (v := (-1000000000 : Int32)) hx hb hown (hts (.constant RX6 130 (-1000000000)) (by decide +kernel)) dX6_value_22 ?_
    have hq1 := Option.some.inj hm4
    subst hq1
    exact W.iret hx hb hr (fun t ht hW => ⟨⟨_, (), rfl, rfl, by rw [ht]; exact hP2, va_K.moved hW.alike hK, hD2⟩, hS2.F ht⟩) hS2.2.2 dX6_value_24
  · have hm5 := zz_nf c3 hm1
    refine lv_aload_n hx hb dX6_value_11 rfl (lv_at hl 0 rfl) ?_
    refine va_get (D := D) (ci := 6) (v := .ref aP) (C := RX6) (T := TX6) (N := 6) hx hb hts iw_X6 hown hK hP2 0 rfl rfl 1 (by decide) (hts (.fieldLink RX6 19 "VarianceBridge" "plan" "LVarianceBridge$Plan;") (by decide +kernel)) (fun _ h9 => h9) rfl dX6_value_12 ?_
    refine lv_iload_n hx hb dX6_value_15 rfl (lv_at hl 2 rfl) ?_
    obtain ⟨r6, h6, hm6⟩ := ob1_e hm5
    refine gcall_b (ws' := (w_VB cI cB cZ aV aT aTb aP aPp aPf aD aDp aDf aR aRt aK aB aBb aBs aH aHk aHp aHb aHr tl tb pg ps pn pp pf dg ds dn dp df rl rk rp rt kp kb kk kn bb bs jl jn jk jp jb jr)) (va_runVN (As := [.int x2]) (rest := []) ⟨hx, hb, hml, hown, hts⟩ (c_X2_isScene l D cI cB cZ ta aP aPp aPf H2.size pg ps pn pp pf x2 r6 h6) ⟨va_cnB 1 hts gX6_value_X2_isScene_n120 rfl rfl rfl (hG.1 (.methodLinkNest RX6 120 yX2_isScene RX6) (by decide +kernel)) (hts (.initialized RX2) (by decide +kernel)) (by decide +kernel) ⟨(Nat.le_of_ble_eq_true rfl), (Nat.le_of_ble_eq_true rfl)⟩, hts (.instanceMethod yX2_isScene) (by decide +kernel), hts (.selects RX2 yX2_isScene yX2_isScene) (by decide +kernel)⟩ ⟨PW_blind, va_recv hK hP2 rfl (q0 := 3) rfl, PW_at hP2 hD2 hK hS2 hA hG [3, 4, 5] rfl (by decide)⟩ rfl rfl hl.1 rfl (lv_room (Nat.le_of_ble_eq_true rfl)) dX6_value_16 ⟨(Nat.le_of_ble_eq_true rfl), (Nat.le_of_ble_eq_true rfl)⟩) hP2 hD2 hS2 hA [3, 4, 5] [0, 1, 2, 6, 7, 8, 9, 10, 11, 12, 13, 14, 15, 16, 17, 18, 19] [0, 1, 2, 17, 18, 19, 3, 4, 5, 6, 7, 8, 9, 10, 11, 12, 13, 14, 15, 16] rfl rfl (by decide) (by decide) (by decide) rfl (fun H7 lo7 hz6 hP7 hD7 hS7 => ?_)
    clear hP2 hD2 hS2
    refine lv_if_ne (tgt := 25) hx hb dX6_value_19 (by decide) (fun c8 => ?_) (fun c8 => ?_)
    · have hm9 := zz_nf c8 hm6
      refine lv_aload_n hx hb dX6_value_25 rfl (lv_at hl 0 rfl) ?_
      refine va_get (D := D) (ci := 6) (v := .ref aP) (C := RX6) (T := TX6) (N := 6) hx hb hts iw_X6 hown hK hP7 0 rfl rfl 1 (by decide) (hts (.fieldLink RX6 19 "VarianceBridge" "plan" "LVarianceBridge$Plan;") (by decide +kernel)) (fun _ h9 => h9) rfl dX6_value_26 ?_
      refine lv_iload_n hx hb dX6_value_29 rfl (lv_at hl 1 rfl) ?_
      refine lv_iload_n hx hb dX6_value_30 rfl (lv_at hl 2 rfl) ?_
      obtain ⟨r11, h11, hm11⟩ := ob1_e hm9
      refine gcall_i (ws' := (w_VB cI cB cZ aV aT aTb aP aPp aPf aD aDp aDf aR aRt aK aB aBb aBs aH aHk aHp aHb aHr tl tb pg ps pn pp pf dg ds dn dp df rl rk rp rt kp kb kk kn bb bs jl jn jk jp jb jr)) (va_runVN (As := [.int x1, .int x2]) (rest := []) ⟨hx, hb, hml, hown, hts⟩ (c_X2_nodeValue l D cI cB cZ ta aP aPp aPf H7.size pg ps pn pp pf x1 x2 r11 h11) ⟨va_cnB 2 hts gX6_value_X2_nodeValue_n131 rfl rfl rfl (hG.1 (.methodLinkNest RX6 131 yX2_nodeValue RX6) (by decide +kernel)) (hts (.initialized RX2) (by decide +kernel)) (by decide +kernel) ⟨(Nat.le_of_ble_eq_true rfl), (Nat.le_of_ble_eq_true rfl)⟩, hts (.instanceMethod yX2_nodeValue) (by decide +kernel), hts (.selects RX2 yX2_nodeValue yX2_nodeValue) (by decide +kernel)⟩ ⟨PW_blind, va_recv hK hP7 rfl (q0 := 3) rfl, PW_at hP7 hD7 hK hS7 hA hG [3, 4, 5] rfl (by decide)⟩ rfl rfl hl.1 rfl (lv_room (Nat.le_of_ble_eq_true rfl)) dX6_value_31 ⟨(Nat.le_of_ble_eq_true rfl), (Nat.le_of_ble_eq_true rfl)⟩) hP7 hD7 hS7 hA [3, 4, 5] [0, 1, 2, 6, 7, 8, 9, 10, 11, 12, 13, 14, 15, 16, 17, 18, 19] [0, 1, 2, 17, 18, 19, 3, 4, 5, 6, 7, 8, 9, 10, 11, 12, 13, 14, 15, 16] rfl rfl (by decide) (by decide) (by decide) rfl (fun H12 lo12 hP12 hD12 hS12 => ?_)
      clear hP7 hD7 hS7
      have hq1 := Option.some.inj hm11
      subst hq1
      exact W.iret hx hb hr (fun t ht hW => ⟨⟨_, (), rfl, rfl, by rw [ht]; exact hP12, va_K.moved hW.alike hK, hD12⟩, hS12.F ht⟩) hS12.2.2 dX6_value_34
    · have hm10 := zz_if c8 hm6
      refine lv_ldc (v := (-1000000000 : Int32)) hx hb hown (hts (.constant RX6 130 (-1000000000)) (by decide +kernel)) dX6_value_22 ?_
      have hq1 := Option.some.inj hm10
      subst hq1
      exact W.iret hx hb hr (fun t ht hW => ⟨⟨_, (), rfl, rfl, by rw [ht]; exact hP7, va_K.moved hW.alike hK, hD7⟩, hS7.F ht⟩) hS7.2.2 dX6_value_24
theorem iw_X6_how_X6 : ∀ w ∈ wsX60, w ∈ wsX6_how := by decide +kernel
set_option maxHeartbeats 4000000 in
set_option maxRecDepth 100000 in
theorem c_X6_how (l : Launch) (D : va_G) (cI cB cZ : ClassId) (ta : Nat → Nat) (aV : Nat) (aT : Nat) (aTb : Nat) (aP : Nat) (aPp : Nat) (aPf : Nat) (aD : Nat) (aDp : Nat) (aDf : Nat) (aR : Nat) (aRt : Nat) (aK : Nat) (aB : Nat) (aBb : Nat) (aBs : Nat) (aH : Nat) (aHk : Nat) (aHp : Nat) (aHb : Nat) (aHr : Nat) (sz : Nat) (tl : Int32) (tb : (Nat → Int32)) (pg : Int32) (ps : Int32) (pn : Int32) (pp : (Nat → Int32)) (pf : (Nat → Int32)) (dg : Int32) (ds : Int32) (dn : Int32) (dp : (Nat → Int32)) (df : (Nat → Int32)) (rl : Int32) (rk : Int32) (rp : Int32) (rt : (Nat → Int32)) (kp : Int32) (kb : Int32) (kk : Int32) (kn : Int32) (bb : (Nat → Int32)) (bs : (Nat → Int32)) (jl : Int32) (jn : Int32) (jk : (Nat → Int32)) (jp : (Nat → Int32)) (jb : (Nat → Int32)) (jr : (Nat → Int32)) (x1 : Int32) (x2 : Int32) (x3 : Int32) (r0 : Int32) (hm : m_X6_how pg ps pn pf x1 x2 x3 = some r0) : Met l yX6_how wsX6_how ({ frames := 2, cells := 0, slots := 0, locals := 48 } : Room) (va_Pc [.ref aV, .int x1, .int x2, .int x3] (PW D cI cB cZ ta (w_VB cI cB cZ aV aT aTb aP aPp aPf aD aDp aDf aR aRt aK aB aBb aBs aH aHk aHp aHb aHr tl tb pg ps pn pp pf dg ds dn dp df rl rk rp rt kp kb kk kn bb bs jl jn jk jp jb jr) sz)) (QI D cI cB cZ (va_A (w_VB cI cB cZ aV aT aTb aP aPp aPf aD aDp aDf aR aRt aK aB aBb aBs aH aHk aHp aHb aHr tl tb pg ps pn pp pf dg ds dn dp df rl rk rp rt kp kb kk kn bb bs jl jn jk jp jb jr) sz) (w_VB cI cB cZ aV aT aTb aP aPp aPf aD aDp aDf aR aRt aK aB aBb aBs aH aHk aHp aHb aHr tl tb pg ps pn pp pf dg ds dn dp df rl rk rp rt kp kb kk kn bb bs jl jn jk jp jb jr) r0) 0 0 (va_A (w_VB cI cB cZ aV aT aTb aP aPp aPf aD aDp aDf aR aRt aK aB aBb aBs aH aHk aHp aHb aHr tl tb pg ps pn pp pf dg ds dn dp df rl rk rp rt kp kb kk kn bb bs jl jn jk jp jb jr) sz) := by
  refine Met.ofW (cc := cX6_how) (maxL := 4) (ret := (some .int)) (by decide) rfl ?_
  intro p e s m args below meth c s₁ B hml hv
  obtain ⟨rfl, hsz, hP, hK, hD0, hG⟩ := hv
  have hx := B.exec
  have hb := B.bytes
  have hr := B.returns
  have hts := atoms_spec (ws := wsX6_how) B.pre
  have hown : s.vm.findClass RX6 = some m.cls := findClass_of_methodNamed B.named
  have hlocks := B.notSynchronized
  subst hsz
  have hD := hD0.self (sz := s.heap.size)
  clear hD0
  have hA0 : ∀ q : Nat, s.heap.size ≤ q → va_A (w_VB cI cB cZ aV aT aTb aP aPp aPf aD aDp aDf aR aRt aK aB aBb aBs aH aHk aHp aHb aHr tl tb pg ps pn pp pf dg ds dn dp df rl rk rp rt kp kb kk kn bb bs jl jn jk jp jb jr) s.heap.size q := fun q h => Or.inr h
  generalize hAe : va_A (w_VB cI cB cZ aV aT aTb aP aPp aPf aD aDp aDf aR aRt aK aB aBb aBs aH aHk aHp aHb aHr tl tb pg ps pn pp pf dg ds dn dp df rl rk rp rt kp kb kk kn bb bs jl jn jk jp jb jr) s.heap.size = A at hD hG hA0 ⊢
  have hA : ∀ q : Nat, s.heap.size ≤ q → A q := hA0
  clear hA0
  have hS : va_S A s.heap s.heap [] := va_S.rf
  have iw_X6 := iw_X6_how_X6
  have hl := lv_entry ([.ref aV, .int x1, .int x2, .int x3]) (n := 4) (Nat.le_of_ble_eq_true rfl)
  rw [lg_entry_eq]
  generalize (lg_sl ([.ref aV, .int x1, .int x2, .int x3]) ++ List.replicate (4 - (lg_sl ([.ref aV, .int x1, .int x2, .int x3])).length) Slot.unset).toArray = ls at hl ⊢
  have hl : lv_has ls 4 [(0, .ref aV), (1, .int x1), (2, .int x2), (3, .int x3)] := hl
  replace hm : (ob1 (m_X2_isLeaf pg pn x1) (fun r1 => (if r1 = 0 then some (-1 : Int32) else (ob1 (m_X2_isScene ps x2) (fun r6 => (if r6 = 0 then some (-1 : Int32) else (ob1 (m_X2_isScene ps x3) (fun r11 => (if r11 = 0 then some (-1 : Int32) else (ob1 (m_X0_fateOf pf x1 x2 x3) (fun r16 => some r16))))))))))) = some r0 := hm
  refine lv_aload_n hx hb dX6_how_0 rfl (lv_at hl 0 rfl) ?_
  refine va_get (D := D) (ci := 6) (v := .ref aP) (C := RX6) (T := TX6) (N := 6) hx hb hts iw_X6 hown hK hP 0 rfl rfl 1 (by decide) (hts (.fieldLink RX6 19 "VarianceBridge" "plan" "LVarianceBridge$Plan;") (by decide +kernel)) (fun _ h9 => h9) rfl dX6_how_1 ?_
  refine lv_iload_n hx hb dX6_how_4 rfl (lv_at hl 1 rfl) ?_
  obtain ⟨r1, h1, hm1⟩ := ob1_e hm
  refine gcall_b (ws' := (w_VB cI cB cZ aV aT aTb aP aPp aPf aD aDp aDf aR aRt aK aB aBb aBs aH aHk aHp aHb aHr tl tb pg ps pn pp pf dg ds dn dp df rl rk rp rt kp kb kk kn bb bs jl jn jk jp jb jr)) (va_runVN (As := [.int x1]) (rest := []) ⟨hx, hb, hml, hown, hts⟩ (c_X2_isLeaf l D cI cB cZ ta aP aPp aPf s.heap.size pg ps pn pp pf x1 r1 h1) ⟨va_cnB 1 hts gX6_how_X2_isLeaf_n117 rfl rfl rfl (hG.1 (.methodLinkNest RX6 117 yX2_isLeaf RX6) (by decide +kernel)) (hts (.initialized RX2) (by decide +kernel)) (by decide +kernel) ⟨(Nat.le_of_ble_eq_true rfl), (Nat.le_of_ble_eq_true rfl)⟩, hts (.instanceMethod yX2_isLeaf) (by decide +kernel), hts (.selects RX2 yX2_isLeaf yX2_isLeaf) (by decide +kernel)⟩ ⟨PW_blind, va_recv hK hP rfl (q0 := 3) rfl, PW_at hP hD hK hS hA hG [3, 4, 5] rfl (by decide)⟩ rfl rfl hl.1 rfl (lv_room (Nat.le_of_ble_eq_true rfl)) dX6_how_5 ⟨(Nat.le_of_ble_eq_true rfl), (Nat.le_of_ble_eq_true rfl)⟩) hP hD hS hA [3, 4, 5] [0, 1, 2, 6, 7, 8, 9, 10, 11, 12, 13, 14, 15, 16, 17, 18, 19] [0, 1, 2, 17, 18, 19, 3, 4, 5, 6, 7, 8, 9, 10, 11, 12, 13, 14, 15, 16] rfl rfl (by decide) (by decide) (by decide) rfl (fun H2 lo2 hz1 hP2 hD2 hS2 => ?_)
  clear hP hD hS
  refine lv_if_eq (tgt := 33) hx hb dX6_how_8 (by decide) (fun c3 => ?_) (fun c3 => ?_)
  · have hm4 := zz_if c3 hm1
    refine lv_iconst (v := (-1 : Int32)) hx hb dX6_how_33 (by decide) ?_
    have hq1 := Option.some.inj hm4
    subst hq1
    exact W.iret hx hb hr (fun t ht hW => ⟨⟨_, (), rfl, rfl, by rw [ht]; exact hP2, va_K.moved hW.alike hK, hD2⟩, hS2.F ht⟩) hS2.2.2 dX6_how_34
  · have hm5 := zz_nf c3 hm1
    refine lv_aload_n hx hb dX6_how_11 rfl (lv_at hl 0 rfl) ?_
    refine va_get (D := D) (ci := 6) (v := .ref aP) (C := RX6) (T := TX6) (N := 6) hx hb hts iw_X6 hown hK hP2 0 rfl rfl 1 (by decide) (hts (.fieldLink RX6 19 "VarianceBridge" "plan" "LVarianceBridge$Plan;") (by decide +kernel)) (fun _ h9 => h9) rfl dX6_how_12 ?_
    refine lv_iload_n hx hb dX6_how_15 rfl (lv_at hl 2 rfl) ?_
    obtain ⟨r6, h6, hm6⟩ := ob1_e hm5
    refine gcall_b (ws' := (w_VB cI cB cZ aV aT aTb aP aPp aPf aD aDp aDf aR aRt aK aB aBb aBs aH aHk aHp aHb aHr tl tb pg ps pn pp pf dg ds dn dp df rl rk rp rt kp kb kk kn bb bs jl jn jk jp jb jr)) (va_runVN (As := [.int x2]) (rest := []) ⟨hx, hb, hml, hown, hts⟩ (c_X2_isScene l D cI cB cZ ta aP aPp aPf H2.size pg ps pn pp pf x2 r6 h6) ⟨va_cnB 1 hts gX6_how_X2_isScene_n120 rfl rfl rfl (hG.1 (.methodLinkNest RX6 120 yX2_isScene RX6) (by decide +kernel)) (hts (.initialized RX2) (by decide +kernel)) (by decide +kernel) ⟨(Nat.le_of_ble_eq_true rfl), (Nat.le_of_ble_eq_true rfl)⟩, hts (.instanceMethod yX2_isScene) (by decide +kernel), hts (.selects RX2 yX2_isScene yX2_isScene) (by decide +kernel)⟩ ⟨PW_blind, va_recv hK hP2 rfl (q0 := 3) rfl, PW_at hP2 hD2 hK hS2 hA hG [3, 4, 5] rfl (by decide)⟩ rfl rfl hl.1 rfl (lv_room (Nat.le_of_ble_eq_true rfl)) dX6_how_16 ⟨(Nat.le_of_ble_eq_true rfl), (Nat.le_of_ble_eq_true rfl)⟩) hP2 hD2 hS2 hA [3, 4, 5] [0, 1, 2, 6, 7, 8, 9, 10, 11, 12, 13, 14, 15, 16, 17, 18, 19] [0, 1, 2, 17, 18, 19, 3, 4, 5, 6, 7, 8, 9, 10, 11, 12, 13, 14, 15, 16] rfl rfl (by decide) (by decide) (by decide) rfl (fun H7 lo7 hz6 hP7 hD7 hS7 => ?_)
    clear hP2 hD2 hS2
    refine lv_if_eq (tgt := 33) hx hb dX6_how_19 (by decide) (fun c8 => ?_) (fun c8 => ?_)
    · have hm9 := zz_if c8 hm6
      refine lv_iconst (v := (-1 : Int32)) hx hb dX6_how_33 (by decide) ?_
      have hq1 := Option.some.inj hm9
      subst hq1
      exact W.iret hx hb hr (fun t ht hW => ⟨⟨_, (), rfl, rfl, by rw [ht]; exact hP7, va_K.moved hW.alike hK, hD7⟩, hS7.F ht⟩) hS7.2.2 dX6_how_34
    · have hm10 := zz_nf c8 hm6
      refine lv_aload_n hx hb dX6_how_22 rfl (lv_at hl 0 rfl) ?_
      refine va_get (D := D) (ci := 6) (v := .ref aP) (C := RX6) (T := TX6) (N := 6) hx hb hts iw_X6 hown hK hP7 0 rfl rfl 1 (by decide) (hts (.fieldLink RX6 19 "VarianceBridge" "plan" "LVarianceBridge$Plan;") (by decide +kernel)) (fun _ h9 => h9) rfl dX6_how_23 ?_
      refine lv_iload_n hx hb dX6_how_26 rfl (lv_at hl 3 rfl) ?_
      obtain ⟨r11, h11, hm11⟩ := ob1_e hm10
      refine gcall_b (ws' := (w_VB cI cB cZ aV aT aTb aP aPp aPf aD aDp aDf aR aRt aK aB aBb aBs aH aHk aHp aHb aHr tl tb pg ps pn pp pf dg ds dn dp df rl rk rp rt kp kb kk kn bb bs jl jn jk jp jb jr)) (va_runVN (As := [.int x3]) (rest := []) ⟨hx, hb, hml, hown, hts⟩ (c_X2_isScene l D cI cB cZ ta aP aPp aPf H7.size pg ps pn pp pf x3 r11 h11) ⟨va_cnB 1 hts gX6_how_X2_isScene_n120 rfl rfl rfl (hG.1 (.methodLinkNest RX6 120 yX2_isScene RX6) (by decide +kernel)) (hts (.initialized RX2) (by decide +kernel)) (by decide +kernel) ⟨(Nat.le_of_ble_eq_true rfl), (Nat.le_of_ble_eq_true rfl)⟩, hts (.instanceMethod yX2_isScene) (by decide +kernel), hts (.selects RX2 yX2_isScene yX2_isScene) (by decide +kernel)⟩ ⟨PW_blind, va_recv hK hP7 rfl (q0 := 3) rfl, PW_at hP7 hD7 hK hS7 hA hG [3, 4, 5] rfl (by decide)⟩ rfl rfl hl.1 rfl (lv_room (Nat.le_of_ble_eq_true rfl)) dX6_how_27 ⟨(Nat.le_of_ble_eq_true rfl), (Nat.le_of_ble_eq_true rfl)⟩) hP7 hD7 hS7 hA [3, 4, 5] [0, 1, 2, 6, 7, 8, 9, 10, 11, 12, 13, 14, 15, 16, 17, 18, 19] [0, 1, 2, 17, 18, 19, 3, 4, 5, 6, 7, 8, 9, 10, 11, 12, 13, 14, 15, 16] rfl rfl (by decide) (by decide) (by decide) rfl (fun H12 lo12 hz11 hP12 hD12 hS12 => ?_)
      clear hP7 hD7 hS7
      refine lv_if_ne (tgt := 35) hx hb dX6_how_30 (by decide) (fun c13 => ?_) (fun c13 => ?_)
      · have hm14 := zz_nf c13 hm11
        refine lv_aload_n hx hb dX6_how_35 rfl (lv_at hl 0 rfl) ?_
        refine va_get (D := D) (ci := 6) (v := .ref aB) (C := RX6) (T := TX6) (N := 6) hx hb hts iw_X6 hown hK hP12 0 rfl rfl 4 (by decide) (hts (.fieldLink RX6 40 "VarianceBridge" "bridge" "LVarianceBridge$Bridge;") (by decide +kernel)) (fun _ h9 => h9) rfl dX6_how_36 ?_
        refine lv_iload_n hx hb dX6_how_39 rfl (lv_at hl 1 rfl) ?_
        refine lv_iload_n hx hb dX6_how_40 rfl (lv_at hl 2 rfl) ?_
        refine lv_iload_n hx hb dX6_how_41 rfl (lv_at hl 3 rfl) ?_
        obtain ⟨r16, h16, hm16⟩ := ob1_e hm14
        refine gcall_i (ws' := (w_VB cI cB cZ aV aT aTb aP aPp aPf aD aDp aDf aR aRt aK aB aBb aBs aH aHk aHp aHb aHr tl tb pg ps pn pp pf dg ds dn dp df rl rk rp rt kp kb kk kn bb bs jl jn jk jp jb jr)) (va_runVN (As := [.int x1, .int x2, .int x3]) (rest := []) ⟨hx, hb, hml, hown, hts⟩ (c_X0_fateOf l D cI cB cZ ta aB aBb aBs aP aPp aPf H12.size bb bs pg ps pn pp pf x1 x2 x3 r16 h16) ⟨va_cnB 3 hts gX6_how_X0_fateOf_n135 rfl rfl rfl (hG.1 (.methodLinkNest RX6 135 yX0_fateOf RX6) (by decide +kernel)) (hts (.initialized RX0) (by decide +kernel)) (by decide +kernel) ⟨(Nat.le_of_ble_eq_true rfl), (Nat.le_of_ble_eq_true rfl)⟩, hts (.instanceMethod yX0_fateOf) (by decide +kernel), hts (.selects RX0 yX0_fateOf yX0_fateOf) (by decide +kernel)⟩ ⟨PW_blind, va_recv hK hP12 rfl (q0 := 12) rfl, PW_at hP12 hD12 hK hS12 hA hG [12, 13, 14, 3, 4, 5] rfl (by decide)⟩ rfl rfl hl.1 rfl (lv_room (Nat.le_of_ble_eq_true rfl)) dX6_how_42 ⟨(Nat.le_of_ble_eq_true rfl), (Nat.le_of_ble_eq_true rfl)⟩) hP12 hD12 hS12 hA [12, 13, 14, 3, 4, 5] [0, 1, 2, 6, 7, 8, 9, 10, 11, 15, 16, 17, 18, 19] [0, 1, 2, 17, 18, 19, 3, 4, 5, 6, 7, 8, 14, 15, 16, 9, 10, 11, 12, 13] rfl rfl (by decide) (by decide) (by decide) rfl (fun H17 lo17 hP17 hD17 hS17 => ?_)
        clear hP12 hD12 hS12
        have hq1 := Option.some.inj hm16
        subst hq1
        exact W.iret hx hb hr (fun t ht hW => ⟨⟨_, (), rfl, rfl, by rw [ht]; exact hP17, va_K.moved hW.alike hK, hD17⟩, hS17.F ht⟩) hS17.2.2 dX6_how_45
      · have hm15 := zz_if c13 hm11
        refine lv_iconst (v := (-1 : Int32)) hx hb dX6_how_33 (by decide) ?_
        have hq1 := Option.some.inj hm15
        subst hq1
        exact W.iret hx hb hr (fun t ht hW => ⟨⟨_, (), rfl, rfl, by rw [ht]; exact hP12, va_K.moved hW.alike hK, hD12⟩, hS12.F ht⟩) hS12.2.2 dX6_how_34
set_option maxHeartbeats 4000000 in
set_option maxRecDepth 100000 in
theorem c_X6_isOrder (l : Launch) (D : va_G) (cI cB cZ : ClassId) (ta : Nat → Nat) (sz : Nat) (x1 : Int32) (r0 : Int32) (hm : m_X6_isOrder x1 = some r0) : Met l yX6_isOrder wsX6_isOrder ({ frames := 0, cells := 0, slots := 0, locals := 0 } : Room) (va_Pc [.int x1] (PW D cI cB cZ ta (w_none cI cB cZ) sz)) (QZ .boolean D cI cB cZ (va_A (w_none cI cB cZ) sz) (w_none cI cB cZ) r0) 0 0 (va_A (w_none cI cB cZ) sz) := by
  refine Met.ofW (cc := cX6_isOrder) (maxL := 1) (ret := (some .boolean)) (by decide) rfl ?_
  intro p e s m args below meth c s₁ B hml hv
  obtain ⟨rfl, hsz, hP, hK, hD0, hG⟩ := hv
  have hx := B.exec
  have hb := B.bytes
  have hr := B.returns
  have hts := atoms_spec (ws := wsX6_isOrder) B.pre
  have hown : s.vm.findClass RX6 = some m.cls := findClass_of_methodNamed B.named
  have hlocks := B.notSynchronized
  subst hsz
  have hD := hD0.self (sz := s.heap.size)
  clear hD0
  have hA0 : ∀ q : Nat, s.heap.size ≤ q → va_A (w_none cI cB cZ) s.heap.size q := fun q h => Or.inr h
  generalize hAe : va_A (w_none cI cB cZ) s.heap.size = A at hD hG hA0 ⊢
  have hA : ∀ q : Nat, s.heap.size ≤ q → A q := hA0
  clear hA0
  have hS : va_S A s.heap s.heap [] := va_S.rf
  have hl := lv_entry ([.int x1]) (n := 1) (Nat.le_of_ble_eq_true rfl)
  rw [lg_entry_eq]
  generalize (lg_sl ([.int x1]) ++ List.replicate (1 - (lg_sl ([.int x1])).length) Slot.unset).toArray = ls at hl ⊢
  have hl : lv_has ls 1 [(0, .int x1)] := hl
  replace hm : (if x1 < 0 then some (0 : Int32) else (if (120 : Int32) ≤ x1 then some (0 : Int32) else some (1 : Int32))) = some r0 := hm
  refine lv_iload_n hx hb dX6_isOrder_0 rfl (lv_at hl 0 rfl) ?_
  refine lv_if_lt (tgt := 14) hx hb dX6_isOrder_1 (by decide) (fun c1 => ?_) (fun c1 => ?_)
  · have hm2 := zz_if c1 hm
    refine lv_iconst (v := (0 : Int32)) hx hb dX6_isOrder_14 (by decide) ?_
    have hq1 := Option.some.inj hm2
    subst hq1
    exact W.zret (ty := .boolean) hx hb hr (by decide) (fun t ht hW => ⟨⟨_, (), rfl, ⟨rfl, (by decide)⟩, by rw [ht]; exact hP, va_K.moved hW.alike hK, hD⟩, hS.F ht⟩) hS.2.2 dX6_isOrder_15
  · have hm3 := zz_nf c1 hm
    refine lv_iload_n hx hb dX6_isOrder_4 rfl (lv_at hl 0 rfl) ?_
    refine lv_bipush (v := (120 : Int32)) hx hb dX6_isOrder_5 (by decide) ?_
    refine lv_icmp_ge (tgt := 14) hx hb dX6_isOrder_7 (by decide) (fun c4 => ?_) (fun c4 => ?_)
    · have hm5 := zz_if c4 hm3
      refine lv_iconst (v := (0 : Int32)) hx hb dX6_isOrder_14 (by decide) ?_
      have hq1 := Option.some.inj hm5
      subst hq1
      exact W.zret (ty := .boolean) hx hb hr (by decide) (fun t ht hW => ⟨⟨_, (), rfl, ⟨rfl, (by decide)⟩, by rw [ht]; exact hP, va_K.moved hW.alike hK, hD⟩, hS.F ht⟩) hS.2.2 dX6_isOrder_15
    · have hm6 := zz_nf c4 hm3
      refine lv_iconst (v := (1 : Int32)) hx hb dX6_isOrder_10 (by decide) ?_
      refine lv_goto (tgt := 15) hx hb dX6_isOrder_11 (by decide) ?_
      have hq1 := Option.some.inj hm6
      subst hq1
      exact W.zret (ty := .boolean) hx hb hr (by decide) (fun t ht hW => ⟨⟨_, (), rfl, ⟨rfl, (by decide)⟩, by rw [ht]; exact hP, va_K.moved hW.alike hK, hD⟩, hS.F ht⟩) hS.2.2 dX6_isOrder_15
set_option maxHeartbeats 4000000 in
set_option maxRecDepth 100000 in
theorem c_X6_digitsOfOrder (l : Launch) (D : va_G) (cI cB cZ : ClassId) (ta : Nat → Nat) (sz : Nat) (x1 : Int32) (r0 : Int32) (hm : m_X6_digitsOfOrder x1 = some r0) : Met l yX6_digitsOfOrder wsX6_digitsOfOrder ({ frames := 1, cells := 0, slots := 0, locals := 25 } : Room) (va_Pc [.int x1] (PW D cI cB cZ ta (w_none cI cB cZ) sz)) (QI D cI cB cZ (va_A (w_none cI cB cZ) sz) (w_none cI cB cZ) r0) 0 0 (va_A (w_none cI cB cZ) sz) := by
  refine Met.ofW (cc := cX6_digitsOfOrder) (maxL := 5) (ret := (some .int)) (by decide) rfl ?_
  intro p e s m args below meth c s₁ B hml hv
  obtain ⟨rfl, hsz, hP, hK, hD0, hG⟩ := hv
  have hx := B.exec
  have hb := B.bytes
  have hr := B.returns
  have hts := atoms_spec (ws := wsX6_digitsOfOrder) B.pre
  have hown : s.vm.findClass RX6 = some m.cls := findClass_of_methodNamed B.named
  have hlocks := B.notSynchronized
  subst hsz
  have hD := hD0.self (sz := s.heap.size)
  clear hD0
  have hA0 : ∀ q : Nat, s.heap.size ≤ q → va_A (w_none cI cB cZ) s.heap.size q := fun q h => Or.inr h
  generalize hAe : va_A (w_none cI cB cZ) s.heap.size = A at hD hG hA0 ⊢
  have hA : ∀ q : Nat, s.heap.size ≤ q → A q := hA0
  clear hA0
  have hS : va_S A s.heap s.heap [] := va_S.rf
  have hk_6 : ∀ (n : Nat) (y0 : Int32) (y1 : Int32) (y2 : Int32) (y3 : Int32), k_X6_digitsOfOrder_6 n y0 y1 y2 y3 = some r0 → ∀ (ls : Array Slot) (H : Heap) (lo : List Loc), lv_has ls 5 [(0, .int y0), (1, .int y1), (2, .int y2), (3, .int y3)] → va_P D vwCl (w_none cI cB cZ) H → va_D A (w_none cI cB cZ) → va_S A s.heap H lo → W p l e (headSpec wsX6_digitsOfOrder ({ frames := 1, cells := 0, slots := 0, locals := 25 } : Room)).room s m (([.int x1] : List Value).toArray) below meth c H lo 0 0 (MQ below (QI D cI cB cZ A (w_none cI cB cZ) r0) (([.int x1] : List Value).toArray) s 0 0 A) (F0 m 6 ls []) := by
    intro n
    induction n with
    | zero => intro y0 y1 y2 y3 hm; exact zz_nn hm
    | succ n ih =>
      intro y0 y1 y2 y3 hm ls H lo hl hP hD hS
      replace hm := (k_X6_digitsOfOrder_6_s n y0 y1 y2 y3).symm.trans hm
      refine lv_iload_n hx hb dX6_digitsOfOrder_6 rfl (lv_at hl 3 rfl) ?_
      refine lv_iconst (v := (5 : Int32)) hx hb dX6_digitsOfOrder_7 (by decide) ?_
      refine lv_icmp_ge (tgt := 40) hx hb dX6_digitsOfOrder_8 (by decide) (fun c1 => ?_) (fun c1 => ?_)
      · have hm2 := zz_if c1 hm
        refine lv_iload_n hx hb dX6_digitsOfOrder_40 rfl (lv_at hl 1 rfl) ?_
        have hq1 := Option.some.inj hm2
        subst hq1
        exact W.iret hx hb hr (fun t ht hW => ⟨⟨_, (), rfl, rfl, by rw [ht]; exact hP, va_K.moved hW.alike hK, hD⟩, hS.F ht⟩) hS.2.2 dX6_digitsOfOrder_41
      · have hm3 := zz_nf c1 hm
        refine lv_iload_n hx hb dX6_digitsOfOrder_11 rfl (lv_at hl 0 rfl) ?_
        refine lv_iload_n hx hb dX6_digitsOfOrder_12 rfl (lv_at hl 3 rfl) ?_
        refine lv_iload_n hx hb dX6_digitsOfOrder_13 rfl (lv_at hl 2 rfl) ?_
        obtain ⟨r4, h4, hm4⟩ := ob1_e hm3
        refine gcall_i (ws' := (w_none cI cB cZ)) (va_runS (As := [.int y0, .int y3, .int y2]) (rest := []) ⟨hx, hb, hml, hown, hts⟩ (c_X6_factorAt l D cI cB cZ ta H.size y0 y3 y2 r4 h4) (va_cwS 3 hts gX6_digitsOfOrder_X6_factorAt rfl rfl rfl (by decide +kernel) ⟨(Nat.le_of_ble_eq_true rfl), (Nat.le_of_ble_eq_true rfl)⟩) ⟨PW_blind, PW_at hP hD hK hS hA hG [] rfl (by decide)⟩ rfl rfl hl.1 rfl (lv_room (Nat.le_of_ble_eq_true rfl)) dX6_digitsOfOrder_14 ⟨(Nat.le_of_ble_eq_true rfl), (Nat.le_of_ble_eq_true rfl)⟩) hP hD hS hA [] [] [] rfl rfl (by decide) (by decide) (by decide) rfl (fun H5 lo5 hP5 hD5 hS5 => ?_)
        clear hP hD hS
        refine lv_istore (lv' := [(4, .int r4), (0, .int y0), (1, .int y1), (2, .int y2), (3, .int y3)]) hx hb dX6_digitsOfOrder_17 hl (by decide) rfl (fun ls6 hl6 => ?_)
        refine lv_iload_n hx hb dX6_digitsOfOrder_19 rfl (lv_at hl6 2 rfl) ?_
        refine lv_bipush (v := (10 : Int32)) hx hb dX6_digitsOfOrder_20 (by decide) ?_
        refine lv_imul hx hb dX6_digitsOfOrder_22 ?_
        refine lv_iload hx hb dX6_digitsOfOrder_23 (lv_at hl6 0 rfl) ?_
        refine lv_iadd hx hb dX6_digitsOfOrder_25 ?_
        refine lv_istore_n (lv' := [(1, .int ((y1 * (10 : Int32)) + r4)), (4, .int r4), (0, .int y0), (2, .int y2), (3, .int y3)]) hx hb dX6_digitsOfOrder_26 rfl hl6 (by decide) rfl (fun ls7 hl7 => ?_)
        refine lv_iload_n hx hb dX6_digitsOfOrder_27 rfl (lv_at hl7 3 rfl) ?_
        refine lv_iconst (v := (1 : Int32)) hx hb dX6_digitsOfOrder_28 (by decide) ?_
        refine lv_iload hx hb dX6_digitsOfOrder_29 (lv_at hl7 1 rfl) ?_
        refine lv_ishl hx hb dX6_digitsOfOrder_31 ?_
        refine lv_ior hx hb dX6_digitsOfOrder_32 ?_
        refine lv_istore_n (lv' := [(2, .int (y2 ||| ((1 : Int32) <<< (r4 &&& 31)))), (1, .int ((y1 * (10 : Int32)) + r4)), (4, .int r4), (0, .int y0), (3, .int y3)]) hx hb dX6_digitsOfOrder_33 rfl hl7 (by decide) rfl (fun ls8 hl8 => ?_)
        refine lv_iinc (v := (y3 + (1 : Int32))) (lv' := [(3, .int (y3 + (1 : Int32))), (2, .int (y2 ||| ((1 : Int32) <<< (r4 &&& 31)))), (1, .int ((y1 * (10 : Int32)) + r4)), (4, .int r4), (0, .int y0)]) hx hb dX6_digitsOfOrder_34 hl8 (k := 4) rfl (by rfl) (by decide) rfl (fun ls9 hl9 => ?_)
        refine lv_goto (tgt := 6) hx hb dX6_digitsOfOrder_37 (by decide) ?_
        exact ih y0 ((y1 * (10 : Int32)) + r4) (y2 ||| ((1 : Int32) <<< (r4 &&& 31))) (y3 + (1 : Int32)) hm4 ls9 H5 lo5 (lv_sub hl9 [4, 2, 1, 0] rfl) hP5 hD5 hS5
  have hl := lv_entry ([.int x1]) (n := 5) (Nat.le_of_ble_eq_true rfl)
  rw [lg_entry_eq]
  generalize (lg_sl ([.int x1]) ++ List.replicate (5 - (lg_sl ([.int x1])).length) Slot.unset).toArray = ls at hl ⊢
  have hl : lv_has ls 5 [(0, .int x1)] := hl
  replace hm : (k_X6_digitsOfOrder_6 FU x1 (0 : Int32) (0 : Int32) (0 : Int32)) = some r0 := hm
  refine lv_iconst (v := (0 : Int32)) hx hb dX6_digitsOfOrder_0 (by decide) ?_
  refine lv_istore_n (lv' := [(1, .int (0 : Int32)), (0, .int x1)]) hx hb dX6_digitsOfOrder_1 rfl hl (by decide) rfl (fun ls10 hl10 => ?_)
  refine lv_iconst (v := (0 : Int32)) hx hb dX6_digitsOfOrder_2 (by decide) ?_
  refine lv_istore_n (lv' := [(2, .int (0 : Int32)), (1, .int (0 : Int32)), (0, .int x1)]) hx hb dX6_digitsOfOrder_3 rfl hl10 (by decide) rfl (fun ls11 hl11 => ?_)
  refine lv_iconst (v := (0 : Int32)) hx hb dX6_digitsOfOrder_4 (by decide) ?_
  refine lv_istore_n (lv' := [(3, .int (0 : Int32)), (2, .int (0 : Int32)), (1, .int (0 : Int32)), (0, .int x1)]) hx hb dX6_digitsOfOrder_5 rfl hl11 (by decide) rfl (fun ls12 hl12 => ?_)
  exact hk_6 FU x1 (0 : Int32) (0 : Int32) (0 : Int32) hm ls12 s.heap [] (lv_sub hl12 [3, 2, 1, 0] rfl) hP hD hS
set_option maxHeartbeats 4000000 in
set_option maxRecDepth 100000 in
theorem c_X6_order (l : Launch) (D : va_G) (cI cB cZ : ClassId) (ta : Nat → Nat) (aV : Nat) (aT : Nat) (aTb : Nat) (aP : Nat) (aPp : Nat) (aPf : Nat) (aD : Nat) (aDp : Nat) (aDf : Nat) (aR : Nat) (aRt : Nat) (aK : Nat) (aB : Nat) (aBb : Nat) (aBs : Nat) (aH : Nat) (aHk : Nat) (aHp : Nat) (aHb : Nat) (aHr : Nat) (sz : Nat) (tl : Int32) (tb : (Nat → Int32)) (pg : Int32) (ps : Int32) (pn : Int32) (pp : (Nat → Int32)) (pf : (Nat → Int32)) (dg : Int32) (ds : Int32) (dn : Int32) (dp : (Nat → Int32)) (df : (Nat → Int32)) (rl : Int32) (rk : Int32) (rp : Int32) (rt : (Nat → Int32)) (kp : Int32) (kb : Int32) (kk : Int32) (kn : Int32) (bb : (Nat → Int32)) (bs : (Nat → Int32)) (jl : Int32) (jn : Int32) (jk : (Nat → Int32)) (jp : (Nat → Int32)) (jb : (Nat → Int32)) (jr : (Nat → Int32)) (x1 : Int32) (r0 : Int32) (hm : m_X6_order x1 = some r0) : Met l yX6_order wsX6_order ({ frames := 2, cells := 0, slots := 0, locals := 49 } : Room) (va_Pc [.ref aV, .int x1] (PW D cI cB cZ ta (w_VB cI cB cZ aV aT aTb aP aPp aPf aD aDp aDf aR aRt aK aB aBb aBs aH aHk aHp aHb aHr tl tb pg ps pn pp pf dg ds dn dp df rl rk rp rt kp kb kk kn bb bs jl jn jk jp jb jr) sz)) (QI D cI cB cZ (va_A (w_VB cI cB cZ aV aT aTb aP aPp aPf aD aDp aDf aR aRt aK aB aBb aBs aH aHk aHp aHb aHr tl tb pg ps pn pp pf dg ds dn dp df rl rk rp rt kp kb kk kn bb bs jl jn jk jp jb jr) sz) (w_VB cI cB cZ aV aT aTb aP aPp aPf aD aDp aDf aR aRt aK aB aBb aBs aH aHk aHp aHb aHr tl tb pg ps pn pp pf dg ds dn dp df rl rk rp rt kp kb kk kn bb bs jl jn jk jp jb jr) r0) 0 0 (va_A (w_VB cI cB cZ aV aT aTb aP aPp aPf aD aDp aDf aR aRt aK aB aBb aBs aH aHk aHp aHb aHr tl tb pg ps pn pp pf dg ds dn dp df rl rk rp rt kp kb kk kn bb bs jl jn jk jp jb jr) sz) := by
  refine Met.ofW (cc := cX6_order) (maxL := 2) (ret := (some .int)) (by decide) rfl ?_
  intro p e s m args below meth c s₁ B hml hv
  obtain ⟨rfl, hsz, hP, hK, hD0, hG⟩ := hv
  have hx := B.exec
  have hb := B.bytes
  have hr := B.returns
  have hts := atoms_spec (ws := wsX6_order) B.pre
  have hown : s.vm.findClass RX6 = some m.cls := findClass_of_methodNamed B.named
  have hlocks := B.notSynchronized
  subst hsz
  have hD := hD0.self (sz := s.heap.size)
  clear hD0
  have hA0 : ∀ q : Nat, s.heap.size ≤ q → va_A (w_VB cI cB cZ aV aT aTb aP aPp aPf aD aDp aDf aR aRt aK aB aBb aBs aH aHk aHp aHb aHr tl tb pg ps pn pp pf dg ds dn dp df rl rk rp rt kp kb kk kn bb bs jl jn jk jp jb jr) s.heap.size q := fun q h => Or.inr h
  generalize hAe : va_A (w_VB cI cB cZ aV aT aTb aP aPp aPf aD aDp aDf aR aRt aK aB aBb aBs aH aHk aHp aHb aHr tl tb pg ps pn pp pf dg ds dn dp df rl rk rp rt kp kb kk kn bb bs jl jn jk jp jb jr) s.heap.size = A at hD hG hA0 ⊢
  have hA : ∀ q : Nat, s.heap.size ≤ q → A q := hA0
  clear hA0
  have hS : va_S A s.heap s.heap [] := va_S.rf
  have hl := lv_entry ([.ref aV, .int x1]) (n := 2) (Nat.le_of_ble_eq_true rfl)
  rw [lg_entry_eq]
  generalize (lg_sl ([.ref aV, .int x1]) ++ List.replicate (2 - (lg_sl ([.ref aV, .int x1])).length) Slot.unset).toArray = ls at hl ⊢
  have hl : lv_has ls 2 [(0, .ref aV), (1, .int x1)] := hl
  replace hm : (ob1 (m_X6_isOrder x1) (fun r1 => (if r1 = 0 then some (-1 : Int32) else (ob1 (m_X6_digitsOfOrder x1) (fun r6 => some r6))))) = some r0 := hm
  refine lv_iload_n hx hb dX6_order_0 rfl (lv_at hl 1 rfl) ?_
  obtain ⟨r1, h1, hm1⟩ := ob1_e hm
  refine gcall_b (ws' := (w_VB cI cB cZ aV aT aTb aP aPp aPf aD aDp aDf aR aRt aK aB aBb aBs aH aHk aHp aHb aHr tl tb pg ps pn pp pf dg ds dn dp df rl rk rp rt kp kb kk kn bb bs jl jn jk jp jb jr)) (va_runS (As := [.int x1]) (rest := []) ⟨hx, hb, hml, hown, hts⟩ (c_X6_isOrder l D cI cB cZ ta s.heap.size x1 r1 h1) (va_cwS 1 hts gX6_order_X6_isOrder rfl rfl rfl (by decide +kernel) ⟨(Nat.le_of_ble_eq_true rfl), (Nat.le_of_ble_eq_true rfl)⟩) ⟨PW_blind, PW_at hP hD hK hS hA hG [] rfl (by decide)⟩ rfl rfl hl.1 rfl (lv_room (Nat.le_of_ble_eq_true rfl)) dX6_order_1 ⟨(Nat.le_of_ble_eq_true rfl), (Nat.le_of_ble_eq_true rfl)⟩) hP hD hS hA [] [0, 1, 2, 3, 4, 5, 6, 7, 8, 9, 10, 11, 12, 13, 14, 15, 16, 17, 18, 19] [0, 1, 2, 3, 4, 5, 6, 7, 8, 9, 10, 11, 12, 13, 14, 15, 16, 17, 18, 19] rfl rfl (by decide) (by decide) (by decide) rfl (fun H2 lo2 hz1 hP2 hD2 hS2 => ?_)
  clear hP hD hS
  refine lv_if_ne (tgt := 9) hx hb dX6_order_4 (by decide) (fun c3 => ?_) (fun c3 => ?_)
  · have hm4 := zz_nf c3 hm1
    refine lv_iload_n hx hb dX6_order_9 rfl (lv_at hl 1 rfl) ?_
    obtain ⟨r6, h6, hm6⟩ := ob1_e hm4
    refine gcall_i (ws' := (w_VB cI cB cZ aV aT aTb aP aPp aPf aD aDp aDf aR aRt aK aB aBb aBs aH aHk aHp aHb aHr tl tb pg ps pn pp pf dg ds dn dp df rl rk rp rt kp kb kk kn bb bs jl jn jk jp jb jr)) (va_runS (As := [.int x1]) (rest := []) ⟨hx, hb, hml, hown, hts⟩ (c_X6_digitsOfOrder l D cI cB cZ ta H2.size x1 r6 h6) (va_cwS 1 hts gX6_order_X6_digitsOfOrder rfl rfl rfl (by decide +kernel) ⟨(Nat.le_of_ble_eq_true rfl), (Nat.le_of_ble_eq_true rfl)⟩) ⟨PW_blind, PW_at hP2 hD2 hK hS2 hA hG [] rfl (by decide)⟩ rfl rfl hl.1 rfl (lv_room (Nat.le_of_ble_eq_true rfl)) dX6_order_10 ⟨(Nat.le_of_ble_eq_true rfl), (Nat.le_of_ble_eq_true rfl)⟩) hP2 hD2 hS2 hA [] [0, 1, 2, 3, 4, 5, 6, 7, 8, 9, 10, 11, 12, 13, 14, 15, 16, 17, 18, 19] [0, 1, 2, 3, 4, 5, 6, 7, 8, 9, 10, 11, 12, 13, 14, 15, 16, 17, 18, 19] rfl rfl (by decide) (by decide) (by decide) rfl (fun H7 lo7 hP7 hD7 hS7 => ?_)
    clear hP2 hD2 hS2
    have hq1 := Option.some.inj hm6
    subst hq1
    exact W.iret hx hb hr (fun t ht hW => ⟨⟨_, (), rfl, rfl, by rw [ht]; exact hP7, va_K.moved hW.alike hK, hD7⟩, hS7.F ht⟩) hS7.2.2 dX6_order_13
  · have hm5 := zz_if c3 hm1
    refine lv_iconst (v := (-1 : Int32)) hx hb dX6_order_7 (by decide) ?_
    have hq1 := Option.some.inj hm5
    subst hq1
    exact W.iret hx hb hr (fun t ht hW => ⟨⟨_, (), rfl, rfl, by rw [ht]; exact hP2, va_K.moved hW.alike hK, hD2⟩, hS2.F ht⟩) hS2.2.2 dX6_order_8
