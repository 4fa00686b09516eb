set_option maxHeartbeats 4000000 in
set_option maxRecDepth 100000 in
theorem c_X7_readLine (l : Launch) (D : va_G) (cI cB cZ : ClassId) (ta : Nat → Nat) (aM : Nat) (aMt : Nat) (aMn : Nat) (aMr : Nat) (aMs : Nat) (aMi : Nat) (sz : Nat) (mth : Int32) (mtd : Int32) (msz : Int32) (mto : Int32) (mfr : Int32) (mso : Int32) (mnu : Int32) (mfa : Int32) (mpl : Int32) (mwo : Int64) (msm : Int32) (mgo : Int32) (mt : (Nat → Int32)) (mno : (Nat → Int32)) (mre : (Nat → Int32)) (msn : (Nat → Int32)) (mis : (Nat → Int32)) (r0 : Int32) (u_mto : Int32) (u_mfr : Int32) (u_mso : Int32) (u_mnu : Int32) (u_mfa : Int32) (u_mpl : Int32) (u_mwo : Int64) (u_mgo : Int32) (u_mre : (Nat → Int32)) (u_mis : (Nat → Int32)) (hm : m_X7_readLine msz mto mfr mso mnu mfa mpl mwo mgo mt mre mis = some (r0, u_mto, u_mfr, u_mso, u_mnu, u_mfa, u_mpl, u_mwo, u_mgo, u_mre, u_mis)) : Met l yX7_readLine wsX7_readLine ({ frames := 4, cells := 0, slots := 0, locals := 90 } : Room) (va_Pc [.ref aM] (PW D cI cB cZ ta (w_Model cI cB cZ aM aMt aMn aMr aMs aMi mth mtd msz mto mfr mso mnu mfa mpl mwo msm mgo mt mno mre msn mis) sz)) (QZ .boolean D cI cB cZ (va_A (w_Model cI cB cZ aM aMt aMn aMr aMs aMi mth mtd msz mto mfr mso mnu mfa mpl mwo msm mgo mt mno mre msn mis) sz) (w_Model cI cB cZ aM aMt aMn aMr aMs aMi mth mtd msz u_mto u_mfr u_mso u_mnu u_mfa u_mpl u_mwo msm u_mgo mt mno u_mre msn u_mis) r0) 0 0 (va_A (w_Model cI cB cZ aM aMt aMn aMr aMs aMi mth mtd msz mto mfr mso mnu mfa mpl mwo msm mgo mt mno mre msn mis) sz) := by
  refine Met.ofW (cc := cX7_readLine) (maxL := 1) (ret := (some .boolean)) (by decide) rfl ?_
  intro p e s m args below meth c s₁ B hml hv
  obtain ⟨rfl, hsz, hP, hK, hD0, hG⟩ := hv
  have hx := B.exec
  have hb := B.bytes
  have hr := B.returns
  have hts := atoms_spec (ws := wsX7_readLine) B.pre
  have hown : s.vm.findClass RX7 = some m.cls := findClass_of_methodNamed B.named
  have hlocks := B.notSynchronized
  subst hsz
  have hD := hD0.self (sz := s.heap.size)
  clear hD0
  have hA0 : ∀ q : Nat, s.heap.size ≤ q → va_A (w_Model cI cB cZ aM aMt aMn aMr aMs aMi mth mtd msz mto mfr mso mnu mfa mpl mwo msm mgo mt mno mre msn mis) s.heap.size q := fun q h => Or.inr h
  generalize hAe : va_A (w_Model cI cB cZ aM aMt aMn aMr aMs aMi mth mtd msz mto mfr mso mnu mfa mpl mwo msm mgo mt mno mre msn mis) s.heap.size = A at hD hG hA0 ⊢
  have hA : ∀ q : Nat, s.heap.size ≤ q → A q := hA0
  clear hA0
  have hS : va_S A s.heap s.heap [] := va_S.rf
  have hl := lv_entry ([.ref aM]) (n := 1) (Nat.le_of_ble_eq_true rfl)
  rw [lg_entry_eq]
  generalize (lg_sl ([.ref aM]) ++ List.replicate (1 - (lg_sl ([.ref aM])).length) Slot.unset).toArray = ls at hl ⊢
  have hl : lv_has ls 1 [(0, .ref aM)] := hl
  replace hm : (ob1 (m_X7_three (103 : Int32) (114 : Int32) (111 : Int32)) (fun r1 => (ob1 (m_X7_isWord mso mwo ((((729 : Int64) * r1) + (567 : Int64)) + (16 : Int64))) (fun r3 => (if r3 = 0 then (ob1 (m_X7_three (108 : Int32) (105 : Int32) (110 : Int32)) (fun r8 => (ob1 (m_X7_isWord mso mwo (((27 : Int64) * r8) + (5 : Int64))) (fun r10 => (if r10 = 0 then (ob1 (m_X7_three (115 : Int32) (101 : Int32) (116 : Int32)) (fun r15 => (ob1 (m_X7_isWord mso mwo r15) (fun r17 => (if r17 = 0 then (ob3 (m_X7_bad mfr mso mfa mpl (1 : Int32)) (fun r22 mfa_22 mpl_22 => some (r22, mto, mfr, mso, mnu, mfa_22, mpl_22, mwo, mgo, mre, mis))) else (ob11 (m_X7_readSet msz mto mfr mso mnu mfa mpl mwo mgo mt mre mis) (fun r24 mto_24 mfr_24 mso_24 mnu_24 mfa_24 mpl_24 mwo_24 mgo_24 mre_24 mis_24 => some (r24, mto_24, mfr_24, mso_24, mnu_24, mfa_24, mpl_24, mwo_24, mgo_24, mre_24, mis_24)))))))) else (ob9 (m_X7_readNode msz mto mfr mso mnu mfa mpl mwo mt mre (0 : Int32)) (fun r26 mto_26 mfr_26 mso_26 mnu_26 mfa_26 mpl_26 mwo_26 mre_26 => some (r26, mto_26, mfr_26, mso_26, mnu_26, mfa_26, mpl_26, mwo_26, mgo, mre_26, mis)))))))) else (ob9 (m_X7_readNode msz mto mfr mso mnu mfa mpl mwo mt mre (1 : Int32)) (fun r28 mto_28 mfr_28 mso_28 mnu_28 mfa_28 mpl_28 mwo_28 mre_28 => some (r28, mto_28, mfr_28, mso_28, mnu_28, mfa_28, mpl_28, mwo_28, mgo, mre_28, mis)))))))) = some (r0, u_mto, u_mfr, u_mso, u_mnu, u_mfa, u_mpl, u_mwo, u_mgo, u_mre, u_mis) := hm
  refine lv_aload_n hx hb dX7_readLine_0 rfl (lv_at hl 0 rfl) ?_
  refine lv_ldc2 (v := (729 : Int64)) hx hb hown (hts (.constantLong RX7 116 (729)) (by decide +kernel)) dX7_readLine_1 ?_
  refine lv_bipush (v := (103 : Int32)) hx hb dX7_readLine_4 (by decide) ?_
  refine lv_bipush (v := (114 : Int32)) hx hb dX7_readLine_6 (by decide) ?_
  refine lv_bipush (v := (111 : Int32)) hx hb dX7_readLine_8 (by decide) ?_
  obtain ⟨r1, h1, hm1⟩ := ob1_e hm
  refine gcall_l (ws' := (w_Model cI cB cZ aM aMt aMn aMr aMs aMi mth mtd msz mto mfr mso mnu mfa mpl mwo msm mgo mt mno mre msn mis)) (va_runS (As := [.int (103 : Int32), .int (114 : Int32), .int (111 : Int32)]) (rest := [.long (729 : Int64), .ref aM]) ⟨hx, hb, hml, hown, hts⟩ (c_X7_three l D cI cB cZ ta s.heap.size (103 : Int32) (114 : Int32) (111 : Int32) r1 h1) (va_cwS 3 hts gX7_readLine_X7_three rfl rfl rfl (by decide +kernel) ⟨(Nat.le_of_ble_eq_true rfl), (Nat.le_of_ble_eq_true rfl)⟩) ⟨PW_blind, PW_at hP hD hK hS hA hG [] rfl (by decide)⟩ rfl rfl hl.1 rfl (lv_room (Nat.le_of_ble_eq_true rfl)) dX7_readLine_10 ⟨(Nat.le_of_ble_eq_true rfl), (Nat.le_of_ble_eq_true rfl)⟩) hP hD hS hA [] [0, 1, 2, 3, 4, 5] [0, 1, 2, 3, 4, 5] rfl rfl (by decide) (by decide) (by decide) rfl (fun H2 lo2 hP2 hD2 hS2 => ?_)
  clear hP hD hS
  refine lv_lmul hx hb dX7_readLine_13 ?_
  refine lv_ldc2 (v := (567 : Int64)) hx hb hown (hts (.constantLong RX7 122 (567)) (by decide +kernel)) dX7_readLine_14 ?_
  refine lv_ladd hx hb dX7_readLine_17 ?_
  refine lv_ldc2 (v := (16 : Int64)) hx hb hown (hts (.constantLong RX7 124 (16)) (by decide +kernel)) dX7_readLine_18 ?_
  refine lv_ladd hx hb dX7_readLine_21 ?_
  obtain ⟨r3, h3, hm3⟩ := ob1_e hm1
  refine gcall_b (ws' := (w_Model cI cB cZ aM aMt aMn aMr aMs aMi mth mtd msz mto mfr mso mnu mfa mpl mwo msm mgo mt mno mre msn mis)) (va_runV (As := [.long ((((729 : Int64) * r1) + (567 : Int64)) + (16 : Int64))]) (rest := []) ⟨hx, hb, hml, hown, hts⟩ (c_X7_isWord l D cI cB cZ ta aM aMt aMn aMr aMs aMi H2.size mth mtd msz mto mfr mso mnu mfa mpl mwo msm mgo mt mno mre msn mis ((((729 : Int64) * r1) + (567 : Int64)) + (16 : Int64)) r3 h3) (cwV 1 hts gX7_readLine_X7_isWord rfl rfl rfl (by decide +kernel) ⟨(Nat.le_of_ble_eq_true rfl), (Nat.le_of_ble_eq_true rfl)⟩) ⟨PW_blind, va_recv hK hP2 rfl (q0 := 0) rfl, PW_at hP2 hD2 hK hS2 hA hG [0, 1, 2, 3, 4, 5] rfl (by decide)⟩ rfl rfl hl.1 rfl (lv_room (Nat.le_of_ble_eq_true rfl)) dX7_readLine_22 ⟨(Nat.le_of_ble_eq_true rfl), (Nat.le_of_ble_eq_true rfl)⟩) hP2 hD2 hS2 hA [0, 1, 2, 3, 4, 5] [] [0, 1, 2, 3, 4, 5] rfl rfl (by decide) (by decide) (by decide) rfl (fun H4 lo4 hz3 hP4 hD4 hS4 => ?_)
  clear hP2 hD2 hS2
  refine lv_if_eq (tgt := 34) hx hb dX7_readLine_25 (by decide) (fun c5 => ?_) (fun c5 => ?_)
  · have hm6 := zz_if c5 hm3
    refine lv_aload_n hx hb dX7_readLine_34 rfl (lv_at hl 0 rfl) ?_
    refine lv_ldc2 (v := (27 : Int64)) hx hb hown (hts (.constantLong RX7 48 (27)) (by decide +kernel)) dX7_readLine_35 ?_
    refine lv_bipush (v := (108 : Int32)) hx hb dX7_readLine_38 (by decide) ?_
    refine lv_bipush (v := (105 : Int32)) hx hb dX7_readLine_40 (by decide) ?_
    refine lv_bipush (v := (110 : Int32)) hx hb dX7_readLine_42 (by decide) ?_
    obtain ⟨r8, h8, hm8⟩ := ob1_e hm6
    refine gcall_l (ws' := (w_Model cI cB cZ aM aMt aMn aMr aMs aMi mth mtd msz mto mfr mso mnu mfa mpl mwo msm mgo mt mno mre msn mis)) (va_runS (As := [.int (108 : Int32), .int (105 : Int32), .int (110 : Int32)]) (rest := [.long (27 : Int64), .ref aM]) ⟨hx, hb, hml, hown, hts⟩ (c_X7_three l D cI cB cZ ta H4.size (108 : Int32) (105 : Int32) (110 : Int32) r8 h8) (va_cwS 3 hts gX7_readLine_X7_three rfl rfl rfl (by decide +kernel) ⟨(Nat.le_of_ble_eq_true rfl), (Nat.le_of_ble_eq_true rfl)⟩) ⟨PW_blind, PW_at hP4 hD4 hK hS4 hA hG [] rfl (by decide)⟩ rfl rfl hl.1 rfl (lv_room (Nat.le_of_ble_eq_true rfl)) dX7_readLine_44 ⟨(Nat.le_of_ble_eq_true rfl), (Nat.le_of_ble_eq_true rfl)⟩) hP4 hD4 hS4 hA [] [0, 1, 2, 3, 4, 5] [0, 1, 2, 3, 4, 5] rfl rfl (by decide) (by decide) (by decide) rfl (fun H9 lo9 hP9 hD9 hS9 => ?_)
    clear hP4 hD4 hS4
    refine lv_lmul hx hb dX7_readLine_47 ?_
    refine lv_ldc2 (v := (5 : Int64)) hx hb hown (hts (.constantLong RX7 134 (5)) (by decide +kernel)) dX7_readLine_48 ?_
    refine lv_ladd hx hb dX7_readLine_51 ?_
    obtain ⟨r10, h10, hm10⟩ := ob1_e hm8
    refine gcall_b (ws' := (w_Model cI cB cZ aM aMt aMn aMr aMs aMi mth mtd msz mto mfr mso mnu mfa mpl mwo msm mgo mt mno mre msn mis)) (va_runV (As := [.long (((27 : Int64) * r8) + (5 : Int64))]) (rest := []) ⟨hx, hb, hml, hown, hts⟩ (c_X7_isWord l D cI cB cZ ta aM aMt aMn aMr aMs aMi H9.size mth mtd msz mto mfr mso mnu mfa mpl mwo msm mgo mt mno mre msn mis (((27 : Int64) * r8) + (5 : Int64)) r10 h10) (cwV 1 hts gX7_readLine_X7_isWord rfl rfl rfl (by decide +kernel) ⟨(Nat.le_of_ble_eq_true rfl), (Nat.le_of_ble_eq_true rfl)⟩) ⟨PW_blind, va_recv hK hP9 rfl (q0 := 0) rfl, PW_at hP9 hD9 hK hS9 hA hG [0, 1, 2, 3, 4, 5] rfl (by decide)⟩ rfl rfl hl.1 rfl (lv_room (Nat.le_of_ble_eq_true rfl)) dX7_readLine_52 ⟨(Nat.le_of_ble_eq_true rfl), (Nat.le_of_ble_eq_true rfl)⟩) hP9 hD9 hS9 hA [0, 1, 2, 3, 4, 5] [] [0, 1, 2, 3, 4, 5] rfl rfl (by decide) (by decide) (by decide) rfl (fun H11 lo11 hz10 hP11 hD11 hS11 => ?_)
    clear hP9 hD9 hS9
    refine lv_if_eq (tgt := 64) hx hb dX7_readLine_55 (by decide) (fun c12 => ?_) (fun c12 => ?_)
    · have hm13 := zz_if c12 hm10
      refine lv_aload_n hx hb dX7_readLine_64 rfl (lv_at hl 0 rfl) ?_
      refine lv_bipush (v := (115 : Int32)) hx hb dX7_readLine_65 (by decide) ?_
      refine lv_bipush (v := (101 : Int32)) hx hb dX7_readLine_67 (by decide) ?_
      refine lv_bipush (v := (116 : Int32)) hx hb dX7_readLine_69 (by decide) ?_
      obtain ⟨r15, h15, hm15⟩ := ob1_e hm13
      refine gcall_l (ws' := (w_Model cI cB cZ aM aMt aMn aMr aMs aMi mth mtd msz mto mfr mso mnu mfa mpl mwo msm mgo mt mno mre msn mis)) (va_runS (As := [.int (115 : Int32), .int (101 : Int32), .int (116 : Int32)]) (rest := [.ref aM]) ⟨hx, hb, hml, hown, hts⟩ (c_X7_three l D cI cB cZ ta H11.size (115 : Int32) (101 : Int32) (116 : Int32) r15 h15) (va_cwS 3 hts gX7_readLine_X7_three rfl rfl rfl (by decide +kernel) ⟨(Nat.le_of_ble_eq_true rfl), (Nat.le_of_ble_eq_true rfl)⟩) ⟨PW_blind, PW_at hP11 hD11 hK hS11 hA hG [] rfl (by decide)⟩ rfl rfl hl.1 rfl (lv_room (Nat.le_of_ble_eq_true rfl)) dX7_readLine_71 ⟨(Nat.le_of_ble_eq_true rfl), (Nat.le_of_ble_eq_true rfl)⟩) hP11 hD11 hS11 hA [] [0, 1, 2, 3, 4, 5] [0, 1, 2, 3, 4, 5] rfl rfl (by decide) (by decide) (by decide) rfl (fun H16 lo16 hP16 hD16 hS16 => ?_)
      clear hP11 hD11 hS11
      obtain ⟨r17, h17, hm17⟩ := ob1_e hm15
      refine gcall_b (ws' := (w_Model cI cB cZ aM aMt aMn aMr aMs aMi mth mtd msz mto mfr mso mnu mfa mpl mwo msm mgo mt mno mre msn mis)) (va_runV (As := [.long r15]) (rest := []) ⟨hx, hb, hml, hown, hts⟩ (c_X7_isWord l D cI cB cZ ta aM aMt aMn aMr aMs aMi H16.size mth mtd msz mto mfr mso mnu mfa mpl mwo msm mgo mt mno mre msn mis r15 r17 h17) (cwV 1 hts gX7_readLine_X7_isWord rfl rfl rfl (by decide +kernel) ⟨(Nat.le_of_ble_eq_true rfl), (Nat.le_of_ble_eq_true rfl)⟩) ⟨PW_blind, va_recv hK hP16 rfl (q0 := 0) rfl, PW_at hP16 hD16 hK hS16 hA hG [0, 1, 2, 3, 4, 5] rfl (by decide)⟩ rfl rfl hl.1 rfl (lv_room (Nat.le_of_ble_eq_true rfl)) dX7_readLine_74 ⟨(Nat.le_of_ble_eq_true rfl), (Nat.le_of_ble_eq_true rfl)⟩) hP16 hD16 hS16 hA [0, 1, 2, 3, 4, 5] [] [0, 1, 2, 3, 4, 5] rfl rfl (by decide) (by decide) (by decide) rfl (fun H18 lo18 hz17 hP18 hD18 hS18 => ?_)
      clear hP16 hD16 hS16
      refine lv_if_eq (tgt := 87) hx hb dX7_readLine_77 (by decide) (fun c19 => ?_) (fun c19 => ?_)
      · have hm20 := zz_if c19 hm17
        refine lv_aload_n hx hb dX7_readLine_87 rfl (lv_at hl 0 rfl) ?_
        refine lv_iconst (v := (1 : Int32)) hx hb dX7_readLine_88 (by decide) ?_
        obtain ⟨r22, mfa_22, mpl_22, h22, hm22⟩ := ob3_e hm20
        refine gcall_b (ws' := (w_Model cI cB cZ aM aMt aMn aMr aMs aMi mth mtd msz mto mfr mso mnu mfa_22 mpl_22 mwo msm mgo mt mno mre msn mis)) (va_runV (As := [.int (1 : Int32)]) (rest := []) ⟨hx, hb, hml, hown, hts⟩ (c_X7_bad l D cI cB cZ ta aM aMt aMn aMr aMs aMi H18.size mth mtd msz mto mfr mso mnu mfa mpl mwo msm mgo mt mno mre msn mis (1 : Int32) r22 mfa_22 mpl_22 h22) (cwV 1 hts gX7_readLine_X7_bad rfl rfl rfl (by decide +kernel) ⟨(Nat.le_of_ble_eq_true rfl), (Nat.le_of_ble_eq_true rfl)⟩) ⟨PW_blind, va_recv hK hP18 rfl (q0 := 0) rfl, PW_at hP18 hD18 hK hS18 hA hG [0, 1, 2, 3, 4, 5] rfl (by decide)⟩ rfl rfl hl.1 rfl (lv_room (Nat.le_of_ble_eq_true rfl)) dX7_readLine_89 ⟨(Nat.le_of_ble_eq_true rfl), (Nat.le_of_ble_eq_true rfl)⟩) hP18 hD18 hS18 hA [0, 1, 2, 3, 4, 5] [] [0, 1, 2, 3, 4, 5] rfl rfl (by decide) (by decide) (by decide) rfl (fun H23 lo23 hz22 hP23 hD23 hS23 => ?_)
        clear hP18 hD18 hS18
        obtain ⟨hq1, hq99⟩ := Prod.mk.inj (Option.some.inj hm22)
        obtain ⟨hq2, hq99⟩ := Prod.mk.inj (hq99)
        obtain ⟨hq3, hq99⟩ := Prod.mk.inj (hq99)
        obtain ⟨hq4, hq99⟩ := Prod.mk.inj (hq99)
        obtain ⟨hq5, hq99⟩ := Prod.mk.inj (hq99)
        obtain ⟨hq6, hq99⟩ := Prod.mk.inj (hq99)
        obtain ⟨hq7, hq99⟩ := Prod.mk.inj (hq99)
        obtain ⟨hq8, hq99⟩ := Prod.mk.inj (hq99)
        obtain ⟨hq9, hq99⟩ := Prod.mk.inj (hq99)
        obtain ⟨hq10, hq11⟩ := Prod.mk.inj (hq99)
        subst hq1
        subst hq2
        subst hq3
        subst hq4
        subst hq5
        subst hq6
        subst hq7
        subst hq8
        subst hq9
        subst hq10
        subst hq11
        exact W.zret (ty := .boolean) hx hb hr hz22 (fun t ht hW => ⟨⟨_, (), rfl, ⟨rfl, hz22⟩, by rw [ht]; exact hP23, va_K.moved hW.alike hK, hD23⟩, hS23.F ht⟩) hS23.2.2 dX7_readLine_92
      · have hm21 := zz_nf c19 hm17
        refine lv_aload_n hx hb dX7_readLine_80 rfl (lv_at hl 0 rfl) ?_
        obtain ⟨r24, mto_24, mfr_24, mso_24, mnu_24, mfa_24, mpl_24, mwo_24, mgo_24, mre_24, mis_24, h24, hm24⟩ := ob11_e hm21
        refine gcall_b (ws' := (w_Model cI cB cZ aM aMt aMn aMr aMs aMi mth mtd msz mto_24 mfr_24 mso_24 mnu_24 mfa_24 mpl_24 mwo_24 msm mgo_24 mt mno mre_24 msn mis_24)) (va_runV (As := []) (rest := []) ⟨hx, hb, hml, hown, hts⟩ (c_X7_readSet l D cI cB cZ ta aM aMt aMn aMr aMs aMi H18.size mth mtd msz mto mfr mso mnu mfa mpl mwo msm mgo mt mno mre msn mis r24 mto_24 mfr_24 mso_24 mnu_24 mfa_24 mpl_24 mwo_24 mgo_24 mre_24 mis_24 h24) (cwV 0 hts gX7_readLine_X7_readSet rfl rfl rfl (by decide +kernel) ⟨(Nat.le_of_ble_eq_true rfl), (Nat.le_of_ble_eq_true rfl)⟩) ⟨PW_blind, va_recv hK hP18 rfl (q0 := 0) rfl, PW_at hP18 hD18 hK hS18 hA hG [0, 1, 2, 3, 4, 5] rfl (by decide)⟩ rfl rfl hl.1 rfl (lv_room (Nat.le_of_ble_eq_true rfl)) dX7_readLine_81 ⟨(Nat.le_of_ble_eq_true rfl), (Nat.le_of_ble_eq_true rfl)⟩) hP18 hD18 hS18 hA [0, 1, 2, 3, 4, 5] [] [0, 1, 2, 3, 4, 5] rfl rfl (by decide) (by decide) (by decide) rfl (fun H25 lo25 hz24 hP25 hD25 hS25 => ?_)
        clear hP18 hD18 hS18
        refine lv_goto (tgt := 92) hx hb dX7_readLine_84 (by decide) ?_
        obtain ⟨hq1, hq99⟩ := Prod.mk.inj (Option.some.inj hm24)
        obtain ⟨hq2, hq99⟩ := Prod.mk.inj (hq99)
        obtain ⟨hq3, hq99⟩ := Prod.mk.inj (hq99)
        obtain ⟨hq4, hq99⟩ := Prod.mk.inj (hq99)
        obtain ⟨hq5, hq99⟩ := Prod.mk.inj (hq99)
        obtain ⟨hq6, hq99⟩ := Prod.mk.inj (hq99)
        obtain ⟨hq7, hq99⟩ := Prod.mk.inj (hq99)
        obtain ⟨hq8, hq99⟩ := Prod.mk.inj (hq99)
        obtain ⟨hq9, hq99⟩ := Prod.mk.inj (hq99)
        obtain ⟨hq10, hq11⟩ := Prod.mk.inj (hq99)
        subst hq1
        subst hq2
        subst hq3
        subst hq4
        subst hq5
        subst hq6
        subst hq7
        subst hq8
        subst hq9
        subst hq10
        subst hq11
        exact W.zret (ty := .boolean) hx hb hr hz24 (fun t ht hW => ⟨⟨_, (), rfl, ⟨rfl, hz24⟩, by rw [ht]; exact hP25, va_K.moved hW.alike hK, hD25⟩, hS25.F ht⟩) hS25.2.2 dX7_readLine_92
    · have hm14 := zz_nf c12 hm10
      refine lv_aload_n hx hb dX7_readLine_58 rfl (lv_at hl 0 rfl) ?_
      refine lv_iconst (v := (0 : Int32)) hx hb dX7_readLine_59 (by decide) ?_
      obtain ⟨r26, mto_26, mfr_26, mso_26, mnu_26, mfa_26, mpl_26, mwo_26, mre_26, h26, hm26⟩ := ob9_e hm14
      refine gcall_b (ws' := (w_Model cI cB cZ aM aMt aMn aMr aMs aMi mth mtd msz mto_26 mfr_26 mso_26 mnu_26 mfa_26 mpl_26 mwo_26 msm mgo mt mno mre_26 msn mis)) (va_runV (As := [.int (0 : Int32)]) (rest := []) ⟨hx, hb, hml, hown, hts⟩ (c_X7_readNode l D cI cB cZ ta aM aMt aMn aMr aMs aMi H11.size mth mtd msz mto mfr mso mnu mfa mpl mwo msm mgo mt mno mre msn mis (0 : Int32) r26 mto_26 mfr_26 mso_26 mnu_26 mfa_26 mpl_26 mwo_26 mre_26 h26) (cwV 1 hts gX7_readLine_X7_readNode rfl rfl rfl (by decide +kernel) ⟨(Nat.le_of_ble_eq_true rfl), (Nat.le_of_ble_eq_true rfl)⟩) ⟨PW_blind, va_recv hK hP11 rfl (q0 := 0) rfl, PW_at hP11 hD11 hK hS11 hA hG [0, 1, 2, 3, 4, 5] rfl (by decide)⟩ rfl rfl hl.1 rfl (lv_room (Nat.le_of_ble_eq_true rfl)) dX7_readLine_60 ⟨(Nat.le_of_ble_eq_true rfl), (Nat.le_of_ble_eq_true rfl)⟩) hP11 hD11 hS11 hA [0, 1, 2, 3, 4, 5] [] [0, 1, 2, 3, 4, 5] rfl rfl (by decide) (by decide) (by decide) rfl (fun H27 lo27 hz26 hP27 hD27 hS27 => ?_)
      clear hP11 hD11 hS11
      obtain ⟨hq1, hq99⟩ := Prod.mk.inj (Option.some.inj hm26)
      obtain ⟨hq2, hq99⟩ := Prod.mk.inj (hq99)
      obtain ⟨hq3, hq99⟩ := Prod.mk.inj (hq99)
      obtain ⟨hq4, hq99⟩ := Prod.mk.inj (hq99)
      obtain ⟨hq5, hq99⟩ := Prod.mk.inj (hq99)
      obtain ⟨hq6, hq99⟩ := Prod.mk.inj (hq99)
      obtain ⟨hq7, hq99⟩ := Prod.mk.inj (hq99)
      obtain ⟨hq8, hq99⟩ := Prod.mk.inj (hq99)
      obtain ⟨hq9, hq99⟩ := Prod.mk.inj (hq99)
      obtain ⟨hq10, hq11⟩ := Prod.mk.inj (hq99)
      subst hq1
      subst hq2
      subst hq3
      subst hq4
      subst hq5
      subst hq6
      subst hq7
      subst hq8
      subst hq9
      subst hq10
      subst hq11
      exact W.zret (ty := .boolean) hx hb hr hz26 (fun t ht hW => ⟨⟨_, (), rfl, ⟨rfl, hz26⟩, by rw [ht]; exact hP27, va_K.moved hW.alike hK, hD27⟩, hS27.F ht⟩) hS27.2.2 dX7_readLine_63
  · have hm7 := zz_nf c5 hm3
    refine lv_aload_n hx hb dX7_readLine_28 rfl (lv_at hl 0 rfl) ?_
    refine lv_iconst (v := (1 : Int32)) hx hb dX7_readLine_29 (by decide) ?_
    obtain ⟨r28, mto_28, mfr_28, mso_28, mnu_28, mfa_28, mpl_28, mwo_28, mre_28, h28, hm28⟩ := ob9_e hm7
    refine gcall_b (ws' := (w_Model cI cB cZ aM aMt aMn aMr aMs aMi mth mtd msz mto_28 mfr_28 mso_28 mnu_28 mfa_28 mpl_28 mwo_28 msm mgo mt mno mre_28 msn mis)) (va_runV (As := [.int (1 : Int32)]) (rest := []) ⟨hx, hb, hml, hown, hts⟩ (c_X7_readNode l D cI cB cZ ta aM aMt aMn aMr aMs aMi H4.size mth mtd msz mto mfr mso mnu mfa mpl mwo msm mgo mt mno mre msn mis (1 : Int32) r28 mto_28 mfr_28 mso_28 mnu_28 mfa_28 mpl_28 mwo_28 mre_28 h28) (cwV 1 hts gX7_readLine_X7_readNode rfl rfl rfl (by decide +kernel) ⟨(Nat.le_of_ble_eq_true rfl), (Nat.le_of_ble_eq_true rfl)⟩) ⟨PW_blind, va_recv hK hP4 rfl (q0 := 0) rfl, PW_at hP4 hD4 hK hS4 hA hG [0, 1, 2, 3, 4, 5] rfl (by decide)⟩ rfl rfl hl.1 rfl (lv_room (Nat.le_of_ble_eq_true rfl)) dX7_readLine_30 ⟨(Nat.le_of_ble_eq_true rfl), (Nat.le_of_ble_eq_true rfl)⟩) hP4 hD4 hS4 hA [0, 1, 2, 3, 4, 5] [] [0, 1, 2, 3, 4, 5] rfl rfl (by decide) (by decide) (by decide) rfl (fun H29 lo29 hz28 hP29 hD29 hS29 => ?_)
    clear hP4 hD4 hS4
    obtain ⟨hq1, hq99⟩ := Prod.mk.inj (Option.some.inj hm28)
    obtain ⟨hq2, hq99⟩ := Prod.mk.inj (hq99)
    obtain ⟨hq3, hq99⟩ := Prod.mk.inj (hq99)
    obtain ⟨hq4, hq99⟩ := Prod.mk.inj (hq99)
    obtain ⟨hq5, hq99⟩ := Prod.mk.inj (hq99)
    obtain ⟨hq6, hq99⟩ := Prod.mk.inj (hq99)
    obtain ⟨hq7, hq99⟩ := Prod.mk.inj (hq99)
    obtain ⟨hq8, hq99⟩ := Prod.mk.inj (hq99)
    obtain ⟨hq9, hq99⟩ := Prod.mk.inj (hq99)
    obtain ⟨hq10, hq11⟩ := Prod.mk.inj (hq99)
    subst hq1
    subst hq2
    subst hq3
    subst hq4
    subst hq5
    subst hq6
    subst hq7
    subst hq8
    subst hq9
    subst hq10
    subst hq11
    exact W.zret (ty := .boolean) hx hb hr hz28 (fun t ht hW => ⟨⟨_, (), rfl, ⟨rfl, hz28⟩, by rw [ht]; exact hP29, va_K.moved hW.alike hK, hD29⟩, hS29.F ht⟩) hS29.2.2 dX7_readLine_33
theorem iw_X7_readScenes_X7 : ∀ w ∈ wsX70, w ∈ wsX7_readScenes := by decide +kernel
set_option maxHeartbeats 4000000 in
set_option maxRecDepth 100000 in
theorem c_X7_readScenes (l : Launch) (D : va_G) (cI cB cZ : ClassId) (ta : Nat → Nat) (aM : Nat) (aMt : Nat) (aMn : Nat) (aMr : Nat) (aMs : Nat) (aMi : Nat) (sz : Nat) (mth : Int32) (mtd : Int32) (msz : Int32) (mto : Int32) (mfr : Int32) (mso : Int32) (mnu : Int32) (mfa : Int32) (mpl : Int32) (mwo : Int64) (msm : Int32) (mgo : Int32) (mt : (Nat → Int32)) (mno : (Nat → Int32)) (mre : (Nat → Int32)) (msn : (Nat → Int32)) (mis : (Nat → Int32)) (r0 : Int32) (u_mto : Int32) (u_mfr : Int32) (u_mso : Int32) (u_mnu : Int32) (u_mfa : Int32) (u_mpl : Int32) (u_mwo : Int64) (u_mgo : Int32) (u_mre : (Nat → Int32)) (hm : m_X7_readScenes msz mto mfr mso mnu mfa mpl mwo mgo mt mre = some (r0, u_mto, u_mfr, u_mso, u_mnu, u_mfa, u_mpl, u_mwo, u_mgo, u_mre)) : Met l yX7_readScenes wsX7_readScenes ({ frames := 3, cells := 0, slots := 0, locals := 67 } : Room) (va_Pc [.ref aM] (PW D cI cB cZ ta (w_Model cI cB cZ aM aMt aMn aMr aMs aMi mth mtd msz mto mfr mso mnu mfa mpl mwo msm mgo mt mno mre msn mis) sz)) (QZ .boolean D cI cB cZ (va_A (w_Model cI cB cZ aM aMt aMn aMr aMs aMi mth mtd msz mto mfr mso mnu mfa mpl mwo msm mgo mt mno mre msn mis) sz) (w_Model cI cB cZ aM aMt aMn aMr aMs aMi mth mtd msz u_mto u_mfr u_mso u_mnu u_mfa u_mpl u_mwo msm u_mgo mt mno u_mre msn mis) r0) 0 0 (va_A (w_Model cI cB cZ aM aMt aMn aMr aMs aMi mth mtd msz mto mfr mso mnu mfa mpl mwo msm mgo mt mno mre msn mis) sz) := by
  refine Met.ofW (cc := cX7_readScenes) (maxL := 1) (ret := (some .boolean)) (by decide) rfl ?_
  intro p e s m args below meth c s₁ B hml hv
  obtain ⟨rfl, hsz, hP, hK, hD0, hG⟩ := hv
  have hx := B.exec
  have hb := B.bytes
  have hr := B.returns
  have hts := atoms_spec (ws := wsX7_readScenes) B.pre
  have hown : s.vm.findClass RX7 = some m.cls := findClass_of_methodNamed B.named
  have hlocks := B.notSynchronized
  subst hsz
  have hD := hD0.self (sz := s.heap.size)
  clear hD0
  have hA0 : ∀ q : Nat, s.heap.size ≤ q → va_A (w_Model cI cB cZ aM aMt aMn aMr aMs aMi mth mtd msz mto mfr mso mnu mfa mpl mwo msm mgo mt mno mre msn mis) s.heap.size q := fun q h => Or.inr h
  generalize hAe : va_A (w_Model cI cB cZ aM aMt aMn aMr aMs aMi mth mtd msz mto mfr mso mnu mfa mpl mwo msm mgo mt mno mre msn mis) s.heap.size = A at hD hG hA0 ⊢
  have hA : ∀ q : Nat, s.heap.size ≤ q → A q := hA0
  clear hA0
  have hS : va_S A s.heap s.heap [] := va_S.rf
  have iw_X7 := iw_X7_readScenes_X7
  have hl := lv_entry ([.ref aM]) (n := 1) (Nat.le_of_ble_eq_true rfl)
  rw [lg_entry_eq]
  generalize (lg_sl ([.ref aM]) ++ List.replicate (1 - (lg_sl ([.ref aM])).length) Slot.unset).toArray = ls at hl ⊢
  have hl : lv_has ls 1 [(0, .ref aM)] := hl
  replace hm : (ob1 (m_X7_three (115 : Int32) (99 : Int32) (101 : Int32)) (fun r1 => (ob1 (m_X7_three (110 : Int32) (101 : Int32) (115 : Int32)) (fun r3 => (ob1 (m_X7_isWord mso mwo (((19683 : Int64) * r1) + r3)) (fun r5 => (if r5 = 0 then (ob3 (m_X7_bad mfr mso mfa mpl (1 : Int32)) (fun r22 mfa_22 mpl_22 => some (r22, mto, mfr, mso, mnu, mfa_22, mpl_22, mwo, mgo, mre))) else (ob5 (m_X7_go msz mto mfr mso mnu mwo mt) (fun mto_10 mfr_10 mso_10 mnu_10 mwo_10 => (ob9 (m_X7_takes msz mto_10 mfr_10 mso_10 mnu_10 mfa mpl mwo_10 mgo mt (1 : Int32) (4 : Int32)) (fun r12 mto_12 mfr_12 mso_12 mnu_12 mfa_12 mpl_12 mwo_12 mgo_12 => (if r12 = 0 then some ((0 : Int32), mto_12, mfr_12, mso_12, mnu_12, mfa_12, mpl_12, mwo_12, mgo_12, mre) else (if (0 : Int32) < 0 ∨ 442 ≤ (0 : Int32).toNatClampNeg then none else (ob8 (m_X7_readEnd msz mto_12 mfr_12 mso_12 mnu_12 mfa_12 mpl_12 mwo_12 mt) (fun r20 mto_20 mfr_20 mso_20 mnu_20 mfa_20 mpl_20 mwo_20 => some (r20, mto_20, mfr_20, mso_20, mnu_20, mfa_20, mpl_20, mwo_20, mgo_12, (upd mre (0 : Int32).toNatClampNeg mgo_12))))))))))))))))) = some (r0, u_mto, u_mfr, u_mso, u_mnu, u_mfa, u_mpl, u_mwo, u_mgo, u_mre) := hm
  refine lv_aload_n hx hb dX7_readScenes_0 rfl (lv_at hl 0 rfl) ?_
  refine lv_ldc2 (v := (19683 : Int64)) hx hb hown (hts (.constantLong RX7 139 (19683)) (by decide +kernel)) dX7_readScenes_1 ?_
  refine lv_bipush (v := (115 : Int32)) hx hb dX7_readScenes_4 (by decide) ?_
  refine lv_bipush (v := (99 : Int32)) hx hb dX7_readScenes_6 (by decide) ?_
  refine lv_bipush (v := (101 : Int32)) hx hb dX7_readScenes_8 (by decide) ?_
  obtain ⟨r1, h1, hm1⟩ := ob1_e hm
  refine gcall_l (ws' := (w_Model cI cB cZ aM aMt aMn aMr aMs aMi mth mtd msz mto mfr mso mnu mfa mpl mwo msm mgo mt mno mre msn mis)) (va_runS (As := [.int (115 : Int32), .int (99 : Int32), .int (101 : Int32)]) (rest := [.long (19683 : Int64), .ref aM]) ⟨hx, hb, hml, hown, hts⟩ (c_X7_three l D cI cB cZ ta s.heap.size (115 : Int32) (99 : Int32) (101 : Int32) r1 h1) (va_cwS 3 hts gX7_readScenes_X7_three rfl rfl rfl (by decide +kernel) ⟨(Nat.le_of_ble_eq_true rfl), (Nat.le_of_ble_eq_true rfl)⟩) ⟨PW_blind, PW_at hP hD hK hS hA hG [] rfl (by decide)⟩ rfl rfl hl.1 rfl (lv_room (Nat.le_of_ble_eq_true rfl)) dX7_readScenes_10 ⟨(Nat.le_of_ble_eq_true rfl), (Nat.le_of_ble_eq_true rfl)⟩) hP hD hS hA [] [0, 1, 2, 3, 4, 5] [0, 1, 2, 3, 4, 5] rfl rfl (by decide) (by decide) (by decide) rfl (fun H2 lo2 hP2 hD2 hS2 => ?_)
  clear hP hD hS
  refine lv_lmul hx hb dX7_readScenes_13 ?_
  refine lv_bipush (v := (110 : Int32)) hx hb dX7_readScenes_14 (by decide) ?_
  refine lv_bipush (v := (101 : Int32)) hx hb dX7_readScenes_16 (by decide) ?_
  refine lv_bipush (v := (115 : Int32)) hx hb dX7_readScenes_18 (by decide) ?_
  obtain ⟨r3, h3, hm3⟩ := ob1_e hm1
  refine gcall_l (ws' := (w_Model cI cB cZ aM aMt aMn aMr aMs aMi mth mtd msz mto mfr mso mnu mfa mpl mwo msm mgo mt mno mre msn mis)) (va_runS (As := [.int (110 : Int32), .int (101 : Int32), .int (115 : Int32)]) (rest := [.long ((19683 : Int64) * r1), .ref aM]) ⟨hx, hb, hml, hown, hts⟩ (c_X7_three l D cI cB cZ ta H2.size (110 : Int32) (101 : Int32) (115 : Int32) r3 h3) (va_cwS 3 hts gX7_readScenes_X7_three rfl rfl rfl (by decide +kernel) ⟨(Nat.le_of_ble_eq_true rfl), (Nat.le_of_ble_eq_true rfl)⟩) ⟨PW_blind, PW_at hP2 hD2 hK hS2 hA hG [] rfl (by decide)⟩ rfl rfl hl.1 rfl (lv_room (Nat.le_of_ble_eq_true rfl)) dX7_readScenes_20 ⟨(Nat.le_of_ble_eq_true rfl), (Nat.le_of_ble_eq_true rfl)⟩) hP2 hD2 hS2 hA [] [0, 1, 2, 3, 4, 5] [0, 1, 2, 3, 4, 5] rfl rfl (by decide) (by decide) (by decide) rfl (fun H4 lo4 hP4 hD4 hS4 => ?_)
  clear hP2 hD2 hS2
  refine lv_ladd hx hb dX7_readScenes_23 ?_
  obtain ⟨r5, h5, hm5⟩ := ob1_e hm3
  refine gcall_b (ws' := (w_Model cI cB cZ aM aMt aMn aMr aMs aMi mth mtd msz mto mfr mso mnu mfa mpl mwo msm mgo mt mno mre msn mis)) (va_runV (As := [.long (((19683 : Int64) * r1) + r3)]) (rest := []) ⟨hx, hb, hml, hown, hts⟩ (c_X7_isWord l D cI cB cZ ta aM aMt aMn aMr aMs aMi H4.size mth mtd msz mto mfr mso mnu mfa mpl mwo msm mgo mt mno mre msn mis (((19683 : Int64) * r1) + r3) r5 h5) (cwV 1 hts gX7_readScenes_X7_isWord rfl rfl rfl (by decide +kernel) ⟨(Nat.le_of_ble_eq_true rfl), (Nat.le_of_ble_eq_true rfl)⟩) ⟨PW_blind, va_recv hK hP4 rfl (q0 := 0) rfl, PW_at hP4 hD4 hK hS4 hA hG [0, 1, 2, 3, 4, 5] rfl (by decide)⟩ rfl rfl hl.1 rfl (lv_room (Nat.le_of_ble_eq_true rfl)) dX7_readScenes_24 ⟨(Nat.le_of_ble_eq_true rfl), (Nat.le_of_ble_eq_true rfl)⟩) hP4 hD4 hS4 hA [0, 1, 2, 3, 4, 5] [] [0, 1, 2, 3, 4, 5] rfl rfl (by decide) (by decide) (by decide) rfl (fun H6 lo6 hz5 hP6 hD6 hS6 => ?_)
  clear hP4 hD4 hS4
  refine lv_if_ne (tgt := 36) hx hb dX7_readScenes_27 (by decide) (fun c7 => ?_) (fun c7 => ?_)
  · have hm8 := zz_nf c7 hm5
    refine lv_aload_n hx hb dX7_readScenes_36 rfl (lv_at hl 0 rfl) ?_
    obtain ⟨mto_10, mfr_10, mso_10, mnu_10, mwo_10, h10, hm10⟩ := ob5_e hm8
    refine gcall_v (ws' := (w_Model cI cB cZ aM aMt aMn aMr aMs aMi mth mtd msz mto_10 mfr_10 mso_10 mnu_10 mfa mpl mwo_10 msm mgo mt mno mre msn mis)) (va_runV (As := []) (rest := []) ⟨hx, hb, hml, hown, hts⟩ (c_X7_go l D cI cB cZ ta aM aMt aMn aMr aMs aMi H6.size mth mtd msz mto mfr mso mnu mfa mpl mwo msm mgo mt mno mre msn mis mto_10 mfr_10 mso_10 mnu_10 mwo_10 h10) (cwV 0 hts gX7_readScenes_X7_go rfl rfl rfl (by decide +kernel) ⟨(Nat.le_of_ble_eq_true rfl), (Nat.le_of_ble_eq_true rfl)⟩) ⟨PW_blind, va_recv hK hP6 rfl (q0 := 0) rfl, PW_at hP6 hD6 hK hS6 hA hG [0, 1, 2, 3, 4, 5] rfl (by decide)⟩ rfl rfl hl.1 rfl (lv_room (Nat.le_of_ble_eq_true rfl)) dX7_readScenes_37 ⟨(Nat.le_of_ble_eq_true rfl), (Nat.le_of_ble_eq_true rfl)⟩) hP6 hD6 hS6 hA [0, 1, 2, 3, 4, 5] [] [0, 1, 2, 3, 4, 5] rfl rfl (by decide) (by decide) (by decide) rfl (fun H11 lo11 hP11 hD11 hS11 => ?_)
    clear hP6 hD6 hS6
    refine lv_aload_n hx hb dX7_readScenes_40 rfl (lv_at hl 0 rfl) ?_
    refine lv_iconst (v := (1 : Int32)) hx hb dX7_readScenes_41 (by decide) ?_
    refine lv_iconst (v := (4 : Int32)) hx hb dX7_readScenes_42 (by decide) ?_
    obtain ⟨r12, mto_12, mfr_12, mso_12, mnu_12, mfa_12, mpl_12, mwo_12, mgo_12, h12, hm12⟩ := ob9_e hm10
    refine gcall_b (ws' := (w_Model cI cB cZ aM aMt aMn aMr aMs aMi mth mtd msz mto_12 mfr_12 mso_12 mnu_12 mfa_12 mpl_12 mwo_12 msm mgo_12 mt mno mre msn mis)) (va_runV (As := [.int (1 : Int32), .int (4 : Int32)]) (rest := []) ⟨hx, hb, hml, hown, hts⟩ (c_X7_takes l D cI cB cZ ta aM aMt aMn aMr aMs aMi H11.size mth mtd msz mto_10 mfr_10 mso_10 mnu_10 mfa mpl mwo_10 msm mgo mt mno mre msn mis (1 : Int32) (4 : Int32) r12 mto_12 mfr_12 mso_12 mnu_12 mfa_12 mpl_12 mwo_12 mgo_12 h12) (cwV 2 hts gX7_readScenes_X7_takes rfl rfl rfl (by decide +kernel) ⟨(Nat.le_of_ble_eq_true rfl), (Nat.le_of_ble_eq_true rfl)⟩) ⟨PW_blind, va_recv hK hP11 rfl (q0 := 0) rfl, PW_at hP11 hD11 hK hS11 hA hG [0, 1, 2, 3, 4, 5] rfl (by decide)⟩ rfl rfl hl.1 rfl (lv_room (Nat.le_of_ble_eq_true rfl)) dX7_readScenes_43 ⟨(Nat.le_of_ble_eq_true rfl), (Nat.le_of_ble_eq_true rfl)⟩) hP11 hD11 hS11 hA [0, 1, 2, 3, 4, 5] [] [0, 1, 2, 3, 4, 5] rfl rfl (by decide) (by decide) (by decide) rfl (fun H13 lo13 hz12 hP13 hD13 hS13 => ?_)
    clear hP11 hD11 hS11
    refine lv_if_ne (tgt := 51) hx hb dX7_readScenes_46 (by decide) (fun c14 => ?_) (fun c14 => ?_)
    · have hm15 := zz_nf c14 hm12
      refine lv_aload_n hx hb dX7_readScenes_51 rfl (lv_at hl 0 rfl) ?_
      refine va_get (D := D) (ci := 7) (v := .ref aMr) (C := RX7) (T := TX7) (N := 17) hx hb hts iw_X7 hown hK hP13 0 rfl rfl 12 (by decide) (hts (.fieldLink RX7 67 "VarianceBridgeModel" "read" "[I") (by decide +kernel)) (fun _ h9 => h9) rfl dX7_readScenes_52 ?_
      refine lv_iconst (v := (0 : Int32)) hx hb dX7_readScenes_55 (by decide) ?_
      refine lv_aload_n hx hb dX7_readScenes_56 rfl (lv_at hl 0 rfl) ?_
      refine va_get (D := D) (ci := 7) (v := .int mgo_12) (C := RX7) (T := TX7) (N := 17) hx hb hts iw_X7 hown hK hP13 0 rfl rfl 15 (by decide) (hts (.fieldLink RX7 92 "VarianceBridgeModel" "got" "I") (by decide +kernel)) (fun _ h9 => h9) rfl dX7_readScenes_57 ?_
      obtain ⟨c17, hm18⟩ := zz_no hm15
      refine va_iast hx hb hK hP13 hD13 hS13 3 0 rfl rfl c17 dX7_readScenes_60 (fun H19 lo19 hP19 hD19 hS19 => ?_)
      replace hP19 : va_P D vwCl (w_Model cI cB cZ aM aMt aMn aMr aMs aMi mth mtd msz mto_12 mfr_12 mso_12 mnu_12 mfa_12 mpl_12 mwo_12 msm mgo_12 mt mno (upd mre (0 : Int32).toNatClampNeg mgo_12) msn mis) H19 := hP19
      replace hD19 : va_D A (w_Model cI cB cZ aM aMt aMn aMr aMs aMi mth mtd msz mto_12 mfr_12 mso_12 mnu_12 mfa_12 mpl_12 mwo_12 msm mgo_12 mt mno (upd mre (0 : Int32).toNatClampNeg mgo_12) msn mis) := hD19
      clear hP13 hD13 hS13
      refine lv_aload_n hx hb dX7_readScenes_61 rfl (lv_at hl 0 rfl) ?_
      obtain ⟨r20, mto_20, mfr_20, mso_20, mnu_20, mfa_20, mpl_20, mwo_20, h20, hm20⟩ := ob8_e hm18
      refine gcall_b (ws' := (w_Model cI cB cZ aM aMt aMn aMr aMs aMi mth mtd msz mto_20 mfr_20 mso_20 mnu_20 mfa_20 mpl_20 mwo_20 msm mgo_12 mt mno (upd mre (0 : Int32).toNatClampNeg mgo_12) msn mis)) (va_runV (As := []) (rest := []) ⟨hx, hb, hml, hown, hts⟩ (c_X7_readEnd l D cI cB cZ ta aM aMt aMn aMr aMs aMi H19.size mth mtd msz mto_12 mfr_12 mso_12 mnu_12 mfa_12 mpl_12 mwo_12 msm mgo_12 mt mno (upd mre (0 : Int32).toNatClampNeg mgo_12) msn mis r20 mto_20 mfr_20 mso_20 mnu_20 mfa_20 mpl_20 mwo_20 h20) (cwV 0 hts gX7_readScenes_X7_readEnd rfl rfl rfl (by decide +kernel) ⟨(Nat.le_of_ble_eq_true rfl), (Nat.le_of_ble_eq_true rfl)⟩) ⟨PW_blind, va_recv hK hP19 rfl (q0 := 0) rfl, PW_at hP19 hD19 hK hS19 hA hG [0, 1, 2, 3, 4, 5] rfl (by decide)⟩ rfl rfl hl.1 rfl (lv_room (Nat.le_of_ble_eq_true rfl)) dX7_readScenes_62 ⟨(Nat.le_of_ble_eq_true rfl), (Nat.le_of_ble_eq_true rfl)⟩) hP19 hD19 hS19 hA [0, 1, 2, 3, 4, 5] [] [0, 1, 2, 3, 4, 5] rfl rfl (by decide) (by decide) (by decide) rfl (fun H21 lo21 hz20 hP21 hD21 hS21 => ?_)
      clear hP19 hD19 hS19
      obtain ⟨hq1, hq99⟩ := Prod.mk.inj (Option.some.inj hm20)
      obtain ⟨hq2, hq99⟩ := Prod.mk.inj (hq99)
      obtain ⟨hq3, hq99⟩ := Prod.mk.inj (hq99)
      obtain ⟨hq4, hq99⟩ := Prod.mk.inj (hq99)
      obtain ⟨hq5, hq99⟩ := Prod.mk.inj (hq99)
      obtain ⟨hq6, hq99⟩ := Prod.mk.inj (hq99)
      obtain ⟨hq7, hq99⟩ := Prod.mk.inj (hq99)
      obtain ⟨hq8, hq99⟩ := Prod.mk.inj (hq99)
      obtain ⟨hq9, hq10⟩ := Prod.mk.inj (hq99)
      subst hq1
      subst hq2
      subst hq3
      subst hq4
      subst hq5
      subst hq6
      subst hq7
      subst hq8
      subst hq9
      subst hq10
      exact W.zret (ty := .boolean) hx hb hr hz20 (fun t ht hW => ⟨⟨_, (), rfl, ⟨rfl, hz20⟩, by rw [ht]; exact hP21, va_K.moved hW.alike hK, hD21⟩, hS21.F ht⟩) hS21.2.2 dX7_readScenes_65
    · have hm16 := zz_if c14 hm12
      refine lv_iconst (v := (0 : Int32)) hx hb dX7_readScenes_49 (by decide) ?_
      obtain ⟨hq1, hq99⟩ := Prod.mk.inj (Option.some.inj hm16)
      obtain ⟨hq2, hq99⟩ := Prod.mk.inj (hq99)
      obtain ⟨hq3, hq99⟩ := Prod.mk.inj (hq99)
      obtain ⟨hq4, hq99⟩ := Prod.mk.inj (hq99)
      obtain ⟨hq5, hq99⟩ := Prod.mk.inj (hq99)
      obtain ⟨hq6, hq99⟩ := Prod.mk.inj (hq99)
      obtain ⟨hq7, hq99⟩ := Prod.mk.inj (hq99)
      obtain ⟨hq8, hq99⟩ := Prod.mk.inj (hq99)
      obtain ⟨hq9, hq10⟩ := Prod.mk.inj (hq99)
      subst hq1
      subst hq2
      subst hq3
      subst hq4
      subst hq5
      subst hq6
      subst hq7
      subst hq8
      subst hq9
      subst hq10
      exact W.zret (ty := .boolean) hx hb hr (by decide) (fun t ht hW => ⟨⟨_, (), rfl, ⟨rfl, (by decide)⟩, by rw [ht]; exact hP13, va_K.moved hW.alike hK, hD13⟩, hS13.F ht⟩) hS13.2.2 dX7_readScenes_50
  · have hm9 := zz_if c7 hm5
    refine lv_aload_n hx hb dX7_readScenes_30 rfl (lv_at hl 0 rfl) ?_
    refine lv_iconst (v := (1 : Int32)) hx hb dX7_readScenes_31 (by decide) ?_
    obtain ⟨r22, mfa_22, mpl_22, h22, hm22⟩ := ob3_e hm9
    refine gcall_b (ws' := (w_Model cI cB cZ aM aMt aMn aMr aMs aMi mth mtd msz mto mfr mso mnu mfa_22 mpl_22 mwo msm mgo mt mno mre msn mis)) (va_runV (As := [.int (1 : Int32)]) (rest := []) ⟨hx, hb, hml, hown, hts⟩ (c_X7_bad l D cI cB cZ ta aM aMt aMn aMr aMs aMi H6.size mth mtd msz mto mfr mso mnu mfa mpl mwo msm mgo mt mno mre msn mis (1 : Int32) r22 mfa_22 mpl_22 h22) (cwV 1 hts gX7_readScenes_X7_bad rfl rfl rfl (by decide +kernel) ⟨(Nat.le_of_ble_eq_true rfl), (Nat.le_of_ble_eq_true rfl)⟩) ⟨PW_blind, va_recv hK hP6 rfl (q0 := 0) rfl, PW_at hP6 hD6 hK hS6 hA hG [0, 1, 2, 3, 4, 5] rfl (by decide)⟩ rfl rfl hl.1 rfl (lv_room (Nat.le_of_ble_eq_true rfl)) dX7_readScenes_32 ⟨(Nat.le_of_ble_eq_true rfl), (Nat.le_of_ble_eq_true rfl)⟩) hP6 hD6 hS6 hA [0, 1, 2, 3, 4, 5] [] [0, 1, 2, 3, 4, 5] rfl rfl (by decide) (by decide) (by decide) rfl (fun H23 lo23 hz22 hP23 hD23 hS23 => ?_)
    clear hP6 hD6 hS6
    obtain ⟨hq1, hq99⟩ := Prod.mk.inj (Option.some.inj hm22)
    obtain ⟨hq2, hq99⟩ := Prod.mk.inj (hq99)
    obtain ⟨hq3, hq99⟩ := Prod.mk.inj (hq99)
    obtain ⟨hq4, hq99⟩ := Prod.mk.inj (hq99)
    obtain ⟨hq5, hq99⟩ := Prod.mk.inj (hq99)
    obtain ⟨hq6, hq99⟩ := Prod.mk.inj (hq99)
    obtain ⟨hq7, hq99⟩ := Prod.mk.inj (hq99)
    obtain ⟨hq8, hq99⟩ := Prod.mk.inj (hq99)
    obtain ⟨hq9, hq10⟩ := Prod.mk.inj (hq99)
    subst hq1
    subst hq2
    subst hq3
    subst hq4
    subst hq5
    subst hq6
    subst hq7
    subst hq8
    subst hq9
    subst hq10
    exact W.zret (ty := .boolean) hx hb hr hz22 (fun t ht hW => ⟨⟨_, (), rfl, ⟨rfl, hz22⟩, by rw [ht]; exact hP23, va_K.moved hW.alike hK, hD23⟩, hS23.F ht⟩) hS23.2.2 dX7_readScenes_35
theorem iw_X7_text_X7 : ∀ w ∈ wsX70, w ∈ wsX7_text := by decide +kernel
set_option maxHeartbeats 4000000 in
set_option maxRecDepth 100000 in
theorem c_X7_text (l : Launch) (D : va_G) (cI cB cZ : ClassId) (ta : Nat → Nat) (aM : Nat) (aMt : Nat) (aMn : Nat) (aMr : Nat) (aMs : Nat) (aMi : Nat) (sz : Nat) (mth : Int32) (mtd : Int32) (msz : Int32) (mto : Int32) (mfr : Int32) (mso : Int32) (mnu : Int32) (mfa : Int32) (mpl : Int32) (mwo : Int64) (msm : Int32) (mgo : Int32) (mt : (Nat → Int32)) (mno : (Nat → Int32)) (mre : (Nat → Int32)) (msn : (Nat → Int32)) (mis : (Nat → Int32)) (r0 : Int32) (u_mth : Int32) (u_mtd : Int32) (u_msz : Int32) (u_mto : Int32) (u_mfr : Int32) (u_mso : Int32) (u_mnu : Int32) (u_mfa : Int32) (u_mpl : Int32) (u_mwo : Int64) (u_msm : Int32) (u_mgo : Int32) (u_mno : (Nat → Int32)) (u_mre : (Nat → Int32)) (u_mis : (Nat → Int32)) (hm : m_X7_text mth mtd msz mto mfr mso mnu mfa mpl mwo msm mgo mt mno mre mis = some (r0, u_mth, u_mtd, u_msz, u_mto, u_mfr, u_mso, u_mnu, u_mfa, u_mpl, u_mwo, u_msm, u_mgo, u_mno, u_mre, u_mis)) : Met l yX7_text wsX7_text ({ frames := 5, cells := 0, slots := 0, locals := 110 } : Room) (va_Pc [.ref aM] (PW D cI cB cZ ta (w_Model cI cB cZ aM aMt aMn aMr aMs aMi mth mtd msz mto mfr mso mnu mfa mpl mwo msm mgo mt mno mre msn mis) sz)) (QI D cI cB cZ (va_A (w_Model cI cB cZ aM aMt aMn aMr aMs aMi mth mtd msz mto mfr mso mnu mfa mpl mwo msm mgo mt mno mre msn mis) sz) (w_Model cI cB cZ aM aMt aMn aMr aMs aMi u_mth u_mtd u_msz u_mto u_mfr u_mso u_mnu u_mfa u_mpl u_mwo u_msm u_mgo mt u_mno u_mre msn u_mis) r0) 0 0 (va_A (w_Model cI cB cZ aM aMt aMn aMr aMs aMi mth mtd msz mto mfr mso mnu mfa mpl mwo msm mgo mt mno mre msn mis) sz) := by
  refine Met.ofW (cc := cX7_text) (maxL := 3) (ret := (some .int)) (by decide) rfl ?_
  intro p e s m args below meth c s₁ B hml hv
  obtain ⟨rfl, hsz, hP, hK, hD0, hG⟩ := hv
  have hx := B.exec
  have hb := B.bytes
  have hr := B.returns
  have hts := atoms_spec (ws := wsX7_text) B.pre
  have hown : s.vm.findClass RX7 = some m.cls := findClass_of_methodNamed B.named
  have hlocks := B.notSynchronized
  subst hsz
  have hD := hD0.self (sz := s.heap.size)
  clear hD0
  have hA0 : ∀ q : Nat, s.heap.size ≤ q → va_A (w_Model cI cB cZ aM aMt aMn aMr aMs aMi mth mtd msz mto mfr mso mnu mfa mpl mwo msm mgo mt mno mre msn mis) s.heap.size q := fun q h => Or.inr h
  generalize hAe : va_A (w_Model cI cB cZ aM aMt aMn aMr aMs aMi mth mtd msz mto mfr mso mnu mfa mpl mwo msm mgo mt mno mre msn mis) s.heap.size = A at hD hG hA0 ⊢
  have hA : ∀ q : Nat, s.heap.size ≤ q → A q := hA0
  clear hA0
  have hS : va_S A s.heap s.heap [] := va_S.rf
  have iw_X7 := iw_X7_text_X7
  have hk_127 : ∀ (n : Nat) (mth : Int32) (mtd : Int32) (msz : Int32) (mto : Int32) (mfr : Int32) (mso : Int32) (mnu : Int32) (mfa : Int32) (mpl : Int32) (mwo : Int64) (msm : Int32) (mgo : Int32) (mno : (Nat → Int32)) (mre : (Nat → Int32)) (mis : (Nat → Int32)) (y1 : Int32) (y2 : Int32), k_X7_text_127 mt n mth mtd msz mto mfr mso mnu mfa mpl mwo msm mgo mno mre mis y1 y2 = some (r0, u_mth, u_mtd, u_msz, u_mto, u_mfr, u_mso, u_mnu, u_mfa, u_mpl, u_mwo, u_msm, u_mgo, u_mno, u_mre, u_mis) → ∀ (ls : Array Slot) (H : Heap) (lo : List Loc), lv_has ls 3 [(0, .ref aM), (1, .int y1), (2, .int y2)] → va_P D vwCl (w_Model cI cB cZ aM aMt aMn aMr aMs aMi mth mtd msz mto mfr mso mnu mfa mpl mwo msm mgo mt mno mre msn mis) H → va_D A (w_Model cI cB cZ aM aMt aMn aMr aMs aMi mth mtd msz mto mfr mso mnu mfa mpl mwo msm mgo mt mno mre msn mis) → va_S A s.heap H lo → W p l e (headSpec wsX7_text ({ frames := 5, cells := 0, slots := 0, locals := 110 } : Room)).room s m (([.ref aM] : List Value).toArray) below meth c H lo 0 0 (MQ below (QI D cI cB cZ A (w_Model cI cB cZ aM aMt aMn aMr aMs aMi u_mth u_mtd u_msz u_mto u_mfr u_mso u_mnu u_mfa u_mpl u_mwo u_msm u_mgo mt u_mno u_mre msn u_mis) r0) (([.ref aM] : List Value).toArray) s 0 0 A) (F0 m 127 ls []) := by
    intro n
    induction n with
    | zero => intro mth mtd msz mto mfr mso mnu mfa mpl mwo msm mgo mno mre mis y1 y2 hm; exact zz_nn hm
    | succ n ih =>
      intro mth mtd msz mto mfr mso mnu mfa mpl mwo msm mgo mno mre mis y1 y2 hm ls H lo hl hP hD hS
      replace hm := (k_X7_text_127_s mt n mth mtd msz mto mfr mso mnu mfa mpl mwo msm mgo mno mre mis y1 y2).symm.trans hm
      refine lv_iload_n hx hb dX7_text_127 rfl (lv_at hl 2 rfl) ?_
      refine lv_sipush (v := (442 : Int32)) hx hb dX7_text_128 (by decide) ?_
      refine lv_icmp_ge (tgt := 152) hx hb dX7_text_131 (by decide) (fun c1 => ?_) (fun c1 => ?_)
      · have hm2 := zz_if c1 hm
        refine lv_aload_n hx hb dX7_text_152 rfl (lv_at hl 0 rfl) ?_
        refine lv_iconst (v := (0 : Int32)) hx hb dX7_text_153 (by decide) ?_
        refine va_put (D := D) (ci := 7) (v := .int (0 : Int32)) (ty := .int) (C := RX7) (T := TX7) (N := 17) hx hb hts iw_X7 tyX7 tyX7_ok nmX7 hown hK hP hD hS 0 rfl rfl 14 (by decide) (hts (.fieldLink RX7 147 "VarianceBridgeModel" "snapMany" "I") (by decide +kernel)) (fun _ h9 => h9) rfl (by decide +kernel) rfl rfl (Nat.le_of_ble_eq_true rfl) dX7_text_154 (fun H4 lo4 hP4 hD4 hS4 => ?_)
        replace hP4 : va_P D vwCl (w_Model cI cB cZ aM aMt aMn aMr aMs aMi mth mtd msz mto mfr mso mnu mfa mpl mwo (0 : Int32) mgo mt mno mre msn mis) H4 := hP4
        replace hD4 : va_D A (w_Model cI cB cZ aM aMt aMn aMr aMs aMi mth mtd msz mto mfr mso mnu mfa mpl mwo (0 : Int32) mgo mt mno mre msn mis) := hD4
        clear hP hD hS
        refine lv_iload_n hx hb dX7_text_157 rfl (lv_at hl 1 rfl) ?_
        obtain ⟨hq1, hq99⟩ := Prod.mk.inj (Option.some.inj hm2)
        obtain ⟨hq2, hq99⟩ := Prod.mk.inj (hq99)
        obtain ⟨hq3, hq99⟩ := Prod.mk.inj (hq99)
        obtain ⟨hq4, hq99⟩ := Prod.mk.inj (hq99)
        obtain ⟨hq5, hq99⟩ := Prod.mk.inj (hq99)
        obtain ⟨hq6, hq99⟩ := Prod.mk.inj (hq99)
        obtain ⟨hq7, hq99⟩ := Prod.mk.inj (hq99)
        obtain ⟨hq8, hq99⟩ := Prod.mk.inj (hq99)
        obtain ⟨hq9, hq99⟩ := Prod.mk.inj (hq99)
        obtain ⟨hq10, hq99⟩ := Prod.mk.inj (hq99)
        obtain ⟨hq11, hq99⟩ := Prod.mk.inj (hq99)
        obtain ⟨hq12, hq99⟩ := Prod.mk.inj (hq99)
        obtain ⟨hq13, hq99⟩ := Prod.mk.inj (hq99)
        obtain ⟨hq14, hq99⟩ := Prod.mk.inj (hq99)
        obtain ⟨hq15, hq16⟩ := Prod.mk.inj (hq99)
        subst hq1
        subst hq2
        subst hq3
        subst hq4
        subst hq5
        subst hq6
        subst hq7
        subst hq8
        subst hq9
        subst hq10
        subst hq11
        subst hq12
        subst hq13
        subst hq14
        subst hq15
        subst hq16
        exact W.iret hx hb hr (fun t ht hW => ⟨⟨_, (), rfl, rfl, by rw [ht]; exact hP4, va_K.moved hW.alike hK, hD4⟩, hS4.F ht⟩) hS4.2.2 dX7_text_158
      · have hm3 := zz_nf c1 hm
        refine lv_aload_n hx hb dX7_text_134 rfl (lv_at hl 0 rfl) ?_
        refine va_get (D := D) (ci := 7) (v := .ref aMn) (C := RX7) (T := TX7) (N := 17) hx hb hts iw_X7 hown hK hP 0 rfl rfl 11 (by decide) (hts (.fieldLink RX7 64 "VarianceBridgeModel" "now" "[I") (by decide +kernel)) (fun _ h9 => h9) rfl dX7_text_135 ?_
        refine lv_iload_n hx hb dX7_text_138 rfl (lv_at hl 2 rfl) ?_
        refine lv_aload_n hx hb dX7_text_139 rfl (lv_at hl 0 rfl) ?_
        refine va_get (D := D) (ci := 7) (v := .ref aMr) (C := RX7) (T := TX7) (N := 17) hx hb hts iw_X7 hown hK hP 0 rfl rfl 12 (by decide) (hts (.fieldLink RX7 67 "VarianceBridgeModel" "read" "[I") (by decide +kernel)) (fun _ h9 => h9) rfl dX7_text_140 ?_
        refine lv_iload_n hx hb dX7_text_143 rfl (lv_at hl 2 rfl) ?_
        obtain ⟨c5, hm6⟩ := zz_no hm3
        refine va_iald hx hb hK hP 3 0 rfl rfl c5 dX7_text_144 ?_
        obtain ⟨c7, hm8⟩ := zz_no hm6
        refine va_iast hx hb hK hP hD hS 2 0 rfl rfl c7 dX7_text_145 (fun H9 lo9 hP9 hD9 hS9 => ?_)
        replace hP9 : va_P D vwCl (w_Model cI cB cZ aM aMt aMn aMr aMs aMi mth mtd msz mto mfr mso mnu mfa mpl mwo msm mgo mt (upd mno y2.toNatClampNeg (mre y2.toNatClampNeg)) mre msn mis) H9 := hP9
        replace hD9 : va_D A (w_Model cI cB cZ aM aMt aMn aMr aMs aMi mth mtd msz mto mfr mso mnu mfa mpl mwo msm mgo mt (upd mno y2.toNatClampNeg (mre y2.toNatClampNeg)) mre msn mis) := hD9
        clear hP hD hS
        refine lv_iinc (v := (y2 + (1 : Int32))) (lv' := [(2, .int (y2 + (1 : Int32))), (0, .ref aM), (1, .int y1)]) hx hb dX7_text_146 hl (k := 2) rfl (by rfl) (by decide) rfl (fun ls10 hl10 => ?_)
        refine lv_goto (tgt := 127) hx hb dX7_text_149 (by decide) ?_
        exact ih mth mtd msz mto mfr mso mnu mfa mpl mwo msm mgo (upd mno y2.toNatClampNeg (mre y2.toNatClampNeg)) mre mis y1 (y2 + (1 : Int32)) hm8 ls10 H9 lo9 (lv_sub hl10 [1, 2, 0] rfl) hP9 hD9 hS9
  have hk_98 : ∀ (n : Nat) (mth : Int32) (mtd : Int32) (msz : Int32) (mto : Int32) (mfr : Int32) (mso : Int32) (mnu : Int32) (mfa : Int32) (mpl : Int32) (mwo : Int64) (msm : Int32) (mgo : Int32) (mno : (Nat → Int32)) (mre : (Nat → Int32)) (mis : (Nat → Int32)) (y1 : Int32), k_X7_text_98 mt n mth mtd msz mto mfr mso mnu mfa mpl mwo msm mgo mno mre mis y1 = some (r0, u_mth, u_mtd, u_msz, u_mto, u_mfr, u_mso, u_mnu, u_mfa, u_mpl, u_mwo, u_msm, u_mgo, u_mno, u_mre, u_mis) → ∀ (ls : Array Slot) (H : Heap) (lo : List Loc), lv_has ls 3 [(0, .ref aM), (1, .int y1)] → va_P D vwCl (w_Model cI cB cZ aM aMt aMn aMr aMs aMi mth mtd msz mto mfr mso mnu mfa mpl mwo msm mgo mt mno mre msn mis) H → va_D A (w_Model cI cB cZ aM aMt aMn aMr aMs aMi mth mtd msz mto mfr mso mnu mfa mpl mwo msm mgo mt mno mre msn mis) → va_S A s.heap H lo → W p l e (headSpec wsX7_text ({ frames := 5, cells := 0, slots := 0, locals := 110 } : Room)).room s m (([.ref aM] : List Value).toArray) below meth c H lo 0 0 (MQ below (QI D cI cB cZ A (w_Model cI cB cZ aM aMt aMn aMr aMs aMi u_mth u_mtd u_msz u_mto u_mfr u_mso u_mnu u_mfa u_mpl u_mwo u_msm u_mgo mt u_mno u_mre msn u_mis) r0) (([.ref aM] : List Value).toArray) s 0 0 A) (F0 m 98 ls []) := by
    intro n
    induction n with
    | zero => intro mth mtd msz mto mfr mso mnu mfa mpl mwo msm mgo mno mre mis y1 hm; exact zz_nn hm
    | succ n ih =>
      intro mth mtd msz mto mfr mso mnu mfa mpl mwo msm mgo mno mre mis y1 hm ls H lo hl hP hD hS
      replace hm := (k_X7_text_98_s mt n mth mtd msz mto mfr mso mnu mfa mpl mwo msm mgo mno mre mis y1).symm.trans hm
      refine lv_aload_n hx hb dX7_text_98 rfl (lv_at hl 0 rfl) ?_
      refine va_get (D := D) (ci := 7) (v := .int mso) (C := RX7) (T := TX7) (N := 17) hx hb hts iw_X7 hown hK hP 0 rfl rfl 6 (by decide) (hts (.fieldLink RX7 27 "VarianceBridgeModel" "sort" "I") (by decide +kernel)) (fun _ h9 => h9) rfl dX7_text_99 ?_
      refine lv_if_eq (tgt := 125) hx hb dX7_text_102 (by decide) (fun c11 => ?_) (fun c11 => ?_)
      · have hm12 := zz_if c11 hm
        refine lv_iconst (v := (0 : Int32)) hx hb dX7_text_125 (by decide) ?_
        refine lv_istore_n (lv' := [(2, .int (0 : Int32)), (0, .ref aM), (1, .int y1)]) hx hb dX7_text_126 rfl hl (by decide) rfl (fun ls14 hl14 => ?_)
        exact hk_127 FU mth mtd msz mto mfr mso mnu mfa mpl mwo msm mgo mno mre mis y1 (0 : Int32) hm12 ls14 H lo (lv_sub hl14 [1, 2, 0] rfl) hP hD hS
      · have hm13 := zz_nf c11 hm
        refine lv_aload_n hx hb dX7_text_105 rfl (lv_at hl 0 rfl) ?_
        obtain ⟨r15, mto_15, mfr_15, mso_15, mnu_15, mfa_15, mpl_15, mwo_15, mgo_15, mre_15, mis_15, h15, hm15⟩ := ob11_e hm13
        refine gcall_b (ws' := (w_Model cI cB cZ aM aMt aMn aMr aMs aMi mth mtd msz mto_15 mfr_15 mso_15 mnu_15 mfa_15 mpl_15 mwo_15 msm mgo_15 mt mno mre_15 msn mis_15)) (va_runV (As := []) (rest := []) ⟨hx, hb, hml, hown, hts⟩ (c_X7_readLine l D cI cB cZ ta aM aMt aMn aMr aMs aMi H.size mth mtd msz mto mfr mso mnu mfa mpl mwo msm mgo mt mno mre msn mis r15 mto_15 mfr_15 mso_15 mnu_15 mfa_15 mpl_15 mwo_15 mgo_15 mre_15 mis_15 h15) (cwV 0 hts gX7_text_X7_readLine rfl rfl rfl (by decide +kernel) ⟨(Nat.le_of_ble_eq_true rfl), (Nat.le_of_ble_eq_true rfl)⟩) ⟨PW_blind, va_recv hK hP rfl (q0 := 0) rfl, PW_at hP hD hK hS hA hG [0, 1, 2, 3, 4, 5] rfl (by decide)⟩ rfl rfl hl.1 rfl (lv_room (Nat.le_of_ble_eq_true rfl)) dX7_text_106 ⟨(Nat.le_of_ble_eq_true rfl), (Nat.le_of_ble_eq_true rfl)⟩) hP hD hS hA [0, 1, 2, 3, 4, 5] [] [0, 1, 2, 3, 4, 5] rfl rfl (by decide) (by decide) (by decide) rfl (fun H16 lo16 hz15 hP16 hD16 hS16 => ?_)
        clear hP hD hS
        refine lv_if_ne (tgt := 119) hx hb dX7_text_109 (by decide) (fun c17 => ?_) (fun c17 => ?_)
        · have hm18 := zz_nf c17 hm15
          refine lv_iinc (v := (y1 + (1 : Int32))) (lv' := [(1, .int (y1 + (1 : Int32))), (0, .ref aM)]) hx hb dX7_text_119 hl (k := 1) rfl (by rfl) (by decide) rfl (fun ls20 hl20 => ?_)
          refine lv_goto (tgt := 98) hx hb dX7_text_122 (by decide) ?_
          exact ih mth mtd msz mto_15 mfr_15 mso_15 mnu_15 mfa_15 mpl_15 mwo_15 msm mgo_15 mno mre_15 mis_15 (y1 + (1 : Int32)) hm18 ls20 H16 lo16 (lv_sub hl20 [1, 0] rfl) hP16 hD16 hS16
        · have hm19 := zz_if c17 hm15
          refine lv_iconst (v := (-1 : Int32)) hx hb dX7_text_112 (by decide) ?_
          refine lv_aload_n hx hb dX7_text_113 rfl (lv_at hl 0 rfl) ?_
          refine va_get (D := D) (ci := 7) (v := .int mpl_15) (C := RX7) (T := TX7) (N := 17) hx hb hts iw_X7 hown hK hP16 0 rfl rfl 9 (by decide) (hts (.fieldLink RX7 55 "VarianceBridgeModel" "place" "I") (by decide +kernel)) (fun _ h9 => h9) rfl dX7_text_114 ?_
          refine lv_isub hx hb dX7_text_117 ?_
          obtain ⟨hq1, hq99⟩ := Prod.mk.inj (Option.some.inj hm19)
          obtain ⟨hq2, hq99⟩ := Prod.mk.inj (hq99)
          obtain ⟨hq3, hq99⟩ := Prod.mk.inj (hq99)
          obtain ⟨hq4, hq99⟩ := Prod.mk.inj (hq99)
          obtain ⟨hq5, hq99⟩ := Prod.mk.inj (hq99)
          obtain ⟨hq6, hq99⟩ := Prod.mk.inj (hq99)
          obtain ⟨hq7, hq99⟩ := Prod.mk.inj (hq99)
          obtain ⟨hq8, hq99⟩ := Prod.mk.inj (hq99)
          obtain ⟨hq9, hq99⟩ := Prod.mk.inj (hq99)
          obtain ⟨hq10, hq99⟩ := Prod.mk.inj (hq99)
          obtain ⟨hq11, hq99⟩ := Prod.mk.inj (hq99)
          obtain ⟨hq12, hq99⟩ := Prod.mk.inj (hq99)
          obtain ⟨hq13, hq99⟩ := Prod.mk.inj (hq99)
          obtain ⟨hq14, hq99⟩ := Prod.mk.inj (hq99)
          obtain ⟨hq15, hq16⟩ := Prod.mk.inj (hq99)
          subst hq1
          subst hq2
          subst hq3
          subst hq4
          subst hq5
          subst hq6
          subst hq7
          subst hq8
          subst hq9
          subst hq10
          subst hq11
          subst hq12
          subst hq13
          subst hq14
          subst hq15
          subst hq16
          exact W.iret hx hb hr (fun t ht hW => ⟨⟨_, (), rfl, rfl, by rw [ht]; exact hP16, va_K.moved hW.alike hK, hD16⟩, hS16.F ht⟩) hS16.2.2 dX7_text_118
  have hk_52 : ∀ (n : Nat) (mth : Int32) (mtd : Int32) (msz : Int32) (mto : Int32) (mfr : Int32) (mso : Int32) (mnu : Int32) (mfa : Int32) (mpl : Int32) (mwo : Int64) (msm : Int32) (mgo : Int32) (mno : (Nat → Int32)) (mre : (Nat → Int32)) (mis : (Nat → Int32)) (y1 : Int32), k_X7_text_52 mt n mth mtd msz mto mfr mso mnu mfa mpl mwo msm mgo mno mre mis y1 = some (r0, u_mth, u_mtd, u_msz, u_mto, u_mfr, u_mso, u_mnu, u_mfa, u_mpl, u_mwo, u_msm, u_mgo, u_mno, u_mre, u_mis) → ∀ (ls : Array Slot) (H : Heap) (lo : List Loc), lv_has ls 3 [(0, .ref aM), (1, .int y1)] → va_P D vwCl (w_Model cI cB cZ aM aMt aMn aMr aMs aMi mth mtd msz mto mfr mso mnu mfa mpl mwo msm mgo mt mno mre msn mis) H → va_D A (w_Model cI cB cZ aM aMt aMn aMr aMs aMi mth mtd msz mto mfr mso mnu mfa mpl mwo msm mgo mt mno mre msn mis) → va_S A s.heap H lo → W p l e (headSpec wsX7_text ({ frames := 5, cells := 0, slots := 0, locals := 110 } : Room)).room s m (([.ref aM] : List Value).toArray) below meth c H lo 0 0 (MQ below (QI D cI cB cZ A (w_Model cI cB cZ aM aMt aMn aMr aMs aMi u_mth u_mtd u_msz u_mto u_mfr u_mso u_mnu u_mfa u_mpl u_mwo u_msm u_mgo mt u_mno u_mre msn u_mis) r0) (([.ref aM] : List Value).toArray) s 0 0 A) (F0 m 52 ls []) := by
    intro n
    induction n with
    | zero => intro mth mtd msz mto mfr mso mnu mfa mpl mwo msm mgo mno mre mis y1 hm; exact zz_nn hm
    | succ n ih =>
      intro mth mtd msz mto mfr mso mnu mfa mpl mwo msm mgo mno mre mis y1 hm ls H lo hl hP hD hS
      replace hm := (k_X7_text_52_s mt n mth mtd msz mto mfr mso mnu mfa mpl mwo msm mgo mno mre mis y1).symm.trans hm
      refine lv_iload_n hx hb dX7_text_52 rfl (lv_at hl 1 rfl) ?_
      refine lv_bipush (v := (80 : Int32)) hx hb dX7_text_53 (by decide) ?_
      refine lv_icmp_ge (tgt := 71) hx hb dX7_text_55 (by decide) (fun c21 => ?_) (fun c21 => ?_)
      · have hm22 := zz_if c21 hm
        refine lv_aload_n hx hb dX7_text_71 rfl (lv_at hl 0 rfl) ?_
        refine va_get (D := D) (ci := 7) (v := .ref aMr) (C := RX7) (T := TX7) (N := 17) hx hb hts iw_X7 hown hK hP 0 rfl rfl 12 (by decide) (hts (.fieldLink RX7 67 "VarianceBridgeModel" "read" "[I") (by decide +kernel)) (fun _ h9 => h9) rfl dX7_text_72 ?_
        obtain ⟨mre_24, h24, hm24⟩ := ob1_e hm22
        refine gcall_v (ws' := (w_Model cI cB cZ aM aMt aMn aMr aMs aMi mth mtd msz mto mfr mso mnu mfa mpl mwo msm mgo mt mno mre_24 msn mis)) (va_runS (As := [.ref aMr]) (rest := []) ⟨hx, hb, hml, hown, hts⟩ (c_X7_begins l D cI cB cZ ta aMr H.size mre mre_24 h24) (va_cwS 1 hts gX7_text_X7_begins rfl rfl rfl (by decide +kernel) ⟨(Nat.le_of_ble_eq_true rfl), (Nat.le_of_ble_eq_true rfl)⟩) ⟨PW_blind, PW_at hP hD hK hS hA hG [3] rfl (by decide)⟩ rfl rfl hl.1 rfl (lv_room (Nat.le_of_ble_eq_true rfl)) dX7_text_75 ⟨(Nat.le_of_ble_eq_true rfl), (Nat.le_of_ble_eq_true rfl)⟩) hP hD hS hA [3] [0, 1, 2, 4, 5] [0, 1, 2, 5, 3, 4] rfl rfl (by decide) (by decide) (by decide) rfl (fun H25 lo25 hP25 hD25 hS25 => ?_)
        clear hP hD hS
        refine lv_aload_n hx hb dX7_text_78 rfl (lv_at hl 0 rfl) ?_
        obtain ⟨mto_26, mfr_26, mso_26, mnu_26, mwo_26, h26, hm26⟩ := ob5_e hm24
        refine gcall_v (ws' := (w_Model cI cB cZ aM aMt aMn aMr aMs aMi mth mtd msz mto_26 mfr_26 mso_26 mnu_26 mfa mpl mwo_26 msm mgo mt mno mre_24 msn mis)) (va_runV (As := []) (rest := []) ⟨hx, hb, hml, hown, hts⟩ (c_X7_go l D cI cB cZ ta aM aMt aMn aMr aMs aMi H25.size mth mtd msz mto mfr mso mnu mfa mpl mwo msm mgo mt mno mre_24 msn mis mto_26 mfr_26 mso_26 mnu_26 mwo_26 h26) (cwV 0 hts gX7_text_X7_go rfl rfl rfl (by decide +kernel) ⟨(Nat.le_of_ble_eq_true rfl), (Nat.le_of_ble_eq_true rfl)⟩) ⟨PW_blind, va_recv hK hP25 rfl (q0 := 0) rfl, PW_at hP25 hD25 hK hS25 hA hG [0, 1, 2, 3, 4, 5] rfl (by decide)⟩ rfl rfl hl.1 rfl (lv_room (Nat.le_of_ble_eq_true rfl)) dX7_text_79 ⟨(Nat.le_of_ble_eq_true rfl), (Nat.le_of_ble_eq_true rfl)⟩) hP25 hD25 hS25 hA [0, 1, 2, 3, 4, 5] [] [0, 1, 2, 3, 4, 5] rfl rfl (by decide) (by decide) (by decide) rfl (fun H27 lo27 hP27 hD27 hS27 => ?_)
        clear hP25 hD25 hS25
        refine lv_aload_n hx hb dX7_text_82 rfl (lv_at hl 0 rfl) ?_
        obtain ⟨r28, mto_28, mfr_28, mso_28, mnu_28, mfa_28, mpl_28, mwo_28, mgo_28, mre_28, h28, hm28⟩ := ob10_e hm26
        refine gcall_b (ws' := (w_Model cI cB cZ aM aMt aMn aMr aMs aMi mth mtd msz mto_28 mfr_28 mso_28 mnu_28 mfa_28 mpl_28 mwo_28 msm mgo_28 mt mno mre_28 msn mis)) (va_runV (As := []) (rest := []) ⟨hx, hb, hml, hown, hts⟩ (c_X7_readScenes l D cI cB cZ ta aM aMt aMn aMr aMs aMi H27.size mth mtd msz mto_26 mfr_26 mso_26 mnu_26 mfa mpl mwo_26 msm mgo mt mno mre_24 msn mis r28 mto_28 mfr_28 mso_28 mnu_28 mfa_28 mpl_28 mwo_28 mgo_28 mre_28 h28) (cwV 0 hts gX7_text_X7_readScenes rfl rfl rfl (by decide +kernel) ⟨(Nat.le_of_ble_eq_true rfl), (Nat.le_of_ble_eq_true rfl)⟩) ⟨PW_blind, va_recv hK hP27 rfl (q0 := 0) rfl, PW_at hP27 hD27 hK hS27 hA hG [0, 1, 2, 3, 4, 5] rfl (by decide)⟩ rfl rfl hl.1 rfl (lv_room (Nat.le_of_ble_eq_true rfl)) dX7_text_83 ⟨(Nat.le_of_ble_eq_true rfl), (Nat.le_of_ble_eq_true rfl)⟩) hP27 hD27 hS27 hA [0, 1, 2, 3, 4, 5] [] [0, 1, 2, 3, 4, 5] rfl rfl (by decide) (by decide) (by decide) rfl (fun H29 lo29 hz28 hP29 hD29 hS29 => ?_)
        clear hP27 hD27 hS27
        refine lv_if_ne (tgt := 96) hx hb dX7_text_86 (by decide) (fun c30 => ?_) (fun c30 => ?_)
        · have hm31 := zz_nf c30 hm28
          refine lv_iconst (v := (1 : Int32)) hx hb dX7_text_96 (by decide) ?_
          refine lv_istore_n (lv' := [(1, .int (1 : Int32)), (0, .ref aM)]) hx hb dX7_text_97 rfl hl (by decide) rfl (fun ls33 hl33 => ?_)
          exact hk_98 FU mth mtd msz mto_28 mfr_28 mso_28 mnu_28 mfa_28 mpl_28 mwo_28 msm mgo_28 mno mre_28 mis (1 : Int32) hm31 ls33 H29 lo29 (lv_sub hl33 [1, 0] rfl) hP29 hD29 hS29
        · have hm32 := zz_if c30 hm28
          refine lv_iconst (v := (-1 : Int32)) hx hb dX7_text_89 (by decide) ?_
          refine lv_aload_n hx hb dX7_text_90 rfl (lv_at hl 0 rfl) ?_
          refine va_get (D := D) (ci := 7) (v := .int mpl_28) (C := RX7) (T := TX7) (N := 17) hx hb hts iw_X7 hown hK hP29 0 rfl rfl 9 (by decide) (hts (.fieldLink RX7 55 "VarianceBridgeModel" "place" "I") (by decide +kernel)) (fun _ h9 => h9) rfl dX7_text_91 ?_
          refine lv_isub hx hb dX7_text_94 ?_
          obtain ⟨hq1, hq99⟩ := Prod.mk.inj (Option.some.inj hm32)
          obtain ⟨hq2, hq99⟩ := Prod.mk.inj (hq99)
          obtain ⟨hq3, hq99⟩ := Prod.mk.inj (hq99)
          obtain ⟨hq4, hq99⟩ := Prod.mk.inj (hq99)
          obtain ⟨hq5, hq99⟩ := Prod.mk.inj (hq99)
          obtain ⟨hq6, hq99⟩ := Prod.mk.inj (hq99)
          obtain ⟨hq7, hq99⟩ := Prod.mk.inj (hq99)
          obtain ⟨hq8, hq99⟩ := Prod.mk.inj (hq99)
          obtain ⟨hq9, hq99⟩ := Prod.mk.inj (hq99)
          obtain ⟨hq10, hq99⟩ := Prod.mk.inj (hq99)
          obtain ⟨hq11, hq99⟩ := Prod.mk.inj (hq99)
          obtain ⟨hq12, hq99⟩ := Prod.mk.inj (hq99)
          obtain ⟨hq13, hq99⟩ := Prod.mk.inj (hq99)
          obtain ⟨hq14, hq99⟩ := Prod.mk.inj (hq99)
          obtain ⟨hq15, hq16⟩ := Prod.mk.inj (hq99)
          subst hq1
          subst hq2
          subst hq3
          subst hq4
          subst hq5
          subst hq6
          subst hq7
          subst hq8
          subst hq9
          subst hq10
          subst hq11
          subst hq12
          subst hq13
          subst hq14
          subst hq15
          subst hq16
          exact W.iret hx hb hr (fun t ht hW => ⟨⟨_, (), rfl, rfl, by rw [ht]; exact hP29, va_K.moved hW.alike hK, hD29⟩, hS29.F ht⟩) hS29.2.2 dX7_text_95
      · have hm23 := zz_nf c21 hm
        refine lv_aload_n hx hb dX7_text_58 rfl (lv_at hl 0 rfl) ?_
        refine va_get (D := D) (ci := 7) (v := .ref aMi) (C := RX7) (T := TX7) (N := 17) hx hb hts iw_X7 hown hK hP 0 rfl rfl 16 (by decide) (hts (.fieldLink RX7 73 "VarianceBridgeModel" "isSet" "[Z") (by decide +kernel)) (fun _ h9 => h9) rfl dX7_text_59 ?_
        refine lv_iload_n hx hb dX7_text_62 rfl (lv_at hl 1 rfl) ?_
        refine lv_iconst (v := (0 : Int32)) hx hb dX7_text_63 (by decide) ?_
        obtain ⟨c34, hm35⟩ := zz_no hm23
        refine va_zast hx hb hK hP hD hS 5 2 rfl rfl c34 dX7_text_64 (fun H36 lo36 hP36 hD36 hS36 => ?_)
        replace hP36 : va_P D vwCl (w_Model cI cB cZ aM aMt aMn aMr aMs aMi mth mtd msz mto mfr mso mnu mfa mpl mwo msm mgo mt mno mre msn (upd mis y1.toNatClampNeg (vp_nar .boolean (0 : Int32)))) H36 := hP36
        replace hD36 : va_D A (w_Model cI cB cZ aM aMt aMn aMr aMs aMi mth mtd msz mto mfr mso mnu mfa mpl mwo msm mgo mt mno mre msn (upd mis y1.toNatClampNeg (vp_nar .boolean (0 : Int32)))) := hD36
        clear hP hD hS
        refine lv_iinc (v := (y1 + (1 : Int32))) (lv' := [(1, .int (y1 + (1 : Int32))), (0, .ref aM)]) hx hb dX7_text_65 hl (k := 1) rfl (by rfl) (by decide) rfl (fun ls37 hl37 => ?_)
        refine lv_goto (tgt := 52) hx hb dX7_text_68 (by decide) ?_
        exact ih mth mtd msz mto mfr mso mnu mfa mpl mwo msm mgo mno mre (upd mis y1.toNatClampNeg (vp_nar .boolean (0 : Int32))) (y1 + (1 : Int32)) hm35 ls37 H36 lo36 (lv_sub hl37 [1, 0] rfl) hP36 hD36 hS36
  have hk_30 : ∀ (n : Nat) (mth : Int32) (mtd : Int32) (msz : Int32) (mto : Int32) (mfr : Int32) (mso : Int32) (mnu : Int32) (mfa : Int32) (mpl : Int32) (mwo : Int64) (msm : Int32) (mgo : Int32) (mno : (Nat → Int32)) (mre : (Nat → Int32)) (mis : (Nat → Int32)) (y1 : Int32), k_X7_text_30 mt n mth mtd msz mto mfr mso mnu mfa mpl mwo msm mgo mno mre mis y1 = some (r0, u_mth, u_mtd, u_msz, u_mto, u_mfr, u_mso, u_mnu, u_mfa, u_mpl, u_mwo, u_msm, u_mgo, u_mno, u_mre, u_mis) → ∀ (ls : Array Slot) (H : Heap) (lo : List Loc), lv_has ls 3 [(0, .ref aM), (1, .int y1)] → va_P D vwCl (w_Model cI cB cZ aM aMt aMn aMr aMs aMi mth mtd msz mto mfr mso mnu mfa mpl mwo msm mgo mt mno mre msn mis) H → va_D A (w_Model cI cB cZ aM aMt aMn aMr aMs aMi mth mtd msz mto mfr mso mnu mfa mpl mwo msm mgo mt mno mre msn mis) → va_S A s.heap H lo → W p l e (headSpec wsX7_text ({ frames := 5, cells := 0, slots := 0, locals := 110 } : Room)).room s m (([.ref aM] : List Value).toArray) below meth c H lo 0 0 (MQ below (QI D cI cB cZ A (w_Model cI cB cZ aM aMt aMn aMr aMs aMi u_mth u_mtd u_msz u_mto u_mfr u_mso u_mnu u_mfa u_mpl u_mwo u_msm u_mgo mt u_mno u_mre msn u_mis) r0) (([.ref aM] : List Value).toArray) s 0 0 A) (F0 m 30 ls []) := by
    intro n
    induction n with
    | zero => intro mth mtd msz mto mfr mso mnu mfa mpl mwo msm mgo mno mre mis y1 hm; exact zz_nn hm
    | succ n ih =>
      intro mth mtd msz mto mfr mso mnu mfa mpl mwo msm mgo mno mre mis y1 hm ls H lo hl hP hD hS
      replace hm := (k_X7_text_30_s mt n mth mtd msz mto mfr mso mnu mfa mpl mwo msm mgo mno mre mis y1).symm.trans hm
      refine lv_iload_n hx hb dX7_text_30 rfl (lv_at hl 1 rfl) ?_
      refine lv_sipush (v := (442 : Int32)) hx hb dX7_text_31 (by decide) ?_
      refine lv_icmp_ge (tgt := 50) hx hb dX7_text_34 (by decide) (fun c38 => ?_) (fun c38 => ?_)
      · have hm39 := zz_if c38 hm
        refine lv_iconst (v := (0 : Int32)) hx hb dX7_text_50 (by decide) ?_
        refine lv_istore_n (lv' := [(1, .int (0 : Int32)), (0, .ref aM)]) hx hb dX7_text_51 rfl hl (by decide) rfl (fun ls41 hl41 => ?_)
        exact hk_52 FU mth mtd msz mto mfr mso mnu mfa mpl mwo msm mgo mno mre mis (0 : Int32) hm39 ls41 H lo (lv_sub hl41 [1, 0] rfl) hP hD hS
      · have hm40 := zz_nf c38 hm
        refine lv_aload_n hx hb dX7_text_37 rfl (lv_at hl 0 rfl) ?_
        refine va_get (D := D) (ci := 7) (v := .ref aMr) (C := RX7) (T := TX7) (N := 17) hx hb hts iw_X7 hown hK hP 0 rfl rfl 12 (by decide) (hts (.fieldLink RX7 67 "VarianceBridgeModel" "read" "[I") (by decide +kernel)) (fun _ h9 => h9) rfl dX7_text_38 ?_
        refine lv_iload_n hx hb dX7_text_41 rfl (lv_at hl 1 rfl) ?_
        refine lv_iconst (v := (0 : Int32)) hx hb dX7_text_42 (by decide) ?_
        obtain ⟨c42, hm43⟩ := zz_no hm40
        refine va_iast hx hb hK hP hD hS 3 0 rfl rfl c42 dX7_text_43 (fun H44 lo44 hP44 hD44 hS44 => ?_)
        replace hP44 : va_P D vwCl (w_Model cI cB cZ aM aMt aMn aMr aMs aMi mth mtd msz mto mfr mso mnu mfa mpl mwo msm mgo mt mno (upd mre y1.toNatClampNeg (0 : Int32)) msn mis) H44 := hP44
        replace hD44 : va_D A (w_Model cI cB cZ aM aMt aMn aMr aMs aMi mth mtd msz mto mfr mso mnu mfa mpl mwo msm mgo mt mno (upd mre y1.toNatClampNeg (0 : Int32)) msn mis) := hD44
        clear hP hD hS
        refine lv_iinc (v := (y1 + (1 : Int32))) (lv' := [(1, .int (y1 + (1 : Int32))), (0, .ref aM)]) hx hb dX7_text_44 hl (k := 1) rfl (by rfl) (by decide) rfl (fun ls45 hl45 => ?_)
        refine lv_goto (tgt := 30) hx hb dX7_text_47 (by decide) ?_
        exact ih mth mtd msz mto mfr mso mnu mfa mpl mwo msm mgo mno (upd mre y1.toNatClampNeg (0 : Int32)) mis (y1 + (1 : Int32)) hm43 ls45 H44 lo44 (lv_sub hl45 [1, 0] rfl) hP44 hD44 hS44
  have hl := lv_entry ([.ref aM]) (n := 3) (Nat.le_of_ble_eq_true rfl)
  rw [lg_entry_eq]
  generalize (lg_sl ([.ref aM]) ++ List.replicate (3 - (lg_sl ([.ref aM])).length) Slot.unset).toArray = ls at hl ⊢
  have hl : lv_has ls 3 [(0, .ref aM)] := hl
  replace hm : (k_X7_text_30 mt FU (0 : Int32) (0 : Int32) mtd (0 : Int32) mfr mso mnu (0 : Int32) mpl mwo msm mgo mno mre mis (0 : Int32)) = some (r0, u_mth, u_mtd, u_msz, u_mto, u_mfr, u_mso, u_mnu, u_mfa, u_mpl, u_mwo, u_msm, u_mgo, u_mno, u_mre, u_mis) := hm
  refine lv_aload_n hx hb dX7_text_0 rfl (lv_at hl 0 rfl) ?_
  refine lv_iconst (v := (0 : Int32)) hx hb dX7_text_1 (by decide) ?_
  refine va_put (D := D) (ci := 7) (v := .int (0 : Int32)) (ty := .int) (C := RX7) (T := TX7) (N := 17) hx hb hts iw_X7 tyX7 tyX7_ok nmX7 hown hK hP hD hS 0 rfl rfl 0 (by decide) (hts (.fieldLink RX7 1 "VarianceBridgeModel" "thrown" "I") (by decide +kernel)) (fun _ h9 => h9) rfl (by decide +kernel) rfl rfl (Nat.le_of_ble_eq_true rfl) dX7_text_2 (fun H46 lo46 hP46 hD46 hS46 => ?_)
  replace hP46 : va_P D vwCl (w_Model cI cB cZ aM aMt aMn aMr aMs aMi (0 : Int32) mtd msz mto mfr mso mnu mfa mpl mwo msm mgo mt mno mre msn mis) H46 := hP46
  replace hD46 : va_D A (w_Model cI cB cZ aM aMt aMn aMr aMs aMi (0 : Int32) mtd msz mto mfr mso mnu mfa mpl mwo msm mgo mt mno mre msn mis) := hD46
  clear hP hD hS
  refine lv_aload_n hx hb dX7_text_5 rfl (lv_at hl 0 rfl) ?_
  refine lv_aload_n hx hb dX7_text_6 rfl (lv_at hl 0 rfl) ?_
  refine va_get (D := D) (ci := 7) (v := .int mtd) (C := RX7) (T := TX7) (N := 17) hx hb hts iw_X7 hown hK hP46 0 rfl rfl 2 (by decide) (hts (.fieldLink RX7 11 "VarianceBridgeModel" "taped" "I") (by decide +kernel)) (fun _ h9 => h9) rfl dX7_text_7 ?_
  refine va_put (D := D) (ci := 7) (v := .int mtd) (ty := .int) (C := RX7) (T := TX7) (N := 17) hx hb hts iw_X7 tyX7 tyX7_ok nmX7 hown hK hP46 hD46 hS46 0 rfl rfl 3 (by decide) (hts (.fieldLink RX7 18 "VarianceBridgeModel" "size" "I") (by decide +kernel)) (fun _ h9 => h9) rfl (by decide +kernel) rfl rfl (Nat.le_of_ble_eq_true rfl) dX7_text_10 (fun H47 lo47 hP47 hD47 hS47 => ?_)
  replace hP47 : va_P D vwCl (w_Model cI cB cZ aM aMt aMn aMr aMs aMi (0 : Int32) mtd mtd mto mfr mso mnu mfa mpl mwo msm mgo mt mno mre msn mis) H47 := hP47
  replace hD47 : va_D A (w_Model cI cB cZ aM aMt aMn aMr aMs aMi (0 : Int32) mtd mtd mto mfr mso mnu mfa mpl mwo msm mgo mt mno mre msn mis) := hD47
  clear hP46 hD46 hS46
  refine lv_aload_n hx hb dX7_text_13 rfl (lv_at hl 0 rfl) ?_
  refine lv_iconst (v := (0 : Int32)) hx hb dX7_text_14 (by decide) ?_
  refine va_put (D := D) (ci := 7) (v := .int (0 : Int32)) (ty := .int) (C := RX7) (T := TX7) (N := 17) hx hb hts iw_X7 tyX7 tyX7_ok nmX7 hown hK hP47 hD47 hS47 0 rfl rfl 2 (by decide) (hts (.fieldLink RX7 11 "VarianceBridgeModel" "taped" "I") (by decide +kernel)) (fun _ h9 => h9) rfl (by decide +kernel) rfl rfl (Nat.le_of_ble_eq_true rfl) dX7_text_15 (fun H48 lo48 hP48 hD48 hS48 => ?_)
  replace hP48 : va_P D vwCl (w_Model cI cB cZ aM aMt aMn aMr aMs aMi (0 : Int32) (0 : Int32) mtd mto mfr mso mnu mfa mpl mwo msm mgo mt mno mre msn mis) H48 := hP48
  replace hD48 : va_D A (w_Model cI cB cZ aM aMt aMn aMr aMs aMi (0 : Int32) (0 : Int32) mtd mto mfr mso mnu mfa mpl mwo msm mgo mt mno mre msn mis) := hD48
  clear hP47 hD47 hS47
  refine lv_aload_n hx hb dX7_text_18 rfl (lv_at hl 0 rfl) ?_
  refine lv_iconst (v := (0 : Int32)) hx hb dX7_text_19 (by decide) ?_
  refine va_put (D := D) (ci := 7) (v := .int (0 : Int32)) (ty := .int) (C := RX7) (T := TX7) (N := 17) hx hb hts iw_X7 tyX7 tyX7_ok nmX7 hown hK hP48 hD48 hS48 0 rfl rfl 8 (by decide) (hts (.fieldLink RX7 52 "VarianceBridgeModel" "fault" "I") (by decide +kernel)) (fun _ h9 => h9) rfl (by decide +kernel) rfl rfl (Nat.le_of_ble_eq_true rfl) dX7_text_20 (fun H49 lo49 hP49 hD49 hS49 => ?_)
  replace hP49 : va_P D vwCl (w_Model cI cB cZ aM aMt aMn aMr aMs aMi (0 : Int32) (0 : Int32) mtd mto mfr mso mnu (0 : Int32) mpl mwo msm mgo mt mno mre msn mis) H49 := hP49
  replace hD49 : va_D A (w_Model cI cB cZ aM aMt aMn aMr aMs aMi (0 : Int32) (0 : Int32) mtd mto mfr mso mnu (0 : Int32) mpl mwo msm mgo mt mno mre msn mis) := hD49
  clear hP48 hD48 hS48
  refine lv_aload_n hx hb dX7_text_23 rfl (lv_at hl 0 rfl) ?_
  refine lv_iconst (v := (0 : Int32)) hx hb dX7_text_24 (by decide) ?_
  refine va_put (D := D) (ci := 7) (v := .int (0 : Int32)) (ty := .int) (C := RX7) (T := TX7) (N := 17) hx hb hts iw_X7 tyX7 tyX7_ok nmX7 hown hK hP49 hD49 hS49 0 rfl rfl 4 (by decide) (hts (.fieldLink RX7 21 "VarianceBridgeModel" "to" "I") (by decide +kernel)) (fun _ h9 => h9) rfl (by decide +kernel) rfl rfl (Nat.le_of_ble_eq_true rfl) dX7_text_25 (fun H50 lo50 hP50 hD50 hS50 => ?_)
  replace hP50 : va_P D vwCl (w_Model cI cB cZ aM aMt aMn aMr aMs aMi (0 : Int32) (0 : Int32) mtd (0 : Int32) mfr mso mnu (0 : Int32) mpl mwo msm mgo mt mno mre msn mis) H50 := hP50
  replace hD50 : va_D A (w_Model cI cB cZ aM aMt aMn aMr aMs aMi (0 : Int32) (0 : Int32) mtd (0 : Int32) mfr mso mnu (0 : Int32) mpl mwo msm mgo mt mno mre msn mis) := hD50
  clear hP49 hD49 hS49
  refine lv_iconst (v := (0 : Int32)) hx hb dX7_text_28 (by decide) ?_
  refine lv_istore_n (lv' := [(1, .int (0 : Int32)), (0, .ref aM)]) hx hb dX7_text_29 rfl hl (by decide) rfl (fun ls51 hl51 => ?_)
  exact hk_30 FU (0 : Int32) (0 : Int32) mtd (0 : Int32) mfr mso mnu (0 : Int32) mpl mwo msm mgo mno mre mis (0 : Int32) hm ls51 H50 lo50 (lv_sub hl51 [1, 0] rfl) hP50 hD50 hS50
theorem iw_X7_fault_X7 : ∀ w ∈ wsX70, w ∈ wsX7_fault := by decide +kernel
set_option maxHeartbeats 4000000 in
set_option maxRecDepth 100000 in
theorem c_X7_fault (l : Launch) (D : va_G) (cI cB cZ : ClassId) (ta : Nat → Nat) (aM : Nat) (aMt : Nat) (aMn : Nat) (aMr : Nat) (aMs : Nat) (aMi : Nat) (sz : Nat) (mth : Int32) (mtd : Int32) (msz : Int32) (mto : Int32) (mfr : Int32) (mso : Int32) (mnu : Int32) (mfa : Int32) (mpl : Int32) (mwo : Int64) (msm : Int32) (mgo : Int32) (mt : (Nat → Int32)) (mno : (Nat → Int32)) (mre : (Nat → Int32)) (msn : (Nat → Int32)) (mis : (Nat → Int32)) (r0 : Int32) (u_mth : Int32) (hm : m_X7_fault mth mfa = some (r0, u_mth)) : Met l yX7_fault wsX7_fault ({ frames := 0, cells := 0, slots := 0, locals := 0 } : Room) (va_Pc [.ref aM] (PW D cI cB cZ ta (w_Model cI cB cZ aM aMt aMn aMr aMs aMi mth mtd msz mto mfr mso mnu mfa mpl mwo msm mgo mt mno mre msn mis) sz)) (QI D cI cB cZ (va_A (w_Model cI cB cZ aM aMt aMn aMr aMs aMi mth mtd msz mto mfr mso mnu mfa mpl mwo msm mgo mt mno mre msn mis) sz) (w_Model cI cB cZ aM aMt aMn aMr aMs aMi u_mth mtd msz mto mfr mso mnu mfa mpl mwo msm mgo mt mno mre msn mis) r0) 0 0 (va_A (w_Model cI cB cZ aM aMt aMn aMr aMs aMi mth mtd msz mto mfr mso mnu mfa mpl mwo msm mgo mt mno mre msn mis) sz) := by
  refine Met.ofW (cc := cX7_fault) (maxL := 1) (ret := (some .int)) (by decide) rfl ?_
  intro p e s m args below meth c s₁ B hml hv
  obtain ⟨rfl, hsz, hP, hK, hD0, hG⟩ := hv
  have hx := B.exec
  have hb := B.bytes
  have hr := B.returns
  have hts := atoms_spec (ws := wsX7_fault) B.pre
  have hown : s.vm.findClass RX7 = some m.cls := findClass_of_methodNamed B.named
  have hlocks := B.notSynchronized
  subst hsz
  have hD := hD0.self (sz := s.heap.size)
  clear hD0
  have hA0 : ∀ q : Nat, s.heap.size ≤ q → va_A (w_Model cI cB cZ aM aMt aMn aMr aMs aMi mth mtd msz mto mfr mso mnu mfa mpl mwo msm mgo mt mno mre msn mis) s.heap.size q := fun q h => Or.inr h
  generalize hAe : va_A (w_Model cI cB cZ aM aMt aMn aMr aMs aMi mth mtd msz mto mfr mso mnu mfa mpl mwo msm mgo mt mno mre msn mis) s.heap.size = A at hD hG hA0 ⊢
  have hA : ∀ q : Nat, s.heap.size ≤ q → A q := hA0
  clear hA0
  have hS : va_S A s.heap s.heap [] := va_S.rf
  have iw_X7 := iw_X7_fault_X7
  have hl := lv_entry ([.ref aM]) (n := 1) (Nat.le_of_ble_eq_true rfl)
  rw [lg_entry_eq]
  generalize (lg_sl ([.ref aM]) ++ List.replicate (1 - (lg_sl ([.ref aM])).length) Slot.unset).toArray = ls at hl ⊢
  have hl : lv_has ls 1 [(0, .ref aM)] := hl
  replace hm : some (mfa, (0 : Int32)) = some (r0, u_mth) := hm
  refine lv_aload_n hx hb dX7_fault_0 rfl (lv_at hl 0 rfl) ?_
  refine lv_iconst (v := (0 : Int32)) hx hb dX7_fault_1 (by decide) ?_
  refine va_put (D := D) (ci := 7) (v := .int (0 : Int32)) (ty := .int) (C := RX7) (T := TX7) (N := 17) hx hb hts iw_X7 tyX7 tyX7_ok nmX7 hown hK hP hD hS 0 rfl rfl 0 (by decide) (hts (.fieldLink RX7 1 "VarianceBridgeModel" "thrown" "I") (by decide +kernel)) (fun _ h9 => h9) rfl (by decide +kernel) rfl rfl (Nat.le_of_ble_eq_true rfl) dX7_fault_2 (fun H1 lo1 hP1 hD1 hS1 => ?_)
  replace hP1 : va_P D vwCl (w_Model cI cB cZ aM aMt aMn aMr aMs aMi (0 : Int32) mtd msz mto mfr mso mnu mfa mpl mwo msm mgo mt mno mre msn mis) H1 := hP1
  replace hD1 : va_D A (w_Model cI cB cZ aM aMt aMn aMr aMs aMi (0 : Int32) mtd msz mto mfr mso mnu mfa mpl mwo msm mgo mt mno mre msn mis) := hD1
  clear hP hD hS
  refine lv_aload_n hx hb dX7_fault_5 rfl (lv_at hl 0 rfl) ?_
  refine va_get (D := D) (ci := 7) (v := .int mfa) (C := RX7) (T := TX7) (N := 17) hx hb hts iw_X7 hown hK hP1 0 rfl rfl 8 (by decide) (hts (.fieldLink RX7 52 "VarianceBridgeModel" "fault" "I") (by decide +kernel)) (fun _ h9 => h9) rfl dX7_fault_6 ?_
  obtain ⟨hq1, hq2⟩ := Prod.mk.inj (Option.some.inj hm)
  subst hq1
  subst hq2
  exact W.iret hx hb hr (fun t ht hW => ⟨⟨_, (), rfl, rfl, by rw [ht]; exact hP1, va_K.moved hW.alike hK, hD1⟩, hS1.F ht⟩) hS1.2.2 dX7_fault_9
theorem iw_X7_isNode_X7 : ∀ w ∈ wsX70, w ∈ wsX7_isNode := by decide +kernel
set_option maxHeartbeats 4000000 in
set_option maxRecDepth 100000 in
theorem c_X7_isNode (l : Launch) (D : va_G) (cI cB cZ : ClassId) (ta : Nat → Nat) (aM : Nat) (aMt : Nat) (aMn : Nat) (aMr : Nat) (aMs : Nat) (aMi : Nat) (sz : Nat) (mth : Int32) (mtd : Int32) (msz : Int32) (mto : Int32) (mfr : Int32) (mso : Int32) (mnu : Int32) (mfa : Int32) (mpl : Int32) (mwo : Int64) (msm : Int32) (mgo : Int32) (mt : (Nat → Int32)) (mno : (Nat → Int32)) (mre : (Nat → Int32)) (msn : (Nat → Int32)) (mis : (Nat → Int32)) (x1 : Int32) (r0 : Int32) (hm : m_X7_isNode mno x1 = some r0) : Met l yX7_isNode wsX7_isNode ({ frames := 1, cells := 0, slots := 0, locals := 22 } : Room) (va_Pc [.ref aM, .int x1] (PW D cI cB cZ ta (w_Model cI cB cZ aM aMt aMn aMr aMs aMi mth mtd msz mto mfr mso mnu mfa mpl mwo msm mgo mt mno mre msn mis) sz)) (QZ .boolean D cI cB cZ (va_A (w_Model cI cB cZ aM aMt aMn aMr aMs aMi mth mtd msz mto mfr mso mnu mfa mpl mwo msm mgo mt mno mre msn mis) sz) (w_Model cI cB cZ aM aMt aMn aMr aMs aMi mth mtd msz mto mfr mso mnu mfa mpl mwo msm mgo mt mno mre msn mis) r0) 0 0 (va_A (w_Model cI cB cZ aM aMt aMn aMr aMs aMi mth mtd msz mto mfr mso mnu mfa mpl mwo msm mgo mt mno mre msn mis) sz) := by
  refine Met.ofW (cc := cX7_isNode) (maxL := 2) (ret := (some .boolean)) (by decide) rfl ?_
  intro p e s m args below meth c s₁ B hml hv
  obtain ⟨rfl, hsz, hP, hK, hD0, hG⟩ := hv
  have hx := B.exec
  have hb := B.bytes
  have hr := B.returns
  have hts := atoms_spec (ws := wsX7_isNode) B.pre
  have hown : s.vm.findClass RX7 = some m.cls := findClass_of_methodNamed B.named
  have hlocks := B.notSynchronized
  subst hsz
  have hD := hD0.self (sz := s.heap.size)
  clear hD0
  have hA0 : ∀ q : Nat, s.heap.size ≤ q → va_A (w_Model cI cB cZ aM aMt aMn aMr aMs aMi mth mtd msz mto mfr mso mnu mfa mpl mwo msm mgo mt mno mre msn mis) s.heap.size q := fun q h => Or.inr h
  generalize hAe : va_A (w_Model cI cB cZ aM aMt aMn aMr aMs aMi mth mtd msz mto mfr mso mnu mfa mpl mwo msm mgo mt mno mre msn mis) s.heap.size = A at hD hG hA0 ⊢
  have hA : ∀ q : Nat, s.heap.size ≤ q → A q := hA0
  clear hA0
  have hS : va_S A s.heap s.heap [] := va_S.rf
  have iw_X7 := iw_X7_isNode_X7
  have hl := lv_entry ([.ref aM, .int x1]) (n := 2) (Nat.le_of_ble_eq_true rfl)
  rw [lg_entry_eq]
  generalize (lg_sl ([.ref aM, .int x1]) ++ List.replicate (2 - (lg_sl ([.ref aM, .int x1])).length) Slot.unset).toArray = ls at hl ⊢
  have hl : lv_has ls 2 [(0, .ref aM), (1, .int x1)] := hl
  replace hm : (if (1 : Int32) < 0 ∨ 442 ≤ (1 : Int32).toNatClampNeg then none else (ob1 (m_X7_isIn x1 (0 : Int32) ((mno (1 : Int32).toNatClampNeg) - (1 : Int32))) (fun r3 => some r3))) = some r0 := hm
  refine lv_iload_n hx hb dX7_isNode_0 rfl (lv_at hl 1 rfl) ?_
  refine lv_iconst (v := (0 : Int32)) hx hb dX7_isNode_1 (by decide) ?_
  refine lv_aload_n hx hb dX7_isNode_2 rfl (lv_at hl 0 rfl) ?_
  refine va_get (D := D) (ci := 7) (v := .ref aMn) (C := RX7) (T := TX7) (N := 17) hx hb hts iw_X7 hown hK hP 0 rfl rfl 11 (by decide) (hts (.fieldLink RX7 64 "VarianceBridgeModel" "now" "[I") (by decide +kernel)) (fun _ h9 => h9) rfl dX7_isNode_3 ?_
  refine lv_iconst (v := (1 : Int32)) hx hb dX7_isNode_6 (by decide) ?_
  obtain ⟨c1, hm2⟩ := zz_no hm
  refine va_iald hx hb hK hP 2 0 rfl rfl c1 dX7_isNode_7 ?_
  refine lv_iconst (v := (1 : Int32)) hx hb dX7_isNode_8 (by decide) ?_
  refine lv_isub hx hb dX7_isNode_9 ?_
  obtain ⟨r3, h3, hm3⟩ := ob1_e hm2
  refine gcall_b (ws' := (w_Model cI cB cZ aM aMt aMn aMr aMs aMi mth mtd msz mto mfr mso mnu mfa mpl mwo msm mgo mt mno mre msn mis)) (va_runS (As := [.int x1, .int (0 : Int32), .int ((mno (1 : Int32).toNatClampNeg) - (1 : Int32))]) (rest := []) ⟨hx, hb, hml, hown, hts⟩ (c_X7_isIn l D cI cB cZ ta s.heap.size x1 (0 : Int32) ((mno (1 : Int32).toNatClampNeg) - (1 : Int32)) r3 h3) (va_cwS 3 hts gX7_isNode_X7_isIn rfl rfl rfl (by decide +kernel) ⟨(Nat.le_of_ble_eq_true rfl), (Nat.le_of_ble_eq_true rfl)⟩) ⟨PW_blind, PW_at hP hD hK hS hA hG [] rfl (by decide)⟩ rfl rfl hl.1 rfl (lv_room (Nat.le_of_ble_eq_true rfl)) dX7_isNode_10 ⟨(Nat.le_of_ble_eq_true rfl), (Nat.le_of_ble_eq_true rfl)⟩) hP hD hS hA [] [0, 1, 2, 3, 4, 5] [0, 1, 2, 3, 4, 5] rfl rfl (by decide) (by decide) (by decide) rfl (fun H4 lo4 hz3 hP4 hD4 hS4 => ?_)
  clear hP hD hS
  have hq1 := Option.some.inj hm3
  subst hq1
  exact W.zret (ty := .boolean) hx hb hr hz3 (fun t ht hW => ⟨⟨_, (), rfl, ⟨rfl, hz3⟩, by rw [ht]; exact hP4, va_K.moved hW.alike hK, hD4⟩, hS4.F ht⟩) hS4.2.2 dX7_isNode_13
theorem iw_X7_isGroup_X7 : ∀ w ∈ wsX70, w ∈ wsX7_isGroup := by decide +kernel
set_option maxHeartbeats 4000000 in
set_option maxRecDepth 100000 in
theorem c_X7_isGroup (l : Launch) (D : va_G) (cI cB cZ : ClassId) (ta : Nat → Nat) (aM : Nat) (aMt : Nat) (aMn : Nat) (aMr : Nat) (aMs : Nat) (aMi : Nat) (sz : Nat) (mth : Int32) (mtd : Int32) (msz : Int32) (mto : Int32) (mfr : Int32) (mso : Int32) (mnu : Int32) (mfa : Int32) (mpl : Int32) (mwo : Int64) (msm : Int32) (mgo : Int32) (mt : (Nat → Int32)) (mno : (Nat → Int32)) (mre : (Nat → Int32)) (msn : (Nat → Int32)) (mis : (Nat → Int32)) (x1 : Int32) (r0 : Int32) (hm : m_X7_isGroup mno x1 = some r0) : Met l yX7_isGroup wsX7_isGroup ({ frames := 2, cells := 0, slots := 0, locals := 43 } : Room) (va_Pc [.ref aM, .int x1] (PW D cI cB cZ ta (w_Model cI cB cZ aM aMt aMn aMr aMs aMi mth mtd msz mto mfr mso mnu mfa mpl mwo msm mgo mt mno mre msn mis) sz)) (QZ .boolean D cI cB cZ (va_A (w_Model cI cB cZ aM aMt aMn aMr aMs aMi mth mtd msz mto mfr mso mnu mfa mpl mwo msm mgo mt mno mre msn mis) sz) (w_Model cI cB cZ aM aMt aMn aMr aMs aMi mth mtd msz mto mfr mso mnu mfa mpl mwo msm mgo mt mno mre msn mis) r0) 0 0 (va_A (w_Model cI cB cZ aM aMt aMn aMr aMs aMi mth mtd msz mto mfr mso mnu mfa mpl mwo msm mgo mt mno mre msn mis) sz) := by
  refine Met.ofW (cc := cX7_isGroup) (maxL := 2) (ret := (some .boolean)) (by decide) rfl ?_
  intro p e s m args below meth c s₁ B hml hv
  obtain ⟨rfl, hsz, hP, hK, hD0, hG⟩ := hv
  have hx := B.exec
  have hb := B.bytes
  have hr := B.returns
  have hts := atoms_spec (ws := wsX7_isGroup) B.pre
  have hown : s.vm.findClass RX7 = some m.cls := findClass_of_methodNamed B.named
  have hlocks := B.notSynchronized
  subst hsz
  have hD := hD0.self (sz := s.heap.size)
  clear hD0
  have hA0 : ∀ q : Nat, s.heap.size ≤ q → va_A (w_Model cI cB cZ aM aMt aMn aMr aMs aMi mth mtd msz mto mfr mso mnu mfa mpl mwo msm mgo mt mno mre msn mis) s.heap.size q := fun q h => Or.inr h
  generalize hAe : va_A (w_Model cI cB cZ aM aMt aMn aMr aMs aMi mth mtd msz mto mfr mso mnu mfa mpl mwo msm mgo mt mno mre msn mis) s.heap.size = A at hD hG hA0 ⊢
  have hA : ∀ q : Nat, s.heap.size ≤ q → A q := hA0
  clear hA0
  have hS : va_S A s.heap s.heap [] := va_S.rf
  have iw_X7 := iw_X7_isGroup_X7
  have hl := lv_entry ([.ref aM, .int x1]) (n := 2) (Nat.le_of_ble_eq_true rfl)
  rw [lg_entry_eq]
  generalize (lg_sl ([.ref aM, .int x1]) ++ List.replicate (2 - (lg_sl ([.ref aM, .int x1])).length) Slot.unset).toArray = ls at hl ⊢
  have hl : lv_has ls 2 [(0, .ref aM), (1, .int x1)] := hl
  replace hm : (ob1 (m_X7_isNode mno x1) (fun r1 => (if r1 = 0 then some (0 : Int32) else (if ((22 : Int32) + x1) < 0 ∨ 442 ≤ ((22 : Int32) + x1).toNatClampNeg then none else (if (mno ((22 : Int32) + x1).toNatClampNeg) = (1 : Int32) then some (1 : Int32) else some (0 : Int32)))))) = some r0 := hm
  refine lv_aload_n hx hb dX7_isGroup_0 rfl (lv_at hl 0 rfl) ?_
  refine lv_iload_n hx hb dX7_isGroup_1 rfl (lv_at hl 1 rfl) ?_
  obtain ⟨r1, h1, hm1⟩ := ob1_e hm
  refine gcall_b (ws' := (w_Model cI cB cZ aM aMt aMn aMr aMs aMi mth mtd msz mto mfr mso mnu mfa mpl mwo msm mgo mt mno mre msn mis)) (va_runV (As := [.int x1]) (rest := []) ⟨hx, hb, hml, hown, hts⟩ (c_X7_isNode l D cI cB cZ ta aM aMt aMn aMr aMs aMi s.heap.size mth mtd msz mto mfr mso mnu mfa mpl mwo msm mgo mt mno mre msn mis x1 r1 h1) (cwV 1 hts gX7_isGroup_X7_isNode rfl rfl rfl (by decide +kernel) ⟨(Nat.le_of_ble_eq_true rfl), (Nat.le_of_ble_eq_true rfl)⟩) ⟨PW_blind, va_recv hK hP rfl (q0 := 0) rfl, PW_at hP hD hK hS hA hG [0, 1, 2, 3, 4, 5] rfl (by decide)⟩ rfl rfl hl.1 rfl (lv_room (Nat.le_of_ble_eq_true rfl)) dX7_isGroup_2 ⟨(Nat.le_of_ble_eq_true rfl), (Nat.le_of_ble_eq_true rfl)⟩) hP hD hS hA [0, 1, 2, 3, 4, 5] [] [0, 1, 2, 3, 4, 5] rfl rfl (by decide) (by decide) (by decide) rfl (fun H2 lo2 hz1 hP2 hD2 hS2 => ?_)
  clear hP hD hS
  refine lv_if_eq (tgt := 25) hx hb dX7_isGroup_5 (by decide) (fun c3 => ?_) (fun c3 => ?_)
  · have hm4 := zz_if c3 hm1
    refine lv_iconst (v := (0 : Int32)) hx hb dX7_isGroup_25 (by decide) ?_
    have hq1 := Option.some.inj hm4
    subst hq1
    exact W.zret (ty := .boolean) hx hb hr (by decide) (fun t ht hW => ⟨⟨_, (), rfl, ⟨rfl, (by decide)⟩, by rw [ht]; exact hP2, va_K.moved hW.alike hK, hD2⟩, hS2.F ht⟩) hS2.2.2 dX7_isGroup_26
  · have hm5 := zz_nf c3 hm1
    refine lv_aload_n hx hb dX7_isGroup_8 rfl (lv_at hl 0 rfl) ?_
    refine va_get (D := D) (ci := 7) (v := .ref aMn) (C := RX7) (T := TX7) (N := 17) hx hb hts iw_X7 hown hK hP2 0 rfl rfl 11 (by decide) (hts (.fieldLink RX7 64 "VarianceBridgeModel" "now" "[I") (by decide +kernel)) (fun _ h9 => h9) rfl dX7_isGroup_9 ?_
    refine lv_bipush (v := (22 : Int32)) hx hb dX7_isGroup_12 (by decide) ?_
    refine lv_iload_n hx hb dX7_isGroup_14 rfl (lv_at hl 1 rfl) ?_
    refine lv_iadd hx hb dX7_isGroup_15 ?_
    obtain ⟨c6, hm7⟩ := zz_no hm5
    refine va_iald hx hb hK hP2 2 0 rfl rfl c6 dX7_isGroup_16 ?_
    refine lv_iconst (v := (1 : Int32)) hx hb dX7_isGroup_17 (by decide) ?_
    refine lv_icmp_ne (tgt := 25) hx hb dX7_isGroup_18 (by decide) (fun c8 => ?_) (fun c8 => ?_)
    · have hm9 := zz_nf c8 hm7
      refine lv_iconst (v := (0 : Int32)) hx hb dX7_isGroup_25 (by decide) ?_
      have hq1 := Option.some.inj hm9
      subst hq1
      exact W.zret (ty := .boolean) hx hb hr (by decide) (fun t ht hW => ⟨⟨_, (), rfl, ⟨rfl, (by decide)⟩, by rw [ht]; exact hP2, va_K.moved hW.alike hK, hD2⟩, hS2.F ht⟩) hS2.2.2 dX7_isGroup_26
    · have hm10 := zz_if c8 hm7
      refine lv_iconst (v := (1 : Int32)) hx hb dX7_isGroup_21 (by decide) ?_
      refine lv_goto (tgt := 26) hx hb dX7_isGroup_22 (by decide) ?_
      have hq1 := Option.some.inj hm10
      subst hq1
      exact W.zret (ty := .boolean) hx hb hr (by decide) (fun t ht hW => ⟨⟨_, (), rfl, ⟨rfl, (by decide)⟩, by rw [ht]; exact hP2, va_K.moved hW.alike hK, hD2⟩, hS2.F ht⟩) hS2.2.2 dX7_isGroup_26
theorem iw_X7_isLeaf_X7 : ∀ w ∈ wsX70, w ∈ wsX7_isLeaf := by decide +kernel
set_option maxHeartbeats 4000000 in
set_option maxRecDepth 100000 in
theorem c_X7_isLeaf (l : Launch) (D : va_G) (cI cB cZ : ClassId) (ta : Nat → Nat) (aM : Nat) (aMt : Nat) (aMn : Nat) (aMr : Nat) (aMs : Nat) (aMi : Nat) (sz : Nat) (mth : Int32) (mtd : Int32) (msz : Int32) (mto : Int32) (mfr : Int32) (mso : Int32) (mnu : Int32) (mfa : Int32) (mpl : Int32) (mwo : Int64) (msm : Int32) (mgo : Int32) (mt : (Nat → Int32)) (mno : (Nat → Int32)) (mre : (Nat → Int32)) (msn : (Nat → Int32)) (mis : (Nat → Int32)) (x1 : Int32) (r0 : Int32) (hm : m_X7_isLeaf mno x1 = some r0) : Met l yX7_isLeaf wsX7_isLeaf ({ frames := 2, cells := 0, slots := 0, locals := 43 } : Room) (va_Pc [.ref aM, .int x1] (PW D cI cB cZ ta (w_Model cI cB cZ aM aMt aMn aMr aMs aMi mth mtd msz mto mfr mso mnu mfa mpl mwo msm mgo mt mno mre msn mis) sz)) (QZ .boolean D cI cB cZ (va_A (w_Model cI cB cZ aM aMt aMn aMr aMs aMi mth mtd msz mto mfr mso mnu mfa mpl mwo msm mgo mt mno mre msn mis) sz) (w_Model cI cB cZ aM aMt aMn aMr aMs aMi mth mtd msz mto mfr mso mnu mfa mpl mwo msm mgo mt mno mre msn mis) r0) 0 0 (va_A (w_Model cI cB cZ aM aMt aMn aMr aMs aMi mth mtd msz mto mfr mso mnu mfa mpl mwo msm mgo mt mno mre msn mis) sz) := by
  refine Met.ofW (cc := cX7_isLeaf) (maxL := 2) (ret := (some .boolean)) (by decide) rfl ?_
  intro p e s m args below meth c s₁ B hml hv
  obtain ⟨rfl, hsz, hP, hK, hD0, hG⟩ := hv
  have hx := B.exec
  have hb := B.bytes
  have hr := B.returns
  have hts := atoms_spec (ws := wsX7_isLeaf) B.pre
  have hown : s.vm.findClass RX7 = some m.cls := findClass_of_methodNamed B.named
  have hlocks := B.notSynchronized
  subst hsz
  have hD := hD0.self (sz := s.heap.size)
  clear hD0
  have hA0 : ∀ q : Nat, s.heap.size ≤ q → va_A (w_Model cI cB cZ aM aMt aMn aMr aMs aMi mth mtd msz mto mfr mso mnu mfa mpl mwo msm mgo mt mno mre msn mis) s.heap.size q := fun q h => Or.inr h
  generalize hAe : va_A (w_Model cI cB cZ aM aMt aMn aMr aMs aMi mth mtd msz mto mfr mso mnu mfa mpl mwo msm mgo mt mno mre msn mis) s.heap.size = A at hD hG hA0 ⊢
  have hA : ∀ q : Nat, s.heap.size ≤ q → A q := hA0
  clear hA0
  have hS : va_S A s.heap s.heap [] := va_S.rf
  have iw_X7 := iw_X7_isLeaf_X7
  have hl := lv_entry ([.ref aM, .int x1]) (n := 2) (Nat.le_of_ble_eq_true rfl)
  rw [lg_entry_eq]
  generalize (lg_sl ([.ref aM, .int x1]) ++ List.replicate (2 - (lg_sl ([.ref aM, .int x1])).length) Slot.unset).toArray = ls at hl ⊢
  have hl : lv_has ls 2 [(0, .ref aM), (1, .int x1)] := hl
  replace hm : (ob1 (m_X7_isNode mno x1) (fun r1 => (if r1 = 0 then some (0 : Int32) else (if ((22 : Int32) + x1) < 0 ∨ 442 ≤ ((22 : Int32) + x1).toNatClampNeg then none else (if (mno ((22 : Int32) + x1).toNatClampNeg) = 0 then some (1 : Int32) else some (0 : Int32)))))) = some r0 := hm
  refine lv_aload_n hx hb dX7_isLeaf_0 rfl (lv_at hl 0 rfl) ?_
  refine lv_iload_n hx hb dX7_isLeaf_1 rfl (lv_at hl 1 rfl) ?_
  obtain ⟨r1, h1, hm1⟩ := ob1_e hm
  refine gcall_b (ws' := (w_Model cI cB cZ aM aMt aMn aMr aMs aMi mth mtd msz mto mfr mso mnu mfa mpl mwo msm mgo mt mno mre msn mis)) (va_runV (As := [.int x1]) (rest := []) ⟨hx, hb, hml, hown, hts⟩ (c_X7_isNode l D cI cB cZ ta aM aMt aMn aMr aMs aMi s.heap.size mth mtd msz mto mfr mso mnu mfa mpl mwo msm mgo mt mno mre msn mis x1 r1 h1) (cwV 1 hts gX7_isLeaf_X7_isNode rfl rfl rfl (by decide +kernel) ⟨(Nat.le_of_ble_eq_true rfl), (Nat.le_of_ble_eq_true rfl)⟩) ⟨PW_blind, va_recv hK hP rfl (q0 := 0) rfl, PW_at hP hD hK hS hA hG [0, 1, 2, 3, 4, 5] rfl (by decide)⟩ rfl rfl hl.1 rfl (lv_room (Nat.le_of_ble_eq_true rfl)) dX7_isLeaf_2 ⟨(Nat.le_of_ble_eq_true rfl), (Nat.le_of_ble_eq_true rfl)⟩) hP hD hS hA [0, 1, 2, 3, 4, 5] [] [0, 1, 2, 3, 4, 5] rfl rfl (by decide) (by decide) (by decide) rfl (fun H2 lo2 hz1 hP2 hD2 hS2 => ?_)
  clear hP hD hS
  refine lv_if_eq (tgt := 24) hx hb dX7_isLeaf_5 (by decide) (fun c3 => ?_) (fun c3 => ?_)
  · have hm4 := zz_if c3 hm1
    refine lv_iconst (v := (0 : Int32)) hx hb dX7_isLeaf_24 (by decide) ?_
    have hq1 := Option.some.inj hm4
    subst hq1
    exact W.zret (ty := .boolean) hx hb hr (by decide) (fun t ht hW => ⟨⟨_, (), rfl, ⟨rfl, (by decide)⟩, by rw [ht]; exact hP2, va_K.moved hW.alike hK, hD2⟩, hS2.F ht⟩) hS2.2.2 dX7_isLeaf_25
  · have hm5 := zz_nf c3 hm1
    refine lv_aload_n hx hb dX7_isLeaf_8 rfl (lv_at hl 0 rfl) ?_
    refine va_get (D := D) (ci := 7) (v := .ref aMn) (C := RX7) (T := TX7) (N := 17) hx hb hts iw_X7 hown hK hP2 0 rfl rfl 11 (by decide) (hts (.fieldLink RX7 64 "VarianceBridgeModel" "now" "[I") (by decide +kernel)) (fun _ h9 => h9) rfl dX7_isLeaf_9 ?_
    refine lv_bipush (v := (22 : Int32)) hx hb dX7_isLeaf_12 (by decide) ?_
    refine lv_iload_n hx hb dX7_isLeaf_14 rfl (lv_at hl 1 rfl) ?_
    refine lv_iadd hx hb dX7_isLeaf_15 ?_
    obtain ⟨c6, hm7⟩ := zz_no hm5
    refine va_iald hx hb hK hP2 2 0 rfl rfl c6 dX7_isLeaf_16 ?_
    refine lv_if_ne (tgt := 24) hx hb dX7_isLeaf_17 (by decide) (fun c8 => ?_) (fun c8 => ?_)
    · have hm9 := zz_nf c8 hm7
      refine lv_iconst (v := (0 : Int32)) hx hb dX7_isLeaf_24 (by decide) ?_
      have hq1 := Option.some.inj hm9
      subst hq1
      exact W.zret (ty := .boolean) hx hb hr (by decide) (fun t ht hW => ⟨⟨_, (), rfl, ⟨rfl, (by decide)⟩, by rw [ht]; exact hP2, va_K.moved hW.alike hK, hD2⟩, hS2.F ht⟩) hS2.2.2 dX7_isLeaf_25
    · have hm10 := zz_if c8 hm7
      refine lv_iconst (v := (1 : Int32)) hx hb dX7_isLeaf_20 (by decide) ?_
      refine lv_goto (tgt := 25) hx hb dX7_isLeaf_21 (by decide) ?_
      have hq1 := Option.some.inj hm10
      subst hq1
      exact W.zret (ty := .boolean) hx hb hr (by decide) (fun t ht hW => ⟨⟨_, (), rfl, ⟨rfl, (by decide)⟩, by rw [ht]; exact hP2, va_K.moved hW.alike hK, hD2⟩, hS2.F ht⟩) hS2.2.2 dX7_isLeaf_25
theorem iw_X7_isScene_X7 : ∀ w ∈ wsX70, w ∈ wsX7_isScene := by decide +kernel
set_option maxHeartbeats 4000000 in
set_option maxRecDepth 100000 in
theorem c_X7_isScene (l : Launch) (D : va_G) (cI cB cZ : ClassId) (ta : Nat → Nat) (aM : Nat) (aMt : Nat) (aMn : Nat) (aMr : Nat) (aMs : Nat) (aMi : Nat) (sz : Nat) (mth : Int32) (mtd : Int32) (msz : Int32) (mto : Int32) (mfr : Int32) (mso : Int32) (mnu : Int32) (mfa : Int32) (mpl : Int32) (mwo : Int64) (msm : Int32) (mgo : Int32) (mt : (Nat → Int32)) (mno : (Nat → Int32)) (mre : (Nat → Int32)) (msn : (Nat → Int32)) (mis : (Nat → Int32)) (x1 : Int32) (r0 : Int32) (hm : m_X7_isScene mno x1 = some r0) : Met l yX7_isScene wsX7_isScene ({ frames := 1, cells := 0, slots := 0, locals := 22 } : Room) (va_Pc [.ref aM, .int x1] (PW D cI cB cZ ta (w_Model cI cB cZ aM aMt aMn aMr aMs aMi mth mtd msz mto mfr mso mnu mfa mpl mwo msm mgo mt mno mre msn mis) sz)) (QZ .boolean D cI cB cZ (va_A (w_Model cI cB cZ aM aMt aMn aMr aMs aMi mth mtd msz mto mfr mso mnu mfa mpl mwo msm mgo mt mno mre msn mis) sz) (w_Model cI cB cZ aM aMt aMn aMr aMs aMi mth mtd msz mto mfr mso mnu mfa mpl mwo msm mgo mt mno mre msn mis) r0) 0 0 (va_A (w_Model cI cB cZ aM aMt aMn aMr aMs aMi mth mtd msz mto mfr mso mnu mfa mpl mwo msm mgo mt mno mre msn mis) sz) := by
  refine Met.ofW (cc := cX7_isScene) (maxL := 2) (ret := (some .boolean)) (by decide) rfl ?_
  intro p e s m args below meth c s₁ B hml hv
  obtain ⟨rfl, hsz, hP, hK, hD0, hG⟩ := hv
  have hx := B.exec
  have hb := B.bytes
  have hr := B.returns
  have hts := atoms_spec (ws := wsX7_isScene) B.pre
  have hown : s.vm.findClass RX7 = some m.cls := findClass_of_methodNamed B.named
  have hlocks := B.notSynchronized
  subst hsz
  have hD := hD0.self (sz := s.heap.size)
  clear hD0
  have hA0 : ∀ q : Nat, s.heap.size ≤ q → va_A (w_Model cI cB cZ aM aMt aMn aMr aMs aMi mth mtd msz mto mfr mso mnu mfa mpl mwo msm mgo mt mno mre msn mis) s.heap.size q := fun q h => Or.inr h
  generalize hAe : va_A (w_Model cI cB cZ aM aMt aMn aMr aMs aMi mth mtd msz mto mfr mso mnu mfa mpl mwo msm mgo mt mno mre msn mis) s.heap.size = A at hD hG hA0 ⊢
  have hA : ∀ q : Nat, s.heap.size ≤ q → A q := hA0
  clear hA0
  have hS : va_S A s.heap s.heap [] := va_S.rf
  have iw_X7 := iw_X7_isScene_X7
  have hl := lv_entry ([.ref aM, .int x1]) (n := 2) (Nat.le_of_ble_eq_true rfl)
  rw [lg_entry_eq]
  generalize (lg_sl ([.ref aM, .int x1]) ++ List.replicate (2 - (lg_sl ([.ref aM, .int x1])).length) Slot.unset).toArray = ls at hl ⊢
  have hl : lv_has ls 2 [(0, .ref aM), (1, .int x1)] := hl
  replace hm : (if (0 : Int32) < 0 ∨ 442 ≤ (0 : Int32).toNatClampNeg then none else (ob1 (m_X7_isIn x1 (0 : Int32) ((mno (0 : Int32).toNatClampNeg) - (1 : Int32))) (fun r3 => some r3))) = some r0 := hm
  refine lv_iload_n hx hb dX7_isScene_0 rfl (lv_at hl 1 rfl) ?_
  refine lv_iconst (v := (0 : Int32)) hx hb dX7_isScene_1 (by decide) ?_
  refine lv_aload_n hx hb dX7_isScene_2 rfl (lv_at hl 0 rfl) ?_
  refine va_get (D := D) (ci := 7) (v := .ref aMn) (C := RX7) (T := TX7) (N := 17) hx hb hts iw_X7 hown hK hP 0 rfl rfl 11 (by decide) (hts (.fieldLink RX7 64 "VarianceBridgeModel" "now" "[I") (by decide +kernel)) (fun _ h9 => h9) rfl dX7_isScene_3 ?_
  refine lv_iconst (v := (0 : Int32)) hx hb dX7_isScene_6 (by decide) ?_
  obtain ⟨c1, hm2⟩ := zz_no hm
  refine va_iald hx hb hK hP 2 0 rfl rfl c1 dX7_isScene_7 ?_
  refine lv_iconst (v := (1 : Int32)) hx hb dX7_isScene_8 (by decide) ?_
  refine lv_isub hx hb dX7_isScene_9 ?_
  obtain ⟨r3, h3, hm3⟩ := ob1_e hm2
  refine gcall_b (ws' := (w_Model cI cB cZ aM aMt aMn aMr aMs aMi mth mtd msz mto mfr mso mnu mfa mpl mwo msm mgo mt mno mre msn mis)) (va_runS (As := [.int x1, .int (0 : Int32), .int ((mno (0 : Int32).toNatClampNeg) - (1 : Int32))]) (rest := []) ⟨hx, hb, hml, hown, hts⟩ (c_X7_isIn l D cI cB cZ ta s.heap.size x1 (0 : Int32) ((mno (0 : Int32).toNatClampNeg) - (1 : Int32)) r3 h3) (va_cwS 3 hts gX7_isScene_X7_isIn rfl rfl rfl (by decide +kernel) ⟨(Nat.le_of_ble_eq_true rfl), (Nat.le_of_ble_eq_true rfl)⟩) ⟨PW_blind, PW_at hP hD hK hS hA hG [] rfl (by decide)⟩ rfl rfl hl.1 rfl (lv_room (Nat.le_of_ble_eq_true rfl)) dX7_isScene_10 ⟨(Nat.le_of_ble_eq_true rfl), (Nat.le_of_ble_eq_true rfl)⟩) hP hD hS hA [] [0, 1, 2, 3, 4, 5] [0, 1, 2, 3, 4, 5] rfl rfl (by decide) (by decide) (by decide) rfl (fun H4 lo4 hz3 hP4 hD4 hS4 => ?_)
  clear hP hD hS
  have hq1 := Option.some.inj hm3
  subst hq1
  exact W.zret (ty := .boolean) hx hb hr hz3 (fun t ht hW => ⟨⟨_, (), rfl, ⟨rfl, hz3⟩, by rw [ht]; exact hP4, va_K.moved hW.alike hK, hD4⟩, hS4.F ht⟩) hS4.2.2 dX7_isScene_13
set_option maxHeartbeats 4000000 in
set_option maxRecDepth 100000 in
theorem c_X7_areScenes (l : Launch) (D : va_G) (cI cB cZ : ClassId) (ta : Nat → Nat) (aM : Nat) (aMt : Nat) (aMn : Nat) (aMr : Nat) (aMs : Nat) (aMi : Nat) (sz : Nat) (mth : Int32) (mtd : Int32) (msz : Int32) (mto : Int32) (mfr : Int32) (mso : Int32) (mnu : Int32) (mfa : Int32) (mpl : Int32) (mwo : Int64) (msm : Int32) (mgo : Int32) (mt : (Nat → Int32)) (mno : (Nat → Int32)) (mre : (Nat → Int32)) (msn : (Nat → Int32)) (mis : (Nat → Int32)) (x1 : Int32) (x2 : Int32) (r0 : Int32) (hm : m_X7_areScenes mno x1 x2 = some r0) : Met l yX7_areScenes wsX7_areScenes ({ frames := 2, cells := 0, slots := 0, locals := 43 } : Room) (va_Pc [.ref aM, .int x1, .int x2] (PW D cI cB cZ ta (w_Model cI cB cZ aM aMt aMn aMr aMs aMi mth mtd msz mto mfr mso mnu mfa mpl mwo msm mgo mt mno mre msn mis) sz)) (QZ .boolean D cI cB cZ (va_A (w_Model cI cB cZ aM aMt aMn aMr aMs aMi mth mtd msz mto mfr mso mnu mfa mpl mwo msm mgo mt mno mre msn mis) sz) (w_Model cI cB cZ aM aMt aMn aMr aMs aMi mth mtd msz mto mfr mso mnu mfa mpl mwo msm mgo mt mno mre msn mis) r0) 0 0 (va_A (w_Model cI cB cZ aM aMt aMn aMr aMs aMi mth mtd msz mto mfr mso mnu mfa mpl mwo msm mgo mt mno mre msn mis) sz) := by
  refine Met.ofW (cc := cX7_areScenes) (maxL := 3) (ret := (some .boolean)) (by decide) rfl ?_
  intro p e s m args below meth c s₁ B hml hv
  obtain ⟨rfl, hsz, hP, hK, hD0, hG⟩ := hv
  have hx := B.exec
  have hb := B.bytes
  have hr := B.returns
  have hts := atoms_spec (ws := wsX7_areScenes) B.pre
  have hown : s.vm.findClass RX7 = some m.cls := findClass_of_methodNamed B.named
  have hlocks := B.notSynchronized
  subst hsz
  have hD := hD0.self (sz := s.heap.size)
  clear hD0
  have hA0 : ∀ q : Nat, s.heap.size ≤ q → va_A (w_Model cI cB cZ aM aMt aMn aMr aMs aMi mth mtd msz mto mfr mso mnu mfa mpl mwo msm mgo mt mno mre msn mis) s.heap.size q := fun q h => Or.inr h
  generalize hAe : va_A (w_Model cI cB cZ aM aMt aMn aMr aMs aMi mth mtd msz mto mfr mso mnu mfa mpl mwo msm mgo mt mno mre msn mis) s.heap.size = A at hD hG hA0 ⊢
  have hA : ∀ q : Nat, s.heap.size ≤ q → A q := hA0
  clear hA0
  have hS : va_S A s.heap s.heap [] := va_S.rf
  have hl := lv_entry ([.ref aM, .int x1, .int x2]) (n := 3) (Nat.le_of_ble_eq_true rfl)
  rw [lg_entry_eq]
  generalize (lg_sl ([.ref aM, .int x1, .int x2]) ++ List.replicate (3 - (lg_sl ([.ref aM, .int x1, .int x2])).length) Slot.unset).toArray = ls at hl ⊢
  have hl : lv_has ls 3 [(0, .ref aM), (1, .int x1), (2, .int x2)] := hl
  replace hm : (ob1 (m_X7_isScene mno x1) (fun r1 => (if r1 = 0 then some (0 : Int32) else (ob1 (m_X7_isScene mno x2) (fun r6 => (if r6 = 0 then some (0 : Int32) else some (1 : Int32))))))) = some r0 := hm
  refine lv_aload_n hx hb dX7_areScenes_0 rfl (lv_at hl 0 rfl) ?_
  refine lv_iload_n hx hb dX7_areScenes_1 rfl (lv_at hl 1 rfl) ?_
  obtain ⟨r1, h1, hm1⟩ := ob1_e hm
  refine gcall_b (ws' := (w_Model cI cB cZ aM aMt aMn aMr aMs aMi mth mtd msz mto mfr mso mnu mfa mpl mwo msm mgo mt mno mre msn mis)) (va_runV (As := [.int x1]) (rest := []) ⟨hx, hb, hml, hown, hts⟩ (c_X7_isScene l D cI cB cZ ta aM aMt aMn aMr aMs aMi s.heap.size mth mtd msz mto mfr mso mnu mfa mpl mwo msm mgo mt mno mre msn mis x1 r1 h1) (cwV 1 hts gX7_areScenes_X7_isScene rfl rfl rfl (by decide +kernel) ⟨(Nat.le_of_ble_eq_true rfl), (Nat.le_of_ble_eq_true rfl)⟩) ⟨PW_blind, va_recv hK hP rfl (q0 := 0) rfl, PW_at hP hD hK hS hA hG [0, 1, 2, 3, 4, 5] rfl (by decide)⟩ rfl rfl hl.1 rfl (lv_room (Nat.le_of_ble_eq_true rfl)) dX7_areScenes_2 ⟨(Nat.le_of_ble_eq_true rfl), (Nat.le_of_ble_eq_true rfl)⟩) hP hD hS hA [0, 1, 2, 3, 4, 5] [] [0, 1, 2, 3, 4, 5] rfl rfl (by decide) (by decide) (by decide) rfl (fun H2 lo2 hz1 hP2 hD2 hS2 => ?_)
  clear hP hD hS
  refine lv_if_eq (tgt := 20) hx hb dX7_areScenes_5 (by decide) (fun c3 => ?_) (fun c3 => ?_)
  · have hm4 := zz_if c3 hm1
    refine lv_iconst (v := (0 : Int32)) hx hb dX7_areScenes_20 (by decide) ?_
    have hq1 := Option.some.inj hm4
    subst hq1
    exact W.zret (ty := .boolean) hx hb hr (by decide) (fun t ht hW => ⟨⟨_, (), rfl, ⟨rfl, (by decide)⟩, by rw [ht]; exact hP2, va_K.moved hW.alike hK, hD2⟩, hS2.F ht⟩) hS2.2.2 dX7_areScenes_21
  · have hm5 := zz_nf c3 hm1
    refine lv_aload_n hx hb dX7_areScenes_8 rfl (lv_at hl 0 rfl) ?_
    refine lv_iload_n hx hb dX7_areScenes_9 rfl (lv_at hl 2 rfl) ?_
    obtain ⟨r6, h6, hm6⟩ := ob1_e hm5
    refine gcall_b (ws' := (w_Model cI cB cZ aM aMt aMn aMr aMs aMi mth mtd msz mto mfr mso mnu mfa mpl mwo msm mgo mt mno mre msn mis)) (va_runV (As := [.int x2]) (rest := []) ⟨hx, hb, hml, hown, hts⟩ (c_X7_isScene l D cI cB cZ ta aM aMt aMn aMr aMs aMi H2.size mth mtd msz mto mfr mso mnu mfa mpl mwo msm mgo mt mno mre msn mis x2 r6 h6) (cwV 1 hts gX7_areScenes_X7_isScene rfl rfl rfl (by decide +kernel) ⟨(Nat.le_of_ble_eq_true rfl), (Nat.le_of_ble_eq_true rfl)⟩) ⟨PW_blind, va_recv hK hP2 rfl (q0 := 0) rfl, PW_at hP2 hD2 hK hS2 hA hG [0, 1, 2, 3, 4, 5] rfl (by decide)⟩ rfl rfl hl.1 rfl (lv_room (Nat.le_of_ble_eq_true rfl)) dX7_areScenes_10 ⟨(Nat.le_of_ble_eq_true rfl), (Nat.le_of_ble_eq_true rfl)⟩) hP2 hD2 hS2 hA [0, 1, 2, 3, 4, 5] [] [0, 1, 2, 3, 4, 5] rfl rfl (by decide) (by decide) (by decide) rfl (fun H7 lo7 hz6 hP7 hD7 hS7 => ?_)
    clear hP2 hD2 hS2
    refine lv_if_eq (tgt := 20) hx hb dX7_areScenes_13 (by decide) (fun c8 => ?_) (fun c8 => ?_)
    · have hm9 := zz_if c8 hm6
      refine lv_iconst (v := (0 : Int32)) hx hb dX7_areScenes_20 (by decide) ?_
      have hq1 := Option.some.inj hm9
      subst hq1
      exact W.zret (ty := .boolean) hx hb hr (by decide) (fun t ht hW => ⟨⟨_, (), rfl, ⟨rfl, (by decide)⟩, by rw [ht]; exact hP7, va_K.moved hW.alike hK, hD7⟩, hS7.F ht⟩) hS7.2.2 dX7_areScenes_21
    · have hm10 := zz_nf c8 hm6
      refine lv_iconst (v := (1 : Int32)) hx hb dX7_areScenes_16 (by decide) ?_
      refine lv_goto (tgt := 21) hx hb dX7_areScenes_17 (by decide) ?_
      have hq1 := Option.some.inj hm10
      subst hq1
      exact W.zret (ty := .boolean) hx hb hr (by decide) (fun t ht hW => ⟨⟨_, (), rfl, ⟨rfl, (by decide)⟩, by rw [ht]; exact hP7, va_K.moved hW.alike hK, hD7⟩, hS7.F ht⟩) hS7.2.2 dX7_areScenes_21
set_option maxHeartbeats 4000000 in
set_option maxRecDepth 100000 in
theorem c_X7_isFactor (l : Launch) (D : va_G) (cI cB cZ : ClassId) (ta : Nat → Nat) (sz : Nat) (x1 : Int32) (r0 : Int32) (hm : m_X7_isFactor x1 = some r0) : Met l yX7_isFactor wsX7_isFactor ({ frames := 1, cells := 0, slots := 0, locals := 22 } : Room) (va_Pc [.int x1] (PW D cI cB cZ ta (w_none cI cB cZ) sz)) (QZ .boolean D cI cB cZ (va_A (w_none cI cB cZ) sz) (w_none cI cB cZ) r0) 0 0 (va_A (w_none cI cB cZ) sz) := by
  refine Met.ofW (cc := cX7_isFactor) (maxL := 1) (ret := (some .boolean)) (by decide) rfl ?_
  intro p e s m args below meth c s₁ B hml hv
  obtain ⟨rfl, hsz, hP, hK, hD0, hG⟩ := hv
  have hx := B.exec
  have hb := B.bytes
  have hr := B.returns
  have hts := atoms_spec (ws := wsX7_isFactor) B.pre
  have hown : s.vm.findClass RX7 = some m.cls := findClass_of_methodNamed B.named
  have hlocks := B.notSynchronized
  subst hsz
  have hD := hD0.self (sz := s.heap.size)
  clear hD0
  have hA0 : ∀ q : Nat, s.heap.size ≤ q → va_A (w_none cI cB cZ) s.heap.size q := fun q h => Or.inr h
  generalize hAe : va_A (w_none cI cB cZ) s.heap.size = A at hD hG hA0 ⊢
  have hA : ∀ q : Nat, s.heap.size ≤ q → A q := hA0
  clear hA0
  have hS : va_S A s.heap s.heap [] := va_S.rf
  have hl := lv_entry ([.int x1]) (n := 1) (Nat.le_of_ble_eq_true rfl)
  rw [lg_entry_eq]
  generalize (lg_sl ([.int x1]) ++ List.replicate (1 - (lg_sl ([.int x1])).length) Slot.unset).toArray = ls at hl ⊢
  have hl : lv_has ls 1 [(0, .int x1)] := hl
  replace hm : (ob1 (m_X7_isIn x1 (0 : Int32) (4 : Int32)) (fun r1 => some r1)) = some r0 := hm
  refine lv_iload_n hx hb dX7_isFactor_0 rfl (lv_at hl 0 rfl) ?_
  refine lv_iconst (v := (0 : Int32)) hx hb dX7_isFactor_1 (by decide) ?_
  refine lv_iconst (v := (4 : Int32)) hx hb dX7_isFactor_2 (by decide) ?_
  obtain ⟨r1, h1, hm1⟩ := ob1_e hm
  refine gcall_b (ws' := (w_none cI cB cZ)) (va_runS (As := [.int x1, .int (0 : Int32), .int (4 : Int32)]) (rest := []) ⟨hx, hb, hml, hown, hts⟩ (c_X7_isIn l D cI cB cZ ta s.heap.size x1 (0 : Int32) (4 : Int32) r1 h1) (va_cwS 3 hts gX7_isFactor_X7_isIn rfl rfl rfl (by decide +kernel) ⟨(Nat.le_of_ble_eq_true rfl), (Nat.le_of_ble_eq_true rfl)⟩) ⟨PW_blind, PW_at hP hD hK hS hA hG [] rfl (by decide)⟩ rfl rfl hl.1 rfl (lv_room (Nat.le_of_ble_eq_true rfl)) dX7_isFactor_3 ⟨(Nat.le_of_ble_eq_true rfl), (Nat.le_of_ble_eq_true rfl)⟩) hP hD hS hA [] [] [] rfl rfl (by decide) (by decide) (by decide) rfl (fun H2 lo2 hz1 hP2 hD2 hS2 => ?_)
  clear hP hD hS
  have hq1 := Option.some.inj hm1
  subst hq1
  exact W.zret (ty := .boolean) hx hb hr hz1 (fun t ht hW => ⟨⟨_, (), rfl, ⟨rfl, hz1⟩, by rw [ht]; exact hP2, va_K.moved hW.alike hK, hD2⟩, hS2.F ht⟩) hS2.2.2 dX7_isFactor_6
theorem iw_X7_parentOf_X7 : ∀ w ∈ wsX70, w ∈ wsX7_parentOf := by decide +kernel
set_option maxHeartbeats 4000000 in
set_option maxRecDepth 100000 in
theorem c_X7_parentOf (l : Launch) (D : va_G) (cI cB cZ : ClassId) (ta : Nat → Nat) (aM : Nat) (aMt : Nat) (aMn : Nat) (aMr : Nat) (aMs : Nat) (aMi : Nat) (sz : Nat) (mth : Int32) (mtd : Int32) (msz : Int32) (mto : Int32) (mfr : Int32) (mso : Int32) (mnu : Int32) (mfa : Int32) (mpl : Int32) (mwo : Int64) (msm : Int32) (mgo : Int32) (mt : (Nat → Int32)) (mno : (Nat → Int32)) (mre : (Nat → Int32)) (msn : (Nat → Int32)) (mis : (Nat → Int32)) (x1 : Int32) (r0 : Int32) (hm : m_X7_parentOf mno x1 = some r0) : Met l yX7_parentOf wsX7_parentOf ({ frames := 0, cells := 0, slots := 0, locals := 0 } : Room) (va_Pc [.ref aM, .int x1] (PW D cI cB cZ ta (w_Model cI cB cZ aM aMt aMn aMr aMs aMi mth mtd msz mto mfr mso mnu mfa mpl mwo msm mgo mt mno mre msn mis) sz)) (QI D cI cB cZ (va_A (w_Model cI cB cZ aM aMt aMn aMr aMs aMi mth mtd msz mto mfr mso mnu mfa mpl mwo msm mgo mt mno mre msn mis) sz) (w_Model cI cB cZ aM aMt aMn aMr aMs aMi mth mtd msz mto mfr mso mnu mfa mpl mwo msm mgo mt mno mre msn mis) r0) 0 0 (va_A (w_Model cI cB cZ aM aMt aMn aMr aMs aMi mth mtd msz mto mfr mso mnu mfa mpl mwo msm mgo mt mno mre msn mis) sz) := by
  refine Met.ofW (cc := cX7_parentOf) (maxL := 2) (ret := (some .int)) (by decide) rfl ?_
  intro p e s m args below meth c s₁ B hml hv
  obtain ⟨rfl, hsz, hP, hK, hD0, hG⟩ := hv
  have hx := B.exec
  have hb := B.bytes
  have hr := B.returns
  have hts := atoms_spec (ws := wsX7_parentOf) B.pre
  have hown : s.vm.findClass RX7 = some m.cls := findClass_of_methodNamed B.named
  have hlocks := B.notSynchronized
  subst hsz
  have hD := hD0.self (sz := s.heap.size)
  clear hD0
  have hA0 : ∀ q : Nat, s.heap.size ≤ q → va_A (w_Model cI cB cZ aM aMt aMn aMr aMs aMi mth mtd msz mto mfr mso mnu mfa mpl mwo msm mgo mt mno mre msn mis) s.heap.size q := fun q h => Or.inr h
  generalize hAe : va_A (w_Model cI cB cZ aM aMt aMn aMr aMs aMi mth mtd msz mto mfr mso mnu mfa mpl mwo msm mgo mt mno mre msn mis) s.heap.size = A at hD hG hA0 ⊢
  have hA : ∀ q : Nat, s.heap.size ≤ q → A q := hA0
  clear hA0
  have hS : va_S A s.heap s.heap [] := va_S.rf
  have iw_X7 := iw_X7_parentOf_X7
  have hl := lv_entry ([.ref aM, .int x1]) (n := 2) (Nat.le_of_ble_eq_true rfl)
  rw [lg_entry_eq]
  generalize (lg_sl ([.ref aM, .int x1]) ++ List.replicate (2 - (lg_sl ([.ref aM, .int x1])).length) Slot.unset).toArray = ls at hl ⊢
  have hl : lv_has ls 2 [(0, .ref aM), (1, .int x1)] := hl
  replace hm : (if ((2 : Int32) + x1) < 0 ∨ 442 ≤ ((2 : Int32) + x1).toNatClampNeg then none else some (mno ((2 : Int32) + x1).toNatClampNeg)) = some r0 := hm
  refine lv_aload_n hx hb dX7_parentOf_0 rfl (lv_at hl 0 rfl) ?_
  refine va_get (D := D) (ci := 7) (v := .ref aMn) (C := RX7) (T := TX7) (N := 17) hx hb hts iw_X7 hown hK hP 0 rfl rfl 11 (by decide) (hts (.fieldLink RX7 64 "VarianceBridgeModel" "now" "[I") (by decide +kernel)) (fun _ h9 => h9) rfl dX7_parentOf_1 ?_
  refine lv_iconst (v := (2 : Int32)) hx hb dX7_parentOf_4 (by decide) ?_
  refine lv_iload_n hx hb dX7_parentOf_5 rfl (lv_at hl 1 rfl) ?_
  refine lv_iadd hx hb dX7_parentOf_6 ?_
  obtain ⟨c1, hm2⟩ := zz_no hm
  refine va_iald hx hb hK hP 2 0 rfl rfl c1 dX7_parentOf_7 ?_
  have hq1 := Option.some.inj hm2
  subst hq1
  exact W.iret hx hb hr (fun t ht hW => ⟨⟨_, (), rfl, rfl, by rw [ht]; exact hP, va_K.moved hW.alike hK, hD⟩, hS.F ht⟩) hS.2.2 dX7_parentOf_8
set_option maxHeartbeats 4000000 in
set_option maxRecDepth 100000 in
theorem c_X7_isBelow (l : Launch) (D : va_G) (cI cB cZ : ClassId) (ta : Nat → Nat) (aM : Nat) (aMt : Nat) (aMn : Nat) (aMr : Nat) (aMs : Nat) (aMi : Nat) (sz : Nat) (mth : Int32) (mtd : Int32) (msz : Int32) (mto : Int32) (mfr : Int32) (mso : Int32) (mnu : Int32) (mfa : Int32) (mpl : Int32) (mwo : Int64) (msm : Int32) (mgo : Int32) (mt : (Nat → Int32)) (mno : (Nat → Int32)) (mre : (Nat → Int32)) (msn : (Nat → Int32)) (mis : (Nat → Int32)) (x1 : Int32) (x2 : Int32) (r0 : Int32) (hm : m_X7_isBelow mno x1 x2 = some r0) : Met l yX7_isBelow wsX7_isBelow ({ frames := 1, cells := 0, slots := 0, locals := 21 } : Room) (va_Pc [.ref aM, .int x1, .int x2] (PW D cI cB cZ ta (w_Model cI cB cZ aM aMt aMn aMr aMs aMi mth mtd msz mto mfr mso mnu mfa mpl mwo msm mgo mt mno mre msn mis) sz)) (QZ .boolean D cI cB cZ (va_A (w_Model cI cB cZ aM aMt aMn aMr aMs aMi mth mtd msz mto mfr mso mnu mfa mpl mwo msm mgo mt mno mre msn mis) sz) (w_Model cI cB cZ aM aMt aMn aMr aMs aMi mth mtd msz mto mfr mso mnu mfa mpl mwo msm mgo mt mno mre msn mis) r0) 0 0 (va_A (w_Model cI cB cZ aM aMt aMn aMr aMs aMi mth mtd msz mto mfr mso mnu mfa mpl mwo msm mgo mt mno mre msn mis) sz) := by
  refine Met.ofW (cc := cX7_isBelow) (maxL := 4) (ret := (some .boolean)) (by decide) rfl ?_
  intro p e s m args below meth c s₁ B hml hv
  obtain ⟨rfl, hsz, hP, hK, hD0, hG⟩ := hv
  have hx := B.exec
  have hb := B.bytes
  have hr := B.returns
  have hts := atoms_spec (ws := wsX7_isBelow) B.pre
  have hown : s.vm.findClass RX7 = some m.cls := findClass_of_methodNamed B.named
  have hlocks := B.notSynchronized
  subst hsz
  have hD := hD0.self (sz := s.heap.size)
  clear hD0
  have hA0 : ∀ q : Nat, s.heap.size ≤ q → va_A (w_Model cI cB cZ aM aMt aMn aMr aMs aMi mth mtd msz mto mfr mso mnu mfa mpl mwo msm mgo mt mno mre msn mis) s.heap.size q := fun q h => Or.inr h
  generalize hAe : va_A (w_Model cI cB cZ aM aMt aMn aMr aMs aMi mth mtd msz mto mfr mso mnu mfa mpl mwo msm mgo mt mno mre msn mis) s.heap.size = A at hD hG hA0 ⊢
  have hA : ∀ q : Nat, s.heap.size ≤ q → A q := hA0
  clear hA0
  have hS : va_S A s.heap s.heap [] := va_S.rf
  have hk_21 : ∀ (y2 : Int32) (y3 : Int32), k_X7_isBelow_21 mno y2 y3 = some r0 → ∀ (ls : Array Slot) (H : Heap) (lo : List Loc), lv_has ls 4 [(2, .int y2), (3, .int y3)] → va_P D vwCl (w_Model cI cB cZ aM aMt aMn aMr aMs aMi mth mtd msz mto mfr mso mnu mfa mpl mwo msm mgo mt mno mre msn mis) H → va_D A (w_Model cI cB cZ aM aMt aMn aMr aMs aMi mth mtd msz mto mfr mso mnu mfa mpl mwo msm mgo mt mno mre msn mis) → va_S A s.heap H lo → W p l e (headSpec wsX7_isBelow ({ frames := 1, cells := 0, slots := 0, locals := 21 } : Room)).room s m (([.ref aM, .int x1, .int x2] : List Value).toArray) below meth c H lo 0 0 (MQ below (QZ .boolean D cI cB cZ A (w_Model cI cB cZ aM aMt aMn aMr aMs aMi mth mtd msz mto mfr mso mnu mfa mpl mwo msm mgo mt mno mre msn mis) r0) (([.ref aM, .int x1, .int x2] : List Value).toArray) s 0 0 A) (F0 m 21 ls []) := by
    intro y2 y3 hm ls H lo hl hP hD hS
    replace hm : (if y3 = y2 then some (1 : Int32) else some (0 : Int32)) = some r0 := hm
    refine lv_iload_n hx hb dX7_isBelow_21 rfl (lv_at hl 1 rfl) ?_
    refine lv_iload_n hx hb dX7_isBelow_22 rfl (lv_at hl 0 rfl) ?_
    refine lv_icmp_ne (tgt := 30) hx hb dX7_isBelow_23 (by decide) (fun c1 => ?_) (fun c1 => ?_)
    · have hm2 := zz_nf c1 hm
      refine lv_iconst (v := (0 : Int32)) hx hb dX7_isBelow_30 (by decide) ?_
      have hq1 := Option.some.inj hm2
      subst hq1
      exact W.zret (ty := .boolean) hx hb hr (by decide) (fun t ht hW => ⟨⟨_, (), rfl, ⟨rfl, (by decide)⟩, by rw [ht]; exact hP, va_K.moved hW.alike hK, hD⟩, hS.F ht⟩) hS.2.2 dX7_isBelow_31
    · have hm3 := zz_if c1 hm
      refine lv_iconst (v := (1 : Int32)) hx hb dX7_isBelow_26 (by decide) ?_
      refine lv_goto (tgt := 31) hx hb dX7_isBelow_27 (by decide) ?_
      have hq1 := Option.some.inj hm3
      subst hq1
      exact W.zret (ty := .boolean) hx hb hr (by decide) (fun t ht hW => ⟨⟨_, (), rfl, ⟨rfl, (by decide)⟩, by rw [ht]; exact hP, va_K.moved hW.alike hK, hD⟩, hS.F ht⟩) hS.2.2 dX7_isBelow_31
  have hk_2 : ∀ (n : Nat) (y2 : Int32) (y3 : Int32), k_X7_isBelow_2 mno n y2 y3 = some r0 → ∀ (ls : Array Slot) (H : Heap) (lo : List Loc), lv_has ls 4 [(0, .ref aM), (2, .int y2), (3, .int y3)] → va_P D vwCl (w_Model cI cB cZ aM aMt aMn aMr aMs aMi mth mtd msz mto mfr mso mnu mfa mpl mwo msm mgo mt mno mre msn mis) H → va_D A (w_Model cI cB cZ aM aMt aMn aMr aMs aMi mth mtd msz mto mfr mso mnu mfa mpl mwo msm mgo mt mno mre msn mis) → va_S A s.heap H lo → W p l e (headSpec wsX7_isBelow ({ frames := 1, cells := 0, slots := 0, locals := 21 } : Room)).room s m (([.ref aM, .int x1, .int x2] : List Value).toArray) below meth c H lo 0 0 (MQ below (QZ .boolean D cI cB cZ A (w_Model cI cB cZ aM aMt aMn aMr aMs aMi mth mtd msz mto mfr mso mnu mfa mpl mwo msm mgo mt mno mre msn mis) r0) (([.ref aM, .int x1, .int x2] : List Value).toArray) s 0 0 A) (F0 m 2 ls []) := by
    intro n
    induction n with
    | zero => intro y2 y3 hm; exact zz_nn hm
    | succ n ih =>
      intro y2 y3 hm ls H lo hl hP hD hS
      replace hm := (k_X7_isBelow_2_s mno n y2 y3).symm.trans hm
      refine lv_iload_n hx hb dX7_isBelow_2 rfl (lv_at hl 2 rfl) ?_
      refine lv_iconst (v := (-1 : Int32)) hx hb dX7_isBelow_3 (by decide) ?_
      refine lv_icmp_eq (tgt := 21) hx hb dX7_isBelow_4 (by decide) (fun c4 => ?_) (fun c4 => ?_)
      · have hm5 := zz_if c4 hm
        exact hk_21 y2 y3 hm5 ls H lo (lv_sub hl [1, 2] rfl) hP hD hS
      · have hm6 := zz_nf c4 hm
        refine lv_iload_n hx hb dX7_isBelow_7 rfl (lv_at hl 2 rfl) ?_
        refine lv_iload_n hx hb dX7_isBelow_8 rfl (lv_at hl 1 rfl) ?_
        refine lv_icmp_eq (tgt := 21) hx hb dX7_isBelow_9 (by decide) (fun c7 => ?_) (fun c7 => ?_)
        · have hm8 := zz_if c7 hm6
          exact hk_21 y2 y3 hm8 ls H lo (lv_sub hl [1, 2] rfl) hP hD hS
        · have hm9 := zz_nf c7 hm6
          refine lv_aload_n hx hb dX7_isBelow_12 rfl (lv_at hl 0 rfl) ?_
          refine lv_iload_n hx hb dX7_isBelow_13 rfl (lv_at hl 2 rfl) ?_
          obtain ⟨r10, h10, hm10⟩ := ob1_e hm9
          refine gcall_i (ws' := (w_Model cI cB cZ aM aMt aMn aMr aMs aMi mth mtd msz mto mfr mso mnu mfa mpl mwo msm mgo mt mno mre msn mis)) (va_runV (As := [.int y3]) (rest := []) ⟨hx, hb, hml, hown, hts⟩ (c_X7_parentOf l D cI cB cZ ta aM aMt aMn aMr aMs aMi H.size mth mtd msz mto mfr mso mnu mfa mpl mwo msm mgo mt mno mre msn mis y3 r10 h10) (cwV 1 hts gX7_isBelow_X7_parentOf rfl rfl rfl (by decide +kernel) ⟨(Nat.le_of_ble_eq_true rfl), (Nat.le_of_ble_eq_true rfl)⟩) ⟨PW_blind, va_recv hK hP rfl (q0 := 0) rfl, PW_at hP hD hK hS hA hG [0, 1, 2, 3, 4, 5] rfl (by decide)⟩ rfl rfl hl.1 rfl (lv_room (Nat.le_of_ble_eq_true rfl)) dX7_isBelow_14 ⟨(Nat.le_of_ble_eq_true rfl), (Nat.le_of_ble_eq_true rfl)⟩) hP hD hS hA [0, 1, 2, 3, 4, 5] [] [0, 1, 2, 3, 4, 5] rfl rfl (by decide) (by decide) (by decide) rfl (fun H11 lo11 hP11 hD11 hS11 => ?_)
          clear hP hD hS
          refine lv_istore_n (lv' := [(3, .int r10), (0, .ref aM), (2, .int y2)]) hx hb dX7_isBelow_17 rfl hl (by decide) rfl (fun ls12 hl12 => ?_)
          refine lv_goto (tgt := 2) hx hb dX7_isBelow_18 (by decide) ?_
          exact ih y2 r10 hm10 ls12 H11 lo11 (lv_sub hl12 [1, 2, 0] rfl) hP11 hD11 hS11
  have hl := lv_entry ([.ref aM, .int x1, .int x2]) (n := 4) (Nat.le_of_ble_eq_true rfl)
  rw [lg_entry_eq]
  generalize (lg_sl ([.ref aM, .int x1, .int x2]) ++ List.replicate (4 - (lg_sl ([.ref aM, .int x1, .int x2])).length) Slot.unset).toArray = ls at hl ⊢
  have hl : lv_has ls 4 [(0, .ref aM), (1, .int x1), (2, .int x2)] := hl
  replace hm : (k_X7_isBelow_2 mno FU x2 x1) = some r0 := hm
  refine lv_iload_n hx hb dX7_isBelow_0 rfl (lv_at hl 1 rfl) ?_
  refine lv_istore_n (lv' := [(3, .int x1), (0, .ref aM), (1, .int x1), (2, .int x2)]) hx hb dX7_isBelow_1 rfl hl (by decide) rfl (fun ls13 hl13 => ?_)
  exact hk_2 FU x2 x1 hm ls13 s.heap [] (lv_sub hl13 [1, 3, 0] rfl) hP hD hS
theorem iw_X7_isLeafOf_X7 : ∀ w ∈ wsX70, w ∈ wsX7_isLeafOf := by decide +kernel
set_option maxHeartbeats 4000000 in
set_option maxRecDepth 100000 in
theorem c_X7_isLeafOf (l : Launch) (D : va_G) (cI cB cZ : ClassId) (ta : Nat → Nat) (aM : Nat) (aMt : Nat) (aMn : Nat) (aMr : Nat) (aMs : Nat) (aMi : Nat) (sz : Nat) (mth : Int32) (mtd : Int32) (msz : Int32) (mto : Int32) (mfr : Int32) (mso : Int32) (mnu : Int32) (mfa : Int32) (mpl : Int32) (mwo : Int64) (msm : Int32) (mgo : Int32) (mt : (Nat → Int32)) (mno : (Nat → Int32)) (mre : (Nat → Int32)) (msn : (Nat → Int32)) (mis : (Nat → Int32)) (x1 : Int32) (x2 : Int32) (r0 : Int32) (hm : m_X7_isLeafOf mno x1 x2 = some r0) : Met l yX7_isLeafOf wsX7_isLeafOf ({ frames := 2, cells := 0, slots := 0, locals := 44 } : Room) (va_Pc [.ref aM, .int x1, .int x2] (PW D cI cB cZ ta (w_Model cI cB cZ aM aMt aMn aMr aMs aMi mth mtd msz mto mfr mso mnu mfa mpl mwo msm mgo mt mno mre msn mis) sz)) (QZ .boolean D cI cB cZ (va_A (w_Model cI cB cZ aM aMt aMn aMr aMs aMi mth mtd msz mto mfr mso mnu mfa mpl mwo msm mgo mt mno mre msn mis) sz) (w_Model cI cB cZ aM aMt aMn aMr aMs aMi mth mtd msz mto mfr mso mnu mfa mpl mwo msm mgo mt mno mre msn mis) r0) 0 0 (va_A (w_Model cI cB cZ aM aMt aMn aMr aMs aMi mth mtd msz mto mfr mso mnu mfa mpl mwo msm mgo mt mno mre msn mis) sz) := by
  refine Met.ofW (cc := cX7_isLeafOf) (maxL := 3) (ret := (some .boolean)) (by decide) rfl ?_
  intro p e s m args below meth c s₁ B hml hv
  obtain ⟨rfl, hsz, hP, hK, hD0, hG⟩ := hv
  have hx := B.exec
  have hb := B.bytes
  have hr := B.returns
  have hts := atoms_spec (ws := wsX7_isLeafOf) B.pre
  have hown : s.vm.findClass RX7 = some m.cls := findClass_of_methodNamed B.named
  have hlocks := B.notSynchronized
  subst hsz
  have hD := hD0.self (sz := s.heap.size)
  clear hD0
  have hA0 : ∀ q : Nat, s.heap.size ≤ q → va_A (w_Model cI cB cZ aM aMt aMn aMr aMs aMi mth mtd msz mto mfr mso mnu mfa mpl mwo msm mgo mt mno mre msn mis) s.heap.size q := fun q h => Or.inr h
  generalize hAe : va_A (w_Model cI cB cZ aM aMt aMn aMr aMs aMi mth mtd msz mto mfr mso mnu mfa mpl mwo msm mgo mt mno mre msn mis) s.heap.size = A at hD hG hA0 ⊢
  have hA : ∀ q : Nat, s.heap.size ≤ q → A q := hA0
  clear hA0
  have hS : va_S A s.heap s.heap [] := va_S.rf
  have iw_X7 := iw_X7_isLeafOf_X7
  have hl := lv_entry ([.ref aM, .int x1, .int x2]) (n := 3) (Nat.le_of_ble_eq_true rfl)
  rw [lg_entry_eq]
  generalize (lg_sl ([.ref aM, .int x1, .int x2]) ++ List.replicate (3 - (lg_sl ([.ref aM, .int x1, .int x2])).length) Slot.unset).toArray = ls at hl ⊢
  have hl : lv_has ls 3 [(0, .ref aM), (1, .int x1), (2, .int x2)] := hl
  replace hm : (if ((22 : Int32) + x1) < 0 ∨ 442 ≤ ((22 : Int32) + x1).toNatClampNeg then none else (if (mno ((22 : Int32) + x1).toNatClampNeg) = 0 then (ob1 (m_X7_isBelow mno x1 x2) (fun r6 => (if r6 = 0 then some (0 : Int32) else some (1 : Int32)))) else some (0 : Int32))) = some r0 := hm
  refine lv_aload_n hx hb dX7_isLeafOf_0 rfl (lv_at hl 0 rfl) ?_
  refine va_get (D := D) (ci := 7) (v := .ref aMn) (C := RX7) (T := TX7) (N := 17) hx hb hts iw_X7 hown hK hP 0 rfl rfl 11 (by decide) (hts (.fieldLink RX7 64 "VarianceBridgeModel" "now" "[I") (by decide +kernel)) (fun _ h9 => h9) rfl dX7_isLeafOf_1 ?_
  refine lv_bipush (v := (22 : Int32)) hx hb dX7_isLeafOf_4 (by decide) ?_
  refine lv_iload_n hx hb dX7_isLeafOf_6 rfl (lv_at hl 1 rfl) ?_
  refine lv_iadd hx hb dX7_isLeafOf_7 ?_
  obtain ⟨c1, hm2⟩ := zz_no hm
  refine va_iald hx hb hK hP 2 0 rfl rfl c1 dX7_isLeafOf_8 ?_
  refine lv_if_ne (tgt := 25) hx hb dX7_isLeafOf_9 (by decide) (fun c3 => ?_) (fun c3 => ?_)
  · have hm4 := zz_nf c3 hm2
    refine lv_iconst (v := (0 : Int32)) hx hb dX7_isLeafOf_25 (by decide) ?_
    have hq1 := Option.some.inj hm4
    subst hq1
    exact W.zret (ty := .boolean) hx hb hr (by decide) (fun t ht hW => ⟨⟨_, (), rfl, ⟨rfl, (by decide)⟩, by rw [ht]; exact hP, va_K.moved hW.alike hK, hD⟩, hS.F ht⟩) hS.2.2 dX7_isLeafOf_26
  · have hm5 := zz_if c3 hm2
    refine lv_aload_n hx hb dX7_isLeafOf_12 rfl (lv_at hl 0 rfl) ?_
    refine lv_iload_n hx hb dX7_isLeafOf_13 rfl (lv_at hl 1 rfl) ?_
    refine lv_iload_n hx hb dX7_isLeafOf_14 rfl (lv_at hl 2 rfl) ?_
    obtain ⟨r6, h6, hm6⟩ := ob1_e hm5
    refine gcall_b (ws' := (w_Model cI cB cZ aM aMt aMn aMr aMs aMi mth mtd msz mto mfr mso mnu mfa mpl mwo msm mgo mt mno mre msn mis)) (va_runV (As := [.int x1, .int x2]) (rest := []) ⟨hx, hb, hml, hown, hts⟩ (c_X7_isBelow l D cI cB cZ ta aM aMt aMn aMr aMs aMi s.heap.size mth mtd msz mto mfr mso mnu mfa mpl mwo msm mgo mt mno mre msn mis x1 x2 r6 h6) (cwV 2 hts gX7_isLeafOf_X7_isBelow rfl rfl rfl (by decide +kernel) ⟨(Nat.le_of_ble_eq_true rfl), (Nat.le_of_ble_eq_true rfl)⟩) ⟨PW_blind, va_recv hK hP rfl (q0 := 0) rfl, PW_at hP hD hK hS hA hG [0, 1, 2, 3, 4, 5] rfl (by decide)⟩ rfl rfl hl.1 rfl (lv_room (Nat.le_of_ble_eq_true rfl)) dX7_isLeafOf_15 ⟨(Nat.le_of_ble_eq_true rfl), (Nat.le_of_ble_eq_true rfl)⟩) hP hD hS hA [0, 1, 2, 3, 4, 5] [] [0, 1, 2, 3, 4, 5] rfl rfl (by decide) (by decide) (by decide) rfl (fun H7 lo7 hz6 hP7 hD7 hS7 => ?_)
    clear hP hD hS
    refine lv_if_eq (tgt := 25) hx hb dX7_isLeafOf_18 (by decide) (fun c8 => ?_) (fun c8 => ?_)
    · have hm9 := zz_if c8 hm6
      refine lv_iconst (v := (0 : Int32)) hx hb dX7_isLeafOf_25 (by decide) ?_
      have hq1 := Option.some.inj hm9
      subst hq1
      exact W.zret (ty := .boolean) hx hb hr (by decide) (fun t ht hW => ⟨⟨_, (), rfl, ⟨rfl, (by decide)⟩, by rw [ht]; exact hP7, va_K.moved hW.alike hK, hD7⟩, hS7.F ht⟩) hS7.2.2 dX7_isLeafOf_26
    · have hm10 := zz_nf c8 hm6
      refine lv_iconst (v := (1 : Int32)) hx hb dX7_isLeafOf_21 (by decide) ?_
      refine lv_goto (tgt := 26) hx hb dX7_isLeafOf_22 (by decide) ?_
      have hq1 := Option.some.inj hm10
      subst hq1
      exact W.zret (ty := .boolean) hx hb hr (by decide) (fun t ht hW => ⟨⟨_, (), rfl, ⟨rfl, (by decide)⟩, by rw [ht]; exact hP7, va_K.moved hW.alike hK, hD7⟩, hS7.F ht⟩) hS7.2.2 dX7_isLeafOf_26
theorem iw_X7_leavesOf_X7 : ∀ w ∈ wsX70, w ∈ wsX7_leavesOf := by decide +kernel
set_option maxHeartbeats 4000000 in
set_option maxRecDepth 100000 in
theorem c_X7_leavesOf (l : Launch) (D : va_G) (cI cB cZ : ClassId) (ta : Nat → Nat) (aM : Nat) (aMt : Nat) (aMn : Nat) (aMr : Nat) (aMs : Nat) (aMi : Nat) (sz : Nat) (mth : Int32) (mtd : Int32) (msz : Int32) (mto : Int32) (mfr : Int32) (mso : Int32) (mnu : Int32) (mfa : Int32) (mpl : Int32) (mwo : Int64) (msm : Int32) (mgo : Int32) (mt : (Nat → Int32)) (mno : (Nat → Int32)) (mre : (Nat → Int32)) (msn : (Nat → Int32)) (mis : (Nat → Int32)) (x1 : Int32) (r0 : Int32) (hm : m_X7_leavesOf mno x1 = some r0) : Met l yX7_leavesOf wsX7_leavesOf ({ frames := 3, cells := 0, slots := 0, locals := 66 } : Room) (va_Pc [.ref aM, .int x1] (PW D cI cB cZ ta (w_Model cI cB cZ aM aMt aMn aMr aMs aMi mth mtd msz mto mfr mso mnu mfa mpl mwo msm mgo mt mno mre msn mis) sz)) (QI D cI cB cZ (va_A (w_Model cI cB cZ aM aMt aMn aMr aMs aMi mth mtd msz mto mfr mso mnu mfa mpl mwo msm mgo mt mno mre msn mis) sz) (w_Model cI cB cZ aM aMt aMn aMr aMs aMi mth mtd msz mto mfr mso mnu mfa mpl mwo msm mgo mt mno mre msn mis) r0) 0 0 (va_A (w_Model cI cB cZ aM aMt aMn aMr aMs aMi mth mtd msz mto mfr mso mnu mfa mpl mwo msm mgo mt mno mre msn mis) sz) := by
  refine Met.ofW (cc := cX7_leavesOf) (maxL := 4) (ret := (some .int)) (by decide) rfl ?_
  intro p e s m args below meth c s₁ B hml hv
  obtain ⟨rfl, hsz, hP, hK, hD0, hG⟩ := hv
  have hx := B.exec
  have hb := B.bytes
  have hr := B.returns
  have hts := atoms_spec (ws := wsX7_leavesOf) B.pre
  have hown : s.vm.findClass RX7 = some m.cls := findClass_of_methodNamed B.named
  have hlocks := B.notSynchronized
  subst hsz
  have hD := hD0.self (sz := s.heap.size)
  clear hD0
  have hA0 : ∀ q : Nat, s.heap.size ≤ q → va_A (w_Model cI cB cZ aM aMt aMn aMr aMs aMi mth mtd msz mto mfr mso mnu mfa mpl mwo msm mgo mt mno mre msn mis) s.heap.size q := fun q h => Or.inr h
  generalize hAe : va_A (w_Model cI cB cZ aM aMt aMn aMr aMs aMi mth mtd msz mto mfr mso mnu mfa mpl mwo msm mgo mt mno mre msn mis) s.heap.size = A at hD hG hA0 ⊢
  have hA : ∀ q : Nat, s.heap.size ≤ q → A q := hA0
  clear hA0
  have hS : va_S A s.heap s.heap [] := va_S.rf
  have iw_X7 := iw_X7_leavesOf_X7
  have hk_4 : ∀ (n : Nat) (y1 : Int32) (y2 : Int32) (y3 : Int32), k_X7_leavesOf_4 mno n y1 y2 y3 = some r0 → ∀ (ls : Array Slot) (H : Heap) (lo : List Loc), lv_has ls 4 [(0, .ref aM), (1, .int y1), (2, .int y2), (3, .int y3)] → va_P D vwCl (w_Model cI cB cZ aM aMt aMn aMr aMs aMi mth mtd msz mto mfr mso mnu mfa mpl mwo msm mgo mt mno mre msn mis) H → va_D A (w_Model cI cB cZ aM aMt aMn aMr aMs aMi mth mtd msz mto mfr mso mnu mfa mpl mwo msm mgo mt mno mre msn mis) → va_S A s.heap H lo → W p l e (headSpec wsX7_leavesOf ({ frames := 3, cells := 0, slots := 0, locals := 66 } : Room)).room s m (([.ref aM, .int x1] : List Value).toArray) below meth c H lo 0 0 (MQ below (QI D cI cB cZ A (w_Model cI cB cZ aM aMt aMn aMr aMs aMi mth mtd msz mto mfr mso mnu mfa mpl mwo msm mgo mt mno mre msn mis) r0) (([.ref aM, .int x1] : List Value).toArray) s 0 0 A) (F0 m 4 ls []) := by
    intro n
    induction n with
    | zero => intro y1 y2 y3 hm; exact zz_nn hm
    | succ n ih =>
      intro y1 y2 y3 hm ls H lo hl hP hD hS
      replace hm := (k_X7_leavesOf_4_s mno n y1 y2 y3).symm.trans hm
      refine lv_iload_n hx hb dX7_leavesOf_4 rfl (lv_at hl 3 rfl) ?_
      refine lv_aload_n hx hb dX7_leavesOf_5 rfl (lv_at hl 0 rfl) ?_
      refine va_get (D := D) (ci := 7) (v := .ref aMn) (C := RX7) (T := TX7) (N := 17) hx hb hts iw_X7 hown hK hP 0 rfl rfl 11 (by decide) (hts (.fieldLink RX7 64 "VarianceBridgeModel" "now" "[I") (by decide +kernel)) (fun _ h9 => h9) rfl dX7_leavesOf_6 ?_
      refine lv_iconst (v := (1 : Int32)) hx hb dX7_leavesOf_9 (by decide) ?_
      obtain ⟨c1, hm2⟩ := zz_no hm
      refine va_iald hx hb hK hP 2 0 rfl rfl c1 dX7_leavesOf_10 ?_
      refine lv_icmp_ge (tgt := 35) hx hb dX7_leavesOf_11 (by decide) (fun c3 => ?_) (fun c3 => ?_)
      · have hm4 := zz_if c3 hm2
        refine lv_iload_n hx hb dX7_leavesOf_35 rfl (lv_at hl 2 rfl) ?_
        have hq1 := Option.some.inj hm4
        subst hq1
        exact W.iret hx hb hr (fun t ht hW => ⟨⟨_, (), rfl, rfl, by rw [ht]; exact hP, va_K.moved hW.alike hK, hD⟩, hS.F ht⟩) hS.2.2 dX7_leavesOf_36
      · have hm5 := zz_nf c3 hm2
        refine lv_aload_n hx hb dX7_leavesOf_14 rfl (lv_at hl 0 rfl) ?_
        refine lv_iload_n hx hb dX7_leavesOf_15 rfl (lv_at hl 3 rfl) ?_
        refine lv_iload_n hx hb dX7_leavesOf_16 rfl (lv_at hl 1 rfl) ?_
        obtain ⟨r6, h6, hm6⟩ := ob1_e hm5
        refine gcall_b (ws' := (w_Model cI cB cZ aM aMt aMn aMr aMs aMi mth mtd msz mto mfr mso mnu mfa mpl mwo msm mgo mt mno mre msn mis)) (va_runV (As := [.int y3, .int y1]) (rest := []) ⟨hx, hb, hml, hown, hts⟩ (c_X7_isLeafOf l D cI cB cZ ta aM aMt aMn aMr aMs aMi H.size mth mtd msz mto mfr mso mnu mfa mpl mwo msm mgo mt mno mre msn mis y3 y1 r6 h6) (cwV 2 hts gX7_leavesOf_X7_isLeafOf rfl rfl rfl (by decide +kernel) ⟨(Nat.le_of_ble_eq_true rfl), (Nat.le_of_ble_eq_true rfl)⟩) ⟨PW_blind, va_recv hK hP rfl (q0 := 0) rfl, PW_at hP hD hK hS hA hG [0, 1, 2, 3, 4, 5] rfl (by decide)⟩ rfl rfl hl.1 rfl (lv_room (Nat.le_of_ble_eq_true rfl)) dX7_leavesOf_17 ⟨(Nat.le_of_ble_eq_true rfl), (Nat.le_of_ble_eq_true rfl)⟩) hP hD hS hA [0, 1, 2, 3, 4, 5] [] [0, 1, 2, 3, 4, 5] rfl rfl (by decide) (by decide) (by decide) rfl (fun H7 lo7 hz6 hP7 hD7 hS7 => ?_)
        clear hP hD hS
        refine lv_if_eq (tgt := 29) hx hb dX7_leavesOf_20 (by decide) (fun c8 => ?_) (fun c8 => ?_)
        · have hm9 := zz_if c8 hm6
          refine lv_iinc (v := (y3 + (1 : Int32))) (lv' := [(3, .int (y3 + (1 : Int32))), (0, .ref aM), (1, .int y1), (2, .int y2)]) hx hb dX7_leavesOf_29 hl (k := 3) rfl (by rfl) (by decide) rfl (fun ls11 hl11 => ?_)
          refine lv_goto (tgt := 4) hx hb dX7_leavesOf_32 (by decide) ?_
          exact ih y1 y2 (y3 + (1 : Int32)) hm9 ls11 H7 lo7 (lv_sub hl11 [1, 2, 3, 0] rfl) hP7 hD7 hS7
        · have hm10 := zz_nf c8 hm6
          refine lv_iload_n hx hb dX7_leavesOf_23 rfl (lv_at hl 2 rfl) ?_
          refine lv_iconst (v := (1 : Int32)) hx hb dX7_leavesOf_24 (by decide) ?_
          refine lv_iload_n hx hb dX7_leavesOf_25 rfl (lv_at hl 3 rfl) ?_
          refine lv_ishl hx hb dX7_leavesOf_26 ?_
          refine lv_ior hx hb dX7_leavesOf_27 ?_
          refine lv_istore_n (lv' := [(2, .int (y2 ||| ((1 : Int32) <<< (y3 &&& 31)))), (0, .ref aM), (1, .int y1), (3, .int y3)]) hx hb dX7_leavesOf_28 rfl hl (by decide) rfl (fun ls12 hl12 => ?_)
          refine lv_iinc (v := (y3 + (1 : Int32))) (lv' := [(3, .int (y3 + (1 : Int32))), (2, .int (y2 ||| ((1 : Int32) <<< (y3 &&& 31)))), (0, .ref aM), (1, .int y1)]) hx hb dX7_leavesOf_29 hl12 (k := 3) rfl (by rfl) (by decide) rfl (fun ls13 hl13 => ?_)
          refine lv_goto (tgt := 4) hx hb dX7_leavesOf_32 (by decide) ?_
          exact ih y1 (y2 ||| ((1 : Int32) <<< (y3 &&& 31))) (y3 + (1 : Int32)) hm10 ls13 H7 lo7 (lv_sub hl13 [2, 3, 1, 0] rfl) hP7 hD7 hS7
  have hl := lv_entry ([.ref aM, .int x1]) (n := 4) (Nat.le_of_ble_eq_true rfl)
  rw [lg_entry_eq]
  generalize (lg_sl ([.ref aM, .int x1]) ++ List.replicate (4 - (lg_sl ([.ref aM, .int x1])).length) Slot.unset).toArray = ls at hl ⊢
  have hl : lv_has ls 4 [(0, .ref aM), (1, .int x1)] := hl
  replace hm : (k_X7_leavesOf_4 mno FU x1 (0 : Int32) (0 : Int32)) = some r0 := hm
  refine lv_iconst (v := (0 : Int32)) hx hb dX7_leavesOf_0 (by decide) ?_
  refine lv_istore_n (lv' := [(2, .int (0 : Int32)), (0, .ref aM), (1, .int x1)]) hx hb dX7_leavesOf_1 rfl hl (by decide) rfl (fun ls14 hl14 => ?_)
  refine lv_iconst (v := (0 : Int32)) hx hb dX7_leavesOf_2 (by decide) ?_
  refine lv_istore_n (lv' := [(3, .int (0 : Int32)), (2, .int (0 : Int32)), (0, .ref aM), (1, .int x1)]) hx hb dX7_leavesOf_3 rfl hl14 (by decide) rfl (fun ls15 hl15 => ?_)
  exact hk_4 FU x1 (0 : Int32) (0 : Int32) hm ls15 s.heap [] (lv_sub hl15 [2, 3, 1, 0] rfl) hP hD hS
