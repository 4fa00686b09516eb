set_option maxHeartbeats 4000000 in
set_option maxRecDepth 100000 in
theorem c_X7_count (l : Launch) (D : va_G) (cI cB cZ : ClassId) (ta : Nat → Nat) (sz : Nat) (x1 : Int32) (r0 : Int32) (hm : m_X7_count x1 = some r0) : Met l yX7_count wsX7_count ({ frames := 0, cells := 0, slots := 0, locals := 0 } : Room) (va_Pc [.int x1] (PW D cI cB cZ ta (w_none cI cB cZ) sz)) (QI D cI cB cZ (va_A (w_none cI cB cZ) sz) (w_none cI cB cZ) r0) 0 0 (va_A (w_none cI cB cZ) sz) := by
  refine Met.ofW (cc := cX7_count) (maxL := 3) (ret := (some .int)) (by decide) rfl ?_
  intro p e s m args below meth c s₁ B hml hv
  obtain ⟨rfl, hsz, hP, hK, hD0, hG⟩ := hv
  have hx := B.exec
  have hb := B.bytes
  have hr := B.returns
  have hts := atoms_spec (ws := wsX7_count) B.pre
  have hown : s.vm.findClass RX7 = some m.cls := findClass_of_methodNamed B.named
  have hlocks := B.notSynchronized
  subst hsz
  have hD := hD0.self (sz := s.heap.size)
  clear hD0
  have hA0 : ∀ q : Nat, s.heap.size ≤ q → va_A (w_none cI cB cZ) s.heap.size q := fun q h => Or.inr h
  generalize hAe : va_A (w_none cI cB cZ) s.heap.size = A at hD hG hA0 ⊢
  have hA : ∀ q : Nat, s.heap.size ≤ q → A q := hA0
  clear hA0
  have hS : va_S A s.heap s.heap [] := va_S.rf
  have hk_4 : ∀ (n : Nat) (y0 : Int32) (y1 : Int32) (y2 : Int32), k_X7_count_4 n y0 y1 y2 = some r0 → ∀ (ls : Array Slot) (H : Heap) (lo : List Loc), lv_has ls 3 [(0, .int y0), (1, .int y1), (2, .int y2)] → va_P D vwCl (w_none cI cB cZ) H → va_D A (w_none cI cB cZ) → va_S A s.heap H lo → W p l e (headSpec wsX7_count ({ frames := 0, cells := 0, slots := 0, locals := 0 } : Room)).room s m (([.int x1] : List Value).toArray) below meth c H lo 0 0 (MQ below (QI D cI cB cZ A (w_none cI cB cZ) r0) (([.int x1] : List Value).toArray) s 0 0 A) (F0 m 4 ls []) := by
    intro n
    induction n with
    | zero => intro y0 y1 y2 hm; exact zz_nn hm
    | succ n ih =>
      intro y0 y1 y2 hm ls H lo hl hP hD hS
      replace hm := (k_X7_count_4_s n y0 y1 y2).symm.trans hm
      refine lv_iload_n hx hb dX7_count_4 rfl (lv_at hl 2 rfl) ?_
      refine lv_bipush (v := (20 : Int32)) hx hb dX7_count_5 (by decide) ?_
      refine lv_icmp_ge (tgt := 24) hx hb dX7_count_7 (by decide) (fun c1 => ?_) (fun c1 => ?_)
      · have hm2 := zz_if c1 hm
        refine lv_iload_n hx hb dX7_count_24 rfl (lv_at hl 1 rfl) ?_
        have hq1 := Option.some.inj hm2
        subst hq1
        exact W.iret hx hb hr (fun t ht hW => ⟨⟨_, (), rfl, rfl, by rw [ht]; exact hP, va_K.moved hW.alike hK, hD⟩, hS.F ht⟩) hS.2.2 dX7_count_25
      · have hm3 := zz_nf c1 hm
        refine lv_iload_n hx hb dX7_count_10 rfl (lv_at hl 1 rfl) ?_
        refine lv_iload_n hx hb dX7_count_11 rfl (lv_at hl 0 rfl) ?_
        refine lv_iload_n hx hb dX7_count_12 rfl (lv_at hl 2 rfl) ?_
        refine lv_ishr hx hb dX7_count_13 ?_
        refine lv_iconst (v := (1 : Int32)) hx hb dX7_count_14 (by decide) ?_
        refine lv_iand hx hb dX7_count_15 ?_
        refine lv_iadd hx hb dX7_count_16 ?_
        refine lv_istore_n (lv' := [(1, .int (y1 + ((y0 >>> (y2 &&& 31)) &&& (1 : Int32)))), (0, .int y0), (2, .int y2)]) hx hb dX7_count_17 rfl hl (by decide) rfl (fun ls4 hl4 => ?_)
        refine lv_iinc (v := (y2 + (1 : Int32))) (lv' := [(2, .int (y2 + (1 : Int32))), (1, .int (y1 + ((y0 >>> (y2 &&& 31)) &&& (1 : Int32)))), (0, .int y0)]) hx hb dX7_count_18 hl4 (k := 2) rfl (by rfl) (by decide) rfl (fun ls5 hl5 => ?_)
        refine lv_goto (tgt := 4) hx hb dX7_count_21 (by decide) ?_
        exact ih y0 (y1 + ((y0 >>> (y2 &&& 31)) &&& (1 : Int32))) (y2 + (1 : Int32)) hm3 ls5 H lo (lv_sub hl5 [2, 1, 0] rfl) hP hD hS
  have hl := lv_entry ([.int x1]) (n := 3) (Nat.le_of_ble_eq_true rfl)
  rw [lg_entry_eq]
  generalize (lg_sl ([.int x1]) ++ List.replicate (3 - (lg_sl ([.int x1])).length) Slot.unset).toArray = ls at hl ⊢
  have hl : lv_has ls 3 [(0, .int x1)] := hl
  replace hm : (k_X7_count_4 FU x1 (0 : Int32) (0 : Int32)) = some r0 := hm
  refine lv_iconst (v := (0 : Int32)) hx hb dX7_count_0 (by decide) ?_
  refine lv_istore_n (lv' := [(1, .int (0 : Int32)), (0, .int x1)]) hx hb dX7_count_1 rfl hl (by decide) rfl (fun ls6 hl6 => ?_)
  refine lv_iconst (v := (0 : Int32)) hx hb dX7_count_2 (by decide) ?_
  refine lv_istore_n (lv' := [(2, .int (0 : Int32)), (1, .int (0 : Int32)), (0, .int x1)]) hx hb dX7_count_3 rfl hl6 (by decide) rfl (fun ls7 hl7 => ?_)
  exact hk_4 FU x1 (0 : Int32) (0 : Int32) hm ls7 s.heap [] (lv_sub hl7 [2, 1, 0] rfl) hP hD hS
theorem iw_X7_now_X7 : ∀ w ∈ wsX70, w ∈ wsX7_now := by decide +kernel
set_option maxHeartbeats 4000000 in
set_option maxRecDepth 100000 in
theorem c_X7_now (l : Launch) (D : va_G) (cI cB cZ : ClassId) (ta : Nat → Nat) (aM : Nat) (aMt : Nat) (aMn : Nat) (aMr : Nat) (aMs : Nat) (aMi : Nat) (sz : Nat) (mth : Int32) (mtd : Int32) (msz : Int32) (mto : Int32) (mfr : Int32) (mso : Int32) (mnu : Int32) (mfa : Int32) (mpl : Int32) (mwo : Int64) (msm : Int32) (mgo : Int32) (mt : (Nat → Int32)) (mno : (Nat → Int32)) (mre : (Nat → Int32)) (msn : (Nat → Int32)) (mis : (Nat → Int32)) (x1 : Int32) (r0 : Int32) (u_mth : Int32) (hm : m_X7_now mth mtd msm mno x1 = some (r0, u_mth)) : Met l yX7_now wsX7_now ({ frames := 4, cells := 0, slots := 0, locals := 89 } : Room) (va_Pc [.ref aM, .int x1] (PW D cI cB cZ ta (w_Model cI cB cZ aM aMt aMn aMr aMs aMi mth mtd msz mto mfr mso mnu mfa mpl mwo msm mgo mt mno mre msn mis) sz)) (QI D cI cB cZ (va_A (w_Model cI cB cZ aM aMt aMn aMr aMs aMi mth mtd msz mto mfr mso mnu mfa mpl mwo msm mgo mt mno mre msn mis) sz) (w_Model cI cB cZ aM aMt aMn aMr aMs aMi u_mth mtd msz mto mfr mso mnu mfa mpl mwo msm mgo mt mno mre msn mis) r0) 0 0 (va_A (w_Model cI cB cZ aM aMt aMn aMr aMs aMi mth mtd msz mto mfr mso mnu mfa mpl mwo msm mgo mt mno mre msn mis) sz) := by
  refine Met.ofW (cc := cX7_now) (maxL := 2) (ret := (some .int)) (by decide) rfl ?_
  intro p e s m args below meth c s₁ B hml hv
  obtain ⟨rfl, hsz, hP, hK, hD0, hG⟩ := hv
  have hx := B.exec
  have hb := B.bytes
  have hr := B.returns
  have hts := atoms_spec (ws := wsX7_now) B.pre
  have hown : s.vm.findClass RX7 = some m.cls := findClass_of_methodNamed B.named
  have hlocks := B.notSynchronized
  subst hsz
  have hD := hD0.self (sz := s.heap.size)
  clear hD0
  have hA0 : ∀ q : Nat, s.heap.size ≤ q → va_A (w_Model cI cB cZ aM aMt aMn aMr aMs aMi mth mtd msz mto mfr mso mnu mfa mpl mwo msm mgo mt mno mre msn mis) s.heap.size q := fun q h => Or.inr h
  generalize hAe : va_A (w_Model cI cB cZ aM aMt aMn aMr aMs aMi mth mtd msz mto mfr mso mnu mfa mpl mwo msm mgo mt mno mre msn mis) s.heap.size = A at hD hG hA0 ⊢
  have hA : ∀ q : Nat, s.heap.size ≤ q → A q := hA0
  clear hA0
  have hS : va_S A s.heap s.heap [] := va_S.rf
  have iw_X7 := iw_X7_now_X7
  have hl := lv_entry ([.ref aM, .int x1]) (n := 2) (Nat.le_of_ble_eq_true rfl)
  rw [lg_entry_eq]
  generalize (lg_sl ([.ref aM, .int x1]) ++ List.replicate (2 - (lg_sl ([.ref aM, .int x1])).length) Slot.unset).toArray = ls at hl ⊢
  have hl : lv_has ls 2 [(0, .ref aM), (1, .int x1)] := hl
  replace hm : (if x1 = (0 : Int32) then (if x1 < 0 ∨ 442 ≤ x1.toNatClampNeg then none else some ((mno x1.toNatClampNeg), (0 : Int32))) else (if x1 = (1 : Int32) then (if x1 < 0 ∨ 442 ≤ x1.toNatClampNeg then none else some ((mno x1.toNatClampNeg), (0 : Int32))) else (if x1 = (2 : Int32) then (ob1 (m_X7_leavesOf mno (0 : Int32)) (fun r15 => (ob1 (m_X7_count r15) (fun r17 => some (r17, (0 : Int32)))))) else (if x1 = (3 : Int32) then some (msm, (0 : Int32)) else (if x1 = (4 : Int32) then some (mtd, (0 : Int32)) else some ((-1 : Int32), (0 : Int32))))))) = some (r0, u_mth) := hm
  refine lv_aload_n hx hb dX7_now_0 rfl (lv_at hl 0 rfl) ?_
  refine lv_iconst (v := (0 : Int32)) hx hb dX7_now_1 (by decide) ?_
  refine va_put (D := D) (ci := 7) (v := .int (0 : Int32)) (ty := .int) (C := RX7) (T := TX7) (N := 17) hx hb hts iw_X7 tyX7 tyX7_ok nmX7 hown hK hP hD hS 0 rfl rfl 0 (by decide) (hts (.fieldLink RX7 1 "VarianceBridgeModel" "thrown" "I") (by decide +kernel)) (fun _ h9 => h9) rfl (by decide +kernel) rfl rfl (Nat.le_of_ble_eq_true rfl) dX7_now_2 (fun H1 lo1 hP1 hD1 hS1 => ?_)
  replace hP1 : va_P D vwCl (w_Model cI cB cZ aM aMt aMn aMr aMs aMi (0 : Int32) mtd msz mto mfr mso mnu mfa mpl mwo msm mgo mt mno mre msn mis) H1 := hP1
  replace hD1 : va_D A (w_Model cI cB cZ aM aMt aMn aMr aMs aMi (0 : Int32) mtd msz mto mfr mso mnu mfa mpl mwo msm mgo mt mno mre msn mis) := hD1
  clear hP hD hS
  refine lv_iload_n hx hb dX7_now_5 rfl (lv_at hl 1 rfl) ?_
  by_cases c2 : x1 = (0 : Int32)
  · have hm3 := zz_if c2 hm
    refine lv_tableIn (off := 34) (tgt := 40) hx hb dX7_now_6 (by rw [c2]; decide) (by rw [c2]; decide) (by rw [c2]; rfl) (by decide) ?_
    refine lv_aload_n hx hb dX7_now_40 rfl (lv_at hl 0 rfl) ?_
    refine va_get (D := D) (ci := 7) (v := .ref aMn) (C := RX7) (T := TX7) (N := 17) hx hb hts iw_X7 hown hK hP1 0 rfl rfl 11 (by decide) (hts (.fieldLink RX7 64 "VarianceBridgeModel" "now" "[I") (by decide +kernel)) (fun _ h9 => h9) rfl dX7_now_41 ?_
    refine lv_iload_n hx hb dX7_now_44 rfl (lv_at hl 1 rfl) ?_
    obtain ⟨c5, hm6⟩ := zz_no hm3
    refine va_iald hx hb hK hP1 2 0 rfl rfl c5 dX7_now_45 ?_
    obtain ⟨hq1, hq2⟩ := Prod.mk.inj (Option.some.inj hm6)
    subst hq1
    subst hq2
    exact W.iret hx hb hr (fun t ht hW => ⟨⟨_, (), rfl, rfl, by rw [ht]; exact hP1, va_K.moved hW.alike hK, hD1⟩, hS1.F ht⟩) hS1.2.2 dX7_now_46
  · have hm4 := zz_nf c2 hm
    by_cases c7 : x1 = (1 : Int32)
    · have hm8 := zz_if c7 hm4
      refine lv_tableIn (off := 34) (tgt := 40) hx hb dX7_now_6 (by rw [c7]; decide) (by rw [c7]; decide) (by rw [c7]; rfl) (by decide) ?_
      refine lv_aload_n hx hb dX7_now_40 rfl (lv_at hl 0 rfl) ?_
      refine va_get (D := D) (ci := 7) (v := .ref aMn) (C := RX7) (T := TX7) (N := 17) hx hb hts iw_X7 hown hK hP1 0 rfl rfl 11 (by decide) (hts (.fieldLink RX7 64 "VarianceBridgeModel" "now" "[I") (by decide +kernel)) (fun _ h9 => h9) rfl dX7_now_41 ?_
      refine lv_iload_n hx hb dX7_now_44 rfl (lv_at hl 1 rfl) ?_
      obtain ⟨c10, hm11⟩ := zz_no hm8
      refine va_iald hx hb hK hP1 2 0 rfl rfl c10 dX7_now_45 ?_
      obtain ⟨hq1, hq2⟩ := Prod.mk.inj (Option.some.inj hm11)
      subst hq1
      subst hq2
      exact W.iret hx hb hr (fun t ht hW => ⟨⟨_, (), rfl, rfl, by rw [ht]; exact hP1, va_K.moved hW.alike hK, hD1⟩, hS1.F ht⟩) hS1.2.2 dX7_now_46
    · have hm9 := zz_nf c7 hm4
      by_cases c12 : x1 = (2 : Int32)
      · have hm13 := zz_if c12 hm9
        refine lv_tableIn (off := 41) (tgt := 47) hx hb dX7_now_6 (by rw [c12]; decide) (by rw [c12]; decide) (by rw [c12]; rfl) (by decide) ?_
        refine lv_aload_n hx hb dX7_now_47 rfl (lv_at hl 0 rfl) ?_
        refine lv_iconst (v := (0 : Int32)) hx hb dX7_now_48 (by decide) ?_
        obtain ⟨r15, h15, hm15⟩ := ob1_e hm13
        refine gcall_i (ws' := (w_Model cI cB cZ aM aMt aMn aMr aMs aMi (0 : Int32) mtd msz mto mfr mso mnu mfa mpl mwo msm mgo mt mno mre msn mis)) (va_runV (As := [.int (0 : Int32)]) (rest := []) ⟨hx, hb, hml, hown, hts⟩ (c_X7_leavesOf l D cI cB cZ ta aM aMt aMn aMr aMs aMi H1.size (0 : Int32) mtd msz mto mfr mso mnu mfa mpl mwo msm mgo mt mno mre msn mis (0 : Int32) r15 h15) (cwV 1 hts gX7_now_X7_leavesOf rfl rfl rfl (by decide +kernel) ⟨(Nat.le_of_ble_eq_true rfl), (Nat.le_of_ble_eq_true rfl)⟩) ⟨PW_blind, va_recv hK hP1 rfl (q0 := 0) rfl, PW_at hP1 hD1 hK hS1 hA hG [0, 1, 2, 3, 4, 5] rfl (by decide)⟩ rfl rfl hl.1 rfl (lv_room (Nat.le_of_ble_eq_true rfl)) dX7_now_49 ⟨(Nat.le_of_ble_eq_true rfl), (Nat.le_of_ble_eq_true rfl)⟩) hP1 hD1 hS1 hA [0, 1, 2, 3, 4, 5] [] [0, 1, 2, 3, 4, 5] rfl rfl (by decide) (by decide) (by decide) rfl (fun H16 lo16 hP16 hD16 hS16 => ?_)
        clear hP1 hD1 hS1
        obtain ⟨r17, h17, hm17⟩ := ob1_e hm15
        refine gcall_i (ws' := (w_Model cI cB cZ aM aMt aMn aMr aMs aMi (0 : Int32) mtd msz mto mfr mso mnu mfa mpl mwo msm mgo mt mno mre msn mis)) (va_runS (As := [.int r15]) (rest := []) ⟨hx, hb, hml, hown, hts⟩ (c_X7_count l D cI cB cZ ta H16.size r15 r17 h17) (va_cwS 1 hts gX7_now_X7_count rfl rfl rfl (by decide +kernel) ⟨(Nat.le_of_ble_eq_true rfl), (Nat.le_of_ble_eq_true rfl)⟩) ⟨PW_blind, PW_at hP16 hD16 hK hS16 hA hG [] rfl (by decide)⟩ rfl rfl hl.1 rfl (lv_room (Nat.le_of_ble_eq_true rfl)) dX7_now_52 ⟨(Nat.le_of_ble_eq_true rfl), (Nat.le_of_ble_eq_true rfl)⟩) hP16 hD16 hS16 hA [] [0, 1, 2, 3, 4, 5] [0, 1, 2, 3, 4, 5] rfl rfl (by decide) (by decide) (by decide) rfl (fun H18 lo18 hP18 hD18 hS18 => ?_)
        clear hP16 hD16 hS16
        obtain ⟨hq1, hq2⟩ := Prod.mk.inj (Option.some.inj hm17)
        subst hq1
        subst hq2
        exact W.iret hx hb hr (fun t ht hW => ⟨⟨_, (), rfl, rfl, by rw [ht]; exact hP18, va_K.moved hW.alike hK, hD18⟩, hS18.F ht⟩) hS18.2.2 dX7_now_55
      · have hm14 := zz_nf c12 hm9
        by_cases c19 : x1 = (3 : Int32)
        · have hm20 := zz_if c19 hm14
          refine lv_tableIn (off := 50) (tgt := 56) hx hb dX7_now_6 (by rw [c19]; decide) (by rw [c19]; decide) (by rw [c19]; rfl) (by decide) ?_
          refine lv_aload_n hx hb dX7_now_56 rfl (lv_at hl 0 rfl) ?_
          refine va_get (D := D) (ci := 7) (v := .int msm) (C := RX7) (T := TX7) (N := 17) hx hb hts iw_X7 hown hK hP1 0 rfl rfl 14 (by decide) (hts (.fieldLink RX7 147 "VarianceBridgeModel" "snapMany" "I") (by decide +kernel)) (fun _ h9 => h9) rfl dX7_now_57 ?_
          obtain ⟨hq1, hq2⟩ := Prod.mk.inj (Option.some.inj hm20)
          subst hq1
          subst hq2
          exact W.iret hx hb hr (fun t ht hW => ⟨⟨_, (), rfl, rfl, by rw [ht]; exact hP1, va_K.moved hW.alike hK, hD1⟩, hS1.F ht⟩) hS1.2.2 dX7_now_60
        · have hm21 := zz_nf c19 hm14
          by_cases c22 : x1 = (4 : Int32)
          · have hm23 := zz_if c22 hm21
            refine lv_tableIn (off := 55) (tgt := 61) hx hb dX7_now_6 (by rw [c22]; decide) (by rw [c22]; decide) (by rw [c22]; rfl) (by decide) ?_
            refine lv_aload_n hx hb dX7_now_61 rfl (lv_at hl 0 rfl) ?_
            refine va_get (D := D) (ci := 7) (v := .int mtd) (C := RX7) (T := TX7) (N := 17) hx hb hts iw_X7 hown hK hP1 0 rfl rfl 2 (by decide) (hts (.fieldLink RX7 11 "VarianceBridgeModel" "taped" "I") (by decide +kernel)) (fun _ h9 => h9) rfl dX7_now_62 ?_
            obtain ⟨hq1, hq2⟩ := Prod.mk.inj (Option.some.inj hm23)
            subst hq1
            subst hq2
            exact W.iret hx hb hr (fun t ht hW => ⟨⟨_, (), rfl, rfl, by rw [ht]; exact hP1, va_K.moved hW.alike hK, hD1⟩, hS1.F ht⟩) hS1.2.2 dX7_now_65
          · have hm24 := zz_nf c22 hm21
            refine lv_tableOut (tgt := 66) hx hb dX7_now_6 (ts_out 4 (fun k hk => by rcases (show k = 0 ∨ k = 1 ∨ k = 2 ∨ k = 3 ∨ k = 4 by omega) with rfl | rfl | rfl | rfl | rfl <;> first | exact c2 | exact c7 | exact c12 | exact c19 | exact c22) (by decide)) (by decide) ?_
            refine lv_iconst (v := (-1 : Int32)) hx hb dX7_now_66 (by decide) ?_
            obtain ⟨hq1, hq2⟩ := Prod.mk.inj (Option.some.inj hm24)
            subst hq1
            subst hq2
            exact W.iret hx hb hr (fun t ht hW => ⟨⟨_, (), rfl, rfl, by rw [ht]; exact hP1, va_K.moved hW.alike hK, hD1⟩, hS1.F ht⟩) hS1.2.2 dX7_now_67
theorem iw_X7_node_X7 : ∀ w ∈ wsX70, w ∈ wsX7_node := by decide +kernel
set_option maxHeartbeats 4000000 in
set_option maxRecDepth 100000 in
theorem c_X7_node (l : Launch) (D : va_G) (cI cB cZ : ClassId) (ta : Nat → Nat) (aM : Nat) (aMt : Nat) (aMn : Nat) (aMr : Nat) (aMs : Nat) (aMi : Nat) (sz : Nat) (mth : Int32) (mtd : Int32) (msz : Int32) (mto : Int32) (mfr : Int32) (mso : Int32) (mnu : Int32) (mfa : Int32) (mpl : Int32) (mwo : Int64) (msm : Int32) (mgo : Int32) (mt : (Nat → Int32)) (mno : (Nat → Int32)) (mre : (Nat → Int32)) (msn : (Nat → Int32)) (mis : (Nat → Int32)) (x1 : Int32) (x2 : Int32) (r0 : Int32) (u_mth : Int32) (hm : m_X7_node mth mno x1 x2 = some (r0, u_mth)) : Met l yX7_node wsX7_node ({ frames := 4, cells := 0, slots := 0, locals := 89 } : Room) (va_Pc [.ref aM, .int x1, .int x2] (PW D cI cB cZ ta (w_Model cI cB cZ aM aMt aMn aMr aMs aMi mth mtd msz mto mfr mso mnu mfa mpl mwo msm mgo mt mno mre msn mis) sz)) (QI D cI cB cZ (va_A (w_Model cI cB cZ aM aMt aMn aMr aMs aMi mth mtd msz mto mfr mso mnu mfa mpl mwo msm mgo mt mno mre msn mis) sz) (w_Model cI cB cZ aM aMt aMn aMr aMs aMi u_mth mtd msz mto mfr mso mnu mfa mpl mwo msm mgo mt mno mre msn mis) r0) 0 0 (va_A (w_Model cI cB cZ aM aMt aMn aMr aMs aMi mth mtd msz mto mfr mso mnu mfa mpl mwo msm mgo mt mno mre msn mis) sz) := by
  refine Met.ofW (cc := cX7_node) (maxL := 5) (ret := (some .int)) (by decide) rfl ?_
  intro p e s m args below meth c s₁ B hml hv
  obtain ⟨rfl, hsz, hP, hK, hD0, hG⟩ := hv
  have hx := B.exec
  have hb := B.bytes
  have hr := B.returns
  have hts := atoms_spec (ws := wsX7_node) B.pre
  have hown : s.vm.findClass RX7 = some m.cls := findClass_of_methodNamed B.named
  have hlocks := B.notSynchronized
  subst hsz
  have hD := hD0.self (sz := s.heap.size)
  clear hD0
  have hA0 : ∀ q : Nat, s.heap.size ≤ q → va_A (w_Model cI cB cZ aM aMt aMn aMr aMs aMi mth mtd msz mto mfr mso mnu mfa mpl mwo msm mgo mt mno mre msn mis) s.heap.size q := fun q h => Or.inr h
  generalize hAe : va_A (w_Model cI cB cZ aM aMt aMn aMr aMs aMi mth mtd msz mto mfr mso mnu mfa mpl mwo msm mgo mt mno mre msn mis) s.heap.size = A at hD hG hA0 ⊢
  have hA : ∀ q : Nat, s.heap.size ≤ q → A q := hA0
  clear hA0
  have hS : va_S A s.heap s.heap [] := va_S.rf
  have iw_X7 := iw_X7_node_X7
  have hk_22 : ∀ (mth : Int32), k_X7_node_22 mno mth = some (r0, u_mth) → ∀ (ls : Array Slot) (H : Heap) (lo : List Loc), lv_has ls 5 [(0, .ref aM)] → va_P D vwCl (w_Model cI cB cZ aM aMt aMn aMr aMs aMi mth mtd msz mto mfr mso mnu mfa mpl mwo msm mgo mt mno mre msn mis) H → va_D A (w_Model cI cB cZ aM aMt aMn aMr aMs aMi mth mtd msz mto mfr mso mnu mfa mpl mwo msm mgo mt mno mre msn mis) → va_S A s.heap H lo → W p l e (headSpec wsX7_node ({ frames := 4, cells := 0, slots := 0, locals := 89 } : Room)).room s m (([.ref aM, .int x1, .int x2] : List Value).toArray) below meth c H lo 0 0 (MQ below (QI D cI cB cZ A (w_Model cI cB cZ aM aMt aMn aMr aMs aMi u_mth mtd msz mto mfr mso mnu mfa mpl mwo msm mgo mt mno mre msn mis) r0) (([.ref aM, .int x1, .int x2] : List Value).toArray) s 0 0 A) (F0 m 22 ls []) := by
    intro mth hm ls H lo hl hP hD hS
    replace hm : (ob2 (m_X7_refuse mth) (fun r1 mth_1 => some (r1, mth_1))) = some (r0, u_mth) := hm
    refine lv_aload_n hx hb dX7_node_22 rfl (lv_at hl 0 rfl) ?_
    obtain ⟨r1, mth_1, h1, hm1⟩ := ob2_e hm
    refine gcall_i (ws' := (w_Model cI cB cZ aM aMt aMn aMr aMs aMi mth_1 mtd msz mto mfr mso mnu mfa mpl mwo msm mgo mt mno mre msn mis)) (va_runV (As := []) (rest := []) ⟨hx, hb, hml, hown, hts⟩ (c_X7_refuse l D cI cB cZ ta aM aMt aMn aMr aMs aMi H.size mth mtd msz mto mfr mso mnu mfa mpl mwo msm mgo mt mno mre msn mis r1 mth_1 h1) (cwV 0 hts gX7_node_X7_refuse rfl rfl rfl (by decide +kernel) ⟨(Nat.le_of_ble_eq_true rfl), (Nat.le_of_ble_eq_true rfl)⟩) ⟨PW_blind, va_recv hK hP rfl (q0 := 0) rfl, PW_at hP hD hK hS hA hG [0, 1, 2, 3, 4, 5] rfl (by decide)⟩ rfl rfl hl.1 rfl (lv_room (Nat.le_of_ble_eq_true rfl)) dX7_node_23 ⟨(Nat.le_of_ble_eq_true rfl), (Nat.le_of_ble_eq_true rfl)⟩) hP hD hS hA [0, 1, 2, 3, 4, 5] [] [0, 1, 2, 3, 4, 5] rfl rfl (by decide) (by decide) (by decide) rfl (fun H2 lo2 hP2 hD2 hS2 => ?_)
    clear hP hD hS
    obtain ⟨hq1, hq2⟩ := Prod.mk.inj (Option.some.inj hm1)
    subst hq1
    subst hq2
    exact W.iret hx hb hr (fun t ht hW => ⟨⟨_, (), rfl, rfl, by rw [ht]; exact hP2, va_K.moved hW.alike hK, hD2⟩, hS2.F ht⟩) hS2.2.2 dX7_node_26
  have hk_68 : ∀ (n : Nat) (mth : Int32) (y1 : Int32) (y3 : Int32) (y4 : Int32), k_X7_node_68 mno n mth y1 y3 y4 = some (r0, u_mth) → ∀ (ls : Array Slot) (H : Heap) (lo : List Loc), lv_has ls 5 [(0, .ref aM), (1, .int y1), (3, .int y3), (4, .int y4)] → va_P D vwCl (w_Model cI cB cZ aM aMt aMn aMr aMs aMi mth mtd msz mto mfr mso mnu mfa mpl mwo msm mgo mt mno mre msn mis) H → va_D A (w_Model cI cB cZ aM aMt aMn aMr aMs aMi mth mtd msz mto mfr mso mnu mfa mpl mwo msm mgo mt mno mre msn mis) → va_S A s.heap H lo → W p l e (headSpec wsX7_node ({ frames := 4, cells := 0, slots := 0, locals := 89 } : Room)).room s m (([.ref aM, .int x1, .int x2] : List Value).toArray) below meth c H lo 0 0 (MQ below (QI D cI cB cZ A (w_Model cI cB cZ aM aMt aMn aMr aMs aMi u_mth mtd msz mto mfr mso mnu mfa mpl mwo msm mgo mt mno mre msn mis) r0) (([.ref aM, .int x1, .int x2] : List Value).toArray) s 0 0 A) (F0 m 68 ls []) := by
    intro n
    induction n with
    | zero => intro mth y1 y3 y4 hm; exact zz_nn hm
    | succ n ih =>
      intro mth y1 y3 y4 hm ls H lo hl hP hD hS
      replace hm := (k_X7_node_68_s mno n mth y1 y3 y4).symm.trans hm
      refine lv_iload hx hb dX7_node_68 (lv_at hl 3 rfl) ?_
      refine lv_aload_n hx hb dX7_node_70 rfl (lv_at hl 0 rfl) ?_
      refine va_get (D := D) (ci := 7) (v := .ref aMn) (C := RX7) (T := TX7) (N := 17) hx hb hts iw_X7 hown hK hP 0 rfl rfl 11 (by decide) (hts (.fieldLink RX7 64 "VarianceBridgeModel" "now" "[I") (by decide +kernel)) (fun _ h9 => h9) rfl dX7_node_71 ?_
      refine lv_iconst (v := (1 : Int32)) hx hb dX7_node_74 (by decide) ?_
      obtain ⟨c3, hm4⟩ := zz_no hm
      refine va_iald hx hb hK hP 2 0 rfl rfl c3 dX7_node_75 ?_
      refine lv_icmp_ge (tgt := 102) hx hb dX7_node_76 (by decide) (fun c5 => ?_) (fun c5 => ?_)
      · have hm6 := zz_if c5 hm4
        refine lv_iload_n hx hb dX7_node_102 rfl (lv_at hl 2 rfl) ?_
        obtain ⟨hq1, hq2⟩ := Prod.mk.inj (Option.some.inj hm6)
        subst hq1
        subst hq2
        exact W.iret hx hb hr (fun t ht hW => ⟨⟨_, (), rfl, rfl, by rw [ht]; exact hP, va_K.moved hW.alike hK, hD⟩, hS.F ht⟩) hS.2.2 dX7_node_103
      · have hm7 := zz_nf c5 hm4
        refine lv_aload_n hx hb dX7_node_79 rfl (lv_at hl 0 rfl) ?_
        refine lv_iload hx hb dX7_node_80 (lv_at hl 3 rfl) ?_
        obtain ⟨r8, h8, hm8⟩ := ob1_e hm7
        refine gcall_i (ws' := (w_Model cI cB cZ aM aMt aMn aMr aMs aMi mth mtd msz mto mfr mso mnu mfa mpl mwo msm mgo mt mno mre msn mis)) (va_runV (As := [.int y4]) (rest := []) ⟨hx, hb, hml, hown, hts⟩ (c_X7_parentOf l D cI cB cZ ta aM aMt aMn aMr aMs aMi H.size mth mtd msz mto mfr mso mnu mfa mpl mwo msm mgo mt mno mre msn mis y4 r8 h8) (cwV 1 hts gX7_node_X7_parentOf rfl rfl rfl (by decide +kernel) ⟨(Nat.le_of_ble_eq_true rfl), (Nat.le_of_ble_eq_true rfl)⟩) ⟨PW_blind, va_recv hK hP rfl (q0 := 0) rfl, PW_at hP hD hK hS hA hG [0, 1, 2, 3, 4, 5] rfl (by decide)⟩ rfl rfl hl.1 rfl (lv_room (Nat.le_of_ble_eq_true rfl)) dX7_node_82 ⟨(Nat.le_of_ble_eq_true rfl), (Nat.le_of_ble_eq_true rfl)⟩) hP hD hS hA [0, 1, 2, 3, 4, 5] [] [0, 1, 2, 3, 4, 5] rfl rfl (by decide) (by decide) (by decide) rfl (fun H9 lo9 hP9 hD9 hS9 => ?_)
        clear hP hD hS
        refine lv_iload_n hx hb dX7_node_85 rfl (lv_at hl 1 rfl) ?_
        refine lv_icmp_ne (tgt := 96) hx hb dX7_node_86 (by decide) (fun c10 => ?_) (fun c10 => ?_)
        · have hm11 := zz_nf c10 hm8
          refine lv_iinc (v := (y4 + (1 : Int32))) (lv' := [(4, .int (y4 + (1 : Int32))), (0, .ref aM), (1, .int y1), (3, .int y3)]) hx hb dX7_node_96 hl (k := 3) rfl (by rfl) (by decide) rfl (fun ls13 hl13 => ?_)
          refine lv_goto (tgt := 68) hx hb dX7_node_99 (by decide) ?_
          exact ih mth y1 y3 (y4 + (1 : Int32)) hm11 ls13 H9 lo9 (lv_sub hl13 [1, 2, 3, 0] rfl) hP9 hD9 hS9
        · have hm12 := zz_if c10 hm8
          refine lv_iload_n hx hb dX7_node_89 rfl (lv_at hl 2 rfl) ?_
          refine lv_iconst (v := (1 : Int32)) hx hb dX7_node_90 (by decide) ?_
          refine lv_iload hx hb dX7_node_91 (lv_at hl 3 rfl) ?_
          refine lv_ishl hx hb dX7_node_93 ?_
          refine lv_ior hx hb dX7_node_94 ?_
          refine lv_istore_n (lv' := [(3, .int (y3 ||| ((1 : Int32) <<< (y4 &&& 31)))), (0, .ref aM), (1, .int y1), (4, .int y4)]) hx hb dX7_node_95 rfl hl (by decide) rfl (fun ls14 hl14 => ?_)
          refine lv_iinc (v := (y4 + (1 : Int32))) (lv' := [(4, .int (y4 + (1 : Int32))), (3, .int (y3 ||| ((1 : Int32) <<< (y4 &&& 31)))), (0, .ref aM), (1, .int y1)]) hx hb dX7_node_96 hl14 (k := 3) rfl (by rfl) (by decide) rfl (fun ls15 hl15 => ?_)
          refine lv_goto (tgt := 68) hx hb dX7_node_99 (by decide) ?_
          exact ih mth y1 (y3 ||| ((1 : Int32) <<< (y4 &&& 31))) (y4 + (1 : Int32)) hm12 ls15 H9 lo9 (lv_sub hl15 [2, 3, 1, 0] rfl) hP9 hD9 hS9
  have hl := lv_entry ([.ref aM, .int x1, .int x2]) (n := 5) (Nat.le_of_ble_eq_true rfl)
  rw [lg_entry_eq]
  generalize (lg_sl ([.ref aM, .int x1, .int x2]) ++ List.replicate (5 - (lg_sl ([.ref aM, .int x1, .int x2])).length) Slot.unset).toArray = ls at hl ⊢
  have hl : lv_has ls 5 [(0, .ref aM), (1, .int x1), (2, .int x2)] := hl
  replace hm : (ob1 (m_X7_isNode mno x1) (fun r17 => (if r17 = 0 then (k_X7_node_22 mno (0 : Int32)) else (ob1 (m_X7_isIn x2 (0 : Int32) (3 : Int32)) (fun r22 => (if r22 = 0 then (k_X7_node_22 mno (0 : Int32)) else (if x2 = 0 then (ob1 (m_X7_parentOf mno x1) (fun r42 => some (r42, (0 : Int32)))) else (if x2 = (1 : Int32) then (if ((22 : Int32) + x1) < 0 ∨ 442 ≤ ((22 : Int32) + x1).toNatClampNeg then none else some ((mno ((22 : Int32) + x1).toNatClampNeg), (0 : Int32))) else (if x2 = (3 : Int32) then (ob1 (m_X7_leavesOf mno x1) (fun r38 => some (r38, (0 : Int32)))) else (k_X7_node_68 mno FU (0 : Int32) x1 (0 : Int32) (1 : Int32))))))))))) = some (r0, u_mth) := hm
  refine lv_aload_n hx hb dX7_node_0 rfl (lv_at hl 0 rfl) ?_
  refine lv_iconst (v := (0 : Int32)) hx hb dX7_node_1 (by decide) ?_
  refine va_put (D := D) (ci := 7) (v := .int (0 : Int32)) (ty := .int) (C := RX7) (T := TX7) (N := 17) hx hb hts iw_X7 tyX7 tyX7_ok nmX7 hown hK hP hD hS 0 rfl rfl 0 (by decide) (hts (.fieldLink RX7 1 "VarianceBridgeModel" "thrown" "I") (by decide +kernel)) (fun _ h9 => h9) rfl (by decide +kernel) rfl rfl (Nat.le_of_ble_eq_true rfl) dX7_node_2 (fun H16 lo16 hP16 hD16 hS16 => ?_)
  replace hP16 : va_P D vwCl (w_Model cI cB cZ aM aMt aMn aMr aMs aMi (0 : Int32) mtd msz mto mfr mso mnu mfa mpl mwo msm mgo mt mno mre msn mis) H16 := hP16
  replace hD16 : va_D A (w_Model cI cB cZ aM aMt aMn aMr aMs aMi (0 : Int32) mtd msz mto mfr mso mnu mfa mpl mwo msm mgo mt mno mre msn mis) := hD16
  clear hP hD hS
  refine lv_aload_n hx hb dX7_node_5 rfl (lv_at hl 0 rfl) ?_
  refine lv_iload_n hx hb dX7_node_6 rfl (lv_at hl 1 rfl) ?_
  obtain ⟨r17, h17, hm17⟩ := ob1_e hm
  refine gcall_b (ws' := (w_Model cI cB cZ aM aMt aMn aMr aMs aMi (0 : Int32) mtd msz mto mfr mso mnu mfa mpl mwo msm mgo mt mno mre msn mis)) (va_runV (As := [.int x1]) (rest := []) ⟨hx, hb, hml, hown, hts⟩ (c_X7_isNode l D cI cB cZ ta aM aMt aMn aMr aMs aMi H16.size (0 : Int32) mtd msz mto mfr mso mnu mfa mpl mwo msm mgo mt mno mre msn mis x1 r17 h17) (cwV 1 hts gX7_node_X7_isNode rfl rfl rfl (by decide +kernel) ⟨(Nat.le_of_ble_eq_true rfl), (Nat.le_of_ble_eq_true rfl)⟩) ⟨PW_blind, va_recv hK hP16 rfl (q0 := 0) rfl, PW_at hP16 hD16 hK hS16 hA hG [0, 1, 2, 3, 4, 5] rfl (by decide)⟩ rfl rfl hl.1 rfl (lv_room (Nat.le_of_ble_eq_true rfl)) dX7_node_7 ⟨(Nat.le_of_ble_eq_true rfl), (Nat.le_of_ble_eq_true rfl)⟩) hP16 hD16 hS16 hA [0, 1, 2, 3, 4, 5] [] [0, 1, 2, 3, 4, 5] rfl rfl (by decide) (by decide) (by decide) rfl (fun H18 lo18 hz17 hP18 hD18 hS18 => ?_)
  clear hP16 hD16 hS16
  refine lv_if_eq (tgt := 22) hx hb dX7_node_10 (by decide) (fun c19 => ?_) (fun c19 => ?_)
  · have hm20 := zz_if c19 hm17
    exact hk_22 (0 : Int32) hm20 ls H18 lo18 (lv_sub hl [0] rfl) hP18 hD18 hS18
  · have hm21 := zz_nf c19 hm17
    refine lv_iload_n hx hb dX7_node_13 rfl (lv_at hl 2 rfl) ?_
    refine lv_iconst (v := (0 : Int32)) hx hb dX7_node_14 (by decide) ?_
    refine lv_iconst (v := (3 : Int32)) hx hb dX7_node_15 (by decide) ?_
    obtain ⟨r22, h22, hm22⟩ := ob1_e hm21
    refine gcall_b (ws' := (w_Model cI cB cZ aM aMt aMn aMr aMs aMi (0 : Int32) mtd msz mto mfr mso mnu mfa mpl mwo msm mgo mt mno mre msn mis)) (va_runS (As := [.int x2, .int (0 : Int32), .int (3 : Int32)]) (rest := []) ⟨hx, hb, hml, hown, hts⟩ (c_X7_isIn l D cI cB cZ ta H18.size x2 (0 : Int32) (3 : Int32) r22 h22) (va_cwS 3 hts gX7_node_X7_isIn rfl rfl rfl (by decide +kernel) ⟨(Nat.le_of_ble_eq_true rfl), (Nat.le_of_ble_eq_true rfl)⟩) ⟨PW_blind, PW_at hP18 hD18 hK hS18 hA hG [] rfl (by decide)⟩ rfl rfl hl.1 rfl (lv_room (Nat.le_of_ble_eq_true rfl)) dX7_node_16 ⟨(Nat.le_of_ble_eq_true rfl), (Nat.le_of_ble_eq_true rfl)⟩) hP18 hD18 hS18 hA [] [0, 1, 2, 3, 4, 5] [0, 1, 2, 3, 4, 5] rfl rfl (by decide) (by decide) (by decide) rfl (fun H23 lo23 hz22 hP23 hD23 hS23 => ?_)
    clear hP18 hD18 hS18
    refine lv_if_ne (tgt := 27) hx hb dX7_node_19 (by decide) (fun c24 => ?_) (fun c24 => ?_)
    · have hm25 := zz_nf c24 hm22
      refine lv_iload_n hx hb dX7_node_27 rfl (lv_at hl 2 rfl) ?_
      refine lv_if_ne (tgt := 37) hx hb dX7_node_28 (by decide) (fun c27 => ?_) (fun c27 => ?_)
      · have hm28 := zz_nf c27 hm25
        refine lv_iload_n hx hb dX7_node_37 rfl (lv_at hl 2 rfl) ?_
        refine lv_iconst (v := (1 : Int32)) hx hb dX7_node_38 (by decide) ?_
        refine lv_icmp_ne (tgt := 52) hx hb dX7_node_39 (by decide) (fun c30 => ?_) (fun c30 => ?_)
        · have hm31 := zz_nf c30 hm28
          refine lv_iload_n hx hb dX7_node_52 rfl (lv_at hl 2 rfl) ?_
          refine lv_iconst (v := (3 : Int32)) hx hb dX7_node_53 (by decide) ?_
          refine lv_icmp_ne (tgt := 63) hx hb dX7_node_54 (by decide) (fun c33 => ?_) (fun c33 => ?_)
          · have hm34 := zz_nf c33 hm31
            refine lv_iconst (v := (0 : Int32)) hx hb dX7_node_63 (by decide) ?_
            refine lv_istore_n (lv' := [(3, .int (0 : Int32)), (0, .ref aM), (1, .int x1), (2, .int x2)]) hx hb dX7_node_64 rfl hl (by decide) rfl (fun ls36 hl36 => ?_)
            refine lv_iconst (v := (1 : Int32)) hx hb dX7_node_65 (by decide) ?_
            refine lv_istore (lv' := [(4, .int (1 : Int32)), (3, .int (0 : Int32)), (0, .ref aM), (1, .int x1), (2, .int x2)]) hx hb dX7_node_66 hl36 (by decide) rfl (fun ls37 hl37 => ?_)
            exact hk_68 FU (0 : Int32) x1 (0 : Int32) (1 : Int32) hm34 ls37 H23 lo23 (lv_sub hl37 [2, 3, 1, 0] rfl) hP23 hD23 hS23
          · have hm35 := zz_if c33 hm31
            refine lv_aload_n hx hb dX7_node_57 rfl (lv_at hl 0 rfl) ?_
            refine lv_iload_n hx hb dX7_node_58 rfl (lv_at hl 1 rfl) ?_
            obtain ⟨r38, h38, hm38⟩ := ob1_e hm35
            refine gcall_i (ws' := (w_Model cI cB cZ aM aMt aMn aMr aMs aMi (0 : Int32) mtd msz mto mfr mso mnu mfa mpl mwo msm mgo mt mno mre msn mis)) (va_runV (As := [.int x1]) (rest := []) ⟨hx, hb, hml, hown, hts⟩ (c_X7_leavesOf l D cI cB cZ ta aM aMt aMn aMr aMs aMi H23.size (0 : Int32) mtd msz mto mfr mso mnu mfa mpl mwo msm mgo mt mno mre msn mis x1 r38 h38) (cwV 1 hts gX7_node_X7_leavesOf rfl rfl rfl (by decide +kernel) ⟨(Nat.le_of_ble_eq_true rfl), (Nat.le_of_ble_eq_true rfl)⟩) ⟨PW_blind, va_recv hK hP23 rfl (q0 := 0) rfl, PW_at hP23 hD23 hK hS23 hA hG [0, 1, 2, 3, 4, 5] rfl (by decide)⟩ rfl rfl hl.1 rfl (lv_room (Nat.le_of_ble_eq_true rfl)) dX7_node_59 ⟨(Nat.le_of_ble_eq_true rfl), (Nat.le_of_ble_eq_true rfl)⟩) hP23 hD23 hS23 hA [0, 1, 2, 3, 4, 5] [] [0, 1, 2, 3, 4, 5] rfl rfl (by decide) (by decide) (by decide) rfl (fun H39 lo39 hP39 hD39 hS39 => ?_)
            clear hP23 hD23 hS23
            obtain ⟨hq1, hq2⟩ := Prod.mk.inj (Option.some.inj hm38)
            subst hq1
            subst hq2
            exact W.iret hx hb hr (fun t ht hW => ⟨⟨_, (), rfl, rfl, by rw [ht]; exact hP39, va_K.moved hW.alike hK, hD39⟩, hS39.F ht⟩) hS39.2.2 dX7_node_62
        · have hm32 := zz_if c30 hm28
          refine lv_aload_n hx hb dX7_node_42 rfl (lv_at hl 0 rfl) ?_
          refine va_get (D := D) (ci := 7) (v := .ref aMn) (C := RX7) (T := TX7) (N := 17) hx hb hts iw_X7 hown hK hP23 0 rfl rfl 11 (by decide) (hts (.fieldLink RX7 64 "VarianceBridgeModel" "now" "[I") (by decide +kernel)) (fun _ h9 => h9) rfl dX7_node_43 ?_
          refine lv_bipush (v := (22 : Int32)) hx hb dX7_node_46 (by decide) ?_
          refine lv_iload_n hx hb dX7_node_48 rfl (lv_at hl 1 rfl) ?_
          refine lv_iadd hx hb dX7_node_49 ?_
          obtain ⟨c40, hm41⟩ := zz_no hm32
          refine va_iald hx hb hK hP23 2 0 rfl rfl c40 dX7_node_50 ?_
          obtain ⟨hq1, hq2⟩ := Prod.mk.inj (Option.some.inj hm41)
          subst hq1
          subst hq2
          exact W.iret hx hb hr (fun t ht hW => ⟨⟨_, (), rfl, rfl, by rw [ht]; exact hP23, va_K.moved hW.alike hK, hD23⟩, hS23.F ht⟩) hS23.2.2 dX7_node_51
      · have hm29 := zz_if c27 hm25
        refine lv_aload_n hx hb dX7_node_31 rfl (lv_at hl 0 rfl) ?_
        refine lv_iload_n hx hb dX7_node_32 rfl (lv_at hl 1 rfl) ?_
        obtain ⟨r42, h42, hm42⟩ := ob1_e hm29
        refine gcall_i (ws' := (w_Model cI cB cZ aM aMt aMn aMr aMs aMi (0 : Int32) mtd msz mto mfr mso mnu mfa mpl mwo msm mgo mt mno mre msn mis)) (va_runV (As := [.int x1]) (rest := []) ⟨hx, hb, hml, hown, hts⟩ (c_X7_parentOf l D cI cB cZ ta aM aMt aMn aMr aMs aMi H23.size (0 : Int32) mtd msz mto mfr mso mnu mfa mpl mwo msm mgo mt mno mre msn mis x1 r42 h42) (cwV 1 hts gX7_node_X7_parentOf rfl rfl rfl (by decide +kernel) ⟨(Nat.le_of_ble_eq_true rfl), (Nat.le_of_ble_eq_true rfl)⟩) ⟨PW_blind, va_recv hK hP23 rfl (q0 := 0) rfl, PW_at hP23 hD23 hK hS23 hA hG [0, 1, 2, 3, 4, 5] rfl (by decide)⟩ rfl rfl hl.1 rfl (lv_room (Nat.le_of_ble_eq_true rfl)) dX7_node_33 ⟨(Nat.le_of_ble_eq_true rfl), (Nat.le_of_ble_eq_true rfl)⟩) hP23 hD23 hS23 hA [0, 1, 2, 3, 4, 5] [] [0, 1, 2, 3, 4, 5] rfl rfl (by decide) (by decide) (by decide) rfl (fun H43 lo43 hP43 hD43 hS43 => ?_)
        clear hP23 hD23 hS23
        obtain ⟨hq1, hq2⟩ := Prod.mk.inj (Option.some.inj hm42)
        subst hq1
        subst hq2
        exact W.iret hx hb hr (fun t ht hW => ⟨⟨_, (), rfl, rfl, by rw [ht]; exact hP43, va_K.moved hW.alike hK, hD43⟩, hS43.F ht⟩) hS43.2.2 dX7_node_36
    · have hm26 := zz_if c24 hm22
      exact hk_22 (0 : Int32) hm26 ls H23 lo23 (lv_sub hl [0] rfl) hP23 hD23 hS23
theorem iw_X7_factor_X7 : ∀ w ∈ wsX70, w ∈ wsX7_factor := by decide +kernel
set_option maxHeartbeats 4000000 in
set_option maxRecDepth 100000 in
theorem c_X7_factor (l : Launch) (D : va_G) (cI cB cZ : ClassId) (ta : Nat → Nat) (aM : Nat) (aMt : Nat) (aMn : Nat) (aMr : Nat) (aMs : Nat) (aMi : Nat) (sz : Nat) (mth : Int32) (mtd : Int32) (msz : Int32) (mto : Int32) (mfr : Int32) (mso : Int32) (mnu : Int32) (mfa : Int32) (mpl : Int32) (mwo : Int64) (msm : Int32) (mgo : Int32) (mt : (Nat → Int32)) (mno : (Nat → Int32)) (mre : (Nat → Int32)) (msn : (Nat → Int32)) (mis : (Nat → Int32)) (x1 : Int32) (x2 : Int32) (x3 : Int32) (r0 : Int32) (u_mth : Int32) (hm : m_X7_factor mth mno x1 x2 x3 = some (r0, u_mth)) : Met l yX7_factor wsX7_factor ({ frames := 3, cells := 0, slots := 0, locals := 64 } : Room) (va_Pc [.ref aM, .int x1, .int x2, .int x3] (PW D cI cB cZ ta (w_Model cI cB cZ aM aMt aMn aMr aMs aMi mth mtd msz mto mfr mso mnu mfa mpl mwo msm mgo mt mno mre msn mis) sz)) (QI D cI cB cZ (va_A (w_Model cI cB cZ aM aMt aMn aMr aMs aMi mth mtd msz mto mfr mso mnu mfa mpl mwo msm mgo mt mno mre msn mis) sz) (w_Model cI cB cZ aM aMt aMn aMr aMs aMi u_mth mtd msz mto mfr mso mnu mfa mpl mwo msm mgo mt mno mre msn mis) r0) 0 0 (va_A (w_Model cI cB cZ aM aMt aMn aMr aMs aMi mth mtd msz mto mfr mso mnu mfa mpl mwo msm mgo mt mno mre msn mis) sz) := by
  refine Met.ofW (cc := cX7_factor) (maxL := 4) (ret := (some .int)) (by decide) rfl ?_
  intro p e s m args below meth c s₁ B hml hv
  obtain ⟨rfl, hsz, hP, hK, hD0, hG⟩ := hv
  have hx := B.exec
  have hb := B.bytes
  have hr := B.returns
  have hts := atoms_spec (ws := wsX7_factor) B.pre
  have hown : s.vm.findClass RX7 = some m.cls := findClass_of_methodNamed B.named
  have hlocks := B.notSynchronized
  subst hsz
  have hD := hD0.self (sz := s.heap.size)
  clear hD0
  have hA0 : ∀ q : Nat, s.heap.size ≤ q → va_A (w_Model cI cB cZ aM aMt aMn aMr aMs aMi mth mtd msz mto mfr mso mnu mfa mpl mwo msm mgo mt mno mre msn mis) s.heap.size q := fun q h => Or.inr h
  generalize hAe : va_A (w_Model cI cB cZ aM aMt aMn aMr aMs aMi mth mtd msz mto mfr mso mnu mfa mpl mwo msm mgo mt mno mre msn mis) s.heap.size = A at hD hG hA0 ⊢
  have hA : ∀ q : Nat, s.heap.size ≤ q → A q := hA0
  clear hA0
  have hS : va_S A s.heap s.heap [] := va_S.rf
  have iw_X7 := iw_X7_factor_X7
  have hl := lv_entry ([.ref aM, .int x1, .int x2, .int x3]) (n := 4) (Nat.le_of_ble_eq_true rfl)
  rw [lg_entry_eq]
  generalize (lg_sl ([.ref aM, .int x1, .int x2, .int x3]) ++ List.replicate (4 - (lg_sl ([.ref aM, .int x1, .int x2, .int x3])).length) Slot.unset).toArray = ls at hl ⊢
  have hl : lv_has ls 4 [(0, .ref aM), (1, .int x1), (2, .int x2), (3, .int x3)] := hl
  replace hm : (ob1 (m_X7_isLeaf mno x1) (fun r2 => (if r2 = 0 then some ((-1 : Int32), (0 : Int32)) else (ob1 (m_X7_isScene mno x2) (fun r7 => (if r7 = 0 then some ((-1 : Int32), (0 : Int32)) else (ob1 (m_X7_isFactor x3) (fun r12 => (if r12 = 0 then some ((-1 : Int32), (0 : Int32)) else (ob1 (m_X7_at x1 x2 x3) (fun r17 => (if r17 < 0 ∨ 442 ≤ r17.toNatClampNeg then none else some ((mno r17.toNatClampNeg), (0 : Int32)))))))))))))) = some (r0, u_mth) := hm
  refine lv_aload_n hx hb dX7_factor_0 rfl (lv_at hl 0 rfl) ?_
  refine lv_iconst (v := (0 : Int32)) hx hb dX7_factor_1 (by decide) ?_
  refine va_put (D := D) (ci := 7) (v := .int (0 : Int32)) (ty := .int) (C := RX7) (T := TX7) (N := 17) hx hb hts iw_X7 tyX7 tyX7_ok nmX7 hown hK hP hD hS 0 rfl rfl 0 (by decide) (hts (.fieldLink RX7 1 "VarianceBridgeModel" "thrown" "I") (by decide +kernel)) (fun _ h9 => h9) rfl (by decide +kernel) rfl rfl (Nat.le_of_ble_eq_true rfl) dX7_factor_2 (fun H1 lo1 hP1 hD1 hS1 => ?_)
  replace hP1 : va_P D vwCl (w_Model cI cB cZ aM aMt aMn aMr aMs aMi (0 : Int32) mtd msz mto mfr mso mnu mfa mpl mwo msm mgo mt mno mre msn mis) H1 := hP1
  replace hD1 : va_D A (w_Model cI cB cZ aM aMt aMn aMr aMs aMi (0 : Int32) mtd msz mto mfr mso mnu mfa mpl mwo msm mgo mt mno mre msn mis) := hD1
  clear hP hD hS
  refine lv_aload_n hx hb dX7_factor_5 rfl (lv_at hl 0 rfl) ?_
  refine lv_iload_n hx hb dX7_factor_6 rfl (lv_at hl 1 rfl) ?_
  obtain ⟨r2, h2, hm2⟩ := ob1_e hm
  refine gcall_b (ws' := (w_Model cI cB cZ aM aMt aMn aMr aMs aMi (0 : Int32) mtd msz mto mfr mso mnu mfa mpl mwo msm mgo mt mno mre msn mis)) (va_runV (As := [.int x1]) (rest := []) ⟨hx, hb, hml, hown, hts⟩ (c_X7_isLeaf l D cI cB cZ ta aM aMt aMn aMr aMs aMi H1.size (0 : Int32) mtd msz mto mfr mso mnu mfa mpl mwo msm mgo mt mno mre msn mis x1 r2 h2) (cwV 1 hts gX7_factor_X7_isLeaf rfl rfl rfl (by decide +kernel) ⟨(Nat.le_of_ble_eq_true rfl), (Nat.le_of_ble_eq_true rfl)⟩) ⟨PW_blind, va_recv hK hP1 rfl (q0 := 0) rfl, PW_at hP1 hD1 hK hS1 hA hG [0, 1, 2, 3, 4, 5] rfl (by decide)⟩ rfl rfl hl.1 rfl (lv_room (Nat.le_of_ble_eq_true rfl)) dX7_factor_7 ⟨(Nat.le_of_ble_eq_true rfl), (Nat.le_of_ble_eq_true rfl)⟩) hP1 hD1 hS1 hA [0, 1, 2, 3, 4, 5] [] [0, 1, 2, 3, 4, 5] rfl rfl (by decide) (by decide) (by decide) rfl (fun H3 lo3 hz2 hP3 hD3 hS3 => ?_)
  clear hP1 hD1 hS1
  refine lv_if_eq (tgt := 42) hx hb dX7_factor_10 (by decide) (fun c4 => ?_) (fun c4 => ?_)
  · have hm5 := zz_if c4 hm2
    refine lv_iconst (v := (-1 : Int32)) hx hb dX7_factor_42 (by decide) ?_
    obtain ⟨hq1, hq2⟩ := Prod.mk.inj (Option.some.inj hm5)
    subst hq1
    subst hq2
    exact W.iret hx hb hr (fun t ht hW => ⟨⟨_, (), rfl, rfl, by rw [ht]; exact hP3, va_K.moved hW.alike hK, hD3⟩, hS3.F ht⟩) hS3.2.2 dX7_factor_43
  · have hm6 := zz_nf c4 hm2
    refine lv_aload_n hx hb dX7_factor_13 rfl (lv_at hl 0 rfl) ?_
    refine lv_iload_n hx hb dX7_factor_14 rfl (lv_at hl 2 rfl) ?_
    obtain ⟨r7, h7, hm7⟩ := ob1_e hm6
    refine gcall_b (ws' := (w_Model cI cB cZ aM aMt aMn aMr aMs aMi (0 : Int32) mtd msz mto mfr mso mnu mfa mpl mwo msm mgo mt mno mre msn mis)) (va_runV (As := [.int x2]) (rest := []) ⟨hx, hb, hml, hown, hts⟩ (c_X7_isScene l D cI cB cZ ta aM aMt aMn aMr aMs aMi H3.size (0 : Int32) mtd msz mto mfr mso mnu mfa mpl mwo msm mgo mt mno mre msn mis x2 r7 h7) (cwV 1 hts gX7_factor_X7_isScene rfl rfl rfl (by decide +kernel) ⟨(Nat.le_of_ble_eq_true rfl), (Nat.le_of_ble_eq_true rfl)⟩) ⟨PW_blind, va_recv hK hP3 rfl (q0 := 0) rfl, PW_at hP3 hD3 hK hS3 hA hG [0, 1, 2, 3, 4, 5] rfl (by decide)⟩ rfl rfl hl.1 rfl (lv_room (Nat.le_of_ble_eq_true rfl)) dX7_factor_15 ⟨(Nat.le_of_ble_eq_true rfl), (Nat.le_of_ble_eq_true rfl)⟩) hP3 hD3 hS3 hA [0, 1, 2, 3, 4, 5] [] [0, 1, 2, 3, 4, 5] rfl rfl (by decide) (by decide) (by decide) rfl (fun H8 lo8 hz7 hP8 hD8 hS8 => ?_)
    clear hP3 hD3 hS3
    refine lv_if_eq (tgt := 42) hx hb dX7_factor_18 (by decide) (fun c9 => ?_) (fun c9 => ?_)
    · have hm10 := zz_if c9 hm7
      refine lv_iconst (v := (-1 : Int32)) hx hb dX7_factor_42 (by decide) ?_
      obtain ⟨hq1, hq2⟩ := Prod.mk.inj (Option.some.inj hm10)
      subst hq1
      subst hq2
      exact W.iret hx hb hr (fun t ht hW => ⟨⟨_, (), rfl, rfl, by rw [ht]; exact hP8, va_K.moved hW.alike hK, hD8⟩, hS8.F ht⟩) hS8.2.2 dX7_factor_43
    · have hm11 := zz_nf c9 hm7
      refine lv_iload_n hx hb dX7_factor_21 rfl (lv_at hl 3 rfl) ?_
      obtain ⟨r12, h12, hm12⟩ := ob1_e hm11
      refine gcall_b (ws' := (w_Model cI cB cZ aM aMt aMn aMr aMs aMi (0 : Int32) mtd msz mto mfr mso mnu mfa mpl mwo msm mgo mt mno mre msn mis)) (va_runS (As := [.int x3]) (rest := []) ⟨hx, hb, hml, hown, hts⟩ (c_X7_isFactor l D cI cB cZ ta H8.size x3 r12 h12) (va_cwS 1 hts gX7_factor_X7_isFactor rfl rfl rfl (by decide +kernel) ⟨(Nat.le_of_ble_eq_true rfl), (Nat.le_of_ble_eq_true rfl)⟩) ⟨PW_blind, PW_at hP8 hD8 hK hS8 hA hG [] rfl (by decide)⟩ rfl rfl hl.1 rfl (lv_room (Nat.le_of_ble_eq_true rfl)) dX7_factor_22 ⟨(Nat.le_of_ble_eq_true rfl), (Nat.le_of_ble_eq_true rfl)⟩) hP8 hD8 hS8 hA [] [0, 1, 2, 3, 4, 5] [0, 1, 2, 3, 4, 5] rfl rfl (by decide) (by decide) (by decide) rfl (fun H13 lo13 hz12 hP13 hD13 hS13 => ?_)
      clear hP8 hD8 hS8
      refine lv_if_eq (tgt := 42) hx hb dX7_factor_25 (by decide) (fun c14 => ?_) (fun c14 => ?_)
      · have hm15 := zz_if c14 hm12
        refine lv_iconst (v := (-1 : Int32)) hx hb dX7_factor_42 (by decide) ?_
        obtain ⟨hq1, hq2⟩ := Prod.mk.inj (Option.some.inj hm15)
        subst hq1
        subst hq2
        exact W.iret hx hb hr (fun t ht hW => ⟨⟨_, (), rfl, rfl, by rw [ht]; exact hP13, va_K.moved hW.alike hK, hD13⟩, hS13.F ht⟩) hS13.2.2 dX7_factor_43
      · have hm16 := zz_nf c14 hm12
        refine lv_aload_n hx hb dX7_factor_28 rfl (lv_at hl 0 rfl) ?_
        refine va_get (D := D) (ci := 7) (v := .ref aMn) (C := RX7) (T := TX7) (N := 17) hx hb hts iw_X7 hown hK hP13 0 rfl rfl 11 (by decide) (hts (.fieldLink RX7 64 "VarianceBridgeModel" "now" "[I") (by decide +kernel)) (fun _ h9 => h9) rfl dX7_factor_29 ?_
        refine lv_iload_n hx hb dX7_factor_32 rfl (lv_at hl 1 rfl) ?_
        refine lv_iload_n hx hb dX7_factor_33 rfl (lv_at hl 2 rfl) ?_
        refine lv_iload_n hx hb dX7_factor_34 rfl (lv_at hl 3 rfl) ?_
        obtain ⟨r17, h17, hm17⟩ := ob1_e hm16
        refine gcall_i (ws' := (w_Model cI cB cZ aM aMt aMn aMr aMs aMi (0 : Int32) mtd msz mto mfr mso mnu mfa mpl mwo msm mgo mt mno mre msn mis)) (va_runS (As := [.int x1, .int x2, .int x3]) (rest := [.ref aMn]) ⟨hx, hb, hml, hown, hts⟩ (c_X7_at l D cI cB cZ ta H13.size x1 x2 x3 r17 h17) (va_cwS 3 hts gX7_factor_X7_at rfl rfl rfl (by decide +kernel) ⟨(Nat.le_of_ble_eq_true rfl), (Nat.le_of_ble_eq_true rfl)⟩) ⟨PW_blind, PW_at hP13 hD13 hK hS13 hA hG [] rfl (by decide)⟩ rfl rfl hl.1 rfl (lv_room (Nat.le_of_ble_eq_true rfl)) dX7_factor_35 ⟨(Nat.le_of_ble_eq_true rfl), (Nat.le_of_ble_eq_true rfl)⟩) hP13 hD13 hS13 hA [] [0, 1, 2, 3, 4, 5] [0, 1, 2, 3, 4, 5] rfl rfl (by decide) (by decide) (by decide) rfl (fun H18 lo18 hP18 hD18 hS18 => ?_)
        clear hP13 hD13 hS13
        obtain ⟨c19, hm20⟩ := zz_no hm17
        refine va_iald hx hb hK hP18 2 0 rfl rfl c19 dX7_factor_38 ?_
        refine lv_goto (tgt := 43) hx hb dX7_factor_39 (by decide) ?_
        obtain ⟨hq1, hq2⟩ := Prod.mk.inj (Option.some.inj hm20)
        subst hq1
        subst hq2
        exact W.iret hx hb hr (fun t ht hW => ⟨⟨_, (), rfl, rfl, by rw [ht]; exact hP18, va_K.moved hW.alike hK, hD18⟩, hS18.F ht⟩) hS18.2.2 dX7_factor_43
theorem iw_X7_factorOf_X7 : ∀ w ∈ wsX70, w ∈ wsX7_factorOf := by decide +kernel
set_option maxHeartbeats 4000000 in
set_option maxRecDepth 100000 in
theorem c_X7_factorOf (l : Launch) (D : va_G) (cI cB cZ : ClassId) (ta : Nat → Nat) (aM : Nat) (aMt : Nat) (aMn : Nat) (aMr : Nat) (aMs : Nat) (aMi : Nat) (sz : Nat) (mth : Int32) (mtd : Int32) (msz : Int32) (mto : Int32) (mfr : Int32) (mso : Int32) (mnu : Int32) (mfa : Int32) (mpl : Int32) (mwo : Int64) (msm : Int32) (mgo : Int32) (mt : (Nat → Int32)) (mno : (Nat → Int32)) (mre : (Nat → Int32)) (msn : (Nat → Int32)) (mis : (Nat → Int32)) (x1 : Int32) (x2 : Int32) (x3 : Int32) (x4 : Int32) (x5 : Int32) (r0 : Int32) (hm : m_X7_factorOf mno x1 x2 x3 x4 x5 = some r0) : Met l yX7_factorOf wsX7_factorOf ({ frames := 1, cells := 0, slots := 0, locals := 22 } : Room) (va_Pc [.ref aM, .int x1, .int x2, .int x3, .int x4, .int x5] (PW D cI cB cZ ta (w_Model cI cB cZ aM aMt aMn aMr aMs aMi mth mtd msz mto mfr mso mnu mfa mpl mwo msm mgo mt mno mre msn mis) sz)) (QI D cI cB cZ (va_A (w_Model cI cB cZ aM aMt aMn aMr aMs aMi mth mtd msz mto mfr mso mnu mfa mpl mwo msm mgo mt mno mre msn mis) sz) (w_Model cI cB cZ aM aMt aMn aMr aMs aMi mth mtd msz mto mfr mso mnu mfa mpl mwo msm mgo mt mno mre msn mis) r0) 0 0 (va_A (w_Model cI cB cZ aM aMt aMn aMr aMs aMi mth mtd msz mto mfr mso mnu mfa mpl mwo msm mgo mt mno mre msn mis) sz) := by
  refine Met.ofW (cc := cX7_factorOf) (maxL := 6) (ret := (some .int)) (by decide) rfl ?_
  intro p e s m args below meth c s₁ B hml hv
  obtain ⟨rfl, hsz, hP, hK, hD0, hG⟩ := hv
  have hx := B.exec
  have hb := B.bytes
  have hr := B.returns
  have hts := atoms_spec (ws := wsX7_factorOf) B.pre
  have hown : s.vm.findClass RX7 = some m.cls := findClass_of_methodNamed B.named
  have hlocks := B.notSynchronized
  subst hsz
  have hD := hD0.self (sz := s.heap.size)
  clear hD0
  have hA0 : ∀ q : Nat, s.heap.size ≤ q → va_A (w_Model cI cB cZ aM aMt aMn aMr aMs aMi mth mtd msz mto mfr mso mnu mfa mpl mwo msm mgo mt mno mre msn mis) s.heap.size q := fun q h => Or.inr h
  generalize hAe : va_A (w_Model cI cB cZ aM aMt aMn aMr aMs aMi mth mtd msz mto mfr mso mnu mfa mpl mwo msm mgo mt mno mre msn mis) s.heap.size = A at hD hG hA0 ⊢
  have hA : ∀ q : Nat, s.heap.size ≤ q → A q := hA0
  clear hA0
  have hS : va_S A s.heap s.heap [] := va_S.rf
  have iw_X7 := iw_X7_factorOf_X7
  have hk_21 : ∀ (y5 : Int32) (z1 : Int32) (z2 : Int32), k_X7_factorOf_21 mno y5 z1 z2 = some r0 → ∀ (ls : Array Slot) (H : Heap) (lo : List Loc), lv_has ls 6 [(5, .int y5)] → va_P D vwCl (w_Model cI cB cZ aM aMt aMn aMr aMs aMi mth mtd msz mto mfr mso mnu mfa mpl mwo msm mgo mt mno mre msn mis) H → va_D A (w_Model cI cB cZ aM aMt aMn aMr aMs aMi mth mtd msz mto mfr mso mnu mfa mpl mwo msm mgo mt mno mre msn mis) → va_S A s.heap H lo → W p l e (headSpec wsX7_factorOf ({ frames := 1, cells := 0, slots := 0, locals := 22 } : Room)).room s m (([.ref aM, .int x1, .int x2, .int x3, .int x4, .int x5] : List Value).toArray) below meth c H lo 0 0 (MQ below (QI D cI cB cZ A (w_Model cI cB cZ aM aMt aMn aMr aMs aMi mth mtd msz mto mfr mso mnu mfa mpl mwo msm mgo mt mno mre msn mis) r0) (([.ref aM, .int x1, .int x2, .int x3, .int x4, .int x5] : List Value).toArray) s 0 0 A) (F0 m 21 ls [.int z2, .int z1, .ref aMn]) := by
    intro y5 z1 z2 hm ls H lo hl hP hD hS
    replace hm : (ob1 (m_X7_at z1 z2 y5) (fun r1 => (if r1 < 0 ∨ 442 ≤ r1.toNatClampNeg then none else some (mno r1.toNatClampNeg)))) = some r0 := hm
    refine lv_iload hx hb dX7_factorOf_21 (lv_at hl 0 rfl) ?_
    obtain ⟨r1, h1, hm1⟩ := ob1_e hm
    refine gcall_i (ws' := (w_Model cI cB cZ aM aMt aMn aMr aMs aMi mth mtd msz mto mfr mso mnu mfa mpl mwo msm mgo mt mno mre msn mis)) (va_runS (As := [.int z1, .int z2, .int y5]) (rest := [.ref aMn]) ⟨hx, hb, hml, hown, hts⟩ (c_X7_at l D cI cB cZ ta H.size z1 z2 y5 r1 h1) (va_cwS 3 hts gX7_factorOf_X7_at rfl rfl rfl (by decide +kernel) ⟨(Nat.le_of_ble_eq_true rfl), (Nat.le_of_ble_eq_true rfl)⟩) ⟨PW_blind, PW_at hP hD hK hS hA hG [] rfl (by decide)⟩ rfl rfl hl.1 rfl (lv_room (Nat.le_of_ble_eq_true rfl)) dX7_factorOf_23 ⟨(Nat.le_of_ble_eq_true rfl), (Nat.le_of_ble_eq_true rfl)⟩) hP hD hS hA [] [0, 1, 2, 3, 4, 5] [0, 1, 2, 3, 4, 5] rfl rfl (by decide) (by decide) (by decide) rfl (fun H2 lo2 hP2 hD2 hS2 => ?_)
    clear hP hD hS
    obtain ⟨c3, hm4⟩ := zz_no hm1
    refine va_iald hx hb hK hP2 2 0 rfl rfl c3 dX7_factorOf_26 ?_
    have hq1 := Option.some.inj hm4
    subst hq1
    exact W.iret hx hb hr (fun t ht hW => ⟨⟨_, (), rfl, rfl, by rw [ht]; exact hP2, va_K.moved hW.alike hK, hD2⟩, hS2.F ht⟩) hS2.2.2 dX7_factorOf_27
  have hl := lv_entry ([.ref aM, .int x1, .int x2, .int x3, .int x4, .int x5]) (n := 6) (Nat.le_of_ble_eq_true rfl)
  rw [lg_entry_eq]
  generalize (lg_sl ([.ref aM, .int x1, .int x2, .int x3, .int x4, .int x5]) ++ List.replicate (6 - (lg_sl ([.ref aM, .int x1, .int x2, .int x3, .int x4, .int x5])).length) Slot.unset).toArray = ls at hl ⊢
  have hl : lv_has ls 6 [(0, .ref aM), (1, .int x1), (2, .int x2), (3, .int x3), (4, .int x4), (5, .int x5)] := hl
  replace hm : (if ((x4 >>> (x5 &&& 31)) &&& (1 : Int32)) = (1 : Int32) then (k_X7_factorOf_21 mno x5 x1 x3) else (k_X7_factorOf_21 mno x5 x1 x2)) = some r0 := hm
  refine lv_aload_n hx hb dX7_factorOf_0 rfl (lv_at hl 0 rfl) ?_
  refine va_get (D := D) (ci := 7) (v := .ref aMn) (C := RX7) (T := TX7) (N := 17) hx hb hts iw_X7 hown hK hP 0 rfl rfl 11 (by decide) (hts (.fieldLink RX7 64 "VarianceBridgeModel" "now" "[I") (by decide +kernel)) (fun _ h9 => h9) rfl dX7_factorOf_1 ?_
  refine lv_iload_n hx hb dX7_factorOf_4 rfl (lv_at hl 1 rfl) ?_
  refine lv_iload hx hb dX7_factorOf_5 (lv_at hl 4 rfl) ?_
  refine lv_iload hx hb dX7_factorOf_7 (lv_at hl 5 rfl) ?_
  refine lv_ishr hx hb dX7_factorOf_9 ?_
  refine lv_iconst (v := (1 : Int32)) hx hb dX7_factorOf_10 (by decide) ?_
  refine lv_iand hx hb dX7_factorOf_11 ?_
  refine lv_iconst (v := (1 : Int32)) hx hb dX7_factorOf_12 (by decide) ?_
  refine lv_icmp_ne (tgt := 20) hx hb dX7_factorOf_13 (by decide) (fun c5 => ?_) (fun c5 => ?_)
  · have hm6 := zz_nf c5 hm
    refine lv_iload_n hx hb dX7_factorOf_20 rfl (lv_at hl 2 rfl) ?_
    exact hk_21 x5 x1 x2 hm6 ls s.heap [] (lv_sub hl [5] rfl) hP hD hS
  · have hm7 := zz_if c5 hm
    refine lv_iload_n hx hb dX7_factorOf_16 rfl (lv_at hl 3 rfl) ?_
    refine lv_goto (tgt := 21) hx hb dX7_factorOf_17 (by decide) ?_
    exact hk_21 x5 x1 x3 hm7 ls s.heap [] (lv_sub hl [5] rfl) hP hD hS
set_option maxHeartbeats 4000000 in
set_option maxRecDepth 100000 in
theorem c_X7_valueOf (l : Launch) (D : va_G) (cI cB cZ : ClassId) (ta : Nat → Nat) (aM : Nat) (aMt : Nat) (aMn : Nat) (aMr : Nat) (aMs : Nat) (aMi : Nat) (sz : Nat) (mth : Int32) (mtd : Int32) (msz : Int32) (mto : Int32) (mfr : Int32) (mso : Int32) (mnu : Int32) (mfa : Int32) (mpl : Int32) (mwo : Int64) (msm : Int32) (mgo : Int32) (mt : (Nat → Int32)) (mno : (Nat → Int32)) (mre : (Nat → Int32)) (msn : (Nat → Int32)) (mis : (Nat → Int32)) (x1 : Int32) (x2 : Int32) (x3 : Int32) (x4 : Int32) (r0 : Int32) (hm : m_X7_valueOf mno x1 x2 x3 x4 = some r0) : Met l yX7_valueOf wsX7_valueOf ({ frames := 2, cells := 0, slots := 0, locals := 47 } : Room) (va_Pc [.ref aM, .int x1, .int x2, .int x3, .int x4] (PW D cI cB cZ ta (w_Model cI cB cZ aM aMt aMn aMr aMs aMi mth mtd msz mto mfr mso mnu mfa mpl mwo msm mgo mt mno mre msn mis) sz)) (QI D cI cB cZ (va_A (w_Model cI cB cZ aM aMt aMn aMr aMs aMi mth mtd msz mto mfr mso mnu mfa mpl mwo msm mgo mt mno mre msn mis) sz) (w_Model cI cB cZ aM aMt aMn aMr aMs aMi mth mtd msz mto mfr mso mnu mfa mpl mwo msm mgo mt mno mre msn mis) r0) 0 0 (va_A (w_Model cI cB cZ aM aMt aMn aMr aMs aMi mth mtd msz mto mfr mso mnu mfa mpl mwo msm mgo mt mno mre msn mis) sz) := by
  refine Met.ofW (cc := cX7_valueOf) (maxL := 7) (ret := (some .int)) (by decide) rfl ?_
  intro p e s m args below meth c s₁ B hml hv
  obtain ⟨rfl, hsz, hP, hK, hD0, hG⟩ := hv
  have hx := B.exec
  have hb := B.bytes
  have hr := B.returns
  have hts := atoms_spec (ws := wsX7_valueOf) B.pre
  have hown : s.vm.findClass RX7 = some m.cls := findClass_of_methodNamed B.named
  have hlocks := B.notSynchronized
  subst hsz
  have hD := hD0.self (sz := s.heap.size)
  clear hD0
  have hA0 : ∀ q : Nat, s.heap.size ≤ q → va_A (w_Model cI cB cZ aM aMt aMn aMr aMs aMi mth mtd msz mto mfr mso mnu mfa mpl mwo msm mgo mt mno mre msn mis) s.heap.size q := fun q h => Or.inr h
  generalize hAe : va_A (w_Model cI cB cZ aM aMt aMn aMr aMs aMi mth mtd msz mto mfr mso mnu mfa mpl mwo msm mgo mt mno mre msn mis) s.heap.size = A at hD hG hA0 ⊢
  have hA : ∀ q : Nat, s.heap.size ≤ q → A q := hA0
  clear hA0
  have hS : va_S A s.heap s.heap [] := va_S.rf
  have hl := lv_entry ([.ref aM, .int x1, .int x2, .int x3, .int x4]) (n := 7) (Nat.le_of_ble_eq_true rfl)
  rw [lg_entry_eq]
  generalize (lg_sl ([.ref aM, .int x1, .int x2, .int x3, .int x4]) ++ List.replicate (7 - (lg_sl ([.ref aM, .int x1, .int x2, .int x3, .int x4])).length) Slot.unset).toArray = ls at hl ⊢
  have hl : lv_has ls 7 [(0, .ref aM), (1, .int x1), (2, .int x2), (3, .int x3), (4, .int x4)] := hl
  replace hm : (ob1 (m_X7_factorOf mno x1 x2 x3 x4 (1 : Int32)) (fun r1 => (ob1 (m_X7_factorOf mno x1 x2 x3 x4 (3 : Int32)) (fun r3 => (ob1 (m_X7_factorOf mno x1 x2 x3 x4 (2 : Int32)) (fun r6 => (ob1 (m_X7_factorOf mno x1 x2 x3 x4 (4 : Int32)) (fun r8 => (if r8 = 0 then none else (ob1 (m_X7_factorOf mno x1 x2 x3 x4 (0 : Int32)) (fun r13 => some (r13 * (((r1 * r3) / (100 : Int32)) - ((r6 * (100 : Int32)) / r8)))))))))))))) = some r0 := hm
  refine lv_aload_n hx hb dX7_valueOf_0 rfl (lv_at hl 0 rfl) ?_
  refine lv_iload_n hx hb dX7_valueOf_1 rfl (lv_at hl 1 rfl) ?_
  refine lv_iload_n hx hb dX7_valueOf_2 rfl (lv_at hl 2 rfl) ?_
  refine lv_iload_n hx hb dX7_valueOf_3 rfl (lv_at hl 3 rfl) ?_
  refine lv_iload hx hb dX7_valueOf_4 (lv_at hl 4 rfl) ?_
  refine lv_iconst (v := (1 : Int32)) hx hb dX7_valueOf_6 (by decide) ?_
  obtain ⟨r1, h1, hm1⟩ := ob1_e hm
  refine gcall_i (ws' := (w_Model cI cB cZ aM aMt aMn aMr aMs aMi mth mtd msz mto mfr mso mnu mfa mpl mwo msm mgo mt mno mre msn mis)) (va_runV (As := [.int x1, .int x2, .int x3, .int x4, .int (1 : Int32)]) (rest := []) ⟨hx, hb, hml, hown, hts⟩ (c_X7_factorOf l D cI cB cZ ta aM aMt aMn aMr aMs aMi s.heap.size mth mtd msz mto mfr mso mnu mfa mpl mwo msm mgo mt mno mre msn mis x1 x2 x3 x4 (1 : Int32) r1 h1) (cwV 5 hts gX7_valueOf_X7_factorOf rfl rfl rfl (by decide +kernel) ⟨(Nat.le_of_ble_eq_true rfl), (Nat.le_of_ble_eq_true rfl)⟩) ⟨PW_blind, va_recv hK hP rfl (q0 := 0) rfl, PW_at hP hD hK hS hA hG [0, 1, 2, 3, 4, 5] rfl (by decide)⟩ rfl rfl hl.1 rfl (lv_room (Nat.le_of_ble_eq_true rfl)) dX7_valueOf_7 ⟨(Nat.le_of_ble_eq_true rfl), (Nat.le_of_ble_eq_true rfl)⟩) hP hD hS hA [0, 1, 2, 3, 4, 5] [] [0, 1, 2, 3, 4, 5] rfl rfl (by decide) (by decide) (by decide) rfl (fun H2 lo2 hP2 hD2 hS2 => ?_)
  clear hP hD hS
  refine lv_aload_n hx hb dX7_valueOf_10 rfl (lv_at hl 0 rfl) ?_
  refine lv_iload_n hx hb dX7_valueOf_11 rfl (lv_at hl 1 rfl) ?_
  refine lv_iload_n hx hb dX7_valueOf_12 rfl (lv_at hl 2 rfl) ?_
  refine lv_iload_n hx hb dX7_valueOf_13 rfl (lv_at hl 3 rfl) ?_
  refine lv_iload hx hb dX7_valueOf_14 (lv_at hl 4 rfl) ?_
  refine lv_iconst (v := (3 : Int32)) hx hb dX7_valueOf_16 (by decide) ?_
  obtain ⟨r3, h3, hm3⟩ := ob1_e hm1
  refine gcall_i (ws' := (w_Model cI cB cZ aM aMt aMn aMr aMs aMi mth mtd msz mto mfr mso mnu mfa mpl mwo msm mgo mt mno mre msn mis)) (va_runV (As := [.int x1, .int x2, .int x3, .int x4, .int (3 : Int32)]) (rest := [.int r1]) ⟨hx, hb, hml, hown, hts⟩ (c_X7_factorOf l D cI cB cZ ta aM aMt aMn aMr aMs aMi H2.size mth mtd msz mto mfr mso mnu mfa mpl mwo msm mgo mt mno mre msn mis x1 x2 x3 x4 (3 : Int32) r3 h3) (cwV 5 hts gX7_valueOf_X7_factorOf rfl rfl rfl (by decide +kernel) ⟨(Nat.le_of_ble_eq_true rfl), (Nat.le_of_ble_eq_true rfl)⟩) ⟨PW_blind, va_recv hK hP2 rfl (q0 := 0) rfl, PW_at hP2 hD2 hK hS2 hA hG [0, 1, 2, 3, 4, 5] rfl (by decide)⟩ rfl rfl hl.1 rfl (lv_room (Nat.le_of_ble_eq_true rfl)) dX7_valueOf_17 ⟨(Nat.le_of_ble_eq_true rfl), (Nat.le_of_ble_eq_true rfl)⟩) hP2 hD2 hS2 hA [0, 1, 2, 3, 4, 5] [] [0, 1, 2, 3, 4, 5] rfl rfl (by decide) (by decide) (by decide) rfl (fun H4 lo4 hP4 hD4 hS4 => ?_)
  clear hP2 hD2 hS2
  refine lv_imul hx hb dX7_valueOf_20 ?_
  refine lv_bipush (v := (100 : Int32)) hx hb dX7_valueOf_21 (by decide) ?_
  refine lv_idiv hx hb dX7_valueOf_23 (by decide) ?_
  refine lv_istore (lv' := [(5, .int ((r1 * r3) / (100 : Int32))), (0, .ref aM), (1, .int x1), (2, .int x2), (3, .int x3), (4, .int x4)]) hx hb dX7_valueOf_24 hl (by decide) rfl (fun ls5 hl5 => ?_)
  refine lv_aload_n hx hb dX7_valueOf_26 rfl (lv_at hl5 1 rfl) ?_
  refine lv_iload_n hx hb dX7_valueOf_27 rfl (lv_at hl5 2 rfl) ?_
  refine lv_iload_n hx hb dX7_valueOf_28 rfl (lv_at hl5 3 rfl) ?_
  refine lv_iload_n hx hb dX7_valueOf_29 rfl (lv_at hl5 4 rfl) ?_
  refine lv_iload hx hb dX7_valueOf_30 (lv_at hl5 5 rfl) ?_
  refine lv_iconst (v := (2 : Int32)) hx hb dX7_valueOf_32 (by decide) ?_
  obtain ⟨r6, h6, hm6⟩ := ob1_e hm3
  refine gcall_i (ws' := (w_Model cI cB cZ aM aMt aMn aMr aMs aMi mth mtd msz mto mfr mso mnu mfa mpl mwo msm mgo mt mno mre msn mis)) (va_runV (As := [.int x1, .int x2, .int x3, .int x4, .int (2 : Int32)]) (rest := []) ⟨hx, hb, hml, hown, hts⟩ (c_X7_factorOf l D cI cB cZ ta aM aMt aMn aMr aMs aMi H4.size mth mtd msz mto mfr mso mnu mfa mpl mwo msm mgo mt mno mre msn mis x1 x2 x3 x4 (2 : Int32) r6 h6) (cwV 5 hts gX7_valueOf_X7_factorOf rfl rfl rfl (by decide +kernel) ⟨(Nat.le_of_ble_eq_true rfl), (Nat.le_of_ble_eq_true rfl)⟩) ⟨PW_blind, va_recv hK hP4 rfl (q0 := 0) rfl, PW_at hP4 hD4 hK hS4 hA hG [0, 1, 2, 3, 4, 5] rfl (by decide)⟩ rfl rfl hl5.1 rfl (lv_room (Nat.le_of_ble_eq_true rfl)) dX7_valueOf_33 ⟨(Nat.le_of_ble_eq_true rfl), (Nat.le_of_ble_eq_true rfl)⟩) hP4 hD4 hS4 hA [0, 1, 2, 3, 4, 5] [] [0, 1, 2, 3, 4, 5] rfl rfl (by decide) (by decide) (by decide) rfl (fun H7 lo7 hP7 hD7 hS7 => ?_)
  clear hP4 hD4 hS4
  refine lv_bipush (v := (100 : Int32)) hx hb dX7_valueOf_36 (by decide) ?_
  refine lv_imul hx hb dX7_valueOf_38 ?_
  refine lv_aload_n hx hb dX7_valueOf_39 rfl (lv_at hl5 1 rfl) ?_
  refine lv_iload_n hx hb dX7_valueOf_40 rfl (lv_at hl5 2 rfl) ?_
  refine lv_iload_n hx hb dX7_valueOf_41 rfl (lv_at hl5 3 rfl) ?_
  refine lv_iload_n hx hb dX7_valueOf_42 rfl (lv_at hl5 4 rfl) ?_
  refine lv_iload hx hb dX7_valueOf_43 (lv_at hl5 5 rfl) ?_
  refine lv_iconst (v := (4 : Int32)) hx hb dX7_valueOf_45 (by decide) ?_
  obtain ⟨r8, h8, hm8⟩ := ob1_e hm6
  refine gcall_i (ws' := (w_Model cI cB cZ aM aMt aMn aMr aMs aMi mth mtd msz mto mfr mso mnu mfa mpl mwo msm mgo mt mno mre msn mis)) (va_runV (As := [.int x1, .int x2, .int x3, .int x4, .int (4 : Int32)]) (rest := [.int (r6 * (100 : Int32))]) ⟨hx, hb, hml, hown, hts⟩ (c_X7_factorOf l D cI cB cZ ta aM aMt aMn aMr aMs aMi H7.size mth mtd msz mto mfr mso mnu mfa mpl mwo msm mgo mt mno mre msn mis x1 x2 x3 x4 (4 : Int32) r8 h8) (cwV 5 hts gX7_valueOf_X7_factorOf rfl rfl rfl (by decide +kernel) ⟨(Nat.le_of_ble_eq_true rfl), (Nat.le_of_ble_eq_true rfl)⟩) ⟨PW_blind, va_recv hK hP7 rfl (q0 := 0) rfl, PW_at hP7 hD7 hK hS7 hA hG [0, 1, 2, 3, 4, 5] rfl (by decide)⟩ rfl rfl hl5.1 rfl (lv_room (Nat.le_of_ble_eq_true rfl)) dX7_valueOf_46 ⟨(Nat.le_of_ble_eq_true rfl), (Nat.le_of_ble_eq_true rfl)⟩) hP7 hD7 hS7 hA [0, 1, 2, 3, 4, 5] [] [0, 1, 2, 3, 4, 5] rfl rfl (by decide) (by decide) (by decide) rfl (fun H9 lo9 hP9 hD9 hS9 => ?_)
  clear hP7 hD7 hS7
  obtain ⟨c10, hm11⟩ := zz_no hm8
  refine lv_idiv hx hb dX7_valueOf_49 c10 ?_
  refine lv_istore (lv' := [(6, .int ((r6 * (100 : Int32)) / r8)), (5, .int ((r1 * r3) / (100 : Int32))), (0, .ref aM), (1, .int x1), (2, .int x2), (3, .int x3), (4, .int x4)]) hx hb dX7_valueOf_50 hl5 (by decide) rfl (fun ls12 hl12 => ?_)
  refine lv_aload_n hx hb dX7_valueOf_52 rfl (lv_at hl12 2 rfl) ?_
  refine lv_iload_n hx hb dX7_valueOf_53 rfl (lv_at hl12 3 rfl) ?_
  refine lv_iload_n hx hb dX7_valueOf_54 rfl (lv_at hl12 4 rfl) ?_
  refine lv_iload_n hx hb dX7_valueOf_55 rfl (lv_at hl12 5 rfl) ?_
  refine lv_iload hx hb dX7_valueOf_56 (lv_at hl12 6 rfl) ?_
  refine lv_iconst (v := (0 : Int32)) hx hb dX7_valueOf_58 (by decide) ?_
  obtain ⟨r13, h13, hm13⟩ := ob1_e hm11
  refine gcall_i (ws' := (w_Model cI cB cZ aM aMt aMn aMr aMs aMi mth mtd msz mto mfr mso mnu mfa mpl mwo msm mgo mt mno mre msn mis)) (va_runV (As := [.int x1, .int x2, .int x3, .int x4, .int (0 : Int32)]) (rest := []) ⟨hx, hb, hml, hown, hts⟩ (c_X7_factorOf l D cI cB cZ ta aM aMt aMn aMr aMs aMi H9.size mth mtd msz mto mfr mso mnu mfa mpl mwo msm mgo mt mno mre msn mis x1 x2 x3 x4 (0 : Int32) r13 h13) (cwV 5 hts gX7_valueOf_X7_factorOf rfl rfl rfl (by decide +kernel) ⟨(Nat.le_of_ble_eq_true rfl), (Nat.le_of_ble_eq_true rfl)⟩) ⟨PW_blind, va_recv hK hP9 rfl (q0 := 0) rfl, PW_at hP9 hD9 hK hS9 hA hG [0, 1, 2, 3, 4, 5] rfl (by decide)⟩ rfl rfl hl12.1 rfl (lv_room (Nat.le_of_ble_eq_true rfl)) dX7_valueOf_59 ⟨(Nat.le_of_ble_eq_true rfl), (Nat.le_of_ble_eq_true rfl)⟩) hP9 hD9 hS9 hA [0, 1, 2, 3, 4, 5] [] [0, 1, 2, 3, 4, 5] rfl rfl (by decide) (by decide) (by decide) rfl (fun H14 lo14 hP14 hD14 hS14 => ?_)
  clear hP9 hD9 hS9
  refine lv_iload hx hb dX7_valueOf_62 (lv_at hl12 1 rfl) ?_
  refine lv_iload hx hb dX7_valueOf_64 (lv_at hl12 0 rfl) ?_
  refine lv_isub hx hb dX7_valueOf_66 ?_
  refine lv_imul hx hb dX7_valueOf_67 ?_
  have hq1 := Option.some.inj hm13
  subst hq1
  exact W.iret hx hb hr (fun t ht hW => ⟨⟨_, (), rfl, rfl, by rw [ht]; exact hP14, va_K.moved hW.alike hK, hD14⟩, hS14.F ht⟩) hS14.2.2 dX7_valueOf_68
theorem iw_X7_valueIn_X7 : ∀ w ∈ wsX70, w ∈ wsX7_valueIn := by decide +kernel
set_option maxHeartbeats 4000000 in
set_option maxRecDepth 100000 in
theorem c_X7_valueIn (l : Launch) (D : va_G) (cI cB cZ : ClassId) (ta : Nat → Nat) (aM : Nat) (aMt : Nat) (aMn : Nat) (aMr : Nat) (aMs : Nat) (aMi : Nat) (sz : Nat) (mth : Int32) (mtd : Int32) (msz : Int32) (mto : Int32) (mfr : Int32) (mso : Int32) (mnu : Int32) (mfa : Int32) (mpl : Int32) (mwo : Int64) (msm : Int32) (mgo : Int32) (mt : (Nat → Int32)) (mno : (Nat → Int32)) (mre : (Nat → Int32)) (msn : (Nat → Int32)) (mis : (Nat → Int32)) (x1 : Int32) (x2 : Int32) (r0 : Int32) (hm : m_X7_valueIn mno x1 x2 = some r0) : Met l yX7_valueIn wsX7_valueIn ({ frames := 3, cells := 0, slots := 0, locals := 73 } : Room) (va_Pc [.ref aM, .int x1, .int x2] (PW D cI cB cZ ta (w_Model cI cB cZ aM aMt aMn aMr aMs aMi mth mtd msz mto mfr mso mnu mfa mpl mwo msm mgo mt mno mre msn mis) sz)) (QI D cI cB cZ (va_A (w_Model cI cB cZ aM aMt aMn aMr aMs aMi mth mtd msz mto mfr mso mnu mfa mpl mwo msm mgo mt mno mre msn mis) sz) (w_Model cI cB cZ aM aMt aMn aMr aMs aMi mth mtd msz mto mfr mso mnu mfa mpl mwo msm mgo mt mno mre msn mis) r0) 0 0 (va_A (w_Model cI cB cZ aM aMt aMn aMr aMs aMi mth mtd msz mto mfr mso mnu mfa mpl mwo msm mgo mt mno mre msn mis) sz) := by
  refine Met.ofW (cc := cX7_valueIn) (maxL := 5) (ret := (some .int)) (by decide) rfl ?_
  intro p e s m args below meth c s₁ B hml hv
  obtain ⟨rfl, hsz, hP, hK, hD0, hG⟩ := hv
  have hx := B.exec
  have hb := B.bytes
  have hr := B.returns
  have hts := atoms_spec (ws := wsX7_valueIn) B.pre
  have hown : s.vm.findClass RX7 = some m.cls := findClass_of_methodNamed B.named
  have hlocks := B.notSynchronized
  subst hsz
  have hD := hD0.self (sz := s.heap.size)
  clear hD0
  have hA0 : ∀ q : Nat, s.heap.size ≤ q → va_A (w_Model cI cB cZ aM aMt aMn aMr aMs aMi mth mtd msz mto mfr mso mnu mfa mpl mwo msm mgo mt mno mre msn mis) s.heap.size q := fun q h => Or.inr h
  generalize hAe : va_A (w_Model cI cB cZ aM aMt aMn aMr aMs aMi mth mtd msz mto mfr mso mnu mfa mpl mwo msm mgo mt mno mre msn mis) s.heap.size = A at hD hG hA0 ⊢
  have hA : ∀ q : Nat, s.heap.size ≤ q → A q := hA0
  clear hA0
  have hS : va_S A s.heap s.heap [] := va_S.rf
  have iw_X7 := iw_X7_valueIn_X7
  have hk_5 : ∀ (n : Nat) (y1 : Int32) (y2 : Int32) (y3 : Int32) (y4 : Int32), k_X7_valueIn_5 mno n y1 y2 y3 y4 = some r0 → ∀ (ls : Array Slot) (H : Heap) (lo : List Loc), lv_has ls 5 [(0, .ref aM), (1, .int y1), (2, .int y2), (3, .int y3), (4, .int y4)] → va_P D vwCl (w_Model cI cB cZ aM aMt aMn aMr aMs aMi mth mtd msz mto mfr mso mnu mfa mpl mwo msm mgo mt mno mre msn mis) H → va_D A (w_Model cI cB cZ aM aMt aMn aMr aMs aMi mth mtd msz mto mfr mso mnu mfa mpl mwo msm mgo mt mno mre msn mis) → va_S A s.heap H lo → W p l e (headSpec wsX7_valueIn ({ frames := 3, cells := 0, slots := 0, locals := 73 } : Room)).room s m (([.ref aM, .int x1, .int x2] : List Value).toArray) below meth c H lo 0 0 (MQ below (QI D cI cB cZ A (w_Model cI cB cZ aM aMt aMn aMr aMs aMi mth mtd msz mto mfr mso mnu mfa mpl mwo msm mgo mt mno mre msn mis) r0) (([.ref aM, .int x1, .int x2] : List Value).toArray) s 0 0 A) (F0 m 5 ls []) := by
    intro n
    induction n with
    | zero => intro y1 y2 y3 y4 hm; exact zz_nn hm
    | succ n ih =>
      intro y1 y2 y3 y4 hm ls H lo hl hP hD hS
      replace hm := (k_X7_valueIn_5_s mno n y1 y2 y3 y4).symm.trans hm
      refine lv_iload hx hb dX7_valueIn_5 (lv_at hl 4 rfl) ?_
      refine lv_aload_n hx hb dX7_valueIn_7 rfl (lv_at hl 0 rfl) ?_
      refine va_get (D := D) (ci := 7) (v := .ref aMn) (C := RX7) (T := TX7) (N := 17) hx hb hts iw_X7 hown hK hP 0 rfl rfl 11 (by decide) (hts (.fieldLink RX7 64 "VarianceBridgeModel" "now" "[I") (by decide +kernel)) (fun _ h9 => h9) rfl dX7_valueIn_8 ?_
      refine lv_iconst (v := (1 : Int32)) hx hb dX7_valueIn_11 (by decide) ?_
      obtain ⟨c1, hm2⟩ := zz_no hm
      refine va_iald hx hb hK hP 2 0 rfl rfl c1 dX7_valueIn_12 ?_
      refine lv_icmp_ge (tgt := 44) hx hb dX7_valueIn_13 (by decide) (fun c3 => ?_) (fun c3 => ?_)
      · have hm4 := zz_if c3 hm2
        refine lv_iload_n hx hb dX7_valueIn_44 rfl (lv_at hl 3 rfl) ?_
        have hq1 := Option.some.inj hm4
        subst hq1
        exact W.iret hx hb hr (fun t ht hW => ⟨⟨_, (), rfl, rfl, by rw [ht]; exact hP, va_K.moved hW.alike hK, hD⟩, hS.F ht⟩) hS.2.2 dX7_valueIn_45
      · have hm5 := zz_nf c3 hm2
        refine lv_aload_n hx hb dX7_valueIn_16 rfl (lv_at hl 0 rfl) ?_
        refine lv_iload hx hb dX7_valueIn_17 (lv_at hl 4 rfl) ?_
        refine lv_iload_n hx hb dX7_valueIn_19 rfl (lv_at hl 1 rfl) ?_
        obtain ⟨r6, h6, hm6⟩ := ob1_e hm5
        refine gcall_b (ws' := (w_Model cI cB cZ aM aMt aMn aMr aMs aMi mth mtd msz mto mfr mso mnu mfa mpl mwo msm mgo mt mno mre msn mis)) (va_runV (As := [.int y4, .int y1]) (rest := []) ⟨hx, hb, hml, hown, hts⟩ (c_X7_isLeafOf l D cI cB cZ ta aM aMt aMn aMr aMs aMi H.size mth mtd msz mto mfr mso mnu mfa mpl mwo msm mgo mt mno mre msn mis y4 y1 r6 h6) (cwV 2 hts gX7_valueIn_X7_isLeafOf rfl rfl rfl (by decide +kernel) ⟨(Nat.le_of_ble_eq_true rfl), (Nat.le_of_ble_eq_true rfl)⟩) ⟨PW_blind, va_recv hK hP rfl (q0 := 0) rfl, PW_at hP hD hK hS hA hG [0, 1, 2, 3, 4, 5] rfl (by decide)⟩ rfl rfl hl.1 rfl (lv_room (Nat.le_of_ble_eq_true rfl)) dX7_valueIn_20 ⟨(Nat.le_of_ble_eq_true rfl), (Nat.le_of_ble_eq_true rfl)⟩) hP hD hS hA [0, 1, 2, 3, 4, 5] [] [0, 1, 2, 3, 4, 5] rfl rfl (by decide) (by decide) (by decide) rfl (fun H7 lo7 hz6 hP7 hD7 hS7 => ?_)
        clear hP hD hS
        refine lv_if_eq (tgt := 38) hx hb dX7_valueIn_23 (by decide) (fun c8 => ?_) (fun c8 => ?_)
        · have hm9 := zz_if c8 hm6
          refine lv_iinc (v := (y4 + (1 : Int32))) (lv' := [(4, .int (y4 + (1 : Int32))), (0, .ref aM), (1, .int y1), (2, .int y2), (3, .int y3)]) hx hb dX7_valueIn_38 hl (k := 4) rfl (by rfl) (by decide) rfl (fun ls11 hl11 => ?_)
          refine lv_goto (tgt := 5) hx hb dX7_valueIn_41 (by decide) ?_
          exact ih y1 y2 y3 (y4 + (1 : Int32)) hm9 ls11 H7 lo7 (lv_sub hl11 [1, 2, 3, 4, 0] rfl) hP7 hD7 hS7
        · have hm10 := zz_nf c8 hm6
          refine lv_iload_n hx hb dX7_valueIn_26 rfl (lv_at hl 3 rfl) ?_
          refine lv_aload_n hx hb dX7_valueIn_27 rfl (lv_at hl 0 rfl) ?_
          refine lv_iload hx hb dX7_valueIn_28 (lv_at hl 4 rfl) ?_
          refine lv_iload_n hx hb dX7_valueIn_30 rfl (lv_at hl 2 rfl) ?_
          refine lv_iload_n hx hb dX7_valueIn_31 rfl (lv_at hl 2 rfl) ?_
          refine lv_iconst (v := (0 : Int32)) hx hb dX7_valueIn_32 (by decide) ?_
          obtain ⟨r12, h12, hm12⟩ := ob1_e hm10
          refine gcall_i (ws' := (w_Model cI cB cZ aM aMt aMn aMr aMs aMi mth mtd msz mto mfr mso mnu mfa mpl mwo msm mgo mt mno mre msn mis)) (va_runV (As := [.int y4, .int y2, .int y2, .int (0 : Int32)]) (rest := [.int y3]) ⟨hx, hb, hml, hown, hts⟩ (c_X7_valueOf l D cI cB cZ ta aM aMt aMn aMr aMs aMi H7.size mth mtd msz mto mfr mso mnu mfa mpl mwo msm mgo mt mno mre msn mis y4 y2 y2 (0 : Int32) r12 h12) (cwV 4 hts gX7_valueIn_X7_valueOf rfl rfl rfl (by decide +kernel) ⟨(Nat.le_of_ble_eq_true rfl), (Nat.le_of_ble_eq_true rfl)⟩) ⟨PW_blind, va_recv hK hP7 rfl (q0 := 0) rfl, PW_at hP7 hD7 hK hS7 hA hG [0, 1, 2, 3, 4, 5] rfl (by decide)⟩ rfl rfl hl.1 rfl (lv_room (Nat.le_of_ble_eq_true rfl)) dX7_valueIn_33 ⟨(Nat.le_of_ble_eq_true rfl), (Nat.le_of_ble_eq_true rfl)⟩) hP7 hD7 hS7 hA [0, 1, 2, 3, 4, 5] [] [0, 1, 2, 3, 4, 5] rfl rfl (by decide) (by decide) (by decide) rfl (fun H13 lo13 hP13 hD13 hS13 => ?_)
          clear hP7 hD7 hS7
          refine lv_iadd hx hb dX7_valueIn_36 ?_
          refine lv_istore_n (lv' := [(3, .int (y3 + r12)), (0, .ref aM), (1, .int y1), (2, .int y2), (4, .int y4)]) hx hb dX7_valueIn_37 rfl hl (by decide) rfl (fun ls14 hl14 => ?_)
          refine lv_iinc (v := (y4 + (1 : Int32))) (lv' := [(4, .int (y4 + (1 : Int32))), (3, .int (y3 + r12)), (0, .ref aM), (1, .int y1), (2, .int y2)]) hx hb dX7_valueIn_38 hl14 (k := 4) rfl (by rfl) (by decide) rfl (fun ls15 hl15 => ?_)
          refine lv_goto (tgt := 5) hx hb dX7_valueIn_41 (by decide) ?_
          exact ih y1 y2 (y3 + r12) (y4 + (1 : Int32)) hm12 ls15 H13 lo13 (lv_sub hl15 [2, 3, 4, 1, 0] rfl) hP13 hD13 hS13
  have hl := lv_entry ([.ref aM, .int x1, .int x2]) (n := 5) (Nat.le_of_ble_eq_true rfl)
  rw [lg_entry_eq]
  generalize (lg_sl ([.ref aM, .int x1, .int x2]) ++ List.replicate (5 - (lg_sl ([.ref aM, .int x1, .int x2])).length) Slot.unset).toArray = ls at hl ⊢
  have hl : lv_has ls 5 [(0, .ref aM), (1, .int x1), (2, .int x2)] := hl
  replace hm : (k_X7_valueIn_5 mno FU x1 x2 (0 : Int32) (0 : Int32)) = some r0 := hm
  refine lv_iconst (v := (0 : Int32)) hx hb dX7_valueIn_0 (by decide) ?_
  refine lv_istore_n (lv' := [(3, .int (0 : Int32)), (0, .ref aM), (1, .int x1), (2, .int x2)]) hx hb dX7_valueIn_1 rfl hl (by decide) rfl (fun ls16 hl16 => ?_)
  refine lv_iconst (v := (0 : Int32)) hx hb dX7_valueIn_2 (by decide) ?_
  refine lv_istore (lv' := [(4, .int (0 : Int32)), (3, .int (0 : Int32)), (0, .ref aM), (1, .int x1), (2, .int x2)]) hx hb dX7_valueIn_3 hl16 (by decide) rfl (fun ls17 hl17 => ?_)
  exact hk_5 FU x1 x2 (0 : Int32) (0 : Int32) hm ls17 s.heap [] (lv_sub hl17 [2, 3, 4, 1, 0] rfl) hP hD hS
set_option maxHeartbeats 4000000 in
set_option maxRecDepth 100000 in
theorem c_X7_differenceOf (l : Launch) (D : va_G) (cI cB cZ : ClassId) (ta : Nat → Nat) (aM : Nat) (aMt : Nat) (aMn : Nat) (aMr : Nat) (aMs : Nat) (aMi : Nat) (sz : Nat) (mth : Int32) (mtd : Int32) (msz : Int32) (mto : Int32) (mfr : Int32) (mso : Int32) (mnu : Int32) (mfa : Int32) (mpl : Int32) (mwo : Int64) (msm : Int32) (mgo : Int32) (mt : (Nat → Int32)) (mno : (Nat → Int32)) (mre : (Nat → Int32)) (msn : (Nat → Int32)) (mis : (Nat → Int32)) (x1 : Int32) (x2 : Int32) (x3 : Int32) (r0 : Int32) (hm : m_X7_differenceOf mno x1 x2 x3 = some r0) : Met l yX7_differenceOf wsX7_differenceOf ({ frames := 4, cells := 0, slots := 0, locals := 97 } : Room) (va_Pc [.ref aM, .int x1, .int x2, .int x3] (PW D cI cB cZ ta (w_Model cI cB cZ aM aMt aMn aMr aMs aMi mth mtd msz mto mfr mso mnu mfa mpl mwo msm mgo mt mno mre msn mis) sz)) (QI D cI cB cZ (va_A (w_Model cI cB cZ aM aMt aMn aMr aMs aMi mth mtd msz mto mfr mso mnu mfa mpl mwo msm mgo mt mno mre msn mis) sz) (w_Model cI cB cZ aM aMt aMn aMr aMs aMi mth mtd msz mto mfr mso mnu mfa mpl mwo msm mgo mt mno mre msn mis) r0) 0 0 (va_A (w_Model cI cB cZ aM aMt aMn aMr aMs aMi mth mtd msz mto mfr mso mnu mfa mpl mwo msm mgo mt mno mre msn mis) sz) := by
  refine Met.ofW (cc := cX7_differenceOf) (maxL := 4) (ret := (some .int)) (by decide) rfl ?_
  intro p e s m args below meth c s₁ B hml hv
  obtain ⟨rfl, hsz, hP, hK, hD0, hG⟩ := hv
  have hx := B.exec
  have hb := B.bytes
  have hr := B.returns
  have hts := atoms_spec (ws := wsX7_differenceOf) B.pre
  have hown : s.vm.findClass RX7 = some m.cls := findClass_of_methodNamed B.named
  have hlocks := B.notSynchronized
  subst hsz
  have hD := hD0.self (sz := s.heap.size)
  clear hD0
  have hA0 : ∀ q : Nat, s.heap.size ≤ q → va_A (w_Model cI cB cZ aM aMt aMn aMr aMs aMi mth mtd msz mto mfr mso mnu mfa mpl mwo msm mgo mt mno mre msn mis) s.heap.size q := fun q h => Or.inr h
  generalize hAe : va_A (w_Model cI cB cZ aM aMt aMn aMr aMs aMi mth mtd msz mto mfr mso mnu mfa mpl mwo msm mgo mt mno mre msn mis) s.heap.size = A at hD hG hA0 ⊢
  have hA : ∀ q : Nat, s.heap.size ≤ q → A q := hA0
  clear hA0
  have hS : va_S A s.heap s.heap [] := va_S.rf
  have hl := lv_entry ([.ref aM, .int x1, .int x2, .int x3]) (n := 4) (Nat.le_of_ble_eq_true rfl)
  rw [lg_entry_eq]
  generalize (lg_sl ([.ref aM, .int x1, .int x2, .int x3]) ++ List.replicate (4 - (lg_sl ([.ref aM, .int x1, .int x2, .int x3])).length) Slot.unset).toArray = ls at hl ⊢
  have hl : lv_has ls 4 [(0, .ref aM), (1, .int x1), (2, .int x2), (3, .int x3)] := hl
  replace hm : (ob1 (m_X7_valueIn mno x1 x3) (fun r1 => (ob1 (m_X7_valueIn mno x1 x2) (fun r3 => some (r1 - r3))))) = some r0 := hm
  refine lv_aload_n hx hb dX7_differenceOf_0 rfl (lv_at hl 0 rfl) ?_
  refine lv_iload_n hx hb dX7_differenceOf_1 rfl (lv_at hl 1 rfl) ?_
  refine lv_iload_n hx hb dX7_differenceOf_2 rfl (lv_at hl 3 rfl) ?_
  obtain ⟨r1, h1, hm1⟩ := ob1_e hm
  refine gcall_i (ws' := (w_Model cI cB cZ aM aMt aMn aMr aMs aMi mth mtd msz mto mfr mso mnu mfa mpl mwo msm mgo mt mno mre msn mis)) (va_runV (As := [.int x1, .int x3]) (rest := []) ⟨hx, hb, hml, hown, hts⟩ (c_X7_valueIn l D cI cB cZ ta aM aMt aMn aMr aMs aMi s.heap.size mth mtd msz mto mfr mso mnu mfa mpl mwo msm mgo mt mno mre msn mis x1 x3 r1 h1) (cwV 2 hts gX7_differenceOf_X7_valueIn rfl rfl rfl (by decide +kernel) ⟨(Nat.le_of_ble_eq_true rfl), (Nat.le_of_ble_eq_true rfl)⟩) ⟨PW_blind, va_recv hK hP rfl (q0 := 0) rfl, PW_at hP hD hK hS hA hG [0, 1, 2, 3, 4, 5] rfl (by decide)⟩ rfl rfl hl.1 rfl (lv_room (Nat.le_of_ble_eq_true rfl)) dX7_differenceOf_3 ⟨(Nat.le_of_ble_eq_true rfl), (Nat.le_of_ble_eq_true rfl)⟩) hP hD hS hA [0, 1, 2, 3, 4, 5] [] [0, 1, 2, 3, 4, 5] rfl rfl (by decide) (by decide) (by decide) rfl (fun H2 lo2 hP2 hD2 hS2 => ?_)
  clear hP hD hS
  refine lv_aload_n hx hb dX7_differenceOf_6 rfl (lv_at hl 0 rfl) ?_
  refine lv_iload_n hx hb dX7_differenceOf_7 rfl (lv_at hl 1 rfl) ?_
  refine lv_iload_n hx hb dX7_differenceOf_8 rfl (lv_at hl 2 rfl) ?_
  obtain ⟨r3, h3, hm3⟩ := ob1_e hm1
  refine gcall_i (ws' := (w_Model cI cB cZ aM aMt aMn aMr aMs aMi mth mtd msz mto mfr mso mnu mfa mpl mwo msm mgo mt mno mre msn mis)) (va_runV (As := [.int x1, .int x2]) (rest := [.int r1]) ⟨hx, hb, hml, hown, hts⟩ (c_X7_valueIn l D cI cB cZ ta aM aMt aMn aMr aMs aMi H2.size mth mtd msz mto mfr mso mnu mfa mpl mwo msm mgo mt mno mre msn mis x1 x2 r3 h3) (cwV 2 hts gX7_differenceOf_X7_valueIn rfl rfl rfl (by decide +kernel) ⟨(Nat.le_of_ble_eq_true rfl), (Nat.le_of_ble_eq_true rfl)⟩) ⟨PW_blind, va_recv hK hP2 rfl (q0 := 0) rfl, PW_at hP2 hD2 hK hS2 hA hG [0, 1, 2, 3, 4, 5] rfl (by decide)⟩ rfl rfl hl.1 rfl (lv_room (Nat.le_of_ble_eq_true rfl)) dX7_differenceOf_9 ⟨(Nat.le_of_ble_eq_true rfl), (Nat.le_of_ble_eq_true rfl)⟩) hP2 hD2 hS2 hA [0, 1, 2, 3, 4, 5] [] [0, 1, 2, 3, 4, 5] rfl rfl (by decide) (by decide) (by decide) rfl (fun H4 lo4 hP4 hD4 hS4 => ?_)
  clear hP2 hD2 hS2
  refine lv_isub hx hb dX7_differenceOf_12 ?_
  have hq1 := Option.some.inj hm3
  subst hq1
  exact W.iret hx hb hr (fun t ht hW => ⟨⟨_, (), rfl, rfl, by rw [ht]; exact hP4, va_K.moved hW.alike hK, hD4⟩, hS4.F ht⟩) hS4.2.2 dX7_differenceOf_13
theorem iw_X7_howOf_X7 : ∀ w ∈ wsX70, w ∈ wsX7_howOf := by decide +kernel
set_option maxHeartbeats 4000000 in
set_option maxRecDepth 100000 in
theorem c_X7_howOf (l : Launch) (D : va_G) (cI cB cZ : ClassId) (ta : Nat → Nat) (aM : Nat) (aMt : Nat) (aMn : Nat) (aMr : Nat) (aMs : Nat) (aMi : Nat) (sz : Nat) (mth : Int32) (mtd : Int32) (msz : Int32) (mto : Int32) (mfr : Int32) (mso : Int32) (mnu : Int32) (mfa : Int32) (mpl : Int32) (mwo : Int64) (msm : Int32) (mgo : Int32) (mt : (Nat → Int32)) (mno : (Nat → Int32)) (mre : (Nat → Int32)) (msn : (Nat → Int32)) (mis : (Nat → Int32)) (x1 : Int32) (x2 : Int32) (x3 : Int32) (r0 : Int32) (hm : m_X7_howOf mno x1 x2 x3 = some r0) : Met l yX7_howOf wsX7_howOf ({ frames := 1, cells := 0, slots := 0, locals := 22 } : Room) (va_Pc [.ref aM, .int x1, .int x2, .int x3] (PW D cI cB cZ ta (w_Model cI cB cZ aM aMt aMn aMr aMs aMi mth mtd msz mto mfr mso mnu mfa mpl mwo msm mgo mt mno mre msn mis) sz)) (QI D cI cB cZ (va_A (w_Model cI cB cZ aM aMt aMn aMr aMs aMi mth mtd msz mto mfr mso mnu mfa mpl mwo msm mgo mt mno mre msn mis) sz) (w_Model cI cB cZ aM aMt aMn aMr aMs aMi mth mtd msz mto mfr mso mnu mfa mpl mwo msm mgo mt mno mre msn mis) r0) 0 0 (va_A (w_Model cI cB cZ aM aMt aMn aMr aMs aMi mth mtd msz mto mfr mso mnu mfa mpl mwo msm mgo mt mno mre msn mis) sz) := by
  refine Met.ofW (cc := cX7_howOf) (maxL := 6) (ret := (some .int)) (by decide) rfl ?_
  intro p e s m args below meth c s₁ B hml hv
  obtain ⟨rfl, hsz, hP, hK, hD0, hG⟩ := hv
  have hx := B.exec
  have hb := B.bytes
  have hr := B.returns
  have hts := atoms_spec (ws := wsX7_howOf) B.pre
  have hown : s.vm.findClass RX7 = some m.cls := findClass_of_methodNamed B.named
  have hlocks := B.notSynchronized
  subst hsz
  have hD := hD0.self (sz := s.heap.size)
  clear hD0
  have hA0 : ∀ q : Nat, s.heap.size ≤ q → va_A (w_Model cI cB cZ aM aMt aMn aMr aMs aMi mth mtd msz mto mfr mso mnu mfa mpl mwo msm mgo mt mno mre msn mis) s.heap.size q := fun q h => Or.inr h
  generalize hAe : va_A (w_Model cI cB cZ aM aMt aMn aMr aMs aMi mth mtd msz mto mfr mso mnu mfa mpl mwo msm mgo mt mno mre msn mis) s.heap.size = A at hD hG hA0 ⊢
  have hA : ∀ q : Nat, s.heap.size ≤ q → A q := hA0
  clear hA0
  have hS : va_S A s.heap s.heap [] := va_S.rf
  have iw_X7 := iw_X7_howOf_X7
  have hk_40 : ∀ (y4 : Int32) (y5 : Int32), k_X7_howOf_40 mno y4 y5 = some r0 → ∀ (ls : Array Slot) (H : Heap) (lo : List Loc), lv_has ls 6 [(4, .int y4), (5, .int y5)] → va_P D vwCl (w_Model cI cB cZ aM aMt aMn aMr aMs aMi mth mtd msz mto mfr mso mnu mfa mpl mwo msm mgo mt mno mre msn mis) H → va_D A (w_Model cI cB cZ aM aMt aMn aMr aMs aMi mth mtd msz mto mfr mso mnu mfa mpl mwo msm mgo mt mno mre msn mis) → va_S A s.heap H lo → W p l e (headSpec wsX7_howOf ({ frames := 1, cells := 0, slots := 0, locals := 22 } : Room)).room s m (([.ref aM, .int x1, .int x2, .int x3] : List Value).toArray) below meth c H lo 0 0 (MQ below (QI D cI cB cZ A (w_Model cI cB cZ aM aMt aMn aMr aMs aMi mth mtd msz mto mfr mso mnu mfa mpl mwo msm mgo mt mno mre msn mis) r0) (([.ref aM, .int x1, .int x2, .int x3] : List Value).toArray) s 0 0 A) (F0 m 40 ls []) := by
    intro y4 y5 hm ls H lo hl hP hD hS
    replace hm : (if y4 ≤ 0 then some (0 : Int32) else (if y5 = 0 then some (2 : Int32) else some (0 : Int32))) = some r0 := hm
    refine lv_iload hx hb dX7_howOf_40 (lv_at hl 0 rfl) ?_
    refine lv_if_le (tgt := 54) hx hb dX7_howOf_42 (by decide) (fun c1 => ?_) (fun c1 => ?_)
    · have hm2 := zz_if c1 hm
      refine lv_iconst (v := (0 : Int32)) hx hb dX7_howOf_54 (by decide) ?_
      have hq1 := Option.some.inj hm2
      subst hq1
      exact W.iret hx hb hr (fun t ht hW => ⟨⟨_, (), rfl, rfl, by rw [ht]; exact hP, va_K.moved hW.alike hK, hD⟩, hS.F ht⟩) hS.2.2 dX7_howOf_55
    · have hm3 := zz_nf c1 hm
      refine lv_iload hx hb dX7_howOf_45 (lv_at hl 1 rfl) ?_
      refine lv_if_ne (tgt := 54) hx hb dX7_howOf_47 (by decide) (fun c4 => ?_) (fun c4 => ?_)
      · have hm5 := zz_nf c4 hm3
        refine lv_iconst (v := (0 : Int32)) hx hb dX7_howOf_54 (by decide) ?_
        have hq1 := Option.some.inj hm5
        subst hq1
        exact W.iret hx hb hr (fun t ht hW => ⟨⟨_, (), rfl, rfl, by rw [ht]; exact hP, va_K.moved hW.alike hK, hD⟩, hS.F ht⟩) hS.2.2 dX7_howOf_55
      · have hm6 := zz_if c4 hm3
        refine lv_iconst (v := (2 : Int32)) hx hb dX7_howOf_50 (by decide) ?_
        refine lv_goto (tgt := 55) hx hb dX7_howOf_51 (by decide) ?_
        have hq1 := Option.some.inj hm6
        subst hq1
        exact W.iret hx hb hr (fun t ht hW => ⟨⟨_, (), rfl, rfl, by rw [ht]; exact hP, va_K.moved hW.alike hK, hD⟩, hS.F ht⟩) hS.2.2 dX7_howOf_55
  have hl := lv_entry ([.ref aM, .int x1, .int x2, .int x3]) (n := 6) (Nat.le_of_ble_eq_true rfl)
  rw [lg_entry_eq]
  generalize (lg_sl ([.ref aM, .int x1, .int x2, .int x3]) ++ List.replicate (6 - (lg_sl ([.ref aM, .int x1, .int x2, .int x3])).length) Slot.unset).toArray = ls at hl ⊢
  have hl : lv_has ls 6 [(0, .ref aM), (1, .int x1), (2, .int x2), (3, .int x3)] := hl
  replace hm : (ob1 (m_X7_at x1 x2 (0 : Int32)) (fun r7 => (if r7 < 0 ∨ 442 ≤ r7.toNatClampNeg then none else (ob1 (m_X7_at x1 x3 (0 : Int32)) (fun r12 => (if r12 < 0 ∨ 442 ≤ r12.toNatClampNeg then none else (if (mno r7.toNatClampNeg) = 0 then (if (mno r12.toNatClampNeg) ≤ 0 then (k_X7_howOf_40 mno (mno r7.toNatClampNeg) (mno r12.toNatClampNeg)) else some (1 : Int32)) else (k_X7_howOf_40 mno (mno r7.toNatClampNeg) (mno r12.toNatClampNeg))))))))) = some r0 := hm
  refine lv_aload_n hx hb dX7_howOf_0 rfl (lv_at hl 0 rfl) ?_
  refine va_get (D := D) (ci := 7) (v := .ref aMn) (C := RX7) (T := TX7) (N := 17) hx hb hts iw_X7 hown hK hP 0 rfl rfl 11 (by decide) (hts (.fieldLink RX7 64 "VarianceBridgeModel" "now" "[I") (by decide +kernel)) (fun _ h9 => h9) rfl dX7_howOf_1 ?_
  refine lv_iload_n hx hb dX7_howOf_4 rfl (lv_at hl 1 rfl) ?_
  refine lv_iload_n hx hb dX7_howOf_5 rfl (lv_at hl 2 rfl) ?_
  refine lv_iconst (v := (0 : Int32)) hx hb dX7_howOf_6 (by decide) ?_
  obtain ⟨r7, h7, hm7⟩ := ob1_e hm
  refine gcall_i (ws' := (w_Model cI cB cZ aM aMt aMn aMr aMs aMi mth mtd msz mto mfr mso mnu mfa mpl mwo msm mgo mt mno mre msn mis)) (va_runS (As := [.int x1, .int x2, .int (0 : Int32)]) (rest := [.ref aMn]) ⟨hx, hb, hml, hown, hts⟩ (c_X7_at l D cI cB cZ ta s.heap.size x1 x2 (0 : Int32) r7 h7) (va_cwS 3 hts gX7_howOf_X7_at rfl rfl rfl (by decide +kernel) ⟨(Nat.le_of_ble_eq_true rfl), (Nat.le_of_ble_eq_true rfl)⟩) ⟨PW_blind, PW_at hP hD hK hS hA hG [] rfl (by decide)⟩ rfl rfl hl.1 rfl (lv_room (Nat.le_of_ble_eq_true rfl)) dX7_howOf_7 ⟨(Nat.le_of_ble_eq_true rfl), (Nat.le_of_ble_eq_true rfl)⟩) hP hD hS hA [] [0, 1, 2, 3, 4, 5] [0, 1, 2, 3, 4, 5] rfl rfl (by decide) (by decide) (by decide) rfl (fun H8 lo8 hP8 hD8 hS8 => ?_)
  clear hP hD hS
  obtain ⟨c9, hm10⟩ := zz_no hm7
  refine va_iald hx hb hK hP8 2 0 rfl rfl c9 dX7_howOf_10 ?_
  refine lv_istore (lv' := [(4, .int (mno r7.toNatClampNeg)), (0, .ref aM), (1, .int x1), (2, .int x2), (3, .int x3)]) hx hb dX7_howOf_11 hl (by decide) rfl (fun ls11 hl11 => ?_)
  refine lv_aload_n hx hb dX7_howOf_13 rfl (lv_at hl11 1 rfl) ?_
  refine va_get (D := D) (ci := 7) (v := .ref aMn) (C := RX7) (T := TX7) (N := 17) hx hb hts iw_X7 hown hK hP8 0 rfl rfl 11 (by decide) (hts (.fieldLink RX7 64 "VarianceBridgeModel" "now" "[I") (by decide +kernel)) (fun _ h9 => h9) rfl dX7_howOf_14 ?_
  refine lv_iload_n hx hb dX7_howOf_17 rfl (lv_at hl11 2 rfl) ?_
  refine lv_iload_n hx hb dX7_howOf_18 rfl (lv_at hl11 4 rfl) ?_
  refine lv_iconst (v := (0 : Int32)) hx hb dX7_howOf_19 (by decide) ?_
  obtain ⟨r12, h12, hm12⟩ := ob1_e hm10
  refine gcall_i (ws' := (w_Model cI cB cZ aM aMt aMn aMr aMs aMi mth mtd msz mto mfr mso mnu mfa mpl mwo msm mgo mt mno mre msn mis)) (va_runS (As := [.int x1, .int x3, .int (0 : Int32)]) (rest := [.ref aMn]) ⟨hx, hb, hml, hown, hts⟩ (c_X7_at l D cI cB cZ ta H8.size x1 x3 (0 : Int32) r12 h12) (va_cwS 3 hts gX7_howOf_X7_at rfl rfl rfl (by decide +kernel) ⟨(Nat.le_of_ble_eq_true rfl), (Nat.le_of_ble_eq_true rfl)⟩) ⟨PW_blind, PW_at hP8 hD8 hK hS8 hA hG [] rfl (by decide)⟩ rfl rfl hl11.1 rfl (lv_room (Nat.le_of_ble_eq_true rfl)) dX7_howOf_20 ⟨(Nat.le_of_ble_eq_true rfl), (Nat.le_of_ble_eq_true rfl)⟩) hP8 hD8 hS8 hA [] [0, 1, 2, 3, 4, 5] [0, 1, 2, 3, 4, 5] rfl rfl (by decide) (by decide) (by decide) rfl (fun H13 lo13 hP13 hD13 hS13 => ?_)
  clear hP8 hD8 hS8
  obtain ⟨c14, hm15⟩ := zz_no hm12
  refine va_iald hx hb hK hP13 2 0 rfl rfl c14 dX7_howOf_23 ?_
  refine lv_istore (lv' := [(5, .int (mno r12.toNatClampNeg)), (4, .int (mno r7.toNatClampNeg)), (0, .ref aM), (1, .int x1), (2, .int x2), (3, .int x3)]) hx hb dX7_howOf_24 hl11 (by decide) rfl (fun ls16 hl16 => ?_)
  refine lv_iload hx hb dX7_howOf_26 (lv_at hl16 1 rfl) ?_
  refine lv_if_ne (tgt := 40) hx hb dX7_howOf_28 (by decide) (fun c17 => ?_) (fun c17 => ?_)
  · have hm18 := zz_nf c17 hm15
    exact hk_40 (mno r7.toNatClampNeg) (mno r12.toNatClampNeg) hm18 ls16 H13 lo13 (lv_sub hl16 [1, 0] rfl) hP13 hD13 hS13
  · have hm19 := zz_if c17 hm15
    refine lv_iload hx hb dX7_howOf_31 (lv_at hl16 0 rfl) ?_
    refine lv_if_le (tgt := 40) hx hb dX7_howOf_33 (by decide) (fun c20 => ?_) (fun c20 => ?_)
    · have hm21 := zz_if c20 hm19
      exact hk_40 (mno r7.toNatClampNeg) (mno r12.toNatClampNeg) hm21 ls16 H13 lo13 (lv_sub hl16 [1, 0] rfl) hP13 hD13 hS13
    · have hm22 := zz_nf c20 hm19
      refine lv_iconst (v := (1 : Int32)) hx hb dX7_howOf_36 (by decide) ?_
      refine lv_goto (tgt := 55) hx hb dX7_howOf_37 (by decide) ?_
      have hq1 := Option.some.inj hm22
      subst hq1
      exact W.iret hx hb hr (fun t ht hW => ⟨⟨_, (), rfl, rfl, by rw [ht]; exact hP13, va_K.moved hW.alike hK, hD13⟩, hS13.F ht⟩) hS13.2.2 dX7_howOf_55
theorem iw_X7_value_X7 : ∀ w ∈ wsX70, w ∈ wsX7_value := by decide +kernel
set_option maxHeartbeats 4000000 in
set_option maxRecDepth 100000 in
theorem c_X7_value (l : Launch) (D : va_G) (cI cB cZ : ClassId) (ta : Nat → Nat) (aM : Nat) (aMt : Nat) (aMn : Nat) (aMr : Nat) (aMs : Nat) (aMi : Nat) (sz : Nat) (mth : Int32) (mtd : Int32) (msz : Int32) (mto : Int32) (mfr : Int32) (mso : Int32) (mnu : Int32) (mfa : Int32) (mpl : Int32) (mwo : Int64) (msm : Int32) (mgo : Int32) (mt : (Nat → Int32)) (mno : (Nat → Int32)) (mre : (Nat → Int32)) (msn : (Nat → Int32)) (mis : (Nat → Int32)) (x1 : Int32) (x2 : Int32) (r0 : Int32) (u_mth : Int32) (hm : m_X7_value mth mno x1 x2 = some (r0, u_mth)) : Met l yX7_value wsX7_value ({ frames := 4, cells := 0, slots := 0, locals := 97 } : Room) (va_Pc [.ref aM, .int x1, .int x2] (PW D cI cB cZ ta (w_Model cI cB cZ aM aMt aMn aMr aMs aMi mth mtd msz mto mfr mso mnu mfa mpl mwo msm mgo mt mno mre msn mis) sz)) (QI D cI cB cZ (va_A (w_Model cI cB cZ aM aMt aMn aMr aMs aMi mth mtd msz mto mfr mso mnu mfa mpl mwo msm mgo mt mno mre msn mis) sz) (w_Model cI cB cZ aM aMt aMn aMr aMs aMi u_mth mtd msz mto mfr mso mnu mfa mpl mwo msm mgo mt mno mre msn mis) r0) 0 0 (va_A (w_Model cI cB cZ aM aMt aMn aMr aMs aMi mth mtd msz mto mfr mso mnu mfa mpl mwo msm mgo mt mno mre msn mis) sz) := by
  refine Met.ofW (cc := cX7_value) (maxL := 3) (ret := (some .int)) (by decide) rfl ?_
  intro p e s m args below meth c s₁ B hml hv
  obtain ⟨rfl, hsz, hP, hK, hD0, hG⟩ := hv
  have hx := B.exec
  have hb := B.bytes
  have hr := B.returns
  have hts := atoms_spec (ws := wsX7_value) B.pre
  have hown : s.vm.findClass RX7 = some m.cls := findClass_of_methodNamed B.named
  have hlocks := B.notSynchronized
  subst hsz
  have hD := hD0.self (sz := s.heap.size)
  clear hD0
  have hA0 : ∀ q : Nat, s.heap.size ≤ q → va_A (w_Model cI cB cZ aM aMt aMn aMr aMs aMi mth mtd msz mto mfr mso mnu mfa mpl mwo msm mgo mt mno mre msn mis) s.heap.size q := fun q h => Or.inr h
  generalize hAe : va_A (w_Model cI cB cZ aM aMt aMn aMr aMs aMi mth mtd msz mto mfr mso mnu mfa mpl mwo msm mgo mt mno mre msn mis) s.heap.size = A at hD hG hA0 ⊢
  have hA : ∀ q : Nat, s.heap.size ≤ q → A q := hA0
  clear hA0
  have hS : va_S A s.heap s.heap [] := va_S.rf
  have iw_X7 := iw_X7_value_X7
  have hl := lv_entry ([.ref aM, .int x1, .int x2]) (n := 3) (Nat.le_of_ble_eq_true rfl)
  rw [lg_entry_eq]
  generalize (lg_sl ([.ref aM, .int x1, .int x2]) ++ List.replicate (3 - (lg_sl ([.ref aM, .int x1, .int x2])).length) Slot.unset).toArray = ls at hl ⊢
  have hl : lv_has ls 3 [(0, .ref aM), (1, .int x1), (2, .int x2)] := hl
  replace hm : (ob1 (m_X7_isNode mno x1) (fun r2 => (if r2 = 0 then some ((-1000000000 : Int32), (0 : Int32)) else (ob1 (m_X7_isScene mno x2) (fun r7 => (if r7 = 0 then some ((-1000000000 : Int32), (0 : Int32)) else (ob1 (m_X7_valueIn mno x1 x2) (fun r12 => some (r12, (0 : Int32)))))))))) = some (r0, u_mth) := hm
  refine lv_aload_n hx hb dX7_value_0 rfl (lv_at hl 0 rfl) ?_
  refine lv_iconst (v := (0 : Int32)) hx hb dX7_value_1 (by decide) ?_
  refine va_put (D := D) (ci := 7) (v := .int (0 : Int32)) (ty := .int) (C := RX7) (T := TX7) (N := 17) hx hb hts iw_X7 tyX7 tyX7_ok nmX7 hown hK hP hD hS 0 rfl rfl 0 (by decide) (hts (.fieldLink RX7 1 "VarianceBridgeModel" "thrown" "I") (by decide +kernel)) (fun _ h9 => h9) rfl (by decide +kernel) rfl rfl (Nat.le_of_ble_eq_true rfl) dX7_value_2 (fun H1 lo1 hP1 hD1 hS1 => ?_)
  replace hP1 : va_P D vwCl (w_Model cI cB cZ aM aMt aMn aMr aMs aMi (0 : Int32) mtd msz mto mfr mso mnu mfa mpl mwo msm mgo mt mno mre msn mis) H1 := hP1
  replace hD1 : va_D A (w_Model cI cB cZ aM aMt aMn aMr aMs aMi (0 : Int32) mtd msz mto mfr mso mnu mfa mpl mwo msm mgo mt mno mre msn mis) := hD1
  clear hP hD hS
  refine lv_aload_n hx hb dX7_value_5 rfl (lv_at hl 0 rfl) ?_
  refine lv_iload_n hx hb dX7_value_6 rfl (lv_at hl 1 rfl) ?_
  obtain ⟨r2, h2, hm2⟩ := ob1_e hm
  refine gcall_b (ws' := (w_Model cI cB cZ aM aMt aMn aMr aMs aMi (0 : Int32) mtd msz mto mfr mso mnu mfa mpl mwo msm mgo mt mno mre msn mis)) (va_runV (As := [.int x1]) (rest := []) ⟨hx, hb, hml, hown, hts⟩ (c_X7_isNode l D cI cB cZ ta aM aMt aMn aMr aMs aMi H1.size (0 : Int32) mtd msz mto mfr mso mnu mfa mpl mwo msm mgo mt mno mre msn mis x1 r2 h2) (cwV 1 hts gX7_value_X7_isNode rfl rfl rfl (by decide +kernel) ⟨(Nat.le_of_ble_eq_true rfl), (Nat.le_of_ble_eq_true rfl)⟩) ⟨PW_blind, va_recv hK hP1 rfl (q0 := 0) rfl, PW_at hP1 hD1 hK hS1 hA hG [0, 1, 2, 3, 4, 5] rfl (by decide)⟩ rfl rfl hl.1 rfl (lv_room (Nat.le_of_ble_eq_true rfl)) dX7_value_7 ⟨(Nat.le_of_ble_eq_true rfl), (Nat.le_of_ble_eq_true rfl)⟩) hP1 hD1 hS1 hA [0, 1, 2, 3, 4, 5] [] [0, 1, 2, 3, 4, 5] rfl rfl (by decide) (by decide) (by decide) rfl (fun H3 lo3 hz2 hP3 hD3 hS3 => ?_)
  clear hP1 hD1 hS1
  refine lv_if_eq (tgt := 30) hx hb dX7_value_10 (by decide) (fun c4 => ?_) (fun c4 => ?_)
  · have hm5 := zz_if c4 hm2
    refine lv_ldc (v := (-1000000000 : Int32)) hx hb hown (hts (.constant RX7 193 (-1000000000)) (by decide +kernel)) dX7_value_30 ?_
    obtain ⟨hq1, hq2⟩ := Prod.mk.inj (Option.some.inj hm5)
    subst hq1
    subst hq2
    exact W.iret hx hb hr (fun t ht hW => ⟨⟨_, (), rfl, rfl, by rw [ht]; exact hP3, va_K.moved hW.alike hK, hD3⟩, hS3.F ht⟩) hS3.2.2 dX7_value_32
  · have hm6 := zz_nf c4 hm2
    refine lv_aload_n hx hb dX7_value_13 rfl (lv_at hl 0 rfl) ?_
    refine lv_iload_n hx hb dX7_value_14 rfl (lv_at hl 2 rfl) ?_
    obtain ⟨r7, h7, hm7⟩ := ob1_e hm6
    refine gcall_b (ws' := (w_Model cI cB cZ aM aMt aMn aMr aMs aMi (0 : Int32) mtd msz mto mfr mso mnu mfa mpl mwo msm mgo mt mno mre msn mis)) (va_runV (As := [.int x2]) (rest := []) ⟨hx, hb, hml, hown, hts⟩ (c_X7_isScene l D cI cB cZ ta aM aMt aMn aMr aMs aMi H3.size (0 : Int32) mtd msz mto mfr mso mnu mfa mpl mwo msm mgo mt mno mre msn mis x2 r7 h7) (cwV 1 hts gX7_value_X7_isScene rfl rfl rfl (by decide +kernel) ⟨(Nat.le_of_ble_eq_true rfl), (Nat.le_of_ble_eq_true rfl)⟩) ⟨PW_blind, va_recv hK hP3 rfl (q0 := 0) rfl, PW_at hP3 hD3 hK hS3 hA hG [0, 1, 2, 3, 4, 5] rfl (by decide)⟩ rfl rfl hl.1 rfl (lv_room (Nat.le_of_ble_eq_true rfl)) dX7_value_15 ⟨(Nat.le_of_ble_eq_true rfl), (Nat.le_of_ble_eq_true rfl)⟩) hP3 hD3 hS3 hA [0, 1, 2, 3, 4, 5] [] [0, 1, 2, 3, 4, 5] rfl rfl (by decide) (by decide) (by decide) rfl (fun H8 lo8 hz7 hP8 hD8 hS8 => ?_)
    clear hP3 hD3 hS3
    refine lv_if_eq (tgt := 30) hx hb dX7_value_18 (by decide) (fun c9 => ?_) (fun c9 => ?_)
    · have hm10 := zz_if c9 hm7
      refine lv_ldc (v := (-1000000000 : Int32)) hx hb hown (hts (.constant RX7 193 (-1000000000)) (by decide +kernel)) dX7_value_30 ?_
      obtain ⟨hq1, hq2⟩ := Prod.mk.inj (Option.some.inj hm10)
      subst hq1
      subst hq2
      exact W.iret hx hb hr (fun t ht hW => ⟨⟨_, (), rfl, rfl, by rw [ht]; exact hP8, va_K.moved hW.alike hK, hD8⟩, hS8.F ht⟩) hS8.2.2 dX7_value_32
    · have hm11 := zz_nf c9 hm7
      refine lv_aload_n hx hb dX7_value_21 rfl (lv_at hl 0 rfl) ?_
      refine lv_iload_n hx hb dX7_value_22 rfl (lv_at hl 1 rfl) ?_
      refine lv_iload_n hx hb dX7_value_23 rfl (lv_at hl 2 rfl) ?_
      obtain ⟨r12, h12, hm12⟩ := ob1_e hm11
      refine gcall_i (ws' := (w_Model cI cB cZ aM aMt aMn aMr aMs aMi (0 : Int32) mtd msz mto mfr mso mnu mfa mpl mwo msm mgo mt mno mre msn mis)) (va_runV (As := [.int x1, .int x2]) (rest := []) ⟨hx, hb, hml, hown, hts⟩ (c_X7_valueIn l D cI cB cZ ta aM aMt aMn aMr aMs aMi H8.size (0 : Int32) mtd msz mto mfr mso mnu mfa mpl mwo msm mgo mt mno mre msn mis x1 x2 r12 h12) (cwV 2 hts gX7_value_X7_valueIn rfl rfl rfl (by decide +kernel) ⟨(Nat.le_of_ble_eq_true rfl), (Nat.le_of_ble_eq_true rfl)⟩) ⟨PW_blind, va_recv hK hP8 rfl (q0 := 0) rfl, PW_at hP8 hD8 hK hS8 hA hG [0, 1, 2, 3, 4, 5] rfl (by decide)⟩ rfl rfl hl.1 rfl (lv_room (Nat.le_of_ble_eq_true rfl)) dX7_value_24 ⟨(Nat.le_of_ble_eq_true rfl), (Nat.le_of_ble_eq_true rfl)⟩) hP8 hD8 hS8 hA [0, 1, 2, 3, 4, 5] [] [0, 1, 2, 3, 4, 5] rfl rfl (by decide) (by decide) (by decide) rfl (fun H13 lo13 hP13 hD13 hS13 => ?_)
      clear hP8 hD8 hS8
      refine lv_goto (tgt := 32) hx hb dX7_value_27 (by decide) ?_
      obtain ⟨hq1, hq2⟩ := Prod.mk.inj (Option.some.inj hm12)
      subst hq1
      subst hq2
      exact W.iret hx hb hr (fun t ht hW => ⟨⟨_, (), rfl, rfl, by rw [ht]; exact hP13, va_K.moved hW.alike hK, hD13⟩, hS13.F ht⟩) hS13.2.2 dX7_value_32
theorem iw_X7_how_X7 : ∀ w ∈ wsX70, w ∈ wsX7_how := by decide +kernel
set_option maxHeartbeats 4000000 in
set_option maxRecDepth 100000 in
theorem c_X7_how (l : Launch) (D : va_G) (cI cB cZ : ClassId) (ta : Nat → Nat) (aM : Nat) (aMt : Nat) (aMn : Nat) (aMr : Nat) (aMs : Nat) (aMi : Nat) (sz : Nat) (mth : Int32) (mtd : Int32) (msz : Int32) (mto : Int32) (mfr : Int32) (mso : Int32) (mnu : Int32) (mfa : Int32) (mpl : Int32) (mwo : Int64) (msm : Int32) (mgo : Int32) (mt : (Nat → Int32)) (mno : (Nat → Int32)) (mre : (Nat → Int32)) (msn : (Nat → Int32)) (mis : (Nat → Int32)) (x1 : Int32) (x2 : Int32) (x3 : Int32) (r0 : Int32) (u_mth : Int32) (hm : m_X7_how mth mno x1 x2 x3 = some (r0, u_mth)) : Met l yX7_how wsX7_how ({ frames := 3, cells := 0, slots := 0, locals := 65 } : Room) (va_Pc [.ref aM, .int x1, .int x2, .int x3] (PW D cI cB cZ ta (w_Model cI cB cZ aM aMt aMn aMr aMs aMi mth mtd msz mto mfr mso mnu mfa mpl mwo msm mgo mt mno mre msn mis) sz)) (QI D cI cB cZ (va_A (w_Model cI cB cZ aM aMt aMn aMr aMs aMi mth mtd msz mto mfr mso mnu mfa mpl mwo msm mgo mt mno mre msn mis) sz) (w_Model cI cB cZ aM aMt aMn aMr aMs aMi u_mth mtd msz mto mfr mso mnu mfa mpl mwo msm mgo mt mno mre msn mis) r0) 0 0 (va_A (w_Model cI cB cZ aM aMt aMn aMr aMs aMi mth mtd msz mto mfr mso mnu mfa mpl mwo msm mgo mt mno mre msn mis) sz) := by
  refine Met.ofW (cc := cX7_how) (maxL := 4) (ret := (some .int)) (by decide) rfl ?_
  intro p e s m args below meth c s₁ B hml hv
  obtain ⟨rfl, hsz, hP, hK, hD0, hG⟩ := hv
  have hx := B.exec
  have hb := B.bytes
  have hr := B.returns
  have hts := atoms_spec (ws := wsX7_how) B.pre
  have hown : s.vm.findClass RX7 = some m.cls := findClass_of_methodNamed B.named
  have hlocks := B.notSynchronized
  subst hsz
  have hD := hD0.self (sz := s.heap.size)
  clear hD0
  have hA0 : ∀ q : Nat, s.heap.size ≤ q → va_A (w_Model cI cB cZ aM aMt aMn aMr aMs aMi mth mtd msz mto mfr mso mnu mfa mpl mwo msm mgo mt mno mre msn mis) s.heap.size q := fun q h => Or.inr h
  generalize hAe : va_A (w_Model cI cB cZ aM aMt aMn aMr aMs aMi mth mtd msz mto mfr mso mnu mfa mpl mwo msm mgo mt mno mre msn mis) s.heap.size = A at hD hG hA0 ⊢
  have hA : ∀ q : Nat, s.heap.size ≤ q → A q := hA0
  clear hA0
  have hS : va_S A s.heap s.heap [] := va_S.rf
  have iw_X7 := iw_X7_how_X7
  have hl := lv_entry ([.ref aM, .int x1, .int x2, .int x3]) (n := 4) (Nat.le_of_ble_eq_true rfl)
  rw [lg_entry_eq]
  generalize (lg_sl ([.ref aM, .int x1, .int x2, .int x3]) ++ List.replicate (4 - (lg_sl ([.ref aM, .int x1, .int x2, .int x3])).length) Slot.unset).toArray = ls at hl ⊢
  have hl : lv_has ls 4 [(0, .ref aM), (1, .int x1), (2, .int x2), (3, .int x3)] := hl
  replace hm : (ob1 (m_X7_isLeaf mno x1) (fun r2 => (if r2 = 0 then some ((-1 : Int32), (0 : Int32)) else (ob1 (m_X7_areScenes mno x2 x3) (fun r7 => (if r7 = 0 then some ((-1 : Int32), (0 : Int32)) else (ob1 (m_X7_howOf mno x1 x2 x3) (fun r12 => some (r12, (0 : Int32)))))))))) = some (r0, u_mth) := hm
  refine lv_aload_n hx hb dX7_how_0 rfl (lv_at hl 0 rfl) ?_
  refine lv_iconst (v := (0 : Int32)) hx hb dX7_how_1 (by decide) ?_
  refine va_put (D := D) (ci := 7) (v := .int (0 : Int32)) (ty := .int) (C := RX7) (T := TX7) (N := 17) hx hb hts iw_X7 tyX7 tyX7_ok nmX7 hown hK hP hD hS 0 rfl rfl 0 (by decide) (hts (.fieldLink RX7 1 "VarianceBridgeModel" "thrown" "I") (by decide +kernel)) (fun _ h9 => h9) rfl (by decide +kernel) rfl rfl (Nat.le_of_ble_eq_true rfl) dX7_how_2 (fun H1 lo1 hP1 hD1 hS1 => ?_)
  replace hP1 : va_P D vwCl (w_Model cI cB cZ aM aMt aMn aMr aMs aMi (0 : Int32) mtd msz mto mfr mso mnu mfa mpl mwo msm mgo mt mno mre msn mis) H1 := hP1
  replace hD1 : va_D A (w_Model cI cB cZ aM aMt aMn aMr aMs aMi (0 : Int32) mtd msz mto mfr mso mnu mfa mpl mwo msm mgo mt mno mre msn mis) := hD1
  clear hP hD hS
  refine lv_aload_n hx hb dX7_how_5 rfl (lv_at hl 0 rfl) ?_
  refine lv_iload_n hx hb dX7_how_6 rfl (lv_at hl 1 rfl) ?_
  obtain ⟨r2, h2, hm2⟩ := ob1_e hm
  refine gcall_b (ws' := (w_Model cI cB cZ aM aMt aMn aMr aMs aMi (0 : Int32) mtd msz mto mfr mso mnu mfa mpl mwo msm mgo mt mno mre msn mis)) (va_runV (As := [.int x1]) (rest := []) ⟨hx, hb, hml, hown, hts⟩ (c_X7_isLeaf l D cI cB cZ ta aM aMt aMn aMr aMs aMi H1.size (0 : Int32) mtd msz mto mfr mso mnu mfa mpl mwo msm mgo mt mno mre msn mis x1 r2 h2) (cwV 1 hts gX7_how_X7_isLeaf rfl rfl rfl (by decide +kernel) ⟨(Nat.le_of_ble_eq_true rfl), (Nat.le_of_ble_eq_true rfl)⟩) ⟨PW_blind, va_recv hK hP1 rfl (q0 := 0) rfl, PW_at hP1 hD1 hK hS1 hA hG [0, 1, 2, 3, 4, 5] rfl (by decide)⟩ rfl rfl hl.1 rfl (lv_room (Nat.le_of_ble_eq_true rfl)) dX7_how_7 ⟨(Nat.le_of_ble_eq_true rfl), (Nat.le_of_ble_eq_true rfl)⟩) hP1 hD1 hS1 hA [0, 1, 2, 3, 4, 5] [] [0, 1, 2, 3, 4, 5] rfl rfl (by decide) (by decide) (by decide) rfl (fun H3 lo3 hz2 hP3 hD3 hS3 => ?_)
  clear hP1 hD1 hS1
  refine lv_if_eq (tgt := 32) hx hb dX7_how_10 (by decide) (fun c4 => ?_) (fun c4 => ?_)
  · have hm5 := zz_if c4 hm2
    refine lv_iconst (v := (-1 : Int32)) hx hb dX7_how_32 (by decide) ?_
    obtain ⟨hq1, hq2⟩ := Prod.mk.inj (Option.some.inj hm5)
    subst hq1
    subst hq2
    exact W.iret hx hb hr (fun t ht hW => ⟨⟨_, (), rfl, rfl, by rw [ht]; exact hP3, va_K.moved hW.alike hK, hD3⟩, hS3.F ht⟩) hS3.2.2 dX7_how_33
  · have hm6 := zz_nf c4 hm2
    refine lv_aload_n hx hb dX7_how_13 rfl (lv_at hl 0 rfl) ?_
    refine lv_iload_n hx hb dX7_how_14 rfl (lv_at hl 2 rfl) ?_
    refine lv_iload_n hx hb dX7_how_15 rfl (lv_at hl 3 rfl) ?_
    obtain ⟨r7, h7, hm7⟩ := ob1_e hm6
    refine gcall_b (ws' := (w_Model cI cB cZ aM aMt aMn aMr aMs aMi (0 : Int32) mtd msz mto mfr mso mnu mfa mpl mwo msm mgo mt mno mre msn mis)) (va_runV (As := [.int x2, .int x3]) (rest := []) ⟨hx, hb, hml, hown, hts⟩ (c_X7_areScenes l D cI cB cZ ta aM aMt aMn aMr aMs aMi H3.size (0 : Int32) mtd msz mto mfr mso mnu mfa mpl mwo msm mgo mt mno mre msn mis x2 x3 r7 h7) (cwV 2 hts gX7_how_X7_areScenes rfl rfl rfl (by decide +kernel) ⟨(Nat.le_of_ble_eq_true rfl), (Nat.le_of_ble_eq_true rfl)⟩) ⟨PW_blind, va_recv hK hP3 rfl (q0 := 0) rfl, PW_at hP3 hD3 hK hS3 hA hG [0, 1, 2, 3, 4, 5] rfl (by decide)⟩ rfl rfl hl.1 rfl (lv_room (Nat.le_of_ble_eq_true rfl)) dX7_how_16 ⟨(Nat.le_of_ble_eq_true rfl), (Nat.le_of_ble_eq_true rfl)⟩) hP3 hD3 hS3 hA [0, 1, 2, 3, 4, 5] [] [0, 1, 2, 3, 4, 5] rfl rfl (by decide) (by decide) (by decide) rfl (fun H8 lo8 hz7 hP8 hD8 hS8 => ?_)
    clear hP3 hD3 hS3
    refine lv_if_eq (tgt := 32) hx hb dX7_how_19 (by decide) (fun c9 => ?_) (fun c9 => ?_)
    · have hm10 := zz_if c9 hm7
      refine lv_iconst (v := (-1 : Int32)) hx hb dX7_how_32 (by decide) ?_
      obtain ⟨hq1, hq2⟩ := Prod.mk.inj (Option.some.inj hm10)
      subst hq1
      subst hq2
      exact W.iret hx hb hr (fun t ht hW => ⟨⟨_, (), rfl, rfl, by rw [ht]; exact hP8, va_K.moved hW.alike hK, hD8⟩, hS8.F ht⟩) hS8.2.2 dX7_how_33
    · have hm11 := zz_nf c9 hm7
      refine lv_aload_n hx hb dX7_how_22 rfl (lv_at hl 0 rfl) ?_
      refine lv_iload_n hx hb dX7_how_23 rfl (lv_at hl 1 rfl) ?_
      refine lv_iload_n hx hb dX7_how_24 rfl (lv_at hl 2 rfl) ?_
      refine lv_iload_n hx hb dX7_how_25 rfl (lv_at hl 3 rfl) ?_
      obtain ⟨r12, h12, hm12⟩ := ob1_e hm11
      refine gcall_i (ws' := (w_Model cI cB cZ aM aMt aMn aMr aMs aMi (0 : Int32) mtd msz mto mfr mso mnu mfa mpl mwo msm mgo mt mno mre msn mis)) (va_runV (As := [.int x1, .int x2, .int x3]) (rest := []) ⟨hx, hb, hml, hown, hts⟩ (c_X7_howOf l D cI cB cZ ta aM aMt aMn aMr aMs aMi H8.size (0 : Int32) mtd msz mto mfr mso mnu mfa mpl mwo msm mgo mt mno mre msn mis x1 x2 x3 r12 h12) (cwV 3 hts gX7_how_X7_howOf rfl rfl rfl (by decide +kernel) ⟨(Nat.le_of_ble_eq_true rfl), (Nat.le_of_ble_eq_true rfl)⟩) ⟨PW_blind, va_recv hK hP8 rfl (q0 := 0) rfl, PW_at hP8 hD8 hK hS8 hA hG [0, 1, 2, 3, 4, 5] rfl (by decide)⟩ rfl rfl hl.1 rfl (lv_room (Nat.le_of_ble_eq_true rfl)) dX7_how_26 ⟨(Nat.le_of_ble_eq_true rfl), (Nat.le_of_ble_eq_true rfl)⟩) hP8 hD8 hS8 hA [0, 1, 2, 3, 4, 5] [] [0, 1, 2, 3, 4, 5] rfl rfl (by decide) (by decide) (by decide) rfl (fun H13 lo13 hP13 hD13 hS13 => ?_)
      clear hP8 hD8 hS8
      refine lv_goto (tgt := 33) hx hb dX7_how_29 (by decide) ?_
      obtain ⟨hq1, hq2⟩ := Prod.mk.inj (Option.some.inj hm12)
      subst hq1
      subst hq2
      exact W.iret hx hb hr (fun t ht hW => ⟨⟨_, (), rfl, rfl, by rw [ht]; exact hP13, va_K.moved hW.alike hK, hD13⟩, hS13.F ht⟩) hS13.2.2 dX7_how_33
set_option maxHeartbeats 4000000 in
set_option maxRecDepth 100000 in
theorem c_X7_factorAt (l : Launch) (D : va_G) (cI cB cZ : ClassId) (ta : Nat → Nat) (sz : Nat) (x1 : Int32) (x2 : Int32) (r0 : Int32) (hm : m_X7_factorAt x1 x2 = some r0) : Met l yX7_factorAt wsX7_factorAt ({ frames := 0, cells := 0, slots := 0, locals := 0 } : Room) (va_Pc [.int x1, .int x2] (PW D cI cB cZ ta (w_none cI cB cZ) sz)) (QI D cI cB cZ (va_A (w_none cI cB cZ) sz) (w_none cI cB cZ) r0) 0 0 (va_A (w_none cI cB cZ) sz) := by
  refine Met.ofW (cc := cX7_factorAt) (maxL := 8) (ret := (some .int)) (by decide) rfl ?_
  intro p e s m args below meth c s₁ B hml hv
  obtain ⟨rfl, hsz, hP, hK, hD0, hG⟩ := hv
  have hx := B.exec
  have hb := B.bytes
  have hr := B.returns
  have hts := atoms_spec (ws := wsX7_factorAt) B.pre
  have hown : s.vm.findClass RX7 = some m.cls := findClass_of_methodNamed B.named
  have hlocks := B.notSynchronized
  subst hsz
  have hD := hD0.self (sz := s.heap.size)
  clear hD0
  have hA0 : ∀ q : Nat, s.heap.size ≤ q → va_A (w_none cI cB cZ) s.heap.size q := fun q h => Or.inr h
  generalize hAe : va_A (w_none cI cB cZ) s.heap.size = A at hD hG hA0 ⊢
  have hA : ∀ q : Nat, s.heap.size ≤ q → A q := hA0
  clear hA0
  have hS : va_S A s.heap s.heap [] := va_S.rf
  have hk_46 : ∀ (ct12 : Int32 → Int32 → Int32 → Int32 → Int32 → Option (Int32)) (hct12 : ∀ (y1 : Int32) (y2 : Int32) (y3 : Int32) (y4 : Int32) (y5 : Int32), ct12 y1 y2 y3 y4 y5 = some r0 → ∀ (ls : Array Slot) (H : Heap) (lo : List Loc), lv_has ls 8 [(1, .int y1), (2, .int y2), (3, .int y3), (4, .int y4), (5, .int y5)] → va_P D vwCl (w_none cI cB cZ) H → va_D A (w_none cI cB cZ) → va_S A s.heap H lo → W p l e (headSpec wsX7_factorAt ({ frames := 0, cells := 0, slots := 0, locals := 0 } : Room)).room s m (([.int x1, .int x2] : List Value).toArray) below meth c H lo 0 0 (MQ below (QI D cI cB cZ A (w_none cI cB cZ) r0) (([.int x1, .int x2] : List Value).toArray) s 0 0 A) (F0 m 12 ls [])) (ct32 : Int32 → Int32 → Int32 → Int32 → Int32 → Int32 → Int32 → Option (Int32)) (hct32 : ∀ (y1 : Int32) (y2 : Int32) (y3 : Int32) (y4 : Int32) (y5 : Int32) (y6 : Int32) (y7 : Int32), ct32 y1 y2 y3 y4 y5 y6 y7 = some r0 → ∀ (ls : Array Slot) (H : Heap) (lo : List Loc), lv_has ls 8 [(1, .int y1), (2, .int y2), (3, .int y3), (4, .int y4), (5, .int y5), (6, .int y6), (7, .int y7)] → va_P D vwCl (w_none cI cB cZ) H → va_D A (w_none cI cB cZ) → va_S A s.heap H lo → W p l e (headSpec wsX7_factorAt ({ frames := 0, cells := 0, slots := 0, locals := 0 } : Room)).room s m (([.int x1, .int x2] : List Value).toArray) below meth c H lo 0 0 (MQ below (QI D cI cB cZ A (w_none cI cB cZ) r0) (([.int x1, .int x2] : List Value).toArray) s 0 0 A) (F0 m 32 ls [])) (y1 : Int32) (y2 : Int32) (y3 : Int32) (y4 : Int32) (y5 : Int32) (y6 : Int32) (y7 : Int32), k_X7_factorAt_46 ct12 ct32 y1 y2 y3 y4 y5 y6 y7 = some r0 → ∀ (ls : Array Slot) (H : Heap) (lo : List Loc), lv_has ls 8 [(1, .int y1), (2, .int y2), (3, .int y3), (4, .int y4), (5, .int y5), (6, .int y6), (7, .int y7)] → va_P D vwCl (w_none cI cB cZ) H → va_D A (w_none cI cB cZ) → va_S A s.heap H lo → W p l e (headSpec wsX7_factorAt ({ frames := 0, cells := 0, slots := 0, locals := 0 } : Room)).room s m (([.int x1, .int x2] : List Value).toArray) below meth c H lo 0 0 (MQ below (QI D cI cB cZ A (w_none cI cB cZ) r0) (([.int x1, .int x2] : List Value).toArray) s 0 0 A) (F0 m 46 ls []) := by
    intro ct12 hct12 ct32 hct32 y1 y2 y3 y4 y5 y6 y7 hm ls H lo hl hP hD hS
    replace hm : (if ((y2 >>> (y7 &&& 31)) &&& (1 : Int32)) = (1 : Int32) then (ct32 y1 y2 y3 y4 y5 (y6 + (-1 : Int32)) (y7 + (1 : Int32))) else (ct32 y1 y2 y3 y4 y5 y6 (y7 + (1 : Int32)))) = some r0 := hm
    refine lv_iload_n hx hb dX7_factorAt_46 rfl (lv_at hl 1 rfl) ?_
    refine lv_iload hx hb dX7_factorAt_47 (lv_at hl 6 rfl) ?_
    refine lv_ishr hx hb dX7_factorAt_49 ?_
    refine lv_iconst (v := (1 : Int32)) hx hb dX7_factorAt_50 (by decide) ?_
    refine lv_iand hx hb dX7_factorAt_51 ?_
    refine lv_iconst (v := (1 : Int32)) hx hb dX7_factorAt_52 (by decide) ?_
    refine lv_icmp_ne (tgt := 59) hx hb dX7_factorAt_53 (by decide) (fun c1 => ?_) (fun c1 => ?_)
    · have hm2 := zz_nf c1 hm
      refine lv_iinc (v := (y7 + (1 : Int32))) (lv' := [(7, .int (y7 + (1 : Int32))), (1, .int y1), (2, .int y2), (3, .int y3), (4, .int y4), (5, .int y5), (6, .int y6)]) hx hb dX7_factorAt_59 hl (k := 6) rfl (by rfl) (by decide) rfl (fun ls4 hl4 => ?_)
      refine lv_goto (tgt := 32) hx hb dX7_factorAt_62 (by decide) ?_
      exact hct32 y1 y2 y3 y4 y5 y6 (y7 + (1 : Int32)) hm2 ls4 H lo (lv_sub hl4 [1, 2, 3, 4, 5, 6, 0] rfl) hP hD hS
    · have hm3 := zz_if c1 hm
      refine lv_iinc (v := (y6 + (-1 : Int32))) (lv' := [(6, .int (y6 + (-1 : Int32))), (1, .int y1), (2, .int y2), (3, .int y3), (4, .int y4), (5, .int y5), (7, .int y7)]) hx hb dX7_factorAt_56 hl (k := 5) rfl (by rfl) (by decide) rfl (fun ls5 hl5 => ?_)
      refine lv_iinc (v := (y7 + (1 : Int32))) (lv' := [(7, .int (y7 + (1 : Int32))), (6, .int (y6 + (-1 : Int32))), (1, .int y1), (2, .int y2), (3, .int y3), (4, .int y4), (5, .int y5)]) hx hb dX7_factorAt_59 hl5 (k := 6) rfl (by rfl) (by decide) rfl (fun ls6 hl6 => ?_)
      refine lv_goto (tgt := 32) hx hb dX7_factorAt_62 (by decide) ?_
      exact hct32 y1 y2 y3 y4 y5 (y6 + (-1 : Int32)) (y7 + (1 : Int32)) hm3 ls6 H lo (lv_sub hl6 [2, 3, 4, 5, 6, 1, 0] rfl) hP hD hS
  have hk_98 : ∀ (ct12 : Int32 → Int32 → Int32 → Int32 → Int32 → Option (Int32)) (hct12 : ∀ (y1 : Int32) (y2 : Int32) (y3 : Int32) (y4 : Int32) (y5 : Int32), ct12 y1 y2 y3 y4 y5 = some r0 → ∀ (ls : Array Slot) (H : Heap) (lo : List Loc), lv_has ls 8 [(1, .int y1), (2, .int y2), (3, .int y3), (4, .int y4), (5, .int y5)] → va_P D vwCl (w_none cI cB cZ) H → va_D A (w_none cI cB cZ) → va_S A s.heap H lo → W p l e (headSpec wsX7_factorAt ({ frames := 0, cells := 0, slots := 0, locals := 0 } : Room)).room s m (([.int x1, .int x2] : List Value).toArray) below meth c H lo 0 0 (MQ below (QI D cI cB cZ A (w_none cI cB cZ) r0) (([.int x1, .int x2] : List Value).toArray) s 0 0 A) (F0 m 12 ls [])) (y1 : Int32) (y2 : Int32) (y3 : Int32) (y5 : Int32) (z0 : Int32), k_X7_factorAt_98 ct12 y1 y2 y3 y5 z0 = some r0 → ∀ (ls : Array Slot) (H : Heap) (lo : List Loc), lv_has ls 8 [(1, .int y1), (2, .int y2), (3, .int y3), (5, .int y5)] → va_P D vwCl (w_none cI cB cZ) H → va_D A (w_none cI cB cZ) → va_S A s.heap H lo → W p l e (headSpec wsX7_factorAt ({ frames := 0, cells := 0, slots := 0, locals := 0 } : Room)).room s m (([.int x1, .int x2] : List Value).toArray) below meth c H lo 0 0 (MQ below (QI D cI cB cZ A (w_none cI cB cZ) r0) (([.int x1, .int x2] : List Value).toArray) s 0 0 A) (F0 m 98 ls [.int z0]) := by
    intro ct12 hct12 y1 y2 y3 y5 z0 hm ls H lo hl hP hD hS
    replace hm : (ct12 y1 y2 y3 z0 (y5 + (1 : Int32))) = some r0 := hm
    refine lv_istore (lv' := [(4, .int z0), (1, .int y1), (2, .int y2), (3, .int y3), (5, .int y5)]) hx hb dX7_factorAt_98 hl (by decide) rfl (fun ls7 hl7 => ?_)
    refine lv_iinc (v := (y5 + (1 : Int32))) (lv' := [(5, .int (y5 + (1 : Int32))), (4, .int z0), (1, .int y1), (2, .int y2), (3, .int y3)]) hx hb dX7_factorAt_100 hl7 (k := 4) rfl (by rfl) (by decide) rfl (fun ls8 hl8 => ?_)
    refine lv_goto (tgt := 12) hx hb dX7_factorAt_103 (by decide) ?_
    exact hct12 y1 y2 y3 z0 (y5 + (1 : Int32)) hm ls8 H lo (lv_sub hl8 [2, 3, 4, 1, 0] rfl) hP hD hS
  have hk_32 : ∀ (ct12 : Int32 → Int32 → Int32 → Int32 → Int32 → Option (Int32)) (hct12 : ∀ (y1 : Int32) (y2 : Int32) (y3 : Int32) (y4 : Int32) (y5 : Int32), ct12 y1 y2 y3 y4 y5 = some r0 → ∀ (ls : Array Slot) (H : Heap) (lo : List Loc), lv_has ls 8 [(1, .int y1), (2, .int y2), (3, .int y3), (4, .int y4), (5, .int y5)] → va_P D vwCl (w_none cI cB cZ) H → va_D A (w_none cI cB cZ) → va_S A s.heap H lo → W p l e (headSpec wsX7_factorAt ({ frames := 0, cells := 0, slots := 0, locals := 0 } : Room)).room s m (([.int x1, .int x2] : List Value).toArray) below meth c H lo 0 0 (MQ below (QI D cI cB cZ A (w_none cI cB cZ) r0) (([.int x1, .int x2] : List Value).toArray) s 0 0 A) (F0 m 12 ls [])) (n : Nat) (y1 : Int32) (y2 : Int32) (y3 : Int32) (y4 : Int32) (y5 : Int32) (y6 : Int32) (y7 : Int32), k_X7_factorAt_32 ct12 n y1 y2 y3 y4 y5 y6 y7 = some r0 → ∀ (ls : Array Slot) (H : Heap) (lo : List Loc), lv_has ls 8 [(1, .int y1), (2, .int y2), (3, .int y3), (4, .int y4), (5, .int y5), (6, .int y6), (7, .int y7)] → va_P D vwCl (w_none cI cB cZ) H → va_D A (w_none cI cB cZ) → va_S A s.heap H lo → W p l e (headSpec wsX7_factorAt ({ frames := 0, cells := 0, slots := 0, locals := 0 } : Room)).room s m (([.int x1, .int x2] : List Value).toArray) below meth c H lo 0 0 (MQ below (QI D cI cB cZ A (w_none cI cB cZ) r0) (([.int x1, .int x2] : List Value).toArray) s 0 0 A) (F0 m 32 ls []) := by
    intro ct12 hct12 n
    induction n with
    | zero => intro y1 y2 y3 y4 y5 y6 y7 hm; exact zz_nn hm
    | succ n ih =>
      intro y1 y2 y3 y4 y5 y6 y7 hm ls H lo hl hP hD hS
      replace hm := (k_X7_factorAt_32_s ct12 n y1 y2 y3 y4 y5 y6 y7).symm.trans hm
      refine lv_iload_n hx hb dX7_factorAt_32 rfl (lv_at hl 1 rfl) ?_
      refine lv_iload hx hb dX7_factorAt_33 (lv_at hl 6 rfl) ?_
      refine lv_ishr hx hb dX7_factorAt_35 ?_
      refine lv_iconst (v := (1 : Int32)) hx hb dX7_factorAt_36 (by decide) ?_
      refine lv_iand hx hb dX7_factorAt_37 ?_
      refine lv_if_eq (tgt := 46) hx hb dX7_factorAt_38 (by decide) (fun c9 => ?_) (fun c9 => ?_)
      · have hm10 := zz_if c9 hm
        exact hk_46 ct12 hct12 (k_X7_factorAt_32 ct12 n) ih y1 y2 y3 y4 y5 y6 y7 hm10 ls H lo (lv_sub hl [0, 1, 2, 3, 4, 5, 6] rfl) hP hD hS
      · have hm11 := zz_nf c9 hm
        refine lv_iload hx hb dX7_factorAt_41 (lv_at hl 5 rfl) ?_
        refine lv_if_le (tgt := 65) hx hb dX7_factorAt_43 (by decide) (fun c12 => ?_) (fun c12 => ?_)
        · have hm13 := zz_if c12 hm11
          refine lv_iload hx hb dX7_factorAt_65 (lv_at hl 4 rfl) ?_
          refine lv_iload_n hx hb dX7_factorAt_67 rfl (lv_at hl 0 rfl) ?_
          refine lv_icmp_ne (tgt := 74) hx hb dX7_factorAt_68 (by decide) (fun c15 => ?_) (fun c15 => ?_)
          · have hm16 := zz_nf c15 hm13
            refine lv_iload_n hx hb dX7_factorAt_74 rfl (lv_at hl 1 rfl) ?_
            refine lv_iconst (v := (1 : Int32)) hx hb dX7_factorAt_75 (by decide) ?_
            refine lv_iload hx hb dX7_factorAt_76 (lv_at hl 6 rfl) ?_
            refine lv_ishl hx hb dX7_factorAt_78 ?_
            refine lv_ixor hx hb dX7_factorAt_79 ?_
            refine lv_istore_n (lv' := [(2, .int (y2 ^^^ ((1 : Int32) <<< (y7 &&& 31)))), (1, .int y1), (3, .int y3), (4, .int y4), (5, .int y5), (6, .int y6), (7, .int y7)]) hx hb dX7_factorAt_80 rfl hl (by decide) rfl (fun ls18 hl18 => ?_)
            refine lv_iload hx hb dX7_factorAt_81 (lv_at hl18 4 rfl) ?_
            refine lv_iconst (v := (3 : Int32)) hx hb dX7_factorAt_83 (by decide) ?_
            refine lv_icmp_ne (tgt := 91) hx hb dX7_factorAt_84 (by decide) (fun c19 => ?_) (fun c19 => ?_)
            · have hm20 := zz_nf c19 hm16
              refine lv_iload hx hb dX7_factorAt_91 (lv_at hl18 3 rfl) ?_
              refine lv_iconst (v := (4 : Int32)) hx hb dX7_factorAt_93 (by decide) ?_
              refine lv_iload hx hb dX7_factorAt_94 (lv_at hl18 4 rfl) ?_
              refine lv_isub hx hb dX7_factorAt_96 ?_
              obtain ⟨c22, hm23⟩ := zz_no hm20
              refine lv_idiv hx hb dX7_factorAt_97 c22 ?_
              exact hk_98 ct12 hct12 y1 (y2 ^^^ ((1 : Int32) <<< (y7 &&& 31))) y3 y5 (y4 / ((4 : Int32) - y5)) hm23 ls18 H lo (lv_sub hl18 [1, 0, 2, 4] rfl) hP hD hS
            · have hm21 := zz_if c19 hm16
              refine lv_iconst (v := (1 : Int32)) hx hb dX7_factorAt_87 (by decide) ?_
              refine lv_goto (tgt := 98) hx hb dX7_factorAt_88 (by decide) ?_
              exact hk_98 ct12 hct12 y1 (y2 ^^^ ((1 : Int32) <<< (y7 &&& 31))) y3 y5 (1 : Int32) hm21 ls18 H lo (lv_sub hl18 [1, 0, 2, 4] rfl) hP hD hS
          · have hm17 := zz_if c15 hm13
            refine lv_iload hx hb dX7_factorAt_71 (lv_at hl 6 rfl) ?_
            have hq1 := Option.some.inj hm17
            subst hq1
            exact W.iret hx hb hr (fun t ht hW => ⟨⟨_, (), rfl, rfl, by rw [ht]; exact hP, va_K.moved hW.alike hK, hD⟩, hS.F ht⟩) hS.2.2 dX7_factorAt_73
        · have hm14 := zz_nf c12 hm11
          exact hk_46 ct12 hct12 (k_X7_factorAt_32 ct12 n) ih y1 y2 y3 y4 y5 y6 y7 hm14 ls H lo (lv_sub hl [0, 1, 2, 3, 4, 5, 6] rfl) hP hD hS
  have hk_12 : ∀ (n : Nat) (y1 : Int32) (y2 : Int32) (y3 : Int32) (y4 : Int32) (y5 : Int32), k_X7_factorAt_12 n y1 y2 y3 y4 y5 = some r0 → ∀ (ls : Array Slot) (H : Heap) (lo : List Loc), lv_has ls 8 [(1, .int y1), (2, .int y2), (3, .int y3), (4, .int y4), (5, .int y5)] → va_P D vwCl (w_none cI cB cZ) H → va_D A (w_none cI cB cZ) → va_S A s.heap H lo → W p l e (headSpec wsX7_factorAt ({ frames := 0, cells := 0, slots := 0, locals := 0 } : Room)).room s m (([.int x1, .int x2] : List Value).toArray) below meth c H lo 0 0 (MQ below (QI D cI cB cZ A (w_none cI cB cZ) r0) (([.int x1, .int x2] : List Value).toArray) s 0 0 A) (F0 m 12 ls []) := by
    intro n
    induction n with
    | zero => intro y1 y2 y3 y4 y5 hm; exact zz_nn hm
    | succ n ih =>
      intro y1 y2 y3 y4 y5 hm ls H lo hl hP hD hS
      replace hm := (k_X7_factorAt_12_s n y1 y2 y3 y4 y5).symm.trans hm
      refine lv_iload hx hb dX7_factorAt_12 (lv_at hl 4 rfl) ?_
      refine lv_iload_n hx hb dX7_factorAt_14 rfl (lv_at hl 0 rfl) ?_
      refine lv_icmp_gt (tgt := 106) hx hb dX7_factorAt_15 (by decide) (fun c24 => ?_) (fun c24 => ?_)
      · have hm25 := zz_if c24 hm
        refine lv_iconst (v := (-1 : Int32)) hx hb dX7_factorAt_106 (by decide) ?_
        have hq1 := Option.some.inj hm25
        subst hq1
        exact W.iret hx hb hr (fun t ht hW => ⟨⟨_, (), rfl, rfl, by rw [ht]; exact hP, va_K.moved hW.alike hK, hD⟩, hS.F ht⟩) hS.2.2 dX7_factorAt_107
      · have hm26 := zz_nf c24 hm
        refine lv_iload_n hx hb dX7_factorAt_18 rfl (lv_at hl 2 rfl) ?_
        refine lv_iload hx hb dX7_factorAt_19 (lv_at hl 3 rfl) ?_
        obtain ⟨c27, hm28⟩ := zz_no hm26
        refine lv_idiv hx hb dX7_factorAt_21 c27 ?_
        refine lv_istore (lv' := [(6, .int (y3 / y4)), (1, .int y1), (2, .int y2), (3, .int y3), (4, .int y4), (5, .int y5)]) hx hb dX7_factorAt_22 hl (by decide) rfl (fun ls29 hl29 => ?_)
        refine lv_iload_n hx hb dX7_factorAt_24 rfl (lv_at hl29 3 rfl) ?_
        refine lv_iload hx hb dX7_factorAt_25 (lv_at hl29 4 rfl) ?_
        obtain ⟨c30, hm31⟩ := zz_no hm28
        refine lv_irem hx hb dX7_factorAt_27 c30 ?_
        refine lv_istore_n (lv' := [(3, .int (y3 - y3 / y4 * y4)), (6, .int (y3 / y4)), (1, .int y1), (2, .int y2), (4, .int y4), (5, .int y5)]) hx hb dX7_factorAt_28 rfl hl29 (by decide) rfl (fun ls32 hl32 => ?_)
        refine lv_iconst (v := (0 : Int32)) hx hb dX7_factorAt_29 (by decide) ?_
        refine lv_istore (lv' := [(7, .int (0 : Int32)), (3, .int (y3 - y3 / y4 * y4)), (6, .int (y3 / y4)), (1, .int y1), (2, .int y2), (4, .int y4), (5, .int y5)]) hx hb dX7_factorAt_30 hl32 (by decide) rfl (fun ls33 hl33 => ?_)
        exact hk_32 (k_X7_factorAt_12 n) ih FU y1 y2 (y3 - y3 / y4 * y4) y4 y5 (y3 / y4) (0 : Int32) hm31 ls33 H lo (lv_sub hl33 [3, 4, 1, 5, 6, 2, 0] rfl) hP hD hS
  have hl := lv_entry ([.int x1, .int x2]) (n := 8) (Nat.le_of_ble_eq_true rfl)
  rw [lg_entry_eq]
  generalize (lg_sl ([.int x1, .int x2]) ++ List.replicate (8 - (lg_sl ([.int x1, .int x2])).length) Slot.unset).toArray = ls at hl ⊢
  have hl : lv_has ls 8 [(0, .int x1), (1, .int x2)] := hl
  replace hm : (k_X7_factorAt_12 FU x2 (31 : Int32) x1 (24 : Int32) (0 : Int32)) = some r0 := hm
  refine lv_bipush (v := (31 : Int32)) hx hb dX7_factorAt_0 (by decide) ?_
  refine lv_istore_n (lv' := [(2, .int (31 : Int32)), (0, .int x1), (1, .int x2)]) hx hb dX7_factorAt_2 rfl hl (by decide) rfl (fun ls34 hl34 => ?_)
  refine lv_iload_n hx hb dX7_factorAt_3 rfl (lv_at hl34 1 rfl) ?_
  refine lv_istore_n (lv' := [(3, .int x1), (2, .int (31 : Int32)), (0, .int x1), (1, .int x2)]) hx hb dX7_factorAt_4 rfl hl34 (by decide) rfl (fun ls35 hl35 => ?_)
  refine lv_bipush (v := (24 : Int32)) hx hb dX7_factorAt_5 (by decide) ?_
  refine lv_istore (lv' := [(4, .int (24 : Int32)), (3, .int x1), (2, .int (31 : Int32)), (0, .int x1), (1, .int x2)]) hx hb dX7_factorAt_7 hl35 (by decide) rfl (fun ls36 hl36 => ?_)
  refine lv_iconst (v := (0 : Int32)) hx hb dX7_factorAt_9 (by decide) ?_
  refine lv_istore (lv' := [(5, .int (0 : Int32)), (4, .int (24 : Int32)), (3, .int x1), (2, .int (31 : Int32)), (0, .int x1), (1, .int x2)]) hx hb dX7_factorAt_10 hl36 (by decide) rfl (fun ls37 hl37 => ?_)
  exact hk_12 FU x2 (31 : Int32) x1 (24 : Int32) (0 : Int32) hm ls37 s.heap [] (lv_sub hl37 [5, 3, 2, 1, 0] rfl) hP hD hS
set_option maxHeartbeats 4000000 in
set_option maxRecDepth 100000 in
theorem c_X7_isOrder (l : Launch) (D : va_G) (cI cB cZ : ClassId) (ta : Nat → Nat) (sz : Nat) (x1 : Int32) (r0 : Int32) (hm : m_X7_isOrder x1 = some r0) : Met l yX7_isOrder wsX7_isOrder ({ frames := 1, cells := 0, slots := 0, locals := 22 } : Room) (va_Pc [.int x1] (PW D cI cB cZ ta (w_none cI cB cZ) sz)) (QZ .boolean D cI cB cZ (va_A (w_none cI cB cZ) sz) (w_none cI cB cZ) r0) 0 0 (va_A (w_none cI cB cZ) sz) := by
  refine Met.ofW (cc := cX7_isOrder) (maxL := 1) (ret := (some .boolean)) (by decide) rfl ?_
  intro p e s m args below meth c s₁ B hml hv
  obtain ⟨rfl, hsz, hP, hK, hD0, hG⟩ := hv
  have hx := B.exec
  have hb := B.bytes
  have hr := B.returns
  have hts := atoms_spec (ws := wsX7_isOrder) B.pre
  have hown : s.vm.findClass RX7 = some m.cls := findClass_of_methodNamed B.named
  have hlocks := B.notSynchronized
  subst hsz
  have hD := hD0.self (sz := s.heap.size)
  clear hD0
  have hA0 : ∀ q : Nat, s.heap.size ≤ q → va_A (w_none cI cB cZ) s.heap.size q := fun q h => Or.inr h
  generalize hAe : va_A (w_none cI cB cZ) s.heap.size = A at hD hG hA0 ⊢
  have hA : ∀ q : Nat, s.heap.size ≤ q → A q := hA0
  clear hA0
  have hS : va_S A s.heap s.heap [] := va_S.rf
  have hl := lv_entry ([.int x1]) (n := 1) (Nat.le_of_ble_eq_true rfl)
  rw [lg_entry_eq]
  generalize (lg_sl ([.int x1]) ++ List.replicate (1 - (lg_sl ([.int x1])).length) Slot.unset).toArray = ls at hl ⊢
  have hl : lv_has ls 1 [(0, .int x1)] := hl
  replace hm : (ob1 (m_X7_isIn x1 (0 : Int32) (119 : Int32)) (fun r1 => some r1)) = some r0 := hm
  refine lv_iload_n hx hb dX7_isOrder_0 rfl (lv_at hl 0 rfl) ?_
  refine lv_iconst (v := (0 : Int32)) hx hb dX7_isOrder_1 (by decide) ?_
  refine lv_bipush (v := (119 : Int32)) hx hb dX7_isOrder_2 (by decide) ?_
  obtain ⟨r1, h1, hm1⟩ := ob1_e hm
  refine gcall_b (ws' := (w_none cI cB cZ)) (va_runS (As := [.int x1, .int (0 : Int32), .int (119 : Int32)]) (rest := []) ⟨hx, hb, hml, hown, hts⟩ (c_X7_isIn l D cI cB cZ ta s.heap.size x1 (0 : Int32) (119 : Int32) r1 h1) (va_cwS 3 hts gX7_isOrder_X7_isIn rfl rfl rfl (by decide +kernel) ⟨(Nat.le_of_ble_eq_true rfl), (Nat.le_of_ble_eq_true rfl)⟩) ⟨PW_blind, PW_at hP hD hK hS hA hG [] rfl (by decide)⟩ rfl rfl hl.1 rfl (lv_room (Nat.le_of_ble_eq_true rfl)) dX7_isOrder_4 ⟨(Nat.le_of_ble_eq_true rfl), (Nat.le_of_ble_eq_true rfl)⟩) hP hD hS hA [] [] [] rfl rfl (by decide) (by decide) (by decide) rfl (fun H2 lo2 hz1 hP2 hD2 hS2 => ?_)
  clear hP hD hS
  have hq1 := Option.some.inj hm1
  subst hq1
  exact W.zret (ty := .boolean) hx hb hr hz1 (fun t ht hW => ⟨⟨_, (), rfl, ⟨rfl, hz1⟩, by rw [ht]; exact hP2, va_K.moved hW.alike hK, hD2⟩, hS2.F ht⟩) hS2.2.2 dX7_isOrder_7
theorem iw_X7_order_X7 : ∀ w ∈ wsX70, w ∈ wsX7_order := by decide +kernel
set_option maxHeartbeats 4000000 in
set_option maxRecDepth 100000 in
theorem c_X7_order (l : Launch) (D : va_G) (cI cB cZ : ClassId) (ta : Nat → Nat) (aM : Nat) (aMt : Nat) (aMn : Nat) (aMr : Nat) (aMs : Nat) (aMi : Nat) (sz : Nat) (mth : Int32) (mtd : Int32) (msz : Int32) (mto : Int32) (mfr : Int32) (mso : Int32) (mnu : Int32) (mfa : Int32) (mpl : Int32) (mwo : Int64) (msm : Int32) (mgo : Int32) (mt : (Nat → Int32)) (mno : (Nat → Int32)) (mre : (Nat → Int32)) (msn : (Nat → Int32)) (mis : (Nat → Int32)) (x1 : Int32) (r0 : Int32) (u_mth : Int32) (hm : m_X7_order mth x1 = some (r0, u_mth)) : Met l yX7_order wsX7_order ({ frames := 2, cells := 0, slots := 0, locals := 42 } : Room) (va_Pc [.ref aM, .int x1] (PW D cI cB cZ ta (w_Model cI cB cZ aM aMt aMn aMr aMs aMi mth mtd msz mto mfr mso mnu mfa mpl mwo msm mgo mt mno mre msn mis) sz)) (QI D cI cB cZ (va_A (w_Model cI cB cZ aM aMt aMn aMr aMs aMi mth mtd msz mto mfr mso mnu mfa mpl mwo msm mgo mt mno mre msn mis) sz) (w_Model cI cB cZ aM aMt aMn aMr aMs aMi u_mth mtd msz mto mfr mso mnu mfa mpl mwo msm mgo mt mno mre msn mis) r0) 0 0 (va_A (w_Model cI cB cZ aM aMt aMn aMr aMs aMi mth mtd msz mto mfr mso mnu mfa mpl mwo msm mgo mt mno mre msn mis) sz) := by
  refine Met.ofW (cc := cX7_order) (maxL := 4) (ret := (some .int)) (by decide) rfl ?_
  intro p e s m args below meth c s₁ B hml hv
  obtain ⟨rfl, hsz, hP, hK, hD0, hG⟩ := hv
  have hx := B.exec
  have hb := B.bytes
  have hr := B.returns
  have hts := atoms_spec (ws := wsX7_order) B.pre
  have hown : s.vm.findClass RX7 = some m.cls := findClass_of_methodNamed B.named
  have hlocks := B.notSynchronized
  subst hsz
  have hD := hD0.self (sz := s.heap.size)
  clear hD0
  have hA0 : ∀ q : Nat, s.heap.size ≤ q → va_A (w_Model cI cB cZ aM aMt aMn aMr aMs aMi mth mtd msz mto mfr mso mnu mfa mpl mwo msm mgo mt mno mre msn mis) s.heap.size q := fun q h => Or.inr h
  generalize hAe : va_A (w_Model cI cB cZ aM aMt aMn aMr aMs aMi mth mtd msz mto mfr mso mnu mfa mpl mwo msm mgo mt mno mre msn mis) s.heap.size = A at hD hG hA0 ⊢
  have hA : ∀ q : Nat, s.heap.size ≤ q → A q := hA0
  clear hA0
  have hS : va_S A s.heap s.heap [] := va_S.rf
  have iw_X7 := iw_X7_order_X7
  have hk_18 : ∀ (n : Nat) (mth : Int32) (y1 : Int32) (y2 : Int32) (y3 : Int32), k_X7_order_18 n mth y1 y2 y3 = some (r0, u_mth) → ∀ (ls : Array Slot) (H : Heap) (lo : List Loc), lv_has ls 4 [(1, .int y1), (2, .int y2), (3, .int y3)] → va_P D vwCl (w_Model cI cB cZ aM aMt aMn aMr aMs aMi mth mtd msz mto mfr mso mnu mfa mpl mwo msm mgo mt mno mre msn mis) H → va_D A (w_Model cI cB cZ aM aMt aMn aMr aMs aMi mth mtd msz mto mfr mso mnu mfa mpl mwo msm mgo mt mno mre msn mis) → va_S A s.heap H lo → W p l e (headSpec wsX7_order ({ frames := 2, cells := 0, slots := 0, locals := 42 } : Room)).room s m (([.ref aM, .int x1] : List Value).toArray) below meth c H lo 0 0 (MQ below (QI D cI cB cZ A (w_Model cI cB cZ aM aMt aMn aMr aMs aMi u_mth mtd msz mto mfr mso mnu mfa mpl mwo msm mgo mt mno mre msn mis) r0) (([.ref aM, .int x1] : List Value).toArray) s 0 0 A) (F0 m 18 ls []) := by
    intro n
    induction n with
    | zero => intro mth y1 y2 y3 hm; exact zz_nn hm
    | succ n ih =>
      intro mth y1 y2 y3 hm ls H lo hl hP hD hS
      replace hm := (k_X7_order_18_s n mth y1 y2 y3).symm.trans hm
      refine lv_iload_n hx hb dX7_order_18 rfl (lv_at hl 2 rfl) ?_
      refine lv_iconst (v := (5 : Int32)) hx hb dX7_order_19 (by decide) ?_
      refine lv_icmp_ge (tgt := 40) hx hb dX7_order_20 (by decide) (fun c1 => ?_) (fun c1 => ?_)
      · have hm2 := zz_if c1 hm
        refine lv_iload_n hx hb dX7_order_40 rfl (lv_at hl 1 rfl) ?_
        obtain ⟨hq1, hq2⟩ := Prod.mk.inj (Option.some.inj hm2)
        subst hq1
        subst hq2
        exact W.iret hx hb hr (fun t ht hW => ⟨⟨_, (), rfl, rfl, by rw [ht]; exact hP, va_K.moved hW.alike hK, hD⟩, hS.F ht⟩) hS.2.2 dX7_order_41
      · have hm3 := zz_nf c1 hm
        refine lv_bipush (v := (10 : Int32)) hx hb dX7_order_23 (by decide) ?_
        refine lv_iload_n hx hb dX7_order_25 rfl (lv_at hl 1 rfl) ?_
        refine lv_imul hx hb dX7_order_26 ?_
        refine lv_iload_n hx hb dX7_order_27 rfl (lv_at hl 0 rfl) ?_
        refine lv_iload_n hx hb dX7_order_28 rfl (lv_at hl 2 rfl) ?_
        obtain ⟨r4, h4, hm4⟩ := ob1_e hm3
        refine gcall_i (ws' := (w_Model cI cB cZ aM aMt aMn aMr aMs aMi mth mtd msz mto mfr mso mnu mfa mpl mwo msm mgo mt mno mre msn mis)) (va_runS (As := [.int y1, .int y3]) (rest := [.int ((10 : Int32) * y2)]) ⟨hx, hb, hml, hown, hts⟩ (c_X7_factorAt l D cI cB cZ ta H.size y1 y3 r4 h4) (va_cwS 2 hts gX7_order_X7_factorAt rfl rfl rfl (by decide +kernel) ⟨(Nat.le_of_ble_eq_true rfl), (Nat.le_of_ble_eq_true rfl)⟩) ⟨PW_blind, PW_at hP hD hK hS hA hG [] rfl (by decide)⟩ rfl rfl hl.1 rfl (lv_room (Nat.le_of_ble_eq_true rfl)) dX7_order_29 ⟨(Nat.le_of_ble_eq_true rfl), (Nat.le_of_ble_eq_true rfl)⟩) hP hD hS hA [] [0, 1, 2, 3, 4, 5] [0, 1, 2, 3, 4, 5] rfl rfl (by decide) (by decide) (by decide) rfl (fun H5 lo5 hP5 hD5 hS5 => ?_)
        clear hP hD hS
        refine lv_iadd hx hb dX7_order_32 ?_
        refine lv_istore_n (lv' := [(2, .int (((10 : Int32) * y2) + r4)), (1, .int y1), (3, .int y3)]) hx hb dX7_order_33 rfl hl (by decide) rfl (fun ls6 hl6 => ?_)
        refine lv_iinc (v := (y3 + (1 : Int32))) (lv' := [(3, .int (y3 + (1 : Int32))), (2, .int (((10 : Int32) * y2) + r4)), (1, .int y1)]) hx hb dX7_order_34 hl6 (k := 2) rfl (by rfl) (by decide) rfl (fun ls7 hl7 => ?_)
        refine lv_goto (tgt := 18) hx hb dX7_order_37 (by decide) ?_
        exact ih mth y1 (((10 : Int32) * y2) + r4) (y3 + (1 : Int32)) hm4 ls7 H5 lo5 (lv_sub hl7 [2, 1, 0] rfl) hP5 hD5 hS5
  have hl := lv_entry ([.ref aM, .int x1]) (n := 4) (Nat.le_of_ble_eq_true rfl)
  rw [lg_entry_eq]
  generalize (lg_sl ([.ref aM, .int x1]) ++ List.replicate (4 - (lg_sl ([.ref aM, .int x1])).length) Slot.unset).toArray = ls at hl ⊢
  have hl : lv_has ls 4 [(0, .ref aM), (1, .int x1)] := hl
  replace hm : (ob1 (m_X7_isOrder x1) (fun r9 => (if r9 = 0 then some ((-1 : Int32), (0 : Int32)) else (k_X7_order_18 FU (0 : Int32) x1 (0 : Int32) (0 : Int32))))) = some (r0, u_mth) := hm
  refine lv_aload_n hx hb dX7_order_0 rfl (lv_at hl 0 rfl) ?_
  refine lv_iconst (v := (0 : Int32)) hx hb dX7_order_1 (by decide) ?_
  refine va_put (D := D) (ci := 7) (v := .int (0 : Int32)) (ty := .int) (C := RX7) (T := TX7) (N := 17) hx hb hts iw_X7 tyX7 tyX7_ok nmX7 hown hK hP hD hS 0 rfl rfl 0 (by decide) (hts (.fieldLink RX7 1 "VarianceBridgeModel" "thrown" "I") (by decide +kernel)) (fun _ h9 => h9) rfl (by decide +kernel) rfl rfl (Nat.le_of_ble_eq_true rfl) dX7_order_2 (fun H8 lo8 hP8 hD8 hS8 => ?_)
  replace hP8 : va_P D vwCl (w_Model cI cB cZ aM aMt aMn aMr aMs aMi (0 : Int32) mtd msz mto mfr mso mnu mfa mpl mwo msm mgo mt mno mre msn mis) H8 := hP8
  replace hD8 : va_D A (w_Model cI cB cZ aM aMt aMn aMr aMs aMi (0 : Int32) mtd msz mto mfr mso mnu mfa mpl mwo msm mgo mt mno mre msn mis) := hD8
  clear hP hD hS
  refine lv_iload_n hx hb dX7_order_5 rfl (lv_at hl 1 rfl) ?_
  obtain ⟨r9, h9, hm9⟩ := ob1_e hm
  refine gcall_b (ws' := (w_Model cI cB cZ aM aMt aMn aMr aMs aMi (0 : Int32) mtd msz mto mfr mso mnu mfa mpl mwo msm mgo mt mno mre msn mis)) (va_runS (As := [.int x1]) (rest := []) ⟨hx, hb, hml, hown, hts⟩ (c_X7_isOrder l D cI cB cZ ta H8.size x1 r9 h9) (va_cwS 1 hts gX7_order_X7_isOrder rfl rfl rfl (by decide +kernel) ⟨(Nat.le_of_ble_eq_true rfl), (Nat.le_of_ble_eq_true rfl)⟩) ⟨PW_blind, PW_at hP8 hD8 hK hS8 hA hG [] rfl (by decide)⟩ rfl rfl hl.1 rfl (lv_room (Nat.le_of_ble_eq_true rfl)) dX7_order_6 ⟨(Nat.le_of_ble_eq_true rfl), (Nat.le_of_ble_eq_true rfl)⟩) hP8 hD8 hS8 hA [] [0, 1, 2, 3, 4, 5] [0, 1, 2, 3, 4, 5] rfl rfl (by decide) (by decide) (by decide) rfl (fun H10 lo10 hz9 hP10 hD10 hS10 => ?_)
  clear hP8 hD8 hS8
  refine lv_if_ne (tgt := 14) hx hb dX7_order_9 (by decide) (fun c11 => ?_) (fun c11 => ?_)
  · have hm12 := zz_nf c11 hm9
    refine lv_iconst (v := (0 : Int32)) hx hb dX7_order_14 (by decide) ?_
    refine lv_istore_n (lv' := [(2, .int (0 : Int32)), (0, .ref aM), (1, .int x1)]) hx hb dX7_order_15 rfl hl (by decide) rfl (fun ls14 hl14 => ?_)
    refine lv_iconst (v := (0 : Int32)) hx hb dX7_order_16 (by decide) ?_
    refine lv_istore_n (lv' := [(3, .int (0 : Int32)), (2, .int (0 : Int32)), (0, .ref aM), (1, .int x1)]) hx hb dX7_order_17 rfl hl14 (by decide) rfl (fun ls15 hl15 => ?_)
    exact hk_18 FU (0 : Int32) x1 (0 : Int32) (0 : Int32) hm12 ls15 H10 lo10 (lv_sub hl15 [3, 1, 0] rfl) hP10 hD10 hS10
  · have hm13 := zz_if c11 hm9
    refine lv_iconst (v := (-1 : Int32)) hx hb dX7_order_12 (by decide) ?_
    obtain ⟨hq1, hq2⟩ := Prod.mk.inj (Option.some.inj hm13)
    subst hq1
    subst hq2
    exact W.iret hx hb hr (fun t ht hW => ⟨⟨_, (), rfl, rfl, by rw [ht]; exact hP10, va_K.moved hW.alike hK, hD10⟩, hS10.F ht⟩) hS10.2.2 dX7_order_13
