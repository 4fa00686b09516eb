set_option maxHeartbeats 4000000 in
set_option maxRecDepth 100000 in
theorem c_X7_stepOf (l : Launch) (D : va_G) (cI cB cZ : ClassId) (ta : Nat → Nat) (aM : Nat) (aMt : Nat) (aMn : Nat) (aMr : Nat) (aMs : Nat) (aMi : Nat) (sz : Nat) (mth : Int32) (mtd : Int32) (msz : Int32) (mto : Int32) (mfr : Int32) (mso : Int32) (mnu : Int32) (mfa : Int32) (mpl : Int32) (mwo : Int64) (msm : Int32) (mgo : Int32) (mt : (Nat → Int32)) (mno : (Nat → Int32)) (mre : (Nat → Int32)) (msn : (Nat → Int32)) (mis : (Nat → Int32)) (x1 : Int32) (x2 : Int32) (x3 : Int32) (x4 : Int32) (x5 : Int32) (r0 : Int32) (hm : m_X7_stepOf mno x1 x2 x3 x4 x5 = some r0) : Met l yX7_stepOf wsX7_stepOf ({ frames := 3, cells := 0, slots := 0, locals := 73 } : Room) (va_Pc [.ref aM, .int x1, .int x2, .int x3, .int x4, .int x5] (PW D cI cB cZ ta (w_Model cI cB cZ aM aMt aMn aMr aMs aMi mth mtd msz mto mfr mso mnu mfa mpl mwo msm mgo mt mno mre msn mis) sz)) (QI D cI cB cZ (va_A (w_Model cI cB cZ aM aMt aMn aMr aMs aMi mth mtd msz mto mfr mso mnu mfa mpl mwo msm mgo mt mno mre msn mis) sz) (w_Model cI cB cZ aM aMt aMn aMr aMs aMi mth mtd msz mto mfr mso mnu mfa mpl mwo msm mgo mt mno mre msn mis) r0) 0 0 (va_A (w_Model cI cB cZ aM aMt aMn aMr aMs aMi mth mtd msz mto mfr mso mnu mfa mpl mwo msm mgo mt mno mre msn mis) sz) := by
  refine Met.ofW (cc := cX7_stepOf) (maxL := 8) (ret := (some .int)) (by decide) rfl ?_
  intro p e s m args below meth c s₁ B hml hv
  obtain ⟨rfl, hsz, hP, hK, hD0, hG⟩ := hv
  have hx := B.exec
  have hb := B.bytes
  have hr := B.returns
  have hts := atoms_spec (ws := wsX7_stepOf) B.pre
  have hown : s.vm.findClass RX7 = some m.cls := findClass_of_methodNamed B.named
  have hlocks := B.notSynchronized
  subst hsz
  have hD := hD0.self (sz := s.heap.size)
  clear hD0
  have hA0 : ∀ q : Nat, s.heap.size ≤ q → va_A (w_Model cI cB cZ aM aMt aMn aMr aMs aMi mth mtd msz mto mfr mso mnu mfa mpl mwo msm mgo mt mno mre msn mis) s.heap.size q := fun q h => Or.inr h
  generalize hAe : va_A (w_Model cI cB cZ aM aMt aMn aMr aMs aMi mth mtd msz mto mfr mso mnu mfa mpl mwo msm mgo mt mno mre msn mis) s.heap.size = A at hD hG hA0 ⊢
  have hA : ∀ q : Nat, s.heap.size ≤ q → A q := hA0
  clear hA0
  have hS : va_S A s.heap s.heap [] := va_S.rf
  have hk_6 : ∀ (n : Nat) (y1 : Int32) (y2 : Int32) (y3 : Int32) (y4 : Int32) (y5 : Int32) (y6 : Int32) (y7 : Int32), k_X7_stepOf_6 mno n y1 y2 y3 y4 y5 y6 y7 = some r0 → ∀ (ls : Array Slot) (H : Heap) (lo : List Loc), lv_has ls 8 [(0, .ref aM), (1, .int y1), (2, .int y2), (3, .int y3), (4, .int y4), (5, .int y5), (6, .int y6), (7, .int y7)] → va_P D vwCl (w_Model cI cB cZ aM aMt aMn aMr aMs aMi mth mtd msz mto mfr mso mnu mfa mpl mwo msm mgo mt mno mre msn mis) H → va_D A (w_Model cI cB cZ aM aMt aMn aMr aMs aMi mth mtd msz mto mfr mso mnu mfa mpl mwo msm mgo mt mno mre msn mis) → va_S A s.heap H lo → W p l e (headSpec wsX7_stepOf ({ frames := 3, cells := 0, slots := 0, locals := 73 } : Room)).room s m (([.ref aM, .int x1, .int x2, .int x3, .int x4, .int x5] : List Value).toArray) below meth c H lo 0 0 (MQ below (QI D cI cB cZ A (w_Model cI cB cZ aM aMt aMn aMr aMs aMi mth mtd msz mto mfr mso mnu mfa mpl mwo msm mgo mt mno mre msn mis) r0) (([.ref aM, .int x1, .int x2, .int x3, .int x4, .int x5] : List Value).toArray) s 0 0 A) (F0 m 6 ls []) := by
    intro n
    induction n with
    | zero => intro y1 y2 y3 y4 y5 y6 y7 hm; exact zz_nn hm
    | succ n ih =>
      intro y1 y2 y3 y4 y5 y6 y7 hm ls H lo hl hP hD hS
      replace hm := (k_X7_stepOf_6_s mno n y1 y2 y3 y4 y5 y6 y7).symm.trans hm
      refine lv_iload hx hb dX7_stepOf_6 (lv_at hl 4 rfl) ?_
      refine lv_iload hx hb dX7_stepOf_8 (lv_at hl 7 rfl) ?_
      obtain ⟨r1, h1, hm1⟩ := ob1_e hm
      refine gcall_i (ws' := (w_Model cI cB cZ aM aMt aMn aMr aMs aMi mth mtd msz mto mfr mso mnu mfa mpl mwo msm mgo mt mno mre msn mis)) (va_runS (As := [.int y4, .int y7]) (rest := []) ⟨hx, hb, hml, hown, hts⟩ (c_X7_factorAt l D cI cB cZ ta H.size y4 y7 r1 h1) (va_cwS 2 hts gX7_stepOf_X7_factorAt rfl rfl rfl (by decide +kernel) ⟨(Nat.le_of_ble_eq_true rfl), (Nat.le_of_ble_eq_true rfl)⟩) ⟨PW_blind, PW_at hP hD hK hS hA hG [] rfl (by decide)⟩ rfl rfl hl.1 rfl (lv_room (Nat.le_of_ble_eq_true rfl)) dX7_stepOf_10 ⟨(Nat.le_of_ble_eq_true rfl), (Nat.le_of_ble_eq_true rfl)⟩) hP hD hS hA [] [0, 1, 2, 3, 4, 5] [0, 1, 2, 3, 4, 5] rfl rfl (by decide) (by decide) (by decide) rfl (fun H2 lo2 hP2 hD2 hS2 => ?_)
      clear hP hD hS
      refine lv_iload hx hb dX7_stepOf_13 (lv_at hl 5 rfl) ?_
      refine lv_icmp_eq (tgt := 38) hx hb dX7_stepOf_15 (by decide) (fun c3 => ?_) (fun c3 => ?_)
      · have hm4 := zz_if c3 hm1
        refine lv_aload_n hx hb dX7_stepOf_38 rfl (lv_at hl 0 rfl) ?_
        refine lv_iload_n hx hb dX7_stepOf_39 rfl (lv_at hl 1 rfl) ?_
        refine lv_iload_n hx hb dX7_stepOf_40 rfl (lv_at hl 2 rfl) ?_
        refine lv_iload_n hx hb dX7_stepOf_41 rfl (lv_at hl 3 rfl) ?_
        refine lv_iload hx hb dX7_stepOf_42 (lv_at hl 6 rfl) ?_
        refine lv_iconst (v := (1 : Int32)) hx hb dX7_stepOf_44 (by decide) ?_
        refine lv_iload hx hb dX7_stepOf_45 (lv_at hl 5 rfl) ?_
        refine lv_ishl hx hb dX7_stepOf_47 ?_
        refine lv_ior hx hb dX7_stepOf_48 ?_
        obtain ⟨r6, h6, hm6⟩ := ob1_e hm4
        refine gcall_i (ws' := (w_Model cI cB cZ aM aMt aMn aMr aMs aMi mth mtd msz mto mfr mso mnu mfa mpl mwo msm mgo mt mno mre msn mis)) (va_runV (As := [.int y1, .int y2, .int y3, .int (y6 ||| ((1 : Int32) <<< (y5 &&& 31)))]) (rest := []) ⟨hx, hb, hml, hown, hts⟩ (c_X7_valueOf l D cI cB cZ ta aM aMt aMn aMr aMs aMi H2.size mth mtd msz mto mfr mso mnu mfa mpl mwo msm mgo mt mno mre msn mis y1 y2 y3 (y6 ||| ((1 : Int32) <<< (y5 &&& 31))) r6 h6) (cwV 4 hts gX7_stepOf_X7_valueOf rfl rfl rfl (by decide +kernel) ⟨(Nat.le_of_ble_eq_true rfl), (Nat.le_of_ble_eq_true rfl)⟩) ⟨PW_blind, va_recv hK hP2 rfl (q0 := 0) rfl, PW_at hP2 hD2 hK hS2 hA hG [0, 1, 2, 3, 4, 5] rfl (by decide)⟩ rfl rfl hl.1 rfl (lv_room (Nat.le_of_ble_eq_true rfl)) dX7_stepOf_49 ⟨(Nat.le_of_ble_eq_true rfl), (Nat.le_of_ble_eq_true rfl)⟩) hP2 hD2 hS2 hA [0, 1, 2, 3, 4, 5] [] [0, 1, 2, 3, 4, 5] rfl rfl (by decide) (by decide) (by decide) rfl (fun H7 lo7 hP7 hD7 hS7 => ?_)
        clear hP2 hD2 hS2
        refine lv_aload_n hx hb dX7_stepOf_52 rfl (lv_at hl 0 rfl) ?_
        refine lv_iload_n hx hb dX7_stepOf_53 rfl (lv_at hl 1 rfl) ?_
        refine lv_iload_n hx hb dX7_stepOf_54 rfl (lv_at hl 2 rfl) ?_
        refine lv_iload_n hx hb dX7_stepOf_55 rfl (lv_at hl 3 rfl) ?_
        refine lv_iload hx hb dX7_stepOf_56 (lv_at hl 6 rfl) ?_
        obtain ⟨r8, h8, hm8⟩ := ob1_e hm6
        refine gcall_i (ws' := (w_Model cI cB cZ aM aMt aMn aMr aMs aMi mth mtd msz mto mfr mso mnu mfa mpl mwo msm mgo mt mno mre msn mis)) (va_runV (As := [.int y1, .int y2, .int y3, .int y6]) (rest := [.int r6]) ⟨hx, hb, hml, hown, hts⟩ (c_X7_valueOf l D cI cB cZ ta aM aMt aMn aMr aMs aMi H7.size mth mtd msz mto mfr mso mnu mfa mpl mwo msm mgo mt mno mre msn mis y1 y2 y3 y6 r8 h8) (cwV 4 hts gX7_stepOf_X7_valueOf rfl rfl rfl (by decide +kernel) ⟨(Nat.le_of_ble_eq_true rfl), (Nat.le_of_ble_eq_true rfl)⟩) ⟨PW_blind, va_recv hK hP7 rfl (q0 := 0) rfl, PW_at hP7 hD7 hK hS7 hA hG [0, 1, 2, 3, 4, 5] rfl (by decide)⟩ rfl rfl hl.1 rfl (lv_room (Nat.le_of_ble_eq_true rfl)) dX7_stepOf_58 ⟨(Nat.le_of_ble_eq_true rfl), (Nat.le_of_ble_eq_true rfl)⟩) hP7 hD7 hS7 hA [0, 1, 2, 3, 4, 5] [] [0, 1, 2, 3, 4, 5] rfl rfl (by decide) (by decide) (by decide) rfl (fun H9 lo9 hP9 hD9 hS9 => ?_)
        clear hP7 hD7 hS7
        refine lv_isub hx hb dX7_stepOf_61 ?_
        have hq1 := Option.some.inj hm8
        subst hq1
        exact W.iret hx hb hr (fun t ht hW => ⟨⟨_, (), rfl, rfl, by rw [ht]; exact hP9, va_K.moved hW.alike hK, hD9⟩, hS9.F ht⟩) hS9.2.2 dX7_stepOf_62
      · have hm5 := zz_nf c3 hm1
        refine lv_iload hx hb dX7_stepOf_18 (lv_at hl 6 rfl) ?_
        refine lv_iconst (v := (1 : Int32)) hx hb dX7_stepOf_20 (by decide) ?_
        refine lv_iload hx hb dX7_stepOf_21 (lv_at hl 4 rfl) ?_
        refine lv_iload hx hb dX7_stepOf_23 (lv_at hl 7 rfl) ?_
        obtain ⟨r10, h10, hm10⟩ := ob1_e hm5
        refine gcall_i (ws' := (w_Model cI cB cZ aM aMt aMn aMr aMs aMi mth mtd msz mto mfr mso mnu mfa mpl mwo msm mgo mt mno mre msn mis)) (va_runS (As := [.int y4, .int y7]) (rest := [.int (1 : Int32), .int y6]) ⟨hx, hb, hml, hown, hts⟩ (c_X7_factorAt l D cI cB cZ ta H2.size y4 y7 r10 h10) (va_cwS 2 hts gX7_stepOf_X7_factorAt rfl rfl rfl (by decide +kernel) ⟨(Nat.le_of_ble_eq_true rfl), (Nat.le_of_ble_eq_true rfl)⟩) ⟨PW_blind, PW_at hP2 hD2 hK hS2 hA hG [] rfl (by decide)⟩ rfl rfl hl.1 rfl (lv_room (Nat.le_of_ble_eq_true rfl)) dX7_stepOf_25 ⟨(Nat.le_of_ble_eq_true rfl), (Nat.le_of_ble_eq_true rfl)⟩) hP2 hD2 hS2 hA [] [0, 1, 2, 3, 4, 5] [0, 1, 2, 3, 4, 5] rfl rfl (by decide) (by decide) (by decide) rfl (fun H11 lo11 hP11 hD11 hS11 => ?_)
        clear hP2 hD2 hS2
        refine lv_ishl hx hb dX7_stepOf_28 ?_
        refine lv_ior hx hb dX7_stepOf_29 ?_
        refine lv_istore (lv' := [(6, .int (y6 ||| ((1 : Int32) <<< (r10 &&& 31)))), (0, .ref aM), (1, .int y1), (2, .int y2), (3, .int y3), (4, .int y4), (5, .int y5), (7, .int y7)]) hx hb dX7_stepOf_30 hl (by decide) rfl (fun ls12 hl12 => ?_)
        refine lv_iinc (v := (y7 + (1 : Int32))) (lv' := [(7, .int (y7 + (1 : Int32))), (6, .int (y6 ||| ((1 : Int32) <<< (r10 &&& 31)))), (0, .ref aM), (1, .int y1), (2, .int y2), (3, .int y3), (4, .int y4), (5, .int y5)]) hx hb dX7_stepOf_32 hl12 (k := 7) rfl (by rfl) (by decide) rfl (fun ls13 hl13 => ?_)
        refine lv_goto (tgt := 6) hx hb dX7_stepOf_35 (by decide) ?_
        exact ih y1 y2 y3 y4 y5 (y6 ||| ((1 : Int32) <<< (r10 &&& 31))) (y7 + (1 : Int32)) hm10 ls13 H11 lo11 (lv_sub hl13 [2, 3, 4, 5, 6, 7, 1, 0] rfl) hP11 hD11 hS11
  have hl := lv_entry ([.ref aM, .int x1, .int x2, .int x3, .int x4, .int x5]) (n := 8) (Nat.le_of_ble_eq_true rfl)
  rw [lg_entry_eq]
  generalize (lg_sl ([.ref aM, .int x1, .int x2, .int x3, .int x4, .int x5]) ++ List.replicate (8 - (lg_sl ([.ref aM, .int x1, .int x2, .int x3, .int x4, .int x5])).length) Slot.unset).toArray = ls at hl ⊢
  have hl : lv_has ls 8 [(0, .ref aM), (1, .int x1), (2, .int x2), (3, .int x3), (4, .int x4), (5, .int x5)] := hl
  replace hm : (k_X7_stepOf_6 mno FU x1 x2 x3 x4 x5 (0 : Int32) (0 : Int32)) = some r0 := hm
  refine lv_iconst (v := (0 : Int32)) hx hb dX7_stepOf_0 (by decide) ?_
  refine lv_istore (lv' := [(6, .int (0 : Int32)), (0, .ref aM), (1, .int x1), (2, .int x2), (3, .int x3), (4, .int x4), (5, .int x5)]) hx hb dX7_stepOf_1 hl (by decide) rfl (fun ls14 hl14 => ?_)
  refine lv_iconst (v := (0 : Int32)) hx hb dX7_stepOf_3 (by decide) ?_
  refine lv_istore (lv' := [(7, .int (0 : Int32)), (6, .int (0 : Int32)), (0, .ref aM), (1, .int x1), (2, .int x2), (3, .int x3), (4, .int x4), (5, .int x5)]) hx hb dX7_stepOf_4 hl14 (by decide) rfl (fun ls15 hl15 => ?_)
  exact hk_6 FU x1 x2 x3 x4 x5 (0 : Int32) (0 : Int32) hm ls15 s.heap [] (lv_sub hl15 [2, 3, 4, 5, 6, 7, 1, 0] rfl) hP hD hS
set_option maxHeartbeats 4000000 in
set_option maxRecDepth 100000 in
theorem c_X7_meanOf (l : Launch) (D : va_G) (cI cB cZ : ClassId) (ta : Nat → Nat) (aM : Nat) (aMt : Nat) (aMn : Nat) (aMr : Nat) (aMs : Nat) (aMi : Nat) (sz : Nat) (mth : Int32) (mtd : Int32) (msz : Int32) (mto : Int32) (mfr : Int32) (mso : Int32) (mnu : Int32) (mfa : Int32) (mpl : Int32) (mwo : Int64) (msm : Int32) (mgo : Int32) (mt : (Nat → Int32)) (mno : (Nat → Int32)) (mre : (Nat → Int32)) (msn : (Nat → Int32)) (mis : (Nat → Int32)) (x1 : Int32) (x2 : Int32) (x3 : Int32) (x4 : Int32) (r0 : Int32) (hm : m_X7_meanOf mno x1 x2 x3 x4 = some r0) : Met l yX7_meanOf wsX7_meanOf ({ frames := 3, cells := 0, slots := 0, locals := 73 } : Room) (va_Pc [.ref aM, .int x1, .int x2, .int x3, .int x4] (PW D cI cB cZ ta (w_Model cI cB cZ aM aMt aMn aMr aMs aMi mth mtd msz mto mfr mso mnu mfa mpl mwo msm mgo mt mno mre msn mis) sz)) (QI D cI cB cZ (va_A (w_Model cI cB cZ aM aMt aMn aMr aMs aMi mth mtd msz mto mfr mso mnu mfa mpl mwo msm mgo mt mno mre msn mis) sz) (w_Model cI cB cZ aM aMt aMn aMr aMs aMi mth mtd msz mto mfr mso mnu mfa mpl mwo msm mgo mt mno mre msn mis) r0) 0 0 (va_A (w_Model cI cB cZ aM aMt aMn aMr aMs aMi mth mtd msz mto mfr mso mnu mfa mpl mwo msm mgo mt mno mre msn mis) sz) := by
  refine Met.ofW (cc := cX7_meanOf) (maxL := 9) (ret := (some .int)) (by decide) rfl ?_
  intro p e s m args below meth c s₁ B hml hv
  obtain ⟨rfl, hsz, hP, hK, hD0, hG⟩ := hv
  have hx := B.exec
  have hb := B.bytes
  have hr := B.returns
  have hts := atoms_spec (ws := wsX7_meanOf) B.pre
  have hown : s.vm.findClass RX7 = some m.cls := findClass_of_methodNamed B.named
  have hlocks := B.notSynchronized
  subst hsz
  have hD := hD0.self (sz := s.heap.size)
  clear hD0
  have hA0 : ∀ q : Nat, s.heap.size ≤ q → va_A (w_Model cI cB cZ aM aMt aMn aMr aMs aMi mth mtd msz mto mfr mso mnu mfa mpl mwo msm mgo mt mno mre msn mis) s.heap.size q := fun q h => Or.inr h
  generalize hAe : va_A (w_Model cI cB cZ aM aMt aMn aMr aMs aMi mth mtd msz mto mfr mso mnu mfa mpl mwo msm mgo mt mno mre msn mis) s.heap.size = A at hD hG hA0 ⊢
  have hA : ∀ q : Nat, s.heap.size ≤ q → A q := hA0
  clear hA0
  have hS : va_S A s.heap s.heap [] := va_S.rf
  have hk_6 : ∀ (n : Nat) (y1 : Int32) (y2 : Int32) (y3 : Int32) (y4 : Int32) (y5 : Int64) (y7 : Int32), k_X7_meanOf_6 mno n y1 y2 y3 y4 y5 y7 = some r0 → ∀ (ls : Array Slot) (H : Heap) (lo : List Loc), lv_has ls 9 [(0, .ref aM), (1, .int y1), (2, .int y2), (3, .int y3), (4, .int y4), (5, .long y5), (7, .int y7)] → va_P D vwCl (w_Model cI cB cZ aM aMt aMn aMr aMs aMi mth mtd msz mto mfr mso mnu mfa mpl mwo msm mgo mt mno mre msn mis) H → va_D A (w_Model cI cB cZ aM aMt aMn aMr aMs aMi mth mtd msz mto mfr mso mnu mfa mpl mwo msm mgo mt mno mre msn mis) → va_S A s.heap H lo → W p l e (headSpec wsX7_meanOf ({ frames := 3, cells := 0, slots := 0, locals := 73 } : Room)).room s m (([.ref aM, .int x1, .int x2, .int x3, .int x4] : List Value).toArray) below meth c H lo 0 0 (MQ below (QI D cI cB cZ A (w_Model cI cB cZ aM aMt aMn aMr aMs aMi mth mtd msz mto mfr mso mnu mfa mpl mwo msm mgo mt mno mre msn mis) r0) (([.ref aM, .int x1, .int x2, .int x3, .int x4] : List Value).toArray) s 0 0 A) (F0 m 6 ls []) := by
    intro n
    induction n with
    | zero => intro y1 y2 y3 y4 y5 y7 hm; exact zz_nn hm
    | succ n ih =>
      intro y1 y2 y3 y4 y5 y7 hm ls H lo hl hP hD hS
      replace hm := (k_X7_meanOf_6_s mno n y1 y2 y3 y4 y5 y7).symm.trans hm
      refine lv_iload hx hb dX7_meanOf_6 (lv_at hl 6 rfl) ?_
      refine lv_bipush (v := (32 : Int32)) hx hb dX7_meanOf_8 (by decide) ?_
      refine lv_icmp_ge (tgt := 105) hx hb dX7_meanOf_10 (by decide) (fun c1 => ?_) (fun c1 => ?_)
      · have hm2 := zz_if c1 hm
        refine lv_lload hx hb dX7_meanOf_105 (lv_at hl 5 rfl) ?_
        refine lv_ldc2 (v := (120 : Int64)) hx hb hown (hts (.constantLong RX7 209 (120)) (by decide +kernel)) dX7_meanOf_107 ?_
        refine lv_ldiv hx hb dX7_meanOf_110 (by decide) ?_
        refine lv_l2i (v := (y5 / (120 : Int64)).toInt32) hx hb dX7_meanOf_111 rfl ?_
        have hq1 := Option.some.inj hm2
        subst hq1
        exact W.iret hx hb hr (fun t ht hW => ⟨⟨_, (), rfl, rfl, by rw [ht]; exact hP, va_K.moved hW.alike hK, hD⟩, hS.F ht⟩) hS.2.2 dX7_meanOf_112
      · have hm3 := zz_nf c1 hm
        refine lv_iload hx hb dX7_meanOf_13 (lv_at hl 6 rfl) ?_
        refine lv_iload hx hb dX7_meanOf_15 (lv_at hl 4 rfl) ?_
        refine lv_ishr hx hb dX7_meanOf_17 ?_
        refine lv_iconst (v := (1 : Int32)) hx hb dX7_meanOf_18 (by decide) ?_
        refine lv_iand hx hb dX7_meanOf_19 ?_
        refine lv_iconst (v := (1 : Int32)) hx hb dX7_meanOf_20 (by decide) ?_
        refine lv_icmp_ne (tgt := 27) hx hb dX7_meanOf_21 (by decide) (fun c4 => ?_) (fun c4 => ?_)
        · have hm5 := zz_nf c4 hm3
          refine lv_iload hx hb dX7_meanOf_27 (lv_at hl 6 rfl) ?_
          refine lv_iconst (v := (1 : Int32)) hx hb dX7_meanOf_29 (by decide) ?_
          refine lv_iand hx hb dX7_meanOf_30 ?_
          refine lv_iload hx hb dX7_meanOf_31 (lv_at hl 6 rfl) ?_
          refine lv_iconst (v := (1 : Int32)) hx hb dX7_meanOf_33 (by decide) ?_
          refine lv_ishr hx hb dX7_meanOf_34 ?_
          refine lv_iconst (v := (1 : Int32)) hx hb dX7_meanOf_35 (by decide) ?_
          refine lv_iand hx hb dX7_meanOf_36 ?_
          refine lv_iadd hx hb dX7_meanOf_37 ?_
          refine lv_iload hx hb dX7_meanOf_38 (lv_at hl 6 rfl) ?_
          refine lv_iconst (v := (2 : Int32)) hx hb dX7_meanOf_40 (by decide) ?_
          refine lv_ishr hx hb dX7_meanOf_41 ?_
          refine lv_iconst (v := (1 : Int32)) hx hb dX7_meanOf_42 (by decide) ?_
          refine lv_iand hx hb dX7_meanOf_43 ?_
          refine lv_iadd hx hb dX7_meanOf_44 ?_
          refine lv_iload hx hb dX7_meanOf_45 (lv_at hl 6 rfl) ?_
          refine lv_iconst (v := (3 : Int32)) hx hb dX7_meanOf_47 (by decide) ?_
          refine lv_ishr hx hb dX7_meanOf_48 ?_
          refine lv_iconst (v := (1 : Int32)) hx hb dX7_meanOf_49 (by decide) ?_
          refine lv_iand hx hb dX7_meanOf_50 ?_
          refine lv_iadd hx hb dX7_meanOf_51 ?_
          refine lv_iload hx hb dX7_meanOf_52 (lv_at hl 6 rfl) ?_
          refine lv_iconst (v := (4 : Int32)) hx hb dX7_meanOf_54 (by decide) ?_
          refine lv_ishr hx hb dX7_meanOf_55 ?_
          refine lv_iconst (v := (1 : Int32)) hx hb dX7_meanOf_56 (by decide) ?_
          refine lv_iand hx hb dX7_meanOf_57 ?_
          refine lv_iadd hx hb dX7_meanOf_58 ?_
          refine lv_istore (lv' := [(8, .int (((((y7 &&& (1 : Int32)) + ((y7 >>> ((1 : Int32) &&& 31)) &&& (1 : Int32))) + ((y7 >>> ((2 : Int32) &&& 31)) &&& (1 : Int32))) + ((y7 >>> ((3 : Int32) &&& 31)) &&& (1 : Int32))) + ((y7 >>> ((4 : Int32) &&& 31)) &&& (1 : Int32)))), (0, .ref aM), (1, .int y1), (2, .int y2), (3, .int y3), (4, .int y4), (5, .long y5), (7, .int y7)]) hx hb dX7_meanOf_59 hl (by decide) rfl (fun ls7 hl7 => ?_)
          refine lv_lload hx hb dX7_meanOf_61 (lv_at hl7 6 rfl) ?_
          refine va_gets hx hb hG.2.2.2.2.2.2.1.1 hS hown (hts (.fieldLink RX7 206 "VarianceBridgeModel" "ORDERS_BY" "[I") (by decide +kernel)) (fun _ h9 => h9) dX7_meanOf_63 ?_
          refine lv_iload hx hb dX7_meanOf_66 (lv_at hl7 0 rfl) ?_
          obtain ⟨c8, hm9⟩ := zz_no hm5
          refine va_ti hx hb hG.2.2.2.2.2.2.1.2 hS c8 rfl dX7_meanOf_68 ?_
          refine lv_i2l (v := (T_BY (((((y7 &&& (1 : Int32)) + ((y7 >>> ((1 : Int32) &&& 31)) &&& (1 : Int32))) + ((y7 >>> ((2 : Int32) &&& 31)) &&& (1 : Int32))) + ((y7 >>> ((3 : Int32) &&& 31)) &&& (1 : Int32))) + ((y7 >>> ((4 : Int32) &&& 31)) &&& (1 : Int32))).toNatClampNeg).toInt64) hx hb dX7_meanOf_69 rfl ?_
          refine lv_aload_n hx hb dX7_meanOf_70 rfl (lv_at hl7 1 rfl) ?_
          refine lv_iload_n hx hb dX7_meanOf_71 rfl (lv_at hl7 2 rfl) ?_
          refine lv_iload_n hx hb dX7_meanOf_72 rfl (lv_at hl7 3 rfl) ?_
          refine lv_iload_n hx hb dX7_meanOf_73 rfl (lv_at hl7 4 rfl) ?_
          refine lv_iload hx hb dX7_meanOf_74 (lv_at hl7 7 rfl) ?_
          refine lv_iconst (v := (1 : Int32)) hx hb dX7_meanOf_76 (by decide) ?_
          refine lv_iload hx hb dX7_meanOf_77 (lv_at hl7 5 rfl) ?_
          refine lv_ishl hx hb dX7_meanOf_79 ?_
          refine lv_ior hx hb dX7_meanOf_80 ?_
          obtain ⟨r10, h10, hm10⟩ := ob1_e hm9
          refine gcall_i (ws' := (w_Model cI cB cZ aM aMt aMn aMr aMs aMi mth mtd msz mto mfr mso mnu mfa mpl mwo msm mgo mt mno mre msn mis)) (va_runV (As := [.int y1, .int y2, .int y3, .int (y7 ||| ((1 : Int32) <<< (y4 &&& 31)))]) (rest := [.long ((T_BY (((((y7 &&& (1 : Int32)) + ((y7 >>> ((1 : Int32) &&& 31)) &&& (1 : Int32))) + ((y7 >>> ((2 : Int32) &&& 31)) &&& (1 : Int32))) + ((y7 >>> ((3 : Int32) &&& 31)) &&& (1 : Int32))) + ((y7 >>> ((4 : Int32) &&& 31)) &&& (1 : Int32))).toNatClampNeg).toInt64), .long y5]) ⟨hx, hb, hml, hown, hts⟩ (c_X7_valueOf l D cI cB cZ ta aM aMt aMn aMr aMs aMi H.size mth mtd msz mto mfr mso mnu mfa mpl mwo msm mgo mt mno mre msn mis y1 y2 y3 (y7 ||| ((1 : Int32) <<< (y4 &&& 31))) r10 h10) (cwV 4 hts gX7_meanOf_X7_valueOf rfl rfl rfl (by decide +kernel) ⟨(Nat.le_of_ble_eq_true rfl), (Nat.le_of_ble_eq_true rfl)⟩) ⟨PW_blind, va_recv hK hP rfl (q0 := 0) rfl, PW_at hP hD hK hS hA hG [0, 1, 2, 3, 4, 5] rfl (by decide)⟩ rfl rfl hl7.1 rfl (lv_room (Nat.le_of_ble_eq_true rfl)) dX7_meanOf_81 ⟨(Nat.le_of_ble_eq_true rfl), (Nat.le_of_ble_eq_true rfl)⟩) hP hD hS hA [0, 1, 2, 3, 4, 5] [] [0, 1, 2, 3, 4, 5] rfl rfl (by decide) (by decide) (by decide) rfl (fun H11 lo11 hP11 hD11 hS11 => ?_)
          clear hP hD hS
          refine lv_aload_n hx hb dX7_meanOf_84 rfl (lv_at hl7 1 rfl) ?_
          refine lv_iload_n hx hb dX7_meanOf_85 rfl (lv_at hl7 2 rfl) ?_
          refine lv_iload_n hx hb dX7_meanOf_86 rfl (lv_at hl7 3 rfl) ?_
          refine lv_iload_n hx hb dX7_meanOf_87 rfl (lv_at hl7 4 rfl) ?_
          refine lv_iload hx hb dX7_meanOf_88 (lv_at hl7 7 rfl) ?_
          obtain ⟨r12, h12, hm12⟩ := ob1_e hm10
          refine gcall_i (ws' := (w_Model cI cB cZ aM aMt aMn aMr aMs aMi mth mtd msz mto mfr mso mnu mfa mpl mwo msm mgo mt mno mre msn mis)) (va_runV (As := [.int y1, .int y2, .int y3, .int y7]) (rest := [.int r10, .long ((T_BY (((((y7 &&& (1 : Int32)) + ((y7 >>> ((1 : Int32) &&& 31)) &&& (1 : Int32))) + ((y7 >>> ((2 : Int32) &&& 31)) &&& (1 : Int32))) + ((y7 >>> ((3 : Int32) &&& 31)) &&& (1 : Int32))) + ((y7 >>> ((4 : Int32) &&& 31)) &&& (1 : Int32))).toNatClampNeg).toInt64), .long y5]) ⟨hx, hb, hml, hown, hts⟩ (c_X7_valueOf l D cI cB cZ ta aM aMt aMn aMr aMs aMi H11.size mth mtd msz mto mfr mso mnu mfa mpl mwo msm mgo mt mno mre msn mis y1 y2 y3 y7 r12 h12) (cwV 4 hts gX7_meanOf_X7_valueOf rfl rfl rfl (by decide +kernel) ⟨(Nat.le_of_ble_eq_true rfl), (Nat.le_of_ble_eq_true rfl)⟩) ⟨PW_blind, va_recv hK hP11 rfl (q0 := 0) rfl, PW_at hP11 hD11 hK hS11 hA hG [0, 1, 2, 3, 4, 5] rfl (by decide)⟩ rfl rfl hl7.1 rfl (lv_room (Nat.le_of_ble_eq_true rfl)) dX7_meanOf_90 ⟨(Nat.le_of_ble_eq_true rfl), (Nat.le_of_ble_eq_true rfl)⟩) hP11 hD11 hS11 hA [0, 1, 2, 3, 4, 5] [] [0, 1, 2, 3, 4, 5] rfl rfl (by decide) (by decide) (by decide) rfl (fun H13 lo13 hP13 hD13 hS13 => ?_)
          clear hP11 hD11 hS11
          refine lv_isub hx hb dX7_meanOf_93 ?_
          refine lv_i2l (v := (r10 - r12).toInt64) hx hb dX7_meanOf_94 rfl ?_
          refine lv_lmul hx hb dX7_meanOf_95 ?_
          refine lv_ladd hx hb dX7_meanOf_96 ?_
          refine lv_lstore (lv' := [(5, .long (y5 + (((T_BY (((((y7 &&& (1 : Int32)) + ((y7 >>> ((1 : Int32) &&& 31)) &&& (1 : Int32))) + ((y7 >>> ((2 : Int32) &&& 31)) &&& (1 : Int32))) + ((y7 >>> ((3 : Int32) &&& 31)) &&& (1 : Int32))) + ((y7 >>> ((4 : Int32) &&& 31)) &&& (1 : Int32))).toNatClampNeg).toInt64) * ((r10 - r12).toInt64)))), (8, .int (((((y7 &&& (1 : Int32)) + ((y7 >>> ((1 : Int32) &&& 31)) &&& (1 : Int32))) + ((y7 >>> ((2 : Int32) &&& 31)) &&& (1 : Int32))) + ((y7 >>> ((3 : Int32) &&& 31)) &&& (1 : Int32))) + ((y7 >>> ((4 : Int32) &&& 31)) &&& (1 : Int32)))), (0, .ref aM), (1, .int y1), (2, .int y2), (3, .int y3), (4, .int y4), (7, .int y7)]) hx hb dX7_meanOf_97 hl7 (by decide) rfl (fun ls14 hl14 => ?_)
          refine lv_iinc (v := (y7 + (1 : Int32))) (lv' := [(7, .int (y7 + (1 : Int32))), (5, .long (y5 + (((T_BY (((((y7 &&& (1 : Int32)) + ((y7 >>> ((1 : Int32) &&& 31)) &&& (1 : Int32))) + ((y7 >>> ((2 : Int32) &&& 31)) &&& (1 : Int32))) + ((y7 >>> ((3 : Int32) &&& 31)) &&& (1 : Int32))) + ((y7 >>> ((4 : Int32) &&& 31)) &&& (1 : Int32))).toNatClampNeg).toInt64) * ((r10 - r12).toInt64)))), (8, .int (((((y7 &&& (1 : Int32)) + ((y7 >>> ((1 : Int32) &&& 31)) &&& (1 : Int32))) + ((y7 >>> ((2 : Int32) &&& 31)) &&& (1 : Int32))) + ((y7 >>> ((3 : Int32) &&& 31)) &&& (1 : Int32))) + ((y7 >>> ((4 : Int32) &&& 31)) &&& (1 : Int32)))), (0, .ref aM), (1, .int y1), (2, .int y2), (3, .int y3), (4, .int y4)]) hx hb dX7_meanOf_99 hl14 (k := 7) rfl (by rfl) (by decide) rfl (fun ls15 hl15 => ?_)
          refine lv_goto (tgt := 6) hx hb dX7_meanOf_102 (by decide) ?_
          exact ih y1 y2 y3 y4 (y5 + (((T_BY (((((y7 &&& (1 : Int32)) + ((y7 >>> ((1 : Int32) &&& 31)) &&& (1 : Int32))) + ((y7 >>> ((2 : Int32) &&& 31)) &&& (1 : Int32))) + ((y7 >>> ((3 : Int32) &&& 31)) &&& (1 : Int32))) + ((y7 >>> ((4 : Int32) &&& 31)) &&& (1 : Int32))).toNatClampNeg).toInt64) * ((r10 - r12).toInt64))) (y7 + (1 : Int32)) hm12 ls15 H13 lo13 (lv_sub hl15 [3, 4, 5, 6, 7, 1, 0] rfl) hP13 hD13 hS13
        · have hm6 := zz_if c4 hm3
          refine lv_goto (tgt := 99) hx hb dX7_meanOf_24 (by decide) ?_
          refine lv_iinc (v := (y7 + (1 : Int32))) (lv' := [(7, .int (y7 + (1 : Int32))), (0, .ref aM), (1, .int y1), (2, .int y2), (3, .int y3), (4, .int y4), (5, .long y5)]) hx hb dX7_meanOf_99 hl (k := 6) rfl (by rfl) (by decide) rfl (fun ls16 hl16 => ?_)
          refine lv_goto (tgt := 6) hx hb dX7_meanOf_102 (by decide) ?_
          exact ih y1 y2 y3 y4 y5 (y7 + (1 : Int32)) hm6 ls16 H lo (lv_sub hl16 [1, 2, 3, 4, 5, 6, 0] rfl) hP hD hS
  have hl := lv_entry ([.ref aM, .int x1, .int x2, .int x3, .int x4]) (n := 9) (Nat.le_of_ble_eq_true rfl)
  rw [lg_entry_eq]
  generalize (lg_sl ([.ref aM, .int x1, .int x2, .int x3, .int x4]) ++ List.replicate (9 - (lg_sl ([.ref aM, .int x1, .int x2, .int x3, .int x4])).length) Slot.unset).toArray = ls at hl ⊢
  have hl : lv_has ls 9 [(0, .ref aM), (1, .int x1), (2, .int x2), (3, .int x3), (4, .int x4)] := hl
  replace hm : (k_X7_meanOf_6 mno FU x1 x2 x3 x4 (0 : Int64) (0 : Int32)) = some r0 := hm
  refine lv_lconst (v := (0 : Int64)) hx hb dX7_meanOf_0 (by decide) ?_
  refine lv_lstore (lv' := [(5, .long (0 : Int64)), (0, .ref aM), (1, .int x1), (2, .int x2), (3, .int x3), (4, .int x4)]) hx hb dX7_meanOf_1 hl (by decide) rfl (fun ls17 hl17 => ?_)
  refine lv_iconst (v := (0 : Int32)) hx hb dX7_meanOf_3 (by decide) ?_
  refine lv_istore (lv' := [(7, .int (0 : Int32)), (5, .long (0 : Int64)), (0, .ref aM), (1, .int x1), (2, .int x2), (3, .int x3), (4, .int x4)]) hx hb dX7_meanOf_4 hl17 (by decide) rfl (fun ls18 hl18 => ?_)
  exact hk_6 FU x1 x2 x3 x4 (0 : Int64) (0 : Int32) hm ls18 s.heap [] (lv_sub hl18 [2, 3, 4, 5, 6, 1, 0] rfl) hP hD hS
set_option maxHeartbeats 4000000 in
set_option maxRecDepth 100000 in
theorem c_X7_effectOf (l : Launch) (D : va_G) (cI cB cZ : ClassId) (ta : Nat → Nat) (aM : Nat) (aMt : Nat) (aMn : Nat) (aMr : Nat) (aMs : Nat) (aMi : Nat) (sz : Nat) (mth : Int32) (mtd : Int32) (msz : Int32) (mto : Int32) (mfr : Int32) (mso : Int32) (mnu : Int32) (mfa : Int32) (mpl : Int32) (mwo : Int64) (msm : Int32) (mgo : Int32) (mt : (Nat → Int32)) (mno : (Nat → Int32)) (mre : (Nat → Int32)) (msn : (Nat → Int32)) (mis : (Nat → Int32)) (x1 : Int32) (x2 : Int32) (x3 : Int32) (x4 : Int32) (x5 : Int32) (r0 : Int32) (hm : m_X7_effectOf mno x1 x2 x3 x4 x5 = some r0) : Met l yX7_effectOf wsX7_effectOf ({ frames := 4, cells := 0, slots := 0, locals := 101 } : Room) (va_Pc [.ref aM, .int x1, .int x2, .int x3, .int x4, .int x5] (PW D cI cB cZ ta (w_Model cI cB cZ aM aMt aMn aMr aMs aMi mth mtd msz mto mfr mso mnu mfa mpl mwo msm mgo mt mno mre msn mis) sz)) (QI D cI cB cZ (va_A (w_Model cI cB cZ aM aMt aMn aMr aMs aMi mth mtd msz mto mfr mso mnu mfa mpl mwo msm mgo mt mno mre msn mis) sz) (w_Model cI cB cZ aM aMt aMn aMr aMs aMi mth mtd msz mto mfr mso mnu mfa mpl mwo msm mgo mt mno mre msn mis) r0) 0 0 (va_A (w_Model cI cB cZ aM aMt aMn aMr aMs aMi mth mtd msz mto mfr mso mnu mfa mpl mwo msm mgo mt mno mre msn mis) sz) := by
  refine Met.ofW (cc := cX7_effectOf) (maxL := 9) (ret := (some .int)) (by decide) rfl ?_
  intro p e s m args below meth c s₁ B hml hv
  obtain ⟨rfl, hsz, hP, hK, hD0, hG⟩ := hv
  have hx := B.exec
  have hb := B.bytes
  have hr := B.returns
  have hts := atoms_spec (ws := wsX7_effectOf) B.pre
  have hown : s.vm.findClass RX7 = some m.cls := findClass_of_methodNamed B.named
  have hlocks := B.notSynchronized
  subst hsz
  have hD := hD0.self (sz := s.heap.size)
  clear hD0
  have hA0 : ∀ q : Nat, s.heap.size ≤ q → va_A (w_Model cI cB cZ aM aMt aMn aMr aMs aMi mth mtd msz mto mfr mso mnu mfa mpl mwo msm mgo mt mno mre msn mis) s.heap.size q := fun q h => Or.inr h
  generalize hAe : va_A (w_Model cI cB cZ aM aMt aMn aMr aMs aMi mth mtd msz mto mfr mso mnu mfa mpl mwo msm mgo mt mno mre msn mis) s.heap.size = A at hD hG hA0 ⊢
  have hA : ∀ q : Nat, s.heap.size ≤ q → A q := hA0
  clear hA0
  have hS : va_S A s.heap s.heap [] := va_S.rf
  have hk_103 : ∀ (n : Nat) (y1 : Int32) (y2 : Int32) (y3 : Int32) (y7 : Int32) (y8 : Int32), k_X7_effectOf_103 mno n y1 y2 y3 y7 y8 = some r0 → ∀ (ls : Array Slot) (H : Heap) (lo : List Loc), lv_has ls 9 [(0, .ref aM), (1, .int y1), (2, .int y2), (3, .int y3), (7, .int y7), (8, .int y8)] → va_P D vwCl (w_Model cI cB cZ aM aMt aMn aMr aMs aMi mth mtd msz mto mfr mso mnu mfa mpl mwo msm mgo mt mno mre msn mis) H → va_D A (w_Model cI cB cZ aM aMt aMn aMr aMs aMi mth mtd msz mto mfr mso mnu mfa mpl mwo msm mgo mt mno mre msn mis) → va_S A s.heap H lo → W p l e (headSpec wsX7_effectOf ({ frames := 4, cells := 0, slots := 0, locals := 101 } : Room)).room s m (([.ref aM, .int x1, .int x2, .int x3, .int x4, .int x5] : List Value).toArray) below meth c H lo 0 0 (MQ below (QI D cI cB cZ A (w_Model cI cB cZ aM aMt aMn aMr aMs aMi mth mtd msz mto mfr mso mnu mfa mpl mwo msm mgo mt mno mre msn mis) r0) (([.ref aM, .int x1, .int x2, .int x3, .int x4, .int x5] : List Value).toArray) s 0 0 A) (F0 m 103 ls []) := by
    intro n
    induction n with
    | zero => intro y1 y2 y3 y7 y8 hm; exact zz_nn hm
    | succ n ih =>
      intro y1 y2 y3 y7 y8 hm ls H lo hl hP hD hS
      replace hm := (k_X7_effectOf_103_s mno n y1 y2 y3 y7 y8).symm.trans hm
      refine lv_iload hx hb dX7_effectOf_103 (lv_at hl 5 rfl) ?_
      refine lv_iconst (v := (5 : Int32)) hx hb dX7_effectOf_105 (by decide) ?_
      refine lv_icmp_ge (tgt := 129) hx hb dX7_effectOf_106 (by decide) (fun c1 => ?_) (fun c1 => ?_)
      · have hm2 := zz_if c1 hm
        refine lv_iload hx hb dX7_effectOf_129 (lv_at hl 4 rfl) ?_
        have hq1 := Option.some.inj hm2
        subst hq1
        exact W.iret hx hb hr (fun t ht hW => ⟨⟨_, (), rfl, rfl, by rw [ht]; exact hP, va_K.moved hW.alike hK, hD⟩, hS.F ht⟩) hS.2.2 dX7_effectOf_131
      · have hm3 := zz_nf c1 hm
        refine lv_iload hx hb dX7_effectOf_109 (lv_at hl 4 rfl) ?_
        refine lv_aload_n hx hb dX7_effectOf_111 rfl (lv_at hl 0 rfl) ?_
        refine lv_iload_n hx hb dX7_effectOf_112 rfl (lv_at hl 1 rfl) ?_
        refine lv_iload_n hx hb dX7_effectOf_113 rfl (lv_at hl 2 rfl) ?_
        refine lv_iload_n hx hb dX7_effectOf_114 rfl (lv_at hl 3 rfl) ?_
        refine lv_iload hx hb dX7_effectOf_115 (lv_at hl 5 rfl) ?_
        obtain ⟨r4, h4, hm4⟩ := ob1_e hm3
        refine gcall_i (ws' := (w_Model cI cB cZ aM aMt aMn aMr aMs aMi mth mtd msz mto mfr mso mnu mfa mpl mwo msm mgo mt mno mre msn mis)) (va_runV (As := [.int y1, .int y2, .int y3, .int y8]) (rest := [.int y7]) ⟨hx, hb, hml, hown, hts⟩ (c_X7_meanOf l D cI cB cZ ta aM aMt aMn aMr aMs aMi H.size mth mtd msz mto mfr mso mnu mfa mpl mwo msm mgo mt mno mre msn mis y1 y2 y3 y8 r4 h4) (cwV 4 hts gX7_effectOf_X7_meanOf rfl rfl rfl (by decide +kernel) ⟨(Nat.le_of_ble_eq_true rfl), (Nat.le_of_ble_eq_true rfl)⟩) ⟨PW_blind, va_recv hK hP rfl (q0 := 0) rfl, PW_at hP hD hK hS hA hG [0, 1, 2, 3, 4, 5] rfl (by decide)⟩ rfl rfl hl.1 rfl (lv_room (Nat.le_of_ble_eq_true rfl)) dX7_effectOf_117 ⟨(Nat.le_of_ble_eq_true rfl), (Nat.le_of_ble_eq_true rfl)⟩) hP hD hS hA [0, 1, 2, 3, 4, 5] [] [0, 1, 2, 3, 4, 5] rfl rfl (by decide) (by decide) (by decide) rfl (fun H5 lo5 hP5 hD5 hS5 => ?_)
        clear hP hD hS
        refine lv_isub hx hb dX7_effectOf_120 ?_
        refine lv_istore (lv' := [(7, .int (y7 - r4)), (0, .ref aM), (1, .int y1), (2, .int y2), (3, .int y3), (8, .int y8)]) hx hb dX7_effectOf_121 hl (by decide) rfl (fun ls6 hl6 => ?_)
        refine lv_iinc (v := (y8 + (1 : Int32))) (lv' := [(8, .int (y8 + (1 : Int32))), (7, .int (y7 - r4)), (0, .ref aM), (1, .int y1), (2, .int y2), (3, .int y3)]) hx hb dX7_effectOf_123 hl6 (k := 5) rfl (by rfl) (by decide) rfl (fun ls7 hl7 => ?_)
        refine lv_goto (tgt := 103) hx hb dX7_effectOf_126 (by decide) ?_
        exact ih y1 y2 y3 (y7 - r4) (y8 + (1 : Int32)) hm4 ls7 H5 lo5 (lv_sub hl7 [2, 3, 4, 5, 1, 0] rfl) hP5 hD5 hS5
  have hl := lv_entry ([.ref aM, .int x1, .int x2, .int x3, .int x4, .int x5]) (n := 9) (Nat.le_of_ble_eq_true rfl)
  rw [lg_entry_eq]
  generalize (lg_sl ([.ref aM, .int x1, .int x2, .int x3, .int x4, .int x5]) ++ List.replicate (9 - (lg_sl ([.ref aM, .int x1, .int x2, .int x3, .int x4, .int x5])).length) Slot.unset).toArray = ls at hl ⊢
  have hl : lv_has ls 9 [(0, .ref aM), (1, .int x1), (2, .int x2), (3, .int x3), (4, .int x4), (5, .int x5)] := hl
  replace hm : (ob1 (m_X7_howOf mno x1 x2 x3) (fun r8 => (ob1 (m_X7_valueOf mno x1 x3 x3 (0 : Int32)) (fun r11 => (ob1 (m_X7_valueOf mno x1 x2 x2 (0 : Int32)) (fun r13 => (if r8 = 0 then (if (5 : Int32) ≤ x5 then (if x5 = (7 : Int32) then (if x4 = (-1 : Int32) then (k_X7_effectOf_103 mno FU x1 x2 x3 (r11 - r13) (0 : Int32)) else some (0 : Int32)) else some (0 : Int32)) else (if x4 = (-1 : Int32) then (ob1 (m_X7_meanOf mno x1 x2 x3 x5) (fun r34 => some r34)) else (ob1 (m_X7_stepOf mno x1 x2 x3 x4 x5) (fun r32 => some r32)))) else (if x5 = ((4 : Int32) + r8) then some (r11 - r13) else some (0 : Int32))))))))) = some r0 := hm
  refine lv_aload_n hx hb dX7_effectOf_0 rfl (lv_at hl 0 rfl) ?_
  refine lv_iload_n hx hb dX7_effectOf_1 rfl (lv_at hl 1 rfl) ?_
  refine lv_iload_n hx hb dX7_effectOf_2 rfl (lv_at hl 2 rfl) ?_
  refine lv_iload_n hx hb dX7_effectOf_3 rfl (lv_at hl 3 rfl) ?_
  obtain ⟨r8, h8, hm8⟩ := ob1_e hm
  refine gcall_i (ws' := (w_Model cI cB cZ aM aMt aMn aMr aMs aMi mth mtd msz mto mfr mso mnu mfa mpl mwo msm mgo mt mno mre msn mis)) (va_runV (As := [.int x1, .int x2, .int x3]) (rest := []) ⟨hx, hb, hml, hown, hts⟩ (c_X7_howOf l D cI cB cZ ta aM aMt aMn aMr aMs aMi s.heap.size mth mtd msz mto mfr mso mnu mfa mpl mwo msm mgo mt mno mre msn mis x1 x2 x3 r8 h8) (cwV 3 hts gX7_effectOf_X7_howOf rfl rfl rfl (by decide +kernel) ⟨(Nat.le_of_ble_eq_true rfl), (Nat.le_of_ble_eq_true rfl)⟩) ⟨PW_blind, va_recv hK hP rfl (q0 := 0) rfl, PW_at hP hD hK hS hA hG [0, 1, 2, 3, 4, 5] rfl (by decide)⟩ rfl rfl hl.1 rfl (lv_room (Nat.le_of_ble_eq_true rfl)) dX7_effectOf_4 ⟨(Nat.le_of_ble_eq_true rfl), (Nat.le_of_ble_eq_true rfl)⟩) hP hD hS hA [0, 1, 2, 3, 4, 5] [] [0, 1, 2, 3, 4, 5] rfl rfl (by decide) (by decide) (by decide) rfl (fun H9 lo9 hP9 hD9 hS9 => ?_)
  clear hP hD hS
  refine lv_istore (lv' := [(6, .int r8), (0, .ref aM), (1, .int x1), (2, .int x2), (3, .int x3), (4, .int x4), (5, .int x5)]) hx hb dX7_effectOf_7 hl (by decide) rfl (fun ls10 hl10 => ?_)
  refine lv_aload_n hx hb dX7_effectOf_9 rfl (lv_at hl10 1 rfl) ?_
  refine lv_iload_n hx hb dX7_effectOf_10 rfl (lv_at hl10 2 rfl) ?_
  refine lv_iload_n hx hb dX7_effectOf_11 rfl (lv_at hl10 4 rfl) ?_
  refine lv_iload_n hx hb dX7_effectOf_12 rfl (lv_at hl10 4 rfl) ?_
  refine lv_iconst (v := (0 : Int32)) hx hb dX7_effectOf_13 (by decide) ?_
  obtain ⟨r11, h11, hm11⟩ := ob1_e hm8
  refine gcall_i (ws' := (w_Model cI cB cZ aM aMt aMn aMr aMs aMi mth mtd msz mto mfr mso mnu mfa mpl mwo msm mgo mt mno mre msn mis)) (va_runV (As := [.int x1, .int x3, .int x3, .int (0 : Int32)]) (rest := []) ⟨hx, hb, hml, hown, hts⟩ (c_X7_valueOf l D cI cB cZ ta aM aMt aMn aMr aMs aMi H9.size mth mtd msz mto mfr mso mnu mfa mpl mwo msm mgo mt mno mre msn mis x1 x3 x3 (0 : Int32) r11 h11) (cwV 4 hts gX7_effectOf_X7_valueOf rfl rfl rfl (by decide +kernel) ⟨(Nat.le_of_ble_eq_true rfl), (Nat.le_of_ble_eq_true rfl)⟩) ⟨PW_blind, va_recv hK hP9 rfl (q0 := 0) rfl, PW_at hP9 hD9 hK hS9 hA hG [0, 1, 2, 3, 4, 5] rfl (by decide)⟩ rfl rfl hl10.1 rfl (lv_room (Nat.le_of_ble_eq_true rfl)) dX7_effectOf_14 ⟨(Nat.le_of_ble_eq_true rfl), (Nat.le_of_ble_eq_true rfl)⟩) hP9 hD9 hS9 hA [0, 1, 2, 3, 4, 5] [] [0, 1, 2, 3, 4, 5] rfl rfl (by decide) (by decide) (by decide) rfl (fun H12 lo12 hP12 hD12 hS12 => ?_)
  clear hP9 hD9 hS9
  refine lv_aload_n hx hb dX7_effectOf_17 rfl (lv_at hl10 1 rfl) ?_
  refine lv_iload_n hx hb dX7_effectOf_18 rfl (lv_at hl10 2 rfl) ?_
  refine lv_iload_n hx hb dX7_effectOf_19 rfl (lv_at hl10 3 rfl) ?_
  refine lv_iload_n hx hb dX7_effectOf_20 rfl (lv_at hl10 3 rfl) ?_
  refine lv_iconst (v := (0 : Int32)) hx hb dX7_effectOf_21 (by decide) ?_
  obtain ⟨r13, h13, hm13⟩ := ob1_e hm11
  refine gcall_i (ws' := (w_Model cI cB cZ aM aMt aMn aMr aMs aMi mth mtd msz mto mfr mso mnu mfa mpl mwo msm mgo mt mno mre msn mis)) (va_runV (As := [.int x1, .int x2, .int x2, .int (0 : Int32)]) (rest := [.int r11]) ⟨hx, hb, hml, hown, hts⟩ (c_X7_valueOf l D cI cB cZ ta aM aMt aMn aMr aMs aMi H12.size mth mtd msz mto mfr mso mnu mfa mpl mwo msm mgo mt mno mre msn mis x1 x2 x2 (0 : Int32) r13 h13) (cwV 4 hts gX7_effectOf_X7_valueOf rfl rfl rfl (by decide +kernel) ⟨(Nat.le_of_ble_eq_true rfl), (Nat.le_of_ble_eq_true rfl)⟩) ⟨PW_blind, va_recv hK hP12 rfl (q0 := 0) rfl, PW_at hP12 hD12 hK hS12 hA hG [0, 1, 2, 3, 4, 5] rfl (by decide)⟩ rfl rfl hl10.1 rfl (lv_room (Nat.le_of_ble_eq_true rfl)) dX7_effectOf_22 ⟨(Nat.le_of_ble_eq_true rfl), (Nat.le_of_ble_eq_true rfl)⟩) hP12 hD12 hS12 hA [0, 1, 2, 3, 4, 5] [] [0, 1, 2, 3, 4, 5] rfl rfl (by decide) (by decide) (by decide) rfl (fun H14 lo14 hP14 hD14 hS14 => ?_)
  clear hP12 hD12 hS12
  refine lv_isub hx hb dX7_effectOf_25 ?_
  refine lv_istore (lv' := [(7, .int (r11 - r13)), (6, .int r8), (0, .ref aM), (1, .int x1), (2, .int x2), (3, .int x3), (4, .int x4), (5, .int x5)]) hx hb dX7_effectOf_26 hl10 (by decide) rfl (fun ls15 hl15 => ?_)
  refine lv_iload hx hb dX7_effectOf_28 (lv_at hl15 1 rfl) ?_
  refine lv_if_eq (tgt := 49) hx hb dX7_effectOf_30 (by decide) (fun c16 => ?_) (fun c16 => ?_)
  · have hm17 := zz_if c16 hm13
    refine lv_iload hx hb dX7_effectOf_49 (lv_at hl15 7 rfl) ?_
    refine lv_iconst (v := (5 : Int32)) hx hb dX7_effectOf_51 (by decide) ?_
    refine lv_icmp_ge (tgt := 85) hx hb dX7_effectOf_52 (by decide) (fun c19 => ?_) (fun c19 => ?_)
    · have hm20 := zz_if c19 hm17
      refine lv_iload hx hb dX7_effectOf_85 (lv_at hl15 7 rfl) ?_
      refine lv_bipush (v := (7 : Int32)) hx hb dX7_effectOf_87 (by decide) ?_
      refine lv_icmp_ne (tgt := 98) hx hb dX7_effectOf_89 (by decide) (fun c22 => ?_) (fun c22 => ?_)
      · have hm23 := zz_nf c22 hm20
        refine lv_iconst (v := (0 : Int32)) hx hb dX7_effectOf_98 (by decide) ?_
        have hq1 := Option.some.inj hm23
        subst hq1
        exact W.iret hx hb hr (fun t ht hW => ⟨⟨_, (), rfl, rfl, by rw [ht]; exact hP14, va_K.moved hW.alike hK, hD14⟩, hS14.F ht⟩) hS14.2.2 dX7_effectOf_99
      · have hm24 := zz_if c22 hm20
        refine lv_iload hx hb dX7_effectOf_92 (lv_at hl15 6 rfl) ?_
        refine lv_iconst (v := (-1 : Int32)) hx hb dX7_effectOf_94 (by decide) ?_
        refine lv_icmp_eq (tgt := 100) hx hb dX7_effectOf_95 (by decide) (fun c25 => ?_) (fun c25 => ?_)
        · have hm26 := zz_if c25 hm24
          refine lv_iconst (v := (0 : Int32)) hx hb dX7_effectOf_100 (by decide) ?_
          refine lv_istore (lv' := [(8, .int (0 : Int32)), (7, .int (r11 - r13)), (6, .int r8), (0, .ref aM), (1, .int x1), (2, .int x2), (3, .int x3), (4, .int x4), (5, .int x5)]) hx hb dX7_effectOf_101 hl15 (by decide) rfl (fun ls28 hl28 => ?_)
          exact hk_103 FU x1 x2 x3 (r11 - r13) (0 : Int32) hm26 ls28 H14 lo14 (lv_sub hl28 [3, 4, 5, 6, 1, 0] rfl) hP14 hD14 hS14
        · have hm27 := zz_nf c25 hm24
          refine lv_iconst (v := (0 : Int32)) hx hb dX7_effectOf_98 (by decide) ?_
          have hq1 := Option.some.inj hm27
          subst hq1
          exact W.iret hx hb hr (fun t ht hW => ⟨⟨_, (), rfl, rfl, by rw [ht]; exact hP14, va_K.moved hW.alike hK, hD14⟩, hS14.F ht⟩) hS14.2.2 dX7_effectOf_99
    · have hm21 := zz_nf c19 hm17
      refine lv_iload hx hb dX7_effectOf_55 (lv_at hl15 6 rfl) ?_
      refine lv_iconst (v := (-1 : Int32)) hx hb dX7_effectOf_57 (by decide) ?_
      refine lv_icmp_ne (tgt := 73) hx hb dX7_effectOf_58 (by decide) (fun c29 => ?_) (fun c29 => ?_)
      · have hm30 := zz_nf c29 hm21
        refine lv_aload_n hx hb dX7_effectOf_73 rfl (lv_at hl15 2 rfl) ?_
        refine lv_iload_n hx hb dX7_effectOf_74 rfl (lv_at hl15 3 rfl) ?_
        refine lv_iload_n hx hb dX7_effectOf_75 rfl (lv_at hl15 4 rfl) ?_
        refine lv_iload_n hx hb dX7_effectOf_76 rfl (lv_at hl15 5 rfl) ?_
        refine lv_iload hx hb dX7_effectOf_77 (lv_at hl15 6 rfl) ?_
        refine lv_iload hx hb dX7_effectOf_79 (lv_at hl15 7 rfl) ?_
        obtain ⟨r32, h32, hm32⟩ := ob1_e hm30
        refine gcall_i (ws' := (w_Model cI cB cZ aM aMt aMn aMr aMs aMi mth mtd msz mto mfr mso mnu mfa mpl mwo msm mgo mt mno mre msn mis)) (va_runV (As := [.int x1, .int x2, .int x3, .int x4, .int x5]) (rest := []) ⟨hx, hb, hml, hown, hts⟩ (c_X7_stepOf l D cI cB cZ ta aM aMt aMn aMr aMs aMi H14.size mth mtd msz mto mfr mso mnu mfa mpl mwo msm mgo mt mno mre msn mis x1 x2 x3 x4 x5 r32 h32) (cwV 5 hts gX7_effectOf_X7_stepOf rfl rfl rfl (by decide +kernel) ⟨(Nat.le_of_ble_eq_true rfl), (Nat.le_of_ble_eq_true rfl)⟩) ⟨PW_blind, va_recv hK hP14 rfl (q0 := 0) rfl, PW_at hP14 hD14 hK hS14 hA hG [0, 1, 2, 3, 4, 5] rfl (by decide)⟩ rfl rfl hl15.1 rfl (lv_room (Nat.le_of_ble_eq_true rfl)) dX7_effectOf_81 ⟨(Nat.le_of_ble_eq_true rfl), (Nat.le_of_ble_eq_true rfl)⟩) hP14 hD14 hS14 hA [0, 1, 2, 3, 4, 5] [] [0, 1, 2, 3, 4, 5] rfl rfl (by decide) (by decide) (by decide) rfl (fun H33 lo33 hP33 hD33 hS33 => ?_)
        clear hP14 hD14 hS14
        have hq1 := Option.some.inj hm32
        subst hq1
        exact W.iret hx hb hr (fun t ht hW => ⟨⟨_, (), rfl, rfl, by rw [ht]; exact hP33, va_K.moved hW.alike hK, hD33⟩, hS33.F ht⟩) hS33.2.2 dX7_effectOf_84
      · have hm31 := zz_if c29 hm21
        refine lv_aload_n hx hb dX7_effectOf_61 rfl (lv_at hl15 2 rfl) ?_
        refine lv_iload_n hx hb dX7_effectOf_62 rfl (lv_at hl15 3 rfl) ?_
        refine lv_iload_n hx hb dX7_effectOf_63 rfl (lv_at hl15 4 rfl) ?_
        refine lv_iload_n hx hb dX7_effectOf_64 rfl (lv_at hl15 5 rfl) ?_
        refine lv_iload hx hb dX7_effectOf_65 (lv_at hl15 7 rfl) ?_
        obtain ⟨r34, h34, hm34⟩ := ob1_e hm31
        refine gcall_i (ws' := (w_Model cI cB cZ aM aMt aMn aMr aMs aMi mth mtd msz mto mfr mso mnu mfa mpl mwo msm mgo mt mno mre msn mis)) (va_runV (As := [.int x1, .int x2, .int x3, .int x5]) (rest := []) ⟨hx, hb, hml, hown, hts⟩ (c_X7_meanOf l D cI cB cZ ta aM aMt aMn aMr aMs aMi H14.size mth mtd msz mto mfr mso mnu mfa mpl mwo msm mgo mt mno mre msn mis x1 x2 x3 x5 r34 h34) (cwV 4 hts gX7_effectOf_X7_meanOf rfl rfl rfl (by decide +kernel) ⟨(Nat.le_of_ble_eq_true rfl), (Nat.le_of_ble_eq_true rfl)⟩) ⟨PW_blind, va_recv hK hP14 rfl (q0 := 0) rfl, PW_at hP14 hD14 hK hS14 hA hG [0, 1, 2, 3, 4, 5] rfl (by decide)⟩ rfl rfl hl15.1 rfl (lv_room (Nat.le_of_ble_eq_true rfl)) dX7_effectOf_67 ⟨(Nat.le_of_ble_eq_true rfl), (Nat.le_of_ble_eq_true rfl)⟩) hP14 hD14 hS14 hA [0, 1, 2, 3, 4, 5] [] [0, 1, 2, 3, 4, 5] rfl rfl (by decide) (by decide) (by decide) rfl (fun H35 lo35 hP35 hD35 hS35 => ?_)
        clear hP14 hD14 hS14
        refine lv_goto (tgt := 84) hx hb dX7_effectOf_70 (by decide) ?_
        have hq1 := Option.some.inj hm34
        subst hq1
        exact W.iret hx hb hr (fun t ht hW => ⟨⟨_, (), rfl, rfl, by rw [ht]; exact hP35, va_K.moved hW.alike hK, hD35⟩, hS35.F ht⟩) hS35.2.2 dX7_effectOf_84
  · have hm18 := zz_nf c16 hm13
    refine lv_iload hx hb dX7_effectOf_33 (lv_at hl15 7 rfl) ?_
    refine lv_iconst (v := (4 : Int32)) hx hb dX7_effectOf_35 (by decide) ?_
    refine lv_iload hx hb dX7_effectOf_36 (lv_at hl15 1 rfl) ?_
    refine lv_iadd hx hb dX7_effectOf_38 ?_
    refine lv_icmp_ne (tgt := 47) hx hb dX7_effectOf_39 (by decide) (fun c36 => ?_) (fun c36 => ?_)
    · have hm37 := zz_nf c36 hm18
      refine lv_iconst (v := (0 : Int32)) hx hb dX7_effectOf_47 (by decide) ?_
      have hq1 := Option.some.inj hm37
      subst hq1
      exact W.iret hx hb hr (fun t ht hW => ⟨⟨_, (), rfl, rfl, by rw [ht]; exact hP14, va_K.moved hW.alike hK, hD14⟩, hS14.F ht⟩) hS14.2.2 dX7_effectOf_48
    · have hm38 := zz_if c36 hm18
      refine lv_iload hx hb dX7_effectOf_42 (lv_at hl15 0 rfl) ?_
      refine lv_goto (tgt := 48) hx hb dX7_effectOf_44 (by decide) ?_
      have hq1 := Option.some.inj hm38
      subst hq1
      exact W.iret hx hb hr (fun t ht hW => ⟨⟨_, (), rfl, rfl, by rw [ht]; exact hP14, va_K.moved hW.alike hK, hD14⟩, hS14.F ht⟩) hS14.2.2 dX7_effectOf_48
theorem iw_X7_effectIn_X7 : ∀ w ∈ wsX70, w ∈ wsX7_effectIn := by decide +kernel
set_option maxHeartbeats 4000000 in
set_option maxRecDepth 100000 in
theorem c_X7_effectIn (l : Launch) (D : va_G) (cI cB cZ : ClassId) (ta : Nat → Nat) (aM : Nat) (aMt : Nat) (aMn : Nat) (aMr : Nat) (aMs : Nat) (aMi : Nat) (sz : Nat) (mth : Int32) (mtd : Int32) (msz : Int32) (mto : Int32) (mfr : Int32) (mso : Int32) (mnu : Int32) (mfa : Int32) (mpl : Int32) (mwo : Int64) (msm : Int32) (mgo : Int32) (mt : (Nat → Int32)) (mno : (Nat → Int32)) (mre : (Nat → Int32)) (msn : (Nat → Int32)) (mis : (Nat → Int32)) (x1 : Int32) (x2 : Int32) (x3 : Int32) (x4 : Int32) (x5 : Int32) (r0 : Int32) (hm : m_X7_effectIn mno x1 x2 x3 x4 x5 = some r0) : Met l yX7_effectIn wsX7_effectIn ({ frames := 5, cells := 0, slots := 0, locals := 129 } : Room) (va_Pc [.ref aM, .int x1, .int x2, .int x3, .int x4, .int x5] (PW D cI cB cZ ta (w_Model cI cB cZ aM aMt aMn aMr aMs aMi mth mtd msz mto mfr mso mnu mfa mpl mwo msm mgo mt mno mre msn mis) sz)) (QI D cI cB cZ (va_A (w_Model cI cB cZ aM aMt aMn aMr aMs aMi mth mtd msz mto mfr mso mnu mfa mpl mwo msm mgo mt mno mre msn mis) sz) (w_Model cI cB cZ aM aMt aMn aMr aMs aMi mth mtd msz mto mfr mso mnu mfa mpl mwo msm mgo mt mno mre msn mis) r0) 0 0 (va_A (w_Model cI cB cZ aM aMt aMn aMr aMs aMi mth mtd msz mto mfr mso mnu mfa mpl mwo msm mgo mt mno mre msn mis) sz) := by
  refine Met.ofW (cc := cX7_effectIn) (maxL := 8) (ret := (some .int)) (by decide) rfl ?_
  intro p e s m args below meth c s₁ B hml hv
  obtain ⟨rfl, hsz, hP, hK, hD0, hG⟩ := hv
  have hx := B.exec
  have hb := B.bytes
  have hr := B.returns
  have hts := atoms_spec (ws := wsX7_effectIn) B.pre
  have hown : s.vm.findClass RX7 = some m.cls := findClass_of_methodNamed B.named
  have hlocks := B.notSynchronized
  subst hsz
  have hD := hD0.self (sz := s.heap.size)
  clear hD0
  have hA0 : ∀ q : Nat, s.heap.size ≤ q → va_A (w_Model cI cB cZ aM aMt aMn aMr aMs aMi mth mtd msz mto mfr mso mnu mfa mpl mwo msm mgo mt mno mre msn mis) s.heap.size q := fun q h => Or.inr h
  generalize hAe : va_A (w_Model cI cB cZ aM aMt aMn aMr aMs aMi mth mtd msz mto mfr mso mnu mfa mpl mwo msm mgo mt mno mre msn mis) s.heap.size = A at hD hG hA0 ⊢
  have hA : ∀ q : Nat, s.heap.size ≤ q → A q := hA0
  clear hA0
  have hS : va_S A s.heap s.heap [] := va_S.rf
  have iw_X7 := iw_X7_effectIn_X7
  have hk_6 : ∀ (n : Nat) (y1 : Int32) (y2 : Int32) (y3 : Int32) (y4 : Int32) (y5 : Int32) (y6 : Int32) (y7 : Int32), k_X7_effectIn_6 mno n y1 y2 y3 y4 y5 y6 y7 = some r0 → ∀ (ls : Array Slot) (H : Heap) (lo : List Loc), lv_has ls 8 [(0, .ref aM), (1, .int y1), (2, .int y2), (3, .int y3), (4, .int y4), (5, .int y5), (6, .int y6), (7, .int y7)] → va_P D vwCl (w_Model cI cB cZ aM aMt aMn aMr aMs aMi mth mtd msz mto mfr mso mnu mfa mpl mwo msm mgo mt mno mre msn mis) H → va_D A (w_Model cI cB cZ aM aMt aMn aMr aMs aMi mth mtd msz mto mfr mso mnu mfa mpl mwo msm mgo mt mno mre msn mis) → va_S A s.heap H lo → W p l e (headSpec wsX7_effectIn ({ frames := 5, cells := 0, slots := 0, locals := 129 } : Room)).room s m (([.ref aM, .int x1, .int x2, .int x3, .int x4, .int x5] : List Value).toArray) below meth c H lo 0 0 (MQ below (QI D cI cB cZ A (w_Model cI cB cZ aM aMt aMn aMr aMs aMi mth mtd msz mto mfr mso mnu mfa mpl mwo msm mgo mt mno mre msn mis) r0) (([.ref aM, .int x1, .int x2, .int x3, .int x4, .int x5] : List Value).toArray) s 0 0 A) (F0 m 6 ls []) := by
    intro n
    induction n with
    | zero => intro y1 y2 y3 y4 y5 y6 y7 hm; exact zz_nn hm
    | succ n ih =>
      intro y1 y2 y3 y4 y5 y6 y7 hm ls H lo hl hP hD hS
      replace hm := (k_X7_effectIn_6_s mno n y1 y2 y3 y4 y5 y6 y7).symm.trans hm
      refine lv_iload hx hb dX7_effectIn_6 (lv_at hl 7 rfl) ?_
      refine lv_aload_n hx hb dX7_effectIn_8 rfl (lv_at hl 0 rfl) ?_
      refine va_get (D := D) (ci := 7) (v := .ref aMn) (C := RX7) (T := TX7) (N := 17) hx hb hts iw_X7 hown hK hP 0 rfl rfl 11 (by decide) (hts (.fieldLink RX7 64 "VarianceBridgeModel" "now" "[I") (by decide +kernel)) (fun _ h9 => h9) rfl dX7_effectIn_9 ?_
      refine lv_iconst (v := (1 : Int32)) hx hb dX7_effectIn_12 (by decide) ?_
      obtain ⟨c1, hm2⟩ := zz_no hm
      refine va_iald hx hb hK hP 2 0 rfl rfl c1 dX7_effectIn_13 ?_
      refine lv_icmp_ge (tgt := 50) hx hb dX7_effectIn_14 (by decide) (fun c3 => ?_) (fun c3 => ?_)
      · have hm4 := zz_if c3 hm2
        refine lv_iload hx hb dX7_effectIn_50 (lv_at hl 6 rfl) ?_
        have hq1 := Option.some.inj hm4
        subst hq1
        exact W.iret hx hb hr (fun t ht hW => ⟨⟨_, (), rfl, rfl, by rw [ht]; exact hP, va_K.moved hW.alike hK, hD⟩, hS.F ht⟩) hS.2.2 dX7_effectIn_52
      · have hm5 := zz_nf c3 hm2
        refine lv_aload_n hx hb dX7_effectIn_17 rfl (lv_at hl 0 rfl) ?_
        refine lv_iload hx hb dX7_effectIn_18 (lv_at hl 7 rfl) ?_
        refine lv_iload_n hx hb dX7_effectIn_20 rfl (lv_at hl 1 rfl) ?_
        obtain ⟨r6, h6, hm6⟩ := ob1_e hm5
        refine gcall_b (ws' := (w_Model cI cB cZ aM aMt aMn aMr aMs aMi mth mtd msz mto mfr mso mnu mfa mpl mwo msm mgo mt mno mre msn mis)) (va_runV (As := [.int y7, .int y1]) (rest := []) ⟨hx, hb, hml, hown, hts⟩ (c_X7_isLeafOf l D cI cB cZ ta aM aMt aMn aMr aMs aMi H.size mth mtd msz mto mfr mso mnu mfa mpl mwo msm mgo mt mno mre msn mis y7 y1 r6 h6) (cwV 2 hts gX7_effectIn_X7_isLeafOf rfl rfl rfl (by decide +kernel) ⟨(Nat.le_of_ble_eq_true rfl), (Nat.le_of_ble_eq_true rfl)⟩) ⟨PW_blind, va_recv hK hP rfl (q0 := 0) rfl, PW_at hP hD hK hS hA hG [0, 1, 2, 3, 4, 5] rfl (by decide)⟩ rfl rfl hl.1 rfl (lv_room (Nat.le_of_ble_eq_true rfl)) dX7_effectIn_21 ⟨(Nat.le_of_ble_eq_true rfl), (Nat.le_of_ble_eq_true rfl)⟩) hP hD hS hA [0, 1, 2, 3, 4, 5] [] [0, 1, 2, 3, 4, 5] rfl rfl (by decide) (by decide) (by decide) rfl (fun H7 lo7 hz6 hP7 hD7 hS7 => ?_)
        clear hP hD hS
        refine lv_if_eq (tgt := 44) hx hb dX7_effectIn_24 (by decide) (fun c8 => ?_) (fun c8 => ?_)
        · have hm9 := zz_if c8 hm6
          refine lv_iinc (v := (y7 + (1 : Int32))) (lv' := [(7, .int (y7 + (1 : Int32))), (0, .ref aM), (1, .int y1), (2, .int y2), (3, .int y3), (4, .int y4), (5, .int y5), (6, .int y6)]) hx hb dX7_effectIn_44 hl (k := 7) rfl (by rfl) (by decide) rfl (fun ls11 hl11 => ?_)
          refine lv_goto (tgt := 6) hx hb dX7_effectIn_47 (by decide) ?_
          exact ih y1 y2 y3 y4 y5 y6 (y7 + (1 : Int32)) hm9 ls11 H7 lo7 (lv_sub hl11 [1, 2, 3, 4, 5, 6, 7, 0] rfl) hP7 hD7 hS7
        · have hm10 := zz_nf c8 hm6
          refine lv_iload hx hb dX7_effectIn_27 (lv_at hl 6 rfl) ?_
          refine lv_aload_n hx hb dX7_effectIn_29 rfl (lv_at hl 0 rfl) ?_
          refine lv_iload hx hb dX7_effectIn_30 (lv_at hl 7 rfl) ?_
          refine lv_iload_n hx hb dX7_effectIn_32 rfl (lv_at hl 2 rfl) ?_
          refine lv_iload_n hx hb dX7_effectIn_33 rfl (lv_at hl 3 rfl) ?_
          refine lv_iload hx hb dX7_effectIn_34 (lv_at hl 4 rfl) ?_
          refine lv_iload hx hb dX7_effectIn_36 (lv_at hl 5 rfl) ?_
          obtain ⟨r12, h12, hm12⟩ := ob1_e hm10
          refine gcall_i (ws' := (w_Model cI cB cZ aM aMt aMn aMr aMs aMi mth mtd msz mto mfr mso mnu mfa mpl mwo msm mgo mt mno mre msn mis)) (va_runV (As := [.int y7, .int y2, .int y3, .int y4, .int y5]) (rest := [.int y6]) ⟨hx, hb, hml, hown, hts⟩ (c_X7_effectOf l D cI cB cZ ta aM aMt aMn aMr aMs aMi H7.size mth mtd msz mto mfr mso mnu mfa mpl mwo msm mgo mt mno mre msn mis y7 y2 y3 y4 y5 r12 h12) (cwV 5 hts gX7_effectIn_X7_effectOf rfl rfl rfl (by decide +kernel) ⟨(Nat.le_of_ble_eq_true rfl), (Nat.le_of_ble_eq_true rfl)⟩) ⟨PW_blind, va_recv hK hP7 rfl (q0 := 0) rfl, PW_at hP7 hD7 hK hS7 hA hG [0, 1, 2, 3, 4, 5] rfl (by decide)⟩ rfl rfl hl.1 rfl (lv_room (Nat.le_of_ble_eq_true rfl)) dX7_effectIn_38 ⟨(Nat.le_of_ble_eq_true rfl), (Nat.le_of_ble_eq_true rfl)⟩) hP7 hD7 hS7 hA [0, 1, 2, 3, 4, 5] [] [0, 1, 2, 3, 4, 5] rfl rfl (by decide) (by decide) (by decide) rfl (fun H13 lo13 hP13 hD13 hS13 => ?_)
          clear hP7 hD7 hS7
          refine lv_iadd hx hb dX7_effectIn_41 ?_
          refine lv_istore (lv' := [(6, .int (y6 + r12)), (0, .ref aM), (1, .int y1), (2, .int y2), (3, .int y3), (4, .int y4), (5, .int y5), (7, .int y7)]) hx hb dX7_effectIn_42 hl (by decide) rfl (fun ls14 hl14 => ?_)
          refine lv_iinc (v := (y7 + (1 : Int32))) (lv' := [(7, .int (y7 + (1 : Int32))), (6, .int (y6 + r12)), (0, .ref aM), (1, .int y1), (2, .int y2), (3, .int y3), (4, .int y4), (5, .int y5)]) hx hb dX7_effectIn_44 hl14 (k := 7) rfl (by rfl) (by decide) rfl (fun ls15 hl15 => ?_)
          refine lv_goto (tgt := 6) hx hb dX7_effectIn_47 (by decide) ?_
          exact ih y1 y2 y3 y4 y5 (y6 + r12) (y7 + (1 : Int32)) hm12 ls15 H13 lo13 (lv_sub hl15 [2, 3, 4, 5, 6, 7, 1, 0] rfl) hP13 hD13 hS13
  have hl := lv_entry ([.ref aM, .int x1, .int x2, .int x3, .int x4, .int x5]) (n := 8) (Nat.le_of_ble_eq_true rfl)
  rw [lg_entry_eq]
  generalize (lg_sl ([.ref aM, .int x1, .int x2, .int x3, .int x4, .int x5]) ++ List.replicate (8 - (lg_sl ([.ref aM, .int x1, .int x2, .int x3, .int x4, .int x5])).length) Slot.unset).toArray = ls at hl ⊢
  have hl : lv_has ls 8 [(0, .ref aM), (1, .int x1), (2, .int x2), (3, .int x3), (4, .int x4), (5, .int x5)] := hl
  replace hm : (k_X7_effectIn_6 mno FU x1 x2 x3 x4 x5 (0 : Int32) (0 : Int32)) = some r0 := hm
  refine lv_iconst (v := (0 : Int32)) hx hb dX7_effectIn_0 (by decide) ?_
  refine lv_istore (lv' := [(6, .int (0 : Int32)), (0, .ref aM), (1, .int x1), (2, .int x2), (3, .int x3), (4, .int x4), (5, .int x5)]) hx hb dX7_effectIn_1 hl (by decide) rfl (fun ls16 hl16 => ?_)
  refine lv_iconst (v := (0 : Int32)) hx hb dX7_effectIn_3 (by decide) ?_
  refine lv_istore (lv' := [(7, .int (0 : Int32)), (6, .int (0 : Int32)), (0, .ref aM), (1, .int x1), (2, .int x2), (3, .int x3), (4, .int x4), (5, .int x5)]) hx hb dX7_effectIn_4 hl16 (by decide) rfl (fun ls17 hl17 => ?_)
  exact hk_6 FU x1 x2 x3 x4 x5 (0 : Int32) (0 : Int32) hm ls17 s.heap [] (lv_sub hl17 [2, 3, 4, 5, 6, 7, 1, 0] rfl) hP hD hS
theorem iw_X7_effect_X7 : ∀ w ∈ wsX70, w ∈ wsX7_effect := by decide +kernel
set_option maxHeartbeats 4000000 in
set_option maxRecDepth 100000 in
theorem c_X7_effect (l : Launch) (D : va_G) (cI cB cZ : ClassId) (ta : Nat → Nat) (aM : Nat) (aMt : Nat) (aMn : Nat) (aMr : Nat) (aMs : Nat) (aMi : Nat) (sz : Nat) (mth : Int32) (mtd : Int32) (msz : Int32) (mto : Int32) (mfr : Int32) (mso : Int32) (mnu : Int32) (mfa : Int32) (mpl : Int32) (mwo : Int64) (msm : Int32) (mgo : Int32) (mt : (Nat → Int32)) (mno : (Nat → Int32)) (mre : (Nat → Int32)) (msn : (Nat → Int32)) (mis : (Nat → Int32)) (x1 : Int32) (x2 : Int32) (x3 : Int32) (x4 : Int32) (x5 : Int32) (r0 : Int32) (u_mth : Int32) (hm : m_X7_effect mth mno x1 x2 x3 x4 x5 = some (r0, u_mth)) : Met l yX7_effect wsX7_effect ({ frames := 6, cells := 0, slots := 0, locals := 156 } : Room) (va_Pc [.ref aM, .int x1, .int x2, .int x3, .int x4, .int x5] (PW D cI cB cZ ta (w_Model cI cB cZ aM aMt aMn aMr aMs aMi mth mtd msz mto mfr mso mnu mfa mpl mwo msm mgo mt mno mre msn mis) sz)) (QI D cI cB cZ (va_A (w_Model cI cB cZ aM aMt aMn aMr aMs aMi mth mtd msz mto mfr mso mnu mfa mpl mwo msm mgo mt mno mre msn mis) sz) (w_Model cI cB cZ aM aMt aMn aMr aMs aMi u_mth mtd msz mto mfr mso mnu mfa mpl mwo msm mgo mt mno mre msn mis) r0) 0 0 (va_A (w_Model cI cB cZ aM aMt aMn aMr aMs aMi mth mtd msz mto mfr mso mnu mfa mpl mwo msm mgo mt mno mre msn mis) sz) := by
  refine Met.ofW (cc := cX7_effect) (maxL := 6) (ret := (some .int)) (by decide) rfl ?_
  intro p e s m args below meth c s₁ B hml hv
  obtain ⟨rfl, hsz, hP, hK, hD0, hG⟩ := hv
  have hx := B.exec
  have hb := B.bytes
  have hr := B.returns
  have hts := atoms_spec (ws := wsX7_effect) B.pre
  have hown : s.vm.findClass RX7 = some m.cls := findClass_of_methodNamed B.named
  have hlocks := B.notSynchronized
  subst hsz
  have hD := hD0.self (sz := s.heap.size)
  clear hD0
  have hA0 : ∀ q : Nat, s.heap.size ≤ q → va_A (w_Model cI cB cZ aM aMt aMn aMr aMs aMi mth mtd msz mto mfr mso mnu mfa mpl mwo msm mgo mt mno mre msn mis) s.heap.size q := fun q h => Or.inr h
  generalize hAe : va_A (w_Model cI cB cZ aM aMt aMn aMr aMs aMi mth mtd msz mto mfr mso mnu mfa mpl mwo msm mgo mt mno mre msn mis) s.heap.size = A at hD hG hA0 ⊢
  have hA : ∀ q : Nat, s.heap.size ≤ q → A q := hA0
  clear hA0
  have hS : va_S A s.heap s.heap [] := va_S.rf
  have iw_X7 := iw_X7_effect_X7
  have hk_36 : ∀ (mth : Int32) (y1 : Int32) (y2 : Int32) (y3 : Int32) (y4 : Int32) (y5 : Int32), k_X7_effect_36 mno mth y1 y2 y3 y4 y5 = some (r0, u_mth) → ∀ (ls : Array Slot) (H : Heap) (lo : List Loc), lv_has ls 6 [(0, .ref aM), (1, .int y1), (2, .int y2), (3, .int y3), (4, .int y4), (5, .int y5)] → va_P D vwCl (w_Model cI cB cZ aM aMt aMn aMr aMs aMi mth mtd msz mto mfr mso mnu mfa mpl mwo msm mgo mt mno mre msn mis) H → va_D A (w_Model cI cB cZ aM aMt aMn aMr aMs aMi mth mtd msz mto mfr mso mnu mfa mpl mwo msm mgo mt mno mre msn mis) → va_S A s.heap H lo → W p l e (headSpec wsX7_effect ({ frames := 6, cells := 0, slots := 0, locals := 156 } : Room)).room s m (([.ref aM, .int x1, .int x2, .int x3, .int x4, .int x5] : List Value).toArray) below meth c H lo 0 0 (MQ below (QI D cI cB cZ A (w_Model cI cB cZ aM aMt aMn aMr aMs aMi u_mth mtd msz mto mfr mso mnu mfa mpl mwo msm mgo mt mno mre msn mis) r0) (([.ref aM, .int x1, .int x2, .int x3, .int x4, .int x5] : List Value).toArray) s 0 0 A) (F0 m 36 ls []) := by
    intro mth y1 y2 y3 y4 y5 hm ls H lo hl hP hD hS
    replace hm : (ob1 (m_X7_isIn y5 (0 : Int32) (7 : Int32)) (fun r1 => (if r1 = 0 then some ((-1000000000 : Int32), mth) else (ob1 (m_X7_effectIn mno y1 y2 y3 y4 y5) (fun r6 => some (r6, mth)))))) = some (r0, u_mth) := hm
    refine lv_iload hx hb dX7_effect_36 (lv_at hl 5 rfl) ?_
    refine lv_iconst (v := (0 : Int32)) hx hb dX7_effect_38 (by decide) ?_
    refine lv_bipush (v := (7 : Int32)) hx hb dX7_effect_39 (by decide) ?_
    obtain ⟨r1, h1, hm1⟩ := ob1_e hm
    refine gcall_b (ws' := (w_Model cI cB cZ aM aMt aMn aMr aMs aMi mth mtd msz mto mfr mso mnu mfa mpl mwo msm mgo mt mno mre msn mis)) (va_runS (As := [.int y5, .int (0 : Int32), .int (7 : Int32)]) (rest := []) ⟨hx, hb, hml, hown, hts⟩ (c_X7_isIn l D cI cB cZ ta H.size y5 (0 : Int32) (7 : Int32) r1 h1) (va_cwS 3 hts gX7_effect_X7_isIn rfl rfl rfl (by decide +kernel) ⟨(Nat.le_of_ble_eq_true rfl), (Nat.le_of_ble_eq_true rfl)⟩) ⟨PW_blind, PW_at hP hD hK hS hA hG [] rfl (by decide)⟩ rfl rfl hl.1 rfl (lv_room (Nat.le_of_ble_eq_true rfl)) dX7_effect_41 ⟨(Nat.le_of_ble_eq_true rfl), (Nat.le_of_ble_eq_true rfl)⟩) hP hD hS hA [] [0, 1, 2, 3, 4, 5] [0, 1, 2, 3, 4, 5] rfl rfl (by decide) (by decide) (by decide) rfl (fun H2 lo2 hz1 hP2 hD2 hS2 => ?_)
    clear hP hD hS
    refine lv_if_ne (tgt := 50) hx hb dX7_effect_44 (by decide) (fun c3 => ?_) (fun c3 => ?_)
    · have hm4 := zz_nf c3 hm1
      refine lv_aload_n hx hb dX7_effect_50 rfl (lv_at hl 0 rfl) ?_
      refine lv_iload_n hx hb dX7_effect_51 rfl (lv_at hl 1 rfl) ?_
      refine lv_iload_n hx hb dX7_effect_52 rfl (lv_at hl 2 rfl) ?_
      refine lv_iload_n hx hb dX7_effect_53 rfl (lv_at hl 3 rfl) ?_
      refine lv_iload hx hb dX7_effect_54 (lv_at hl 4 rfl) ?_
      refine lv_iload hx hb dX7_effect_56 (lv_at hl 5 rfl) ?_
      obtain ⟨r6, h6, hm6⟩ := ob1_e hm4
      refine gcall_i (ws' := (w_Model cI cB cZ aM aMt aMn aMr aMs aMi mth mtd msz mto mfr mso mnu mfa mpl mwo msm mgo mt mno mre msn mis)) (va_runV (As := [.int y1, .int y2, .int y3, .int y4, .int y5]) (rest := []) ⟨hx, hb, hml, hown, hts⟩ (c_X7_effectIn l D cI cB cZ ta aM aMt aMn aMr aMs aMi H2.size mth mtd msz mto mfr mso mnu mfa mpl mwo msm mgo mt mno mre msn mis y1 y2 y3 y4 y5 r6 h6) (cwV 5 hts gX7_effect_X7_effectIn rfl rfl rfl (by decide +kernel) ⟨(Nat.le_of_ble_eq_true rfl), (Nat.le_of_ble_eq_true rfl)⟩) ⟨PW_blind, va_recv hK hP2 rfl (q0 := 0) rfl, PW_at hP2 hD2 hK hS2 hA hG [0, 1, 2, 3, 4, 5] rfl (by decide)⟩ rfl rfl hl.1 rfl (lv_room (Nat.le_of_ble_eq_true rfl)) dX7_effect_58 ⟨(Nat.le_of_ble_eq_true rfl), (Nat.le_of_ble_eq_true rfl)⟩) hP2 hD2 hS2 hA [0, 1, 2, 3, 4, 5] [] [0, 1, 2, 3, 4, 5] rfl rfl (by decide) (by decide) (by decide) rfl (fun H7 lo7 hP7 hD7 hS7 => ?_)
      clear hP2 hD2 hS2
      obtain ⟨hq1, hq2⟩ := Prod.mk.inj (Option.some.inj hm6)
      subst hq1
      subst hq2
      exact W.iret hx hb hr (fun t ht hW => ⟨⟨_, (), rfl, rfl, by rw [ht]; exact hP7, va_K.moved hW.alike hK, hD7⟩, hS7.F ht⟩) hS7.2.2 dX7_effect_61
    · have hm5 := zz_if c3 hm1
      refine lv_ldc (v := (-1000000000 : Int32)) hx hb hown (hts (.constant RX7 193 (-1000000000)) (by decide +kernel)) dX7_effect_47 ?_
      obtain ⟨hq1, hq2⟩ := Prod.mk.inj (Option.some.inj hm5)
      subst hq1
      subst hq2
      exact W.iret hx hb hr (fun t ht hW => ⟨⟨_, (), rfl, rfl, by rw [ht]; exact hP2, va_K.moved hW.alike hK, hD2⟩, hS2.F ht⟩) hS2.2.2 dX7_effect_49
  have hl := lv_entry ([.ref aM, .int x1, .int x2, .int x3, .int x4, .int x5]) (n := 6) (Nat.le_of_ble_eq_true rfl)
  rw [lg_entry_eq]
  generalize (lg_sl ([.ref aM, .int x1, .int x2, .int x3, .int x4, .int x5]) ++ List.replicate (6 - (lg_sl ([.ref aM, .int x1, .int x2, .int x3, .int x4, .int x5])).length) Slot.unset).toArray = ls at hl ⊢
  have hl : lv_has ls 6 [(0, .ref aM), (1, .int x1), (2, .int x2), (3, .int x3), (4, .int x4), (5, .int x5)] := hl
  replace hm : (ob1 (m_X7_isNode mno x1) (fun r9 => (if r9 = 0 then some ((-1000000000 : Int32), (0 : Int32)) else (ob1 (m_X7_areScenes mno x2 x3) (fun r14 => (if r14 = 0 then some ((-1000000000 : Int32), (0 : Int32)) else (if x4 = (-1 : Int32) then (k_X7_effect_36 mno (0 : Int32) x1 x2 x3 x4 x5) else (ob1 (m_X7_isOrder x4) (fun r22 => (if r22 = 0 then some ((-1000000000 : Int32), (0 : Int32)) else (k_X7_effect_36 mno (0 : Int32) x1 x2 x3 x4 x5))))))))))) = some (r0, u_mth) := hm
  refine lv_aload_n hx hb dX7_effect_0 rfl (lv_at hl 0 rfl) ?_
  refine lv_iconst (v := (0 : Int32)) hx hb dX7_effect_1 (by decide) ?_
  refine va_put (D := D) (ci := 7) (v := .int (0 : Int32)) (ty := .int) (C := RX7) (T := TX7) (N := 17) hx hb hts iw_X7 tyX7 tyX7_ok nmX7 hown hK hP hD hS 0 rfl rfl 0 (by decide) (hts (.fieldLink RX7 1 "VarianceBridgeModel" "thrown" "I") (by decide +kernel)) (fun _ h9 => h9) rfl (by decide +kernel) rfl rfl (Nat.le_of_ble_eq_true rfl) dX7_effect_2 (fun H8 lo8 hP8 hD8 hS8 => ?_)
  replace hP8 : va_P D vwCl (w_Model cI cB cZ aM aMt aMn aMr aMs aMi (0 : Int32) mtd msz mto mfr mso mnu mfa mpl mwo msm mgo mt mno mre msn mis) H8 := hP8
  replace hD8 : va_D A (w_Model cI cB cZ aM aMt aMn aMr aMs aMi (0 : Int32) mtd msz mto mfr mso mnu mfa mpl mwo msm mgo mt mno mre msn mis) := hD8
  clear hP hD hS
  refine lv_aload_n hx hb dX7_effect_5 rfl (lv_at hl 0 rfl) ?_
  refine lv_iload_n hx hb dX7_effect_6 rfl (lv_at hl 1 rfl) ?_
  obtain ⟨r9, h9, hm9⟩ := ob1_e hm
  refine gcall_b (ws' := (w_Model cI cB cZ aM aMt aMn aMr aMs aMi (0 : Int32) mtd msz mto mfr mso mnu mfa mpl mwo msm mgo mt mno mre msn mis)) (va_runV (As := [.int x1]) (rest := []) ⟨hx, hb, hml, hown, hts⟩ (c_X7_isNode l D cI cB cZ ta aM aMt aMn aMr aMs aMi H8.size (0 : Int32) mtd msz mto mfr mso mnu mfa mpl mwo msm mgo mt mno mre msn mis x1 r9 h9) (cwV 1 hts gX7_effect_X7_isNode rfl rfl rfl (by decide +kernel) ⟨(Nat.le_of_ble_eq_true rfl), (Nat.le_of_ble_eq_true rfl)⟩) ⟨PW_blind, va_recv hK hP8 rfl (q0 := 0) rfl, PW_at hP8 hD8 hK hS8 hA hG [0, 1, 2, 3, 4, 5] rfl (by decide)⟩ rfl rfl hl.1 rfl (lv_room (Nat.le_of_ble_eq_true rfl)) dX7_effect_7 ⟨(Nat.le_of_ble_eq_true rfl), (Nat.le_of_ble_eq_true rfl)⟩) hP8 hD8 hS8 hA [0, 1, 2, 3, 4, 5] [] [0, 1, 2, 3, 4, 5] rfl rfl (by decide) (by decide) (by decide) rfl (fun H10 lo10 hz9 hP10 hD10 hS10 => ?_)
  clear hP8 hD8 hS8
  refine lv_if_eq (tgt := 47) hx hb dX7_effect_10 (by decide) (fun c11 => ?_) (fun c11 => ?_)
  · have hm12 := zz_if c11 hm9
    refine lv_ldc (v := (-1000000000 : Int32)) hx hb hown (hts (.constant RX7 193 (-1000000000)) (by decide +kernel)) dX7_effect_47 ?_
    obtain ⟨hq1, hq2⟩ := Prod.mk.inj (Option.some.inj hm12)
    subst hq1
    subst hq2
    exact W.iret hx hb hr (fun t ht hW => ⟨⟨_, (), rfl, rfl, by rw [ht]; exact hP10, va_K.moved hW.alike hK, hD10⟩, hS10.F ht⟩) hS10.2.2 dX7_effect_49
  · have hm13 := zz_nf c11 hm9
    refine lv_aload_n hx hb dX7_effect_13 rfl (lv_at hl 0 rfl) ?_
    refine lv_iload_n hx hb dX7_effect_14 rfl (lv_at hl 2 rfl) ?_
    refine lv_iload_n hx hb dX7_effect_15 rfl (lv_at hl 3 rfl) ?_
    obtain ⟨r14, h14, hm14⟩ := ob1_e hm13
    refine gcall_b (ws' := (w_Model cI cB cZ aM aMt aMn aMr aMs aMi (0 : Int32) mtd msz mto mfr mso mnu mfa mpl mwo msm mgo mt mno mre msn mis)) (va_runV (As := [.int x2, .int x3]) (rest := []) ⟨hx, hb, hml, hown, hts⟩ (c_X7_areScenes l D cI cB cZ ta aM aMt aMn aMr aMs aMi H10.size (0 : Int32) mtd msz mto mfr mso mnu mfa mpl mwo msm mgo mt mno mre msn mis x2 x3 r14 h14) (cwV 2 hts gX7_effect_X7_areScenes rfl rfl rfl (by decide +kernel) ⟨(Nat.le_of_ble_eq_true rfl), (Nat.le_of_ble_eq_true rfl)⟩) ⟨PW_blind, va_recv hK hP10 rfl (q0 := 0) rfl, PW_at hP10 hD10 hK hS10 hA hG [0, 1, 2, 3, 4, 5] rfl (by decide)⟩ rfl rfl hl.1 rfl (lv_room (Nat.le_of_ble_eq_true rfl)) dX7_effect_16 ⟨(Nat.le_of_ble_eq_true rfl), (Nat.le_of_ble_eq_true rfl)⟩) hP10 hD10 hS10 hA [0, 1, 2, 3, 4, 5] [] [0, 1, 2, 3, 4, 5] rfl rfl (by decide) (by decide) (by decide) rfl (fun H15 lo15 hz14 hP15 hD15 hS15 => ?_)
    clear hP10 hD10 hS10
    refine lv_if_eq (tgt := 47) hx hb dX7_effect_19 (by decide) (fun c16 => ?_) (fun c16 => ?_)
    · have hm17 := zz_if c16 hm14
      refine lv_ldc (v := (-1000000000 : Int32)) hx hb hown (hts (.constant RX7 193 (-1000000000)) (by decide +kernel)) dX7_effect_47 ?_
      obtain ⟨hq1, hq2⟩ := Prod.mk.inj (Option.some.inj hm17)
      subst hq1
      subst hq2
      exact W.iret hx hb hr (fun t ht hW => ⟨⟨_, (), rfl, rfl, by rw [ht]; exact hP15, va_K.moved hW.alike hK, hD15⟩, hS15.F ht⟩) hS15.2.2 dX7_effect_49
    · have hm18 := zz_nf c16 hm14
      refine lv_iload hx hb dX7_effect_22 (lv_at hl 4 rfl) ?_
      refine lv_iconst (v := (-1 : Int32)) hx hb dX7_effect_24 (by decide) ?_
      refine lv_icmp_eq (tgt := 36) hx hb dX7_effect_25 (by decide) (fun c19 => ?_) (fun c19 => ?_)
      · have hm20 := zz_if c19 hm18
        exact hk_36 (0 : Int32) x1 x2 x3 x4 x5 hm20 ls H15 lo15 (lv_sub hl [0, 1, 2, 3, 4, 5] rfl) hP15 hD15 hS15
      · have hm21 := zz_nf c19 hm18
        refine lv_iload hx hb dX7_effect_28 (lv_at hl 4 rfl) ?_
        obtain ⟨r22, h22, hm22⟩ := ob1_e hm21
        refine gcall_b (ws' := (w_Model cI cB cZ aM aMt aMn aMr aMs aMi (0 : Int32) mtd msz mto mfr mso mnu mfa mpl mwo msm mgo mt mno mre msn mis)) (va_runS (As := [.int x4]) (rest := []) ⟨hx, hb, hml, hown, hts⟩ (c_X7_isOrder l D cI cB cZ ta H15.size x4 r22 h22) (va_cwS 1 hts gX7_effect_X7_isOrder rfl rfl rfl (by decide +kernel) ⟨(Nat.le_of_ble_eq_true rfl), (Nat.le_of_ble_eq_true rfl)⟩) ⟨PW_blind, PW_at hP15 hD15 hK hS15 hA hG [] rfl (by decide)⟩ rfl rfl hl.1 rfl (lv_room (Nat.le_of_ble_eq_true rfl)) dX7_effect_30 ⟨(Nat.le_of_ble_eq_true rfl), (Nat.le_of_ble_eq_true rfl)⟩) hP15 hD15 hS15 hA [] [0, 1, 2, 3, 4, 5] [0, 1, 2, 3, 4, 5] rfl rfl (by decide) (by decide) (by decide) rfl (fun H23 lo23 hz22 hP23 hD23 hS23 => ?_)
        clear hP15 hD15 hS15
        refine lv_if_eq (tgt := 47) hx hb dX7_effect_33 (by decide) (fun c24 => ?_) (fun c24 => ?_)
        · have hm25 := zz_if c24 hm22
          refine lv_ldc (v := (-1000000000 : Int32)) hx hb hown (hts (.constant RX7 193 (-1000000000)) (by decide +kernel)) dX7_effect_47 ?_
          obtain ⟨hq1, hq2⟩ := Prod.mk.inj (Option.some.inj hm25)
          subst hq1
          subst hq2
          exact W.iret hx hb hr (fun t ht hW => ⟨⟨_, (), rfl, rfl, by rw [ht]; exact hP23, va_K.moved hW.alike hK, hD23⟩, hS23.F ht⟩) hS23.2.2 dX7_effect_49
        · have hm26 := zz_nf c24 hm22
          exact hk_36 (0 : Int32) x1 x2 x3 x4 x5 hm26 ls H23 lo23 (lv_sub hl [0, 1, 2, 3, 4, 5] rfl) hP23 hD23 hS23
theorem iw_X7_unitsOf_X7 : ∀ w ∈ wsX70, w ∈ wsX7_unitsOf := by decide +kernel
set_option maxHeartbeats 4000000 in
set_option maxRecDepth 100000 in
theorem c_X7_unitsOf (l : Launch) (D : va_G) (cI cB cZ : ClassId) (ta : Nat → Nat) (aM : Nat) (aMt : Nat) (aMn : Nat) (aMr : Nat) (aMs : Nat) (aMi : Nat) (sz : Nat) (mth : Int32) (mtd : Int32) (msz : Int32) (mto : Int32) (mfr : Int32) (mso : Int32) (mnu : Int32) (mfa : Int32) (mpl : Int32) (mwo : Int64) (msm : Int32) (mgo : Int32) (mt : (Nat → Int32)) (mno : (Nat → Int32)) (mre : (Nat → Int32)) (msn : (Nat → Int32)) (mis : (Nat → Int32)) (x1 : Int32) (x2 : Int32) (x3 : Int32) (x4 : Int32) (r0 : Int32) (hm : m_X7_unitsOf mno x1 x2 x3 x4 = some r0) : Met l yX7_unitsOf wsX7_unitsOf ({ frames := 3, cells := 0, slots := 0, locals := 66 } : Room) (va_Pc [.ref aM, .int x1, .int x2, .int x3, .int x4] (PW D cI cB cZ ta (w_Model cI cB cZ aM aMt aMn aMr aMs aMi mth mtd msz mto mfr mso mnu mfa mpl mwo msm mgo mt mno mre msn mis) sz)) (QI D cI cB cZ (va_A (w_Model cI cB cZ aM aMt aMn aMr aMs aMi mth mtd msz mto mfr mso mnu mfa mpl mwo msm mgo mt mno mre msn mis) sz) (w_Model cI cB cZ aM aMt aMn aMr aMs aMi mth mtd msz mto mfr mso mnu mfa mpl mwo msm mgo mt mno mre msn mis) r0) 0 0 (va_A (w_Model cI cB cZ aM aMt aMn aMr aMs aMi mth mtd msz mto mfr mso mnu mfa mpl mwo msm mgo mt mno mre msn mis) sz) := by
  refine Met.ofW (cc := cX7_unitsOf) (maxL := 7) (ret := (some .int)) (by decide) rfl ?_
  intro p e s m args below meth c s₁ B hml hv
  obtain ⟨rfl, hsz, hP, hK, hD0, hG⟩ := hv
  have hx := B.exec
  have hb := B.bytes
  have hr := B.returns
  have hts := atoms_spec (ws := wsX7_unitsOf) B.pre
  have hown : s.vm.findClass RX7 = some m.cls := findClass_of_methodNamed B.named
  have hlocks := B.notSynchronized
  subst hsz
  have hD := hD0.self (sz := s.heap.size)
  clear hD0
  have hA0 : ∀ q : Nat, s.heap.size ≤ q → va_A (w_Model cI cB cZ aM aMt aMn aMr aMs aMi mth mtd msz mto mfr mso mnu mfa mpl mwo msm mgo mt mno mre msn mis) s.heap.size q := fun q h => Or.inr h
  generalize hAe : va_A (w_Model cI cB cZ aM aMt aMn aMr aMs aMi mth mtd msz mto mfr mso mnu mfa mpl mwo msm mgo mt mno mre msn mis) s.heap.size = A at hD hG hA0 ⊢
  have hA : ∀ q : Nat, s.heap.size ≤ q → A q := hA0
  clear hA0
  have hS : va_S A s.heap s.heap [] := va_S.rf
  have iw_X7 := iw_X7_unitsOf_X7
  have hk_6 : ∀ (n : Nat) (y1 : Int32) (y2 : Int32) (y3 : Int32) (y4 : Int32) (y5 : Int32) (y6 : Int32), k_X7_unitsOf_6 mno n y1 y2 y3 y4 y5 y6 = some r0 → ∀ (ls : Array Slot) (H : Heap) (lo : List Loc), lv_has ls 7 [(0, .ref aM), (1, .int y1), (2, .int y2), (3, .int y3), (4, .int y4), (5, .int y5), (6, .int y6)] → va_P D vwCl (w_Model cI cB cZ aM aMt aMn aMr aMs aMi mth mtd msz mto mfr mso mnu mfa mpl mwo msm mgo mt mno mre msn mis) H → va_D A (w_Model cI cB cZ aM aMt aMn aMr aMs aMi mth mtd msz mto mfr mso mnu mfa mpl mwo msm mgo mt mno mre msn mis) → va_S A s.heap H lo → W p l e (headSpec wsX7_unitsOf ({ frames := 3, cells := 0, slots := 0, locals := 66 } : Room)).room s m (([.ref aM, .int x1, .int x2, .int x3, .int x4] : List Value).toArray) below meth c H lo 0 0 (MQ below (QI D cI cB cZ A (w_Model cI cB cZ aM aMt aMn aMr aMs aMi mth mtd msz mto mfr mso mnu mfa mpl mwo msm mgo mt mno mre msn mis) r0) (([.ref aM, .int x1, .int x2, .int x3, .int x4] : List Value).toArray) s 0 0 A) (F0 m 6 ls []) := by
    intro n
    induction n with
    | zero => intro y1 y2 y3 y4 y5 y6 hm; exact zz_nn hm
    | succ n ih =>
      intro y1 y2 y3 y4 y5 y6 hm ls H lo hl hP hD hS
      replace hm := (k_X7_unitsOf_6_s mno n y1 y2 y3 y4 y5 y6).symm.trans hm
      refine lv_iload hx hb dX7_unitsOf_6 (lv_at hl 6 rfl) ?_
      refine lv_aload_n hx hb dX7_unitsOf_8 rfl (lv_at hl 0 rfl) ?_
      refine va_get (D := D) (ci := 7) (v := .ref aMn) (C := RX7) (T := TX7) (N := 17) hx hb hts iw_X7 hown hK hP 0 rfl rfl 11 (by decide) (hts (.fieldLink RX7 64 "VarianceBridgeModel" "now" "[I") (by decide +kernel)) (fun _ h9 => h9) rfl dX7_unitsOf_9 ?_
      refine lv_iconst (v := (1 : Int32)) hx hb dX7_unitsOf_12 (by decide) ?_
      obtain ⟨c1, hm2⟩ := zz_no hm
      refine va_iald hx hb hK hP 2 0 rfl rfl c1 dX7_unitsOf_13 ?_
      refine lv_icmp_ge (tgt := 62) hx hb dX7_unitsOf_14 (by decide) (fun c3 => ?_) (fun c3 => ?_)
      · have hm4 := zz_if c3 hm2
        refine lv_iload hx hb dX7_unitsOf_62 (lv_at hl 5 rfl) ?_
        have hq1 := Option.some.inj hm4
        subst hq1
        exact W.iret hx hb hr (fun t ht hW => ⟨⟨_, (), rfl, rfl, by rw [ht]; exact hP, va_K.moved hW.alike hK, hD⟩, hS.F ht⟩) hS.2.2 dX7_unitsOf_64
      · have hm5 := zz_nf c3 hm2
        refine lv_aload_n hx hb dX7_unitsOf_17 rfl (lv_at hl 0 rfl) ?_
        refine lv_iload hx hb dX7_unitsOf_18 (lv_at hl 6 rfl) ?_
        refine lv_iload_n hx hb dX7_unitsOf_20 rfl (lv_at hl 1 rfl) ?_
        obtain ⟨r6, h6, hm6⟩ := ob1_e hm5
        refine gcall_b (ws' := (w_Model cI cB cZ aM aMt aMn aMr aMs aMi mth mtd msz mto mfr mso mnu mfa mpl mwo msm mgo mt mno mre msn mis)) (va_runV (As := [.int y6, .int y1]) (rest := []) ⟨hx, hb, hml, hown, hts⟩ (c_X7_isLeafOf l D cI cB cZ ta aM aMt aMn aMr aMs aMi H.size mth mtd msz mto mfr mso mnu mfa mpl mwo msm mgo mt mno mre msn mis y6 y1 r6 h6) (cwV 2 hts gX7_unitsOf_X7_isLeafOf rfl rfl rfl (by decide +kernel) ⟨(Nat.le_of_ble_eq_true rfl), (Nat.le_of_ble_eq_true rfl)⟩) ⟨PW_blind, va_recv hK hP rfl (q0 := 0) rfl, PW_at hP hD hK hS hA hG [0, 1, 2, 3, 4, 5] rfl (by decide)⟩ rfl rfl hl.1 rfl (lv_room (Nat.le_of_ble_eq_true rfl)) dX7_unitsOf_21 ⟨(Nat.le_of_ble_eq_true rfl), (Nat.le_of_ble_eq_true rfl)⟩) hP hD hS hA [0, 1, 2, 3, 4, 5] [] [0, 1, 2, 3, 4, 5] rfl rfl (by decide) (by decide) (by decide) rfl (fun H7 lo7 hz6 hP7 hD7 hS7 => ?_)
        clear hP hD hS
        refine lv_if_eq (tgt := 56) hx hb dX7_unitsOf_24 (by decide) (fun c8 => ?_) (fun c8 => ?_)
        · have hm9 := zz_if c8 hm6
          refine lv_iinc (v := (y6 + (1 : Int32))) (lv' := [(6, .int (y6 + (1 : Int32))), (0, .ref aM), (1, .int y1), (2, .int y2), (3, .int y3), (4, .int y4), (5, .int y5)]) hx hb dX7_unitsOf_56 hl (k := 6) rfl (by rfl) (by decide) rfl (fun ls11 hl11 => ?_)
          refine lv_goto (tgt := 6) hx hb dX7_unitsOf_59 (by decide) ?_
          exact ih y1 y2 y3 y4 y5 (y6 + (1 : Int32)) hm9 ls11 H7 lo7 (lv_sub hl11 [1, 2, 3, 4, 5, 6, 0] rfl) hP7 hD7 hS7
        · have hm10 := zz_nf c8 hm6
          refine lv_aload_n hx hb dX7_unitsOf_27 rfl (lv_at hl 0 rfl) ?_
          refine lv_iload hx hb dX7_unitsOf_28 (lv_at hl 6 rfl) ?_
          refine lv_iload_n hx hb dX7_unitsOf_30 rfl (lv_at hl 2 rfl) ?_
          refine lv_iload_n hx hb dX7_unitsOf_31 rfl (lv_at hl 3 rfl) ?_
          obtain ⟨r12, h12, hm12⟩ := ob1_e hm10
          refine gcall_i (ws' := (w_Model cI cB cZ aM aMt aMn aMr aMs aMi mth mtd msz mto mfr mso mnu mfa mpl mwo msm mgo mt mno mre msn mis)) (va_runV (As := [.int y6, .int y2, .int y3]) (rest := []) ⟨hx, hb, hml, hown, hts⟩ (c_X7_howOf l D cI cB cZ ta aM aMt aMn aMr aMs aMi H7.size mth mtd msz mto mfr mso mnu mfa mpl mwo msm mgo mt mno mre msn mis y6 y2 y3 r12 h12) (cwV 3 hts gX7_unitsOf_X7_howOf rfl rfl rfl (by decide +kernel) ⟨(Nat.le_of_ble_eq_true rfl), (Nat.le_of_ble_eq_true rfl)⟩) ⟨PW_blind, va_recv hK hP7 rfl (q0 := 0) rfl, PW_at hP7 hD7 hK hS7 hA hG [0, 1, 2, 3, 4, 5] rfl (by decide)⟩ rfl rfl hl.1 rfl (lv_room (Nat.le_of_ble_eq_true rfl)) dX7_unitsOf_32 ⟨(Nat.le_of_ble_eq_true rfl), (Nat.le_of_ble_eq_true rfl)⟩) hP7 hD7 hS7 hA [0, 1, 2, 3, 4, 5] [] [0, 1, 2, 3, 4, 5] rfl rfl (by decide) (by decide) (by decide) rfl (fun H13 lo13 hP13 hD13 hS13 => ?_)
          clear hP7 hD7 hS7
          refine lv_if_ne (tgt := 56) hx hb dX7_unitsOf_35 (by decide) (fun c14 => ?_) (fun c14 => ?_)
          · have hm15 := zz_nf c14 hm12
            refine lv_iinc (v := (y6 + (1 : Int32))) (lv' := [(6, .int (y6 + (1 : Int32))), (0, .ref aM), (1, .int y1), (2, .int y2), (3, .int y3), (4, .int y4), (5, .int y5)]) hx hb dX7_unitsOf_56 hl (k := 6) rfl (by rfl) (by decide) rfl (fun ls17 hl17 => ?_)
            refine lv_goto (tgt := 6) hx hb dX7_unitsOf_59 (by decide) ?_
            exact ih y1 y2 y3 y4 y5 (y6 + (1 : Int32)) hm15 ls17 H13 lo13 (lv_sub hl17 [1, 2, 3, 4, 5, 6, 0] rfl) hP13 hD13 hS13
          · have hm16 := zz_if c14 hm12
            refine lv_iload hx hb dX7_unitsOf_38 (lv_at hl 5 rfl) ?_
            refine lv_aload_n hx hb dX7_unitsOf_40 rfl (lv_at hl 0 rfl) ?_
            refine va_get (D := D) (ci := 7) (v := .ref aMn) (C := RX7) (T := TX7) (N := 17) hx hb hts iw_X7 hown hK hP13 0 rfl rfl 11 (by decide) (hts (.fieldLink RX7 64 "VarianceBridgeModel" "now" "[I") (by decide +kernel)) (fun _ h9 => h9) rfl dX7_unitsOf_41 ?_
            refine lv_iload hx hb dX7_unitsOf_44 (lv_at hl 6 rfl) ?_
            refine lv_iload hx hb dX7_unitsOf_46 (lv_at hl 4 rfl) ?_
            refine lv_iconst (v := (0 : Int32)) hx hb dX7_unitsOf_48 (by decide) ?_
            obtain ⟨r18, h18, hm18⟩ := ob1_e hm16
            refine gcall_i (ws' := (w_Model cI cB cZ aM aMt aMn aMr aMs aMi mth mtd msz mto mfr mso mnu mfa mpl mwo msm mgo mt mno mre msn mis)) (va_runS (As := [.int y6, .int y4, .int (0 : Int32)]) (rest := [.ref aMn, .int y5]) ⟨hx, hb, hml, hown, hts⟩ (c_X7_at l D cI cB cZ ta H13.size y6 y4 (0 : Int32) r18 h18) (va_cwS 3 hts gX7_unitsOf_X7_at rfl rfl rfl (by decide +kernel) ⟨(Nat.le_of_ble_eq_true rfl), (Nat.le_of_ble_eq_true rfl)⟩) ⟨PW_blind, PW_at hP13 hD13 hK hS13 hA hG [] rfl (by decide)⟩ rfl rfl hl.1 rfl (lv_room (Nat.le_of_ble_eq_true rfl)) dX7_unitsOf_49 ⟨(Nat.le_of_ble_eq_true rfl), (Nat.le_of_ble_eq_true rfl)⟩) hP13 hD13 hS13 hA [] [0, 1, 2, 3, 4, 5] [0, 1, 2, 3, 4, 5] rfl rfl (by decide) (by decide) (by decide) rfl (fun H19 lo19 hP19 hD19 hS19 => ?_)
            clear hP13 hD13 hS13
            obtain ⟨c20, hm21⟩ := zz_no hm18
            refine va_iald hx hb hK hP19 2 0 rfl rfl c20 dX7_unitsOf_52 ?_
            refine lv_iadd hx hb dX7_unitsOf_53 ?_
            refine lv_istore (lv' := [(5, .int (y5 + (mno r18.toNatClampNeg))), (0, .ref aM), (1, .int y1), (2, .int y2), (3, .int y3), (4, .int y4), (6, .int y6)]) hx hb dX7_unitsOf_54 hl (by decide) rfl (fun ls22 hl22 => ?_)
            refine lv_iinc (v := (y6 + (1 : Int32))) (lv' := [(6, .int (y6 + (1 : Int32))), (5, .int (y5 + (mno r18.toNatClampNeg))), (0, .ref aM), (1, .int y1), (2, .int y2), (3, .int y3), (4, .int y4)]) hx hb dX7_unitsOf_56 hl22 (k := 6) rfl (by rfl) (by decide) rfl (fun ls23 hl23 => ?_)
            refine lv_goto (tgt := 6) hx hb dX7_unitsOf_59 (by decide) ?_
            exact ih y1 y2 y3 y4 (y5 + (mno r18.toNatClampNeg)) (y6 + (1 : Int32)) hm21 ls23 H19 lo19 (lv_sub hl23 [2, 3, 4, 5, 6, 1, 0] rfl) hP19 hD19 hS19
  have hl := lv_entry ([.ref aM, .int x1, .int x2, .int x3, .int x4]) (n := 7) (Nat.le_of_ble_eq_true rfl)
  rw [lg_entry_eq]
  generalize (lg_sl ([.ref aM, .int x1, .int x2, .int x3, .int x4]) ++ List.replicate (7 - (lg_sl ([.ref aM, .int x1, .int x2, .int x3, .int x4])).length) Slot.unset).toArray = ls at hl ⊢
  have hl : lv_has ls 7 [(0, .ref aM), (1, .int x1), (2, .int x2), (3, .int x3), (4, .int x4)] := hl
  replace hm : (k_X7_unitsOf_6 mno FU x1 x2 x3 x4 (0 : Int32) (0 : Int32)) = some r0 := hm
  refine lv_iconst (v := (0 : Int32)) hx hb dX7_unitsOf_0 (by decide) ?_
  refine lv_istore (lv' := [(5, .int (0 : Int32)), (0, .ref aM), (1, .int x1), (2, .int x2), (3, .int x3), (4, .int x4)]) hx hb dX7_unitsOf_1 hl (by decide) rfl (fun ls24 hl24 => ?_)
  refine lv_iconst (v := (0 : Int32)) hx hb dX7_unitsOf_3 (by decide) ?_
  refine lv_istore (lv' := [(6, .int (0 : Int32)), (5, .int (0 : Int32)), (0, .ref aM), (1, .int x1), (2, .int x2), (3, .int x3), (4, .int x4)]) hx hb dX7_unitsOf_4 hl24 (by decide) rfl (fun ls25 hl25 => ?_)
  exact hk_6 FU x1 x2 x3 x4 (0 : Int32) (0 : Int32) hm ls25 s.heap [] (lv_sub hl25 [2, 3, 4, 5, 6, 1, 0] rfl) hP hD hS
theorem iw_X7_mix_X7 : ∀ w ∈ wsX70, w ∈ wsX7_mix := by decide +kernel
set_option maxHeartbeats 4000000 in
set_option maxRecDepth 100000 in
theorem c_X7_mix (l : Launch) (D : va_G) (cI cB cZ : ClassId) (ta : Nat → Nat) (aM : Nat) (aMt : Nat) (aMn : Nat) (aMr : Nat) (aMs : Nat) (aMi : Nat) (sz : Nat) (mth : Int32) (mtd : Int32) (msz : Int32) (mto : Int32) (mfr : Int32) (mso : Int32) (mnu : Int32) (mfa : Int32) (mpl : Int32) (mwo : Int64) (msm : Int32) (mgo : Int32) (mt : (Nat → Int32)) (mno : (Nat → Int32)) (mre : (Nat → Int32)) (msn : (Nat → Int32)) (mis : (Nat → Int32)) (x1 : Int32) (x2 : Int32) (x3 : Int32) (r0 : Int32) (u_mth : Int32) (hm : m_X7_mix mth mno x1 x2 x3 = some (r0, u_mth)) : Met l yX7_mix wsX7_mix ({ frames := 4, cells := 0, slots := 0, locals := 92 } : Room) (va_Pc [.ref aM, .int x1, .int x2, .int x3] (PW D cI cB cZ ta (w_Model cI cB cZ aM aMt aMn aMr aMs aMi mth mtd msz mto mfr mso mnu mfa mpl mwo msm mgo mt mno mre msn mis) sz)) (QI D cI cB cZ (va_A (w_Model cI cB cZ aM aMt aMn aMr aMs aMi mth mtd msz mto mfr mso mnu mfa mpl mwo msm mgo mt mno mre msn mis) sz) (w_Model cI cB cZ aM aMt aMn aMr aMs aMi u_mth mtd msz mto mfr mso mnu mfa mpl mwo msm mgo mt mno mre msn mis) r0) 0 0 (va_A (w_Model cI cB cZ aM aMt aMn aMr aMs aMi mth mtd msz mto mfr mso mnu mfa mpl mwo msm mgo mt mno mre msn mis) sz) := by
  refine Met.ofW (cc := cX7_mix) (maxL := 5) (ret := (some .int)) (by decide) rfl ?_
  intro p e s m args below meth c s₁ B hml hv
  obtain ⟨rfl, hsz, hP, hK, hD0, hG⟩ := hv
  have hx := B.exec
  have hb := B.bytes
  have hr := B.returns
  have hts := atoms_spec (ws := wsX7_mix) B.pre
  have hown : s.vm.findClass RX7 = some m.cls := findClass_of_methodNamed B.named
  have hlocks := B.notSynchronized
  subst hsz
  have hD := hD0.self (sz := s.heap.size)
  clear hD0
  have hA0 : ∀ q : Nat, s.heap.size ≤ q → va_A (w_Model cI cB cZ aM aMt aMn aMr aMs aMi mth mtd msz mto mfr mso mnu mfa mpl mwo msm mgo mt mno mre msn mis) s.heap.size q := fun q h => Or.inr h
  generalize hAe : va_A (w_Model cI cB cZ aM aMt aMn aMr aMs aMi mth mtd msz mto mfr mso mnu mfa mpl mwo msm mgo mt mno mre msn mis) s.heap.size = A at hD hG hA0 ⊢
  have hA : ∀ q : Nat, s.heap.size ≤ q → A q := hA0
  clear hA0
  have hS : va_S A s.heap s.heap [] := va_S.rf
  have iw_X7 := iw_X7_mix_X7
  have hl := lv_entry ([.ref aM, .int x1, .int x2, .int x3]) (n := 5) (Nat.le_of_ble_eq_true rfl)
  rw [lg_entry_eq]
  generalize (lg_sl ([.ref aM, .int x1, .int x2, .int x3]) ++ List.replicate (5 - (lg_sl ([.ref aM, .int x1, .int x2, .int x3])).length) Slot.unset).toArray = ls at hl ⊢
  have hl : lv_has ls 5 [(0, .ref aM), (1, .int x1), (2, .int x2), (3, .int x3)] := hl
  replace hm : (ob1 (m_X7_isNode mno x1) (fun r2 => (if r2 = 0 then some ((-1000000000 : Int32), (0 : Int32)) else (if x1 = 0 then some ((-1000000000 : Int32), (0 : Int32)) else (ob1 (m_X7_areScenes mno x2 x3) (fun r10 => (if r10 = 0 then some ((-1000000000 : Int32), (0 : Int32)) else (ob1 (m_X7_parentOf mno x1) (fun r15 => (ob1 (m_X7_unitsOf mno r15 x2 x3 x2) (fun r17 => (if r17 = 0 then some ((0 : Int32), (0 : Int32)) else (ob1 (m_X7_unitsOf mno x1 x2 x3 x3) (fun r23 => (ob1 (m_X7_parentOf mno x1) (fun r25 => (ob1 (m_X7_unitsOf mno r25 x2 x3 x3) (fun r27 => (ob1 (m_X7_unitsOf mno x1 x2 x3 x2) (fun r29 => (if r17 = 0 then none else some ((r23 - ((r27 * r29) / r17)), (0 : Int32))))))))))))))))))))))) = some (r0, u_mth) := hm
  refine lv_aload_n hx hb dX7_mix_0 rfl (lv_at hl 0 rfl) ?_
  refine lv_iconst (v := (0 : Int32)) hx hb dX7_mix_1 (by decide) ?_
  refine va_put (D := D) (ci := 7) (v := .int (0 : Int32)) (ty := .int) (C := RX7) (T := TX7) (N := 17) hx hb hts iw_X7 tyX7 tyX7_ok nmX7 hown hK hP hD hS 0 rfl rfl 0 (by decide) (hts (.fieldLink RX7 1 "VarianceBridgeModel" "thrown" "I") (by decide +kernel)) (fun _ h9 => h9) rfl (by decide +kernel) rfl rfl (Nat.le_of_ble_eq_true rfl) dX7_mix_2 (fun H1 lo1 hP1 hD1 hS1 => ?_)
  replace hP1 : va_P D vwCl (w_Model cI cB cZ aM aMt aMn aMr aMs aMi (0 : Int32) mtd msz mto mfr mso mnu mfa mpl mwo msm mgo mt mno mre msn mis) H1 := hP1
  replace hD1 : va_D A (w_Model cI cB cZ aM aMt aMn aMr aMs aMi (0 : Int32) mtd msz mto mfr mso mnu mfa mpl mwo msm mgo mt mno mre msn mis) := hD1
  clear hP hD hS
  refine lv_aload_n hx hb dX7_mix_5 rfl (lv_at hl 0 rfl) ?_
  refine lv_iload_n hx hb dX7_mix_6 rfl (lv_at hl 1 rfl) ?_
  obtain ⟨r2, h2, hm2⟩ := ob1_e hm
  refine gcall_b (ws' := (w_Model cI cB cZ aM aMt aMn aMr aMs aMi (0 : Int32) mtd msz mto mfr mso mnu mfa mpl mwo msm mgo mt mno mre msn mis)) (va_runV (As := [.int x1]) (rest := []) ⟨hx, hb, hml, hown, hts⟩ (c_X7_isNode l D cI cB cZ ta aM aMt aMn aMr aMs aMi H1.size (0 : Int32) mtd msz mto mfr mso mnu mfa mpl mwo msm mgo mt mno mre msn mis x1 r2 h2) (cwV 1 hts gX7_mix_X7_isNode rfl rfl rfl (by decide +kernel) ⟨(Nat.le_of_ble_eq_true rfl), (Nat.le_of_ble_eq_true rfl)⟩) ⟨PW_blind, va_recv hK hP1 rfl (q0 := 0) rfl, PW_at hP1 hD1 hK hS1 hA hG [0, 1, 2, 3, 4, 5] rfl (by decide)⟩ rfl rfl hl.1 rfl (lv_room (Nat.le_of_ble_eq_true rfl)) dX7_mix_7 ⟨(Nat.le_of_ble_eq_true rfl), (Nat.le_of_ble_eq_true rfl)⟩) hP1 hD1 hS1 hA [0, 1, 2, 3, 4, 5] [] [0, 1, 2, 3, 4, 5] rfl rfl (by decide) (by decide) (by decide) rfl (fun H3 lo3 hz2 hP3 hD3 hS3 => ?_)
  clear hP1 hD1 hS1
  refine lv_if_eq (tgt := 26) hx hb dX7_mix_10 (by decide) (fun c4 => ?_) (fun c4 => ?_)
  · have hm5 := zz_if c4 hm2
    refine lv_ldc (v := (-1000000000 : Int32)) hx hb hown (hts (.constant RX7 193 (-1000000000)) (by decide +kernel)) dX7_mix_26 ?_
    obtain ⟨hq1, hq2⟩ := Prod.mk.inj (Option.some.inj hm5)
    subst hq1
    subst hq2
    exact W.iret hx hb hr (fun t ht hW => ⟨⟨_, (), rfl, rfl, by rw [ht]; exact hP3, va_K.moved hW.alike hK, hD3⟩, hS3.F ht⟩) hS3.2.2 dX7_mix_28
  · have hm6 := zz_nf c4 hm2
    refine lv_iload_n hx hb dX7_mix_13 rfl (lv_at hl 1 rfl) ?_
    refine lv_if_eq (tgt := 26) hx hb dX7_mix_14 (by decide) (fun c7 => ?_) (fun c7 => ?_)
    · have hm8 := zz_if c7 hm6
      refine lv_ldc (v := (-1000000000 : Int32)) hx hb hown (hts (.constant RX7 193 (-1000000000)) (by decide +kernel)) dX7_mix_26 ?_
      obtain ⟨hq1, hq2⟩ := Prod.mk.inj (Option.some.inj hm8)
      subst hq1
      subst hq2
      exact W.iret hx hb hr (fun t ht hW => ⟨⟨_, (), rfl, rfl, by rw [ht]; exact hP3, va_K.moved hW.alike hK, hD3⟩, hS3.F ht⟩) hS3.2.2 dX7_mix_28
    · have hm9 := zz_nf c7 hm6
      refine lv_aload_n hx hb dX7_mix_17 rfl (lv_at hl 0 rfl) ?_
      refine lv_iload_n hx hb dX7_mix_18 rfl (lv_at hl 2 rfl) ?_
      refine lv_iload_n hx hb dX7_mix_19 rfl (lv_at hl 3 rfl) ?_
      obtain ⟨r10, h10, hm10⟩ := ob1_e hm9
      refine gcall_b (ws' := (w_Model cI cB cZ aM aMt aMn aMr aMs aMi (0 : Int32) mtd msz mto mfr mso mnu mfa mpl mwo msm mgo mt mno mre msn mis)) (va_runV (As := [.int x2, .int x3]) (rest := []) ⟨hx, hb, hml, hown, hts⟩ (c_X7_areScenes l D cI cB cZ ta aM aMt aMn aMr aMs aMi H3.size (0 : Int32) mtd msz mto mfr mso mnu mfa mpl mwo msm mgo mt mno mre msn mis x2 x3 r10 h10) (cwV 2 hts gX7_mix_X7_areScenes rfl rfl rfl (by decide +kernel) ⟨(Nat.le_of_ble_eq_true rfl), (Nat.le_of_ble_eq_true rfl)⟩) ⟨PW_blind, va_recv hK hP3 rfl (q0 := 0) rfl, PW_at hP3 hD3 hK hS3 hA hG [0, 1, 2, 3, 4, 5] rfl (by decide)⟩ rfl rfl hl.1 rfl (lv_room (Nat.le_of_ble_eq_true rfl)) dX7_mix_20 ⟨(Nat.le_of_ble_eq_true rfl), (Nat.le_of_ble_eq_true rfl)⟩) hP3 hD3 hS3 hA [0, 1, 2, 3, 4, 5] [] [0, 1, 2, 3, 4, 5] rfl rfl (by decide) (by decide) (by decide) rfl (fun H11 lo11 hz10 hP11 hD11 hS11 => ?_)
      clear hP3 hD3 hS3
      refine lv_if_ne (tgt := 29) hx hb dX7_mix_23 (by decide) (fun c12 => ?_) (fun c12 => ?_)
      · have hm13 := zz_nf c12 hm10
        refine lv_aload_n hx hb dX7_mix_29 rfl (lv_at hl 0 rfl) ?_
        refine lv_aload_n hx hb dX7_mix_30 rfl (lv_at hl 0 rfl) ?_
        refine lv_iload_n hx hb dX7_mix_31 rfl (lv_at hl 1 rfl) ?_
        obtain ⟨r15, h15, hm15⟩ := ob1_e hm13
        refine gcall_i (ws' := (w_Model cI cB cZ aM aMt aMn aMr aMs aMi (0 : Int32) mtd msz mto mfr mso mnu mfa mpl mwo msm mgo mt mno mre msn mis)) (va_runV (As := [.int x1]) (rest := [.ref aM]) ⟨hx, hb, hml, hown, hts⟩ (c_X7_parentOf l D cI cB cZ ta aM aMt aMn aMr aMs aMi H11.size (0 : Int32) mtd msz mto mfr mso mnu mfa mpl mwo msm mgo mt mno mre msn mis x1 r15 h15) (cwV 1 hts gX7_mix_X7_parentOf rfl rfl rfl (by decide +kernel) ⟨(Nat.le_of_ble_eq_true rfl), (Nat.le_of_ble_eq_true rfl)⟩) ⟨PW_blind, va_recv hK hP11 rfl (q0 := 0) rfl, PW_at hP11 hD11 hK hS11 hA hG [0, 1, 2, 3, 4, 5] rfl (by decide)⟩ rfl rfl hl.1 rfl (lv_room (Nat.le_of_ble_eq_true rfl)) dX7_mix_32 ⟨(Nat.le_of_ble_eq_true rfl), (Nat.le_of_ble_eq_true rfl)⟩) hP11 hD11 hS11 hA [0, 1, 2, 3, 4, 5] [] [0, 1, 2, 3, 4, 5] rfl rfl (by decide) (by decide) (by decide) rfl (fun H16 lo16 hP16 hD16 hS16 => ?_)
        clear hP11 hD11 hS11
        refine lv_iload_n hx hb dX7_mix_35 rfl (lv_at hl 2 rfl) ?_
        refine lv_iload_n hx hb dX7_mix_36 rfl (lv_at hl 3 rfl) ?_
        refine lv_iload_n hx hb dX7_mix_37 rfl (lv_at hl 2 rfl) ?_
        obtain ⟨r17, h17, hm17⟩ := ob1_e hm15
        refine gcall_i (ws' := (w_Model cI cB cZ aM aMt aMn aMr aMs aMi (0 : Int32) mtd msz mto mfr mso mnu mfa mpl mwo msm mgo mt mno mre msn mis)) (va_runV (As := [.int r15, .int x2, .int x3, .int x2]) (rest := []) ⟨hx, hb, hml, hown, hts⟩ (c_X7_unitsOf l D cI cB cZ ta aM aMt aMn aMr aMs aMi H16.size (0 : Int32) mtd msz mto mfr mso mnu mfa mpl mwo msm mgo mt mno mre msn mis r15 x2 x3 x2 r17 h17) (cwV 4 hts gX7_mix_X7_unitsOf rfl rfl rfl (by decide +kernel) ⟨(Nat.le_of_ble_eq_true rfl), (Nat.le_of_ble_eq_true rfl)⟩) ⟨PW_blind, va_recv hK hP16 rfl (q0 := 0) rfl, PW_at hP16 hD16 hK hS16 hA hG [0, 1, 2, 3, 4, 5] rfl (by decide)⟩ rfl rfl hl.1 rfl (lv_room (Nat.le_of_ble_eq_true rfl)) dX7_mix_38 ⟨(Nat.le_of_ble_eq_true rfl), (Nat.le_of_ble_eq_true rfl)⟩) hP16 hD16 hS16 hA [0, 1, 2, 3, 4, 5] [] [0, 1, 2, 3, 4, 5] rfl rfl (by decide) (by decide) (by decide) rfl (fun H18 lo18 hP18 hD18 hS18 => ?_)
        clear hP16 hD16 hS16
        refine lv_istore (lv' := [(4, .int r17), (0, .ref aM), (1, .int x1), (2, .int x2), (3, .int x3)]) hx hb dX7_mix_41 hl (by decide) rfl (fun ls19 hl19 => ?_)
        refine lv_iload hx hb dX7_mix_43 (lv_at hl19 0 rfl) ?_
        refine lv_if_ne (tgt := 50) hx hb dX7_mix_45 (by decide) (fun c20 => ?_) (fun c20 => ?_)
        · have hm21 := zz_nf c20 hm17
          refine lv_aload_n hx hb dX7_mix_50 rfl (lv_at hl19 1 rfl) ?_
          refine lv_iload_n hx hb dX7_mix_51 rfl (lv_at hl19 2 rfl) ?_
          refine lv_iload_n hx hb dX7_mix_52 rfl (lv_at hl19 3 rfl) ?_
          refine lv_iload_n hx hb dX7_mix_53 rfl (lv_at hl19 4 rfl) ?_
          refine lv_iload_n hx hb dX7_mix_54 rfl (lv_at hl19 4 rfl) ?_
          obtain ⟨r23, h23, hm23⟩ := ob1_e hm21
          refine gcall_i (ws' := (w_Model cI cB cZ aM aMt aMn aMr aMs aMi (0 : Int32) mtd msz mto mfr mso mnu mfa mpl mwo msm mgo mt mno mre msn mis)) (va_runV (As := [.int x1, .int x2, .int x3, .int x3]) (rest := []) ⟨hx, hb, hml, hown, hts⟩ (c_X7_unitsOf l D cI cB cZ ta aM aMt aMn aMr aMs aMi H18.size (0 : Int32) mtd msz mto mfr mso mnu mfa mpl mwo msm mgo mt mno mre msn mis x1 x2 x3 x3 r23 h23) (cwV 4 hts gX7_mix_X7_unitsOf rfl rfl rfl (by decide +kernel) ⟨(Nat.le_of_ble_eq_true rfl), (Nat.le_of_ble_eq_true rfl)⟩) ⟨PW_blind, va_recv hK hP18 rfl (q0 := 0) rfl, PW_at hP18 hD18 hK hS18 hA hG [0, 1, 2, 3, 4, 5] rfl (by decide)⟩ rfl rfl hl19.1 rfl (lv_room (Nat.le_of_ble_eq_true rfl)) dX7_mix_55 ⟨(Nat.le_of_ble_eq_true rfl), (Nat.le_of_ble_eq_true rfl)⟩) hP18 hD18 hS18 hA [0, 1, 2, 3, 4, 5] [] [0, 1, 2, 3, 4, 5] rfl rfl (by decide) (by decide) (by decide) rfl (fun H24 lo24 hP24 hD24 hS24 => ?_)
          clear hP18 hD18 hS18
          refine lv_aload_n hx hb dX7_mix_58 rfl (lv_at hl19 1 rfl) ?_
          refine lv_aload_n hx hb dX7_mix_59 rfl (lv_at hl19 1 rfl) ?_
          refine lv_iload_n hx hb dX7_mix_60 rfl (lv_at hl19 2 rfl) ?_
          obtain ⟨r25, h25, hm25⟩ := ob1_e hm23
          refine gcall_i (ws' := (w_Model cI cB cZ aM aMt aMn aMr aMs aMi (0 : Int32) mtd msz mto mfr mso mnu mfa mpl mwo msm mgo mt mno mre msn mis)) (va_runV (As := [.int x1]) (rest := [.ref aM, .int r23]) ⟨hx, hb, hml, hown, hts⟩ (c_X7_parentOf l D cI cB cZ ta aM aMt aMn aMr aMs aMi H24.size (0 : Int32) mtd msz mto mfr mso mnu mfa mpl mwo msm mgo mt mno mre msn mis x1 r25 h25) (cwV 1 hts gX7_mix_X7_parentOf rfl rfl rfl (by decide +kernel) ⟨(Nat.le_of_ble_eq_true rfl), (Nat.le_of_ble_eq_true rfl)⟩) ⟨PW_blind, va_recv hK hP24 rfl (q0 := 0) rfl, PW_at hP24 hD24 hK hS24 hA hG [0, 1, 2, 3, 4, 5] rfl (by decide)⟩ rfl rfl hl19.1 rfl (lv_room (Nat.le_of_ble_eq_true rfl)) dX7_mix_61 ⟨(Nat.le_of_ble_eq_true rfl), (Nat.le_of_ble_eq_true rfl)⟩) hP24 hD24 hS24 hA [0, 1, 2, 3, 4, 5] [] [0, 1, 2, 3, 4, 5] rfl rfl (by decide) (by decide) (by decide) rfl (fun H26 lo26 hP26 hD26 hS26 => ?_)
          clear hP24 hD24 hS24
          refine lv_iload_n hx hb dX7_mix_64 rfl (lv_at hl19 3 rfl) ?_
          refine lv_iload_n hx hb dX7_mix_65 rfl (lv_at hl19 4 rfl) ?_
          refine lv_iload_n hx hb dX7_mix_66 rfl (lv_at hl19 4 rfl) ?_
          obtain ⟨r27, h27, hm27⟩ := ob1_e hm25
          refine gcall_i (ws' := (w_Model cI cB cZ aM aMt aMn aMr aMs aMi (0 : Int32) mtd msz mto mfr mso mnu mfa mpl mwo msm mgo mt mno mre msn mis)) (va_runV (As := [.int r25, .int x2, .int x3, .int x3]) (rest := [.int r23]) ⟨hx, hb, hml, hown, hts⟩ (c_X7_unitsOf l D cI cB cZ ta aM aMt aMn aMr aMs aMi H26.size (0 : Int32) mtd msz mto mfr mso mnu mfa mpl mwo msm mgo mt mno mre msn mis r25 x2 x3 x3 r27 h27) (cwV 4 hts gX7_mix_X7_unitsOf rfl rfl rfl (by decide +kernel) ⟨(Nat.le_of_ble_eq_true rfl), (Nat.le_of_ble_eq_true rfl)⟩) ⟨PW_blind, va_recv hK hP26 rfl (q0 := 0) rfl, PW_at hP26 hD26 hK hS26 hA hG [0, 1, 2, 3, 4, 5] rfl (by decide)⟩ rfl rfl hl19.1 rfl (lv_room (Nat.le_of_ble_eq_true rfl)) dX7_mix_67 ⟨(Nat.le_of_ble_eq_true rfl), (Nat.le_of_ble_eq_true rfl)⟩) hP26 hD26 hS26 hA [0, 1, 2, 3, 4, 5] [] [0, 1, 2, 3, 4, 5] rfl rfl (by decide) (by decide) (by decide) rfl (fun H28 lo28 hP28 hD28 hS28 => ?_)
          clear hP26 hD26 hS26
          refine lv_aload_n hx hb dX7_mix_70 rfl (lv_at hl19 1 rfl) ?_
          refine lv_iload_n hx hb dX7_mix_71 rfl (lv_at hl19 2 rfl) ?_
          refine lv_iload_n hx hb dX7_mix_72 rfl (lv_at hl19 3 rfl) ?_
          refine lv_iload_n hx hb dX7_mix_73 rfl (lv_at hl19 4 rfl) ?_
          refine lv_iload_n hx hb dX7_mix_74 rfl (lv_at hl19 3 rfl) ?_
          obtain ⟨r29, h29, hm29⟩ := ob1_e hm27
          refine gcall_i (ws' := (w_Model cI cB cZ aM aMt aMn aMr aMs aMi (0 : Int32) mtd msz mto mfr mso mnu mfa mpl mwo msm mgo mt mno mre msn mis)) (va_runV (As := [.int x1, .int x2, .int x3, .int x2]) (rest := [.int r27, .int r23]) ⟨hx, hb, hml, hown, hts⟩ (c_X7_unitsOf l D cI cB cZ ta aM aMt aMn aMr aMs aMi H28.size (0 : Int32) mtd msz mto mfr mso mnu mfa mpl mwo msm mgo mt mno mre msn mis x1 x2 x3 x2 r29 h29) (cwV 4 hts gX7_mix_X7_unitsOf rfl rfl rfl (by decide +kernel) ⟨(Nat.le_of_ble_eq_true rfl), (Nat.le_of_ble_eq_true rfl)⟩) ⟨PW_blind, va_recv hK hP28 rfl (q0 := 0) rfl, PW_at hP28 hD28 hK hS28 hA hG [0, 1, 2, 3, 4, 5] rfl (by decide)⟩ rfl rfl hl19.1 rfl (lv_room (Nat.le_of_ble_eq_true rfl)) dX7_mix_75 ⟨(Nat.le_of_ble_eq_true rfl), (Nat.le_of_ble_eq_true rfl)⟩) hP28 hD28 hS28 hA [0, 1, 2, 3, 4, 5] [] [0, 1, 2, 3, 4, 5] rfl rfl (by decide) (by decide) (by decide) rfl (fun H30 lo30 hP30 hD30 hS30 => ?_)
          clear hP28 hD28 hS28
          refine lv_imul hx hb dX7_mix_78 ?_
          refine lv_iload hx hb dX7_mix_79 (lv_at hl19 0 rfl) ?_
          obtain ⟨c31, hm32⟩ := zz_no hm29
          refine lv_idiv hx hb dX7_mix_81 c31 ?_
          refine lv_isub hx hb dX7_mix_82 ?_
          obtain ⟨hq1, hq2⟩ := Prod.mk.inj (Option.some.inj hm32)
          subst hq1
          subst hq2
          exact W.iret hx hb hr (fun t ht hW => ⟨⟨_, (), rfl, rfl, by rw [ht]; exact hP30, va_K.moved hW.alike hK, hD30⟩, hS30.F ht⟩) hS30.2.2 dX7_mix_83
        · have hm22 := zz_if c20 hm17
          refine lv_iconst (v := (0 : Int32)) hx hb dX7_mix_48 (by decide) ?_
          obtain ⟨hq1, hq2⟩ := Prod.mk.inj (Option.some.inj hm22)
          subst hq1
          subst hq2
          exact W.iret hx hb hr (fun t ht hW => ⟨⟨_, (), rfl, rfl, by rw [ht]; exact hP18, va_K.moved hW.alike hK, hD18⟩, hS18.F ht⟩) hS18.2.2 dX7_mix_49
      · have hm14 := zz_if c12 hm10
        refine lv_ldc (v := (-1000000000 : Int32)) hx hb hown (hts (.constant RX7 193 (-1000000000)) (by decide +kernel)) dX7_mix_26 ?_
        obtain ⟨hq1, hq2⟩ := Prod.mk.inj (Option.some.inj hm14)
        subst hq1
        subst hq2
        exact W.iret hx hb hr (fun t ht hW => ⟨⟨_, (), rfl, rfl, by rw [ht]; exact hP11, va_K.moved hW.alike hK, hD11⟩, hS11.F ht⟩) hS11.2.2 dX7_mix_28
theorem iw_X7_flatters_X7 : ∀ w ∈ wsX70, w ∈ wsX7_flatters := by decide +kernel
set_option maxHeartbeats 4000000 in
set_option maxRecDepth 100000 in
theorem c_X7_flatters (l : Launch) (D : va_G) (cI cB cZ : ClassId) (ta : Nat → Nat) (aM : Nat) (aMt : Nat) (aMn : Nat) (aMr : Nat) (aMs : Nat) (aMi : Nat) (sz : Nat) (mth : Int32) (mtd : Int32) (msz : Int32) (mto : Int32) (mfr : Int32) (mso : Int32) (mnu : Int32) (mfa : Int32) (mpl : Int32) (mwo : Int64) (msm : Int32) (mgo : Int32) (mt : (Nat → Int32)) (mno : (Nat → Int32)) (mre : (Nat → Int32)) (msn : (Nat → Int32)) (mis : (Nat → Int32)) (x1 : Int32) (x2 : Int32) (x3 : Int32) (x4 : Int32) (r0 : Int32) (u_mth : Int32) (hm : m_X7_flatters mth mno x1 x2 x3 x4 = some (r0, u_mth)) : Met l yX7_flatters wsX7_flatters ({ frames := 6, cells := 0, slots := 0, locals := 156 } : Room) (va_Pc [.ref aM, .int x1, .int x2, .int x3, .int x4] (PW D cI cB cZ ta (w_Model cI cB cZ aM aMt aMn aMr aMs aMi mth mtd msz mto mfr mso mnu mfa mpl mwo msm mgo mt mno mre msn mis) sz)) (QI D cI cB cZ (va_A (w_Model cI cB cZ aM aMt aMn aMr aMs aMi mth mtd msz mto mfr mso mnu mfa mpl mwo msm mgo mt mno mre msn mis) sz) (w_Model cI cB cZ aM aMt aMn aMr aMs aMi u_mth mtd msz mto mfr mso mnu mfa mpl mwo msm mgo mt mno mre msn mis) r0) 0 0 (va_A (w_Model cI cB cZ aM aMt aMn aMr aMs aMi mth mtd msz mto mfr mso mnu mfa mpl mwo msm mgo mt mno mre msn mis) sz) := by
  refine Met.ofW (cc := cX7_flatters) (maxL := 9) (ret := (some .int)) (by decide) rfl ?_
  intro p e s m args below meth c s₁ B hml hv
  obtain ⟨rfl, hsz, hP, hK, hD0, hG⟩ := hv
  have hx := B.exec
  have hb := B.bytes
  have hr := B.returns
  have hts := atoms_spec (ws := wsX7_flatters) B.pre
  have hown : s.vm.findClass RX7 = some m.cls := findClass_of_methodNamed B.named
  have hlocks := B.notSynchronized
  subst hsz
  have hD := hD0.self (sz := s.heap.size)
  clear hD0
  have hA0 : ∀ q : Nat, s.heap.size ≤ q → va_A (w_Model cI cB cZ aM aMt aMn aMr aMs aMi mth mtd msz mto mfr mso mnu mfa mpl mwo msm mgo mt mno mre msn mis) s.heap.size q := fun q h => Or.inr h
  generalize hAe : va_A (w_Model cI cB cZ aM aMt aMn aMr aMs aMi mth mtd msz mto mfr mso mnu mfa mpl mwo msm mgo mt mno mre msn mis) s.heap.size = A at hD hG hA0 ⊢
  have hA : ∀ q : Nat, s.heap.size ≤ q → A q := hA0
  clear hA0
  have hS : va_S A s.heap s.heap [] := va_S.rf
  have iw_X7 := iw_X7_flatters_X7
  have hk_50 : ∀ (n : Nat) (mth : Int32) (y1 : Int32) (y2 : Int32) (y3 : Int32) (y4 : Int32) (y5 : Int32) (y6 : Int32) (y7 : Int32), k_X7_flatters_50 mno n mth y1 y2 y3 y4 y5 y6 y7 = some (r0, u_mth) → ∀ (ls : Array Slot) (H : Heap) (lo : List Loc), lv_has ls 9 [(0, .ref aM), (1, .int y1), (2, .int y2), (3, .int y3), (4, .int y4), (5, .int y5), (6, .int y6), (7, .int y7)] → va_P D vwCl (w_Model cI cB cZ aM aMt aMn aMr aMs aMi mth mtd msz mto mfr mso mnu mfa mpl mwo msm mgo mt mno mre msn mis) H → va_D A (w_Model cI cB cZ aM aMt aMn aMr aMs aMi mth mtd msz mto mfr mso mnu mfa mpl mwo msm mgo mt mno mre msn mis) → va_S A s.heap H lo → W p l e (headSpec wsX7_flatters ({ frames := 6, cells := 0, slots := 0, locals := 156 } : Room)).room s m (([.ref aM, .int x1, .int x2, .int x3, .int x4] : List Value).toArray) below meth c H lo 0 0 (MQ below (QI D cI cB cZ A (w_Model cI cB cZ aM aMt aMn aMr aMs aMi u_mth mtd msz mto mfr mso mnu mfa mpl mwo msm mgo mt mno mre msn mis) r0) (([.ref aM, .int x1, .int x2, .int x3, .int x4] : List Value).toArray) s 0 0 A) (F0 m 50 ls []) := by
    intro n
    induction n with
    | zero => intro mth y1 y2 y3 y4 y5 y6 y7 hm; exact zz_nn hm
    | succ n ih =>
      intro mth y1 y2 y3 y4 y5 y6 y7 hm ls H lo hl hP hD hS
      replace hm := (k_X7_flatters_50_s mno n mth y1 y2 y3 y4 y5 y6 y7).symm.trans hm
      refine lv_iload hx hb dX7_flatters_50 (lv_at hl 7 rfl) ?_
      refine lv_bipush (v := (120 : Int32)) hx hb dX7_flatters_52 (by decide) ?_
      refine lv_icmp_ge (tgt := 94) hx hb dX7_flatters_54 (by decide) (fun c1 => ?_) (fun c1 => ?_)
      · have hm2 := zz_if c1 hm
        refine lv_iload hx hb dX7_flatters_94 (lv_at hl 5 rfl) ?_
        obtain ⟨hq1, hq2⟩ := Prod.mk.inj (Option.some.inj hm2)
        subst hq1
        subst hq2
        exact W.iret hx hb hr (fun t ht hW => ⟨⟨_, (), rfl, rfl, by rw [ht]; exact hP, va_K.moved hW.alike hK, hD⟩, hS.F ht⟩) hS.2.2 dX7_flatters_96
      · have hm3 := zz_nf c1 hm
        refine lv_aload_n hx hb dX7_flatters_57 rfl (lv_at hl 0 rfl) ?_
        refine lv_iload_n hx hb dX7_flatters_58 rfl (lv_at hl 1 rfl) ?_
        refine lv_iload_n hx hb dX7_flatters_59 rfl (lv_at hl 2 rfl) ?_
        refine lv_iload_n hx hb dX7_flatters_60 rfl (lv_at hl 3 rfl) ?_
        refine lv_iload hx hb dX7_flatters_61 (lv_at hl 7 rfl) ?_
        refine lv_iload hx hb dX7_flatters_63 (lv_at hl 4 rfl) ?_
        obtain ⟨r4, h4, hm4⟩ := ob1_e hm3
        refine gcall_i (ws' := (w_Model cI cB cZ aM aMt aMn aMr aMs aMi mth mtd msz mto mfr mso mnu mfa mpl mwo msm mgo mt mno mre msn mis)) (va_runV (As := [.int y1, .int y2, .int y3, .int y7, .int y4]) (rest := []) ⟨hx, hb, hml, hown, hts⟩ (c_X7_effectIn l D cI cB cZ ta aM aMt aMn aMr aMs aMi H.size mth mtd msz mto mfr mso mnu mfa mpl mwo msm mgo mt mno mre msn mis y1 y2 y3 y7 y4 r4 h4) (cwV 5 hts gX7_flatters_X7_effectIn rfl rfl rfl (by decide +kernel) ⟨(Nat.le_of_ble_eq_true rfl), (Nat.le_of_ble_eq_true rfl)⟩) ⟨PW_blind, va_recv hK hP rfl (q0 := 0) rfl, PW_at hP hD hK hS hA hG [0, 1, 2, 3, 4, 5] rfl (by decide)⟩ rfl rfl hl.1 rfl (lv_room (Nat.le_of_ble_eq_true rfl)) dX7_flatters_65 ⟨(Nat.le_of_ble_eq_true rfl), (Nat.le_of_ble_eq_true rfl)⟩) hP hD hS hA [0, 1, 2, 3, 4, 5] [] [0, 1, 2, 3, 4, 5] rfl rfl (by decide) (by decide) (by decide) rfl (fun H5 lo5 hP5 hD5 hS5 => ?_)
        clear hP hD hS
        refine lv_istore (lv' := [(8, .int r4), (0, .ref aM), (1, .int y1), (2, .int y2), (3, .int y3), (4, .int y4), (5, .int y5), (6, .int y6), (7, .int y7)]) hx hb dX7_flatters_68 hl (by decide) rfl (fun ls6 hl6 => ?_)
        refine lv_iload hx hb dX7_flatters_70 (lv_at hl6 0 rfl) ?_
        refine lv_iload hx hb dX7_flatters_72 (lv_at hl6 7 rfl) ?_
        refine lv_icmp_gt (tgt := 80) hx hb dX7_flatters_74 (by decide) (fun c7 => ?_) (fun c7 => ?_)
        · have hm8 := zz_if c7 hm4
          refine lv_iload hx hb dX7_flatters_80 (lv_at hl6 0 rfl) ?_
          refine lv_istore (lv' := [(6, .int r4), (8, .int r4), (0, .ref aM), (1, .int y1), (2, .int y2), (3, .int y3), (4, .int y4), (5, .int y5), (7, .int y7)]) hx hb dX7_flatters_82 hl6 (by decide) rfl (fun ls10 hl10 => ?_)
          refine lv_iload hx hb dX7_flatters_84 (lv_at hl10 8 rfl) ?_
          refine lv_istore (lv' := [(5, .int y7), (6, .int r4), (8, .int r4), (0, .ref aM), (1, .int y1), (2, .int y2), (3, .int y3), (4, .int y4), (7, .int y7)]) hx hb dX7_flatters_86 hl10 (by decide) rfl (fun ls11 hl11 => ?_)
          refine lv_iinc (v := (y7 + (1 : Int32))) (lv' := [(7, .int (y7 + (1 : Int32))), (5, .int y7), (6, .int r4), (8, .int r4), (0, .ref aM), (1, .int y1), (2, .int y2), (3, .int y3), (4, .int y4)]) hx hb dX7_flatters_88 hl11 (k := 8) rfl (by rfl) (by decide) rfl (fun ls12 hl12 => ?_)
          refine lv_goto (tgt := 50) hx hb dX7_flatters_91 (by decide) ?_
          exact ih mth y1 y2 y3 y4 y7 r4 (y7 + (1 : Int32)) hm8 ls12 H5 lo5 (lv_sub hl12 [4, 5, 6, 7, 8, 1, 2, 0] rfl) hP5 hD5 hS5
        · have hm9 := zz_nf c7 hm4
          refine lv_goto (tgt := 88) hx hb dX7_flatters_77 (by decide) ?_
          refine lv_iinc (v := (y7 + (1 : Int32))) (lv' := [(7, .int (y7 + (1 : Int32))), (8, .int r4), (0, .ref aM), (1, .int y1), (2, .int y2), (3, .int y3), (4, .int y4), (5, .int y5), (6, .int y6)]) hx hb dX7_flatters_88 hl6 (k := 8) rfl (by rfl) (by decide) rfl (fun ls13 hl13 => ?_)
          refine lv_goto (tgt := 50) hx hb dX7_flatters_91 (by decide) ?_
          exact ih mth y1 y2 y3 y4 y5 y6 (y7 + (1 : Int32)) hm9 ls13 H5 lo5 (lv_sub hl13 [2, 3, 4, 5, 6, 7, 8, 0] rfl) hP5 hD5 hS5
  have hl := lv_entry ([.ref aM, .int x1, .int x2, .int x3, .int x4]) (n := 9) (Nat.le_of_ble_eq_true rfl)
  rw [lg_entry_eq]
  generalize (lg_sl ([.ref aM, .int x1, .int x2, .int x3, .int x4]) ++ List.replicate (9 - (lg_sl ([.ref aM, .int x1, .int x2, .int x3, .int x4])).length) Slot.unset).toArray = ls at hl ⊢
  have hl : lv_has ls 9 [(0, .ref aM), (1, .int x1), (2, .int x2), (3, .int x3), (4, .int x4)] := hl
  replace hm : (ob1 (m_X7_isNode mno x1) (fun r15 => (if r15 = 0 then some ((-1 : Int32), (0 : Int32)) else (ob1 (m_X7_areScenes mno x2 x3) (fun r20 => (if r20 = 0 then some ((-1 : Int32), (0 : Int32)) else (ob1 (m_X7_isFactor x4) (fun r25 => (if r25 = 0 then some ((-1 : Int32), (0 : Int32)) else (ob1 (m_X7_effectIn mno x1 x2 x3 (0 : Int32) x4) (fun r31 => (k_X7_flatters_50 mno FU (0 : Int32) x1 x2 x3 x4 (0 : Int32) r31 (1 : Int32))))))))))))) = some (r0, u_mth) := hm
  refine lv_aload_n hx hb dX7_flatters_0 rfl (lv_at hl 0 rfl) ?_
  refine lv_iconst (v := (0 : Int32)) hx hb dX7_flatters_1 (by decide) ?_
  refine va_put (D := D) (ci := 7) (v := .int (0 : Int32)) (ty := .int) (C := RX7) (T := TX7) (N := 17) hx hb hts iw_X7 tyX7 tyX7_ok nmX7 hown hK hP hD hS 0 rfl rfl 0 (by decide) (hts (.fieldLink RX7 1 "VarianceBridgeModel" "thrown" "I") (by decide +kernel)) (fun _ h9 => h9) rfl (by decide +kernel) rfl rfl (Nat.le_of_ble_eq_true rfl) dX7_flatters_2 (fun H14 lo14 hP14 hD14 hS14 => ?_)
  replace hP14 : va_P D vwCl (w_Model cI cB cZ aM aMt aMn aMr aMs aMi (0 : Int32) mtd msz mto mfr mso mnu mfa mpl mwo msm mgo mt mno mre msn mis) H14 := hP14
  replace hD14 : va_D A (w_Model cI cB cZ aM aMt aMn aMr aMs aMi (0 : Int32) mtd msz mto mfr mso mnu mfa mpl mwo msm mgo mt mno mre msn mis) := hD14
  clear hP hD hS
  refine lv_aload_n hx hb dX7_flatters_5 rfl (lv_at hl 0 rfl) ?_
  refine lv_iload_n hx hb dX7_flatters_6 rfl (lv_at hl 1 rfl) ?_
  obtain ⟨r15, h15, hm15⟩ := ob1_e hm
  refine gcall_b (ws' := (w_Model cI cB cZ aM aMt aMn aMr aMs aMi (0 : Int32) mtd msz mto mfr mso mnu mfa mpl mwo msm mgo mt mno mre msn mis)) (va_runV (As := [.int x1]) (rest := []) ⟨hx, hb, hml, hown, hts⟩ (c_X7_isNode l D cI cB cZ ta aM aMt aMn aMr aMs aMi H14.size (0 : Int32) mtd msz mto mfr mso mnu mfa mpl mwo msm mgo mt mno mre msn mis x1 r15 h15) (cwV 1 hts gX7_flatters_X7_isNode rfl rfl rfl (by decide +kernel) ⟨(Nat.le_of_ble_eq_true rfl), (Nat.le_of_ble_eq_true rfl)⟩) ⟨PW_blind, va_recv hK hP14 rfl (q0 := 0) rfl, PW_at hP14 hD14 hK hS14 hA hG [0, 1, 2, 3, 4, 5] rfl (by decide)⟩ rfl rfl hl.1 rfl (lv_room (Nat.le_of_ble_eq_true rfl)) dX7_flatters_7 ⟨(Nat.le_of_ble_eq_true rfl), (Nat.le_of_ble_eq_true rfl)⟩) hP14 hD14 hS14 hA [0, 1, 2, 3, 4, 5] [] [0, 1, 2, 3, 4, 5] rfl rfl (by decide) (by decide) (by decide) rfl (fun H16 lo16 hz15 hP16 hD16 hS16 => ?_)
  clear hP14 hD14 hS14
  refine lv_if_eq (tgt := 30) hx hb dX7_flatters_10 (by decide) (fun c17 => ?_) (fun c17 => ?_)
  · have hm18 := zz_if c17 hm15
    refine lv_iconst (v := (-1 : Int32)) hx hb dX7_flatters_30 (by decide) ?_
    obtain ⟨hq1, hq2⟩ := Prod.mk.inj (Option.some.inj hm18)
    subst hq1
    subst hq2
    exact W.iret hx hb hr (fun t ht hW => ⟨⟨_, (), rfl, rfl, by rw [ht]; exact hP16, va_K.moved hW.alike hK, hD16⟩, hS16.F ht⟩) hS16.2.2 dX7_flatters_31
  · have hm19 := zz_nf c17 hm15
    refine lv_aload_n hx hb dX7_flatters_13 rfl (lv_at hl 0 rfl) ?_
    refine lv_iload_n hx hb dX7_flatters_14 rfl (lv_at hl 2 rfl) ?_
    refine lv_iload_n hx hb dX7_flatters_15 rfl (lv_at hl 3 rfl) ?_
    obtain ⟨r20, h20, hm20⟩ := ob1_e hm19
    refine gcall_b (ws' := (w_Model cI cB cZ aM aMt aMn aMr aMs aMi (0 : Int32) mtd msz mto mfr mso mnu mfa mpl mwo msm mgo mt mno mre msn mis)) (va_runV (As := [.int x2, .int x3]) (rest := []) ⟨hx, hb, hml, hown, hts⟩ (c_X7_areScenes l D cI cB cZ ta aM aMt aMn aMr aMs aMi H16.size (0 : Int32) mtd msz mto mfr mso mnu mfa mpl mwo msm mgo mt mno mre msn mis x2 x3 r20 h20) (cwV 2 hts gX7_flatters_X7_areScenes rfl rfl rfl (by decide +kernel) ⟨(Nat.le_of_ble_eq_true rfl), (Nat.le_of_ble_eq_true rfl)⟩) ⟨PW_blind, va_recv hK hP16 rfl (q0 := 0) rfl, PW_at hP16 hD16 hK hS16 hA hG [0, 1, 2, 3, 4, 5] rfl (by decide)⟩ rfl rfl hl.1 rfl (lv_room (Nat.le_of_ble_eq_true rfl)) dX7_flatters_16 ⟨(Nat.le_of_ble_eq_true rfl), (Nat.le_of_ble_eq_true rfl)⟩) hP16 hD16 hS16 hA [0, 1, 2, 3, 4, 5] [] [0, 1, 2, 3, 4, 5] rfl rfl (by decide) (by decide) (by decide) rfl (fun H21 lo21 hz20 hP21 hD21 hS21 => ?_)
    clear hP16 hD16 hS16
    refine lv_if_eq (tgt := 30) hx hb dX7_flatters_19 (by decide) (fun c22 => ?_) (fun c22 => ?_)
    · have hm23 := zz_if c22 hm20
      refine lv_iconst (v := (-1 : Int32)) hx hb dX7_flatters_30 (by decide) ?_
      obtain ⟨hq1, hq2⟩ := Prod.mk.inj (Option.some.inj hm23)
      subst hq1
      subst hq2
      exact W.iret hx hb hr (fun t ht hW => ⟨⟨_, (), rfl, rfl, by rw [ht]; exact hP21, va_K.moved hW.alike hK, hD21⟩, hS21.F ht⟩) hS21.2.2 dX7_flatters_31
    · have hm24 := zz_nf c22 hm20
      refine lv_iload hx hb dX7_flatters_22 (lv_at hl 4 rfl) ?_
      obtain ⟨r25, h25, hm25⟩ := ob1_e hm24
      refine gcall_b (ws' := (w_Model cI cB cZ aM aMt aMn aMr aMs aMi (0 : Int32) mtd msz mto mfr mso mnu mfa mpl mwo msm mgo mt mno mre msn mis)) (va_runS (As := [.int x4]) (rest := []) ⟨hx, hb, hml, hown, hts⟩ (c_X7_isFactor l D cI cB cZ ta H21.size x4 r25 h25) (va_cwS 1 hts gX7_flatters_X7_isFactor rfl rfl rfl (by decide +kernel) ⟨(Nat.le_of_ble_eq_true rfl), (Nat.le_of_ble_eq_true rfl)⟩) ⟨PW_blind, PW_at hP21 hD21 hK hS21 hA hG [] rfl (by decide)⟩ rfl rfl hl.1 rfl (lv_room (Nat.le_of_ble_eq_true rfl)) dX7_flatters_24 ⟨(Nat.le_of_ble_eq_true rfl), (Nat.le_of_ble_eq_true rfl)⟩) hP21 hD21 hS21 hA [] [0, 1, 2, 3, 4, 5] [0, 1, 2, 3, 4, 5] rfl rfl (by decide) (by decide) (by decide) rfl (fun H26 lo26 hz25 hP26 hD26 hS26 => ?_)
      clear hP21 hD21 hS21
      refine lv_if_ne (tgt := 32) hx hb dX7_flatters_27 (by decide) (fun c27 => ?_) (fun c27 => ?_)
      · have hm28 := zz_nf c27 hm25
        refine lv_iconst (v := (0 : Int32)) hx hb dX7_flatters_32 (by decide) ?_
        refine lv_istore (lv' := [(5, .int (0 : Int32)), (0, .ref aM), (1, .int x1), (2, .int x2), (3, .int x3), (4, .int x4)]) hx hb dX7_flatters_33 hl (by decide) rfl (fun ls30 hl30 => ?_)
        refine lv_aload_n hx hb dX7_flatters_35 rfl (lv_at hl30 1 rfl) ?_
        refine lv_iload_n hx hb dX7_flatters_36 rfl (lv_at hl30 2 rfl) ?_
        refine lv_iload_n hx hb dX7_flatters_37 rfl (lv_at hl30 3 rfl) ?_
        refine lv_iload_n hx hb dX7_flatters_38 rfl (lv_at hl30 4 rfl) ?_
        refine lv_iconst (v := (0 : Int32)) hx hb dX7_flatters_39 (by decide) ?_
        refine lv_iload hx hb dX7_flatters_40 (lv_at hl30 5 rfl) ?_
        obtain ⟨r31, h31, hm31⟩ := ob1_e hm28
        refine gcall_i (ws' := (w_Model cI cB cZ aM aMt aMn aMr aMs aMi (0 : Int32) mtd msz mto mfr mso mnu mfa mpl mwo msm mgo mt mno mre msn mis)) (va_runV (As := [.int x1, .int x2, .int x3, .int (0 : Int32), .int x4]) (rest := []) ⟨hx, hb, hml, hown, hts⟩ (c_X7_effectIn l D cI cB cZ ta aM aMt aMn aMr aMs aMi H26.size (0 : Int32) mtd msz mto mfr mso mnu mfa mpl mwo msm mgo mt mno mre msn mis x1 x2 x3 (0 : Int32) x4 r31 h31) (cwV 5 hts gX7_flatters_X7_effectIn rfl rfl rfl (by decide +kernel) ⟨(Nat.le_of_ble_eq_true rfl), (Nat.le_of_ble_eq_true rfl)⟩) ⟨PW_blind, va_recv hK hP26 rfl (q0 := 0) rfl, PW_at hP26 hD26 hK hS26 hA hG [0, 1, 2, 3, 4, 5] rfl (by decide)⟩ rfl rfl hl30.1 rfl (lv_room (Nat.le_of_ble_eq_true rfl)) dX7_flatters_42 ⟨(Nat.le_of_ble_eq_true rfl), (Nat.le_of_ble_eq_true rfl)⟩) hP26 hD26 hS26 hA [0, 1, 2, 3, 4, 5] [] [0, 1, 2, 3, 4, 5] rfl rfl (by decide) (by decide) (by decide) rfl (fun H32 lo32 hP32 hD32 hS32 => ?_)
        clear hP26 hD26 hS26
        refine lv_istore (lv' := [(6, .int r31), (5, .int (0 : Int32)), (0, .ref aM), (1, .int x1), (2, .int x2), (3, .int x3), (4, .int x4)]) hx hb dX7_flatters_45 hl30 (by decide) rfl (fun ls33 hl33 => ?_)
        refine lv_iconst (v := (1 : Int32)) hx hb dX7_flatters_47 (by decide) ?_
        refine lv_istore (lv' := [(7, .int (1 : Int32)), (6, .int r31), (5, .int (0 : Int32)), (0, .ref aM), (1, .int x1), (2, .int x2), (3, .int x3), (4, .int x4)]) hx hb dX7_flatters_48 hl33 (by decide) rfl (fun ls34 hl34 => ?_)
        exact hk_50 FU (0 : Int32) x1 x2 x3 x4 (0 : Int32) r31 (1 : Int32) hm31 ls34 H32 lo32 (lv_sub hl34 [3, 4, 5, 6, 7, 2, 1, 0] rfl) hP32 hD32 hS32
      · have hm29 := zz_if c27 hm25
        refine lv_iconst (v := (-1 : Int32)) hx hb dX7_flatters_30 (by decide) ?_
        obtain ⟨hq1, hq2⟩ := Prod.mk.inj (Option.some.inj hm29)
        subst hq1
        subst hq2
        exact W.iret hx hb hr (fun t ht hW => ⟨⟨_, (), rfl, rfl, by rw [ht]; exact hP26, va_K.moved hW.alike hK, hD26⟩, hS26.F ht⟩) hS26.2.2 dX7_flatters_31
set_option maxHeartbeats 4000000 in
set_option maxRecDepth 100000 in
theorem c_X7_farOf (l : Launch) (D : va_G) (cI cB cZ : ClassId) (ta : Nat → Nat) (aM : Nat) (aMt : Nat) (aMn : Nat) (aMr : Nat) (aMs : Nat) (aMi : Nat) (sz : Nat) (mth : Int32) (mtd : Int32) (msz : Int32) (mto : Int32) (mfr : Int32) (mso : Int32) (mnu : Int32) (mfa : Int32) (mpl : Int32) (mwo : Int64) (msm : Int32) (mgo : Int32) (mt : (Nat → Int32)) (mno : (Nat → Int32)) (mre : (Nat → Int32)) (msn : (Nat → Int32)) (mis : (Nat → Int32)) (x1 : Int32) (x2 : Int32) (x3 : Int32) (r0 : Int32) (hm : m_X7_farOf mno x1 x2 x3 = some r0) : Met l yX7_farOf wsX7_farOf ({ frames := 5, cells := 0, slots := 0, locals := 120 } : Room) (va_Pc [.ref aM, .int x1, .int x2, .int x3] (PW D cI cB cZ ta (w_Model cI cB cZ aM aMt aMn aMr aMs aMi mth mtd msz mto mfr mso mnu mfa mpl mwo msm mgo mt mno mre msn mis) sz)) (QI D cI cB cZ (va_A (w_Model cI cB cZ aM aMt aMn aMr aMs aMi mth mtd msz mto mfr mso mnu mfa mpl mwo msm mgo mt mno mre msn mis) sz) (w_Model cI cB cZ aM aMt aMn aMr aMs aMi mth mtd msz mto mfr mso mnu mfa mpl mwo msm mgo mt mno mre msn mis) r0) 0 0 (va_A (w_Model cI cB cZ aM aMt aMn aMr aMs aMi mth mtd msz mto mfr mso mnu mfa mpl mwo msm mgo mt mno mre msn mis) sz) := by
  refine Met.ofW (cc := cX7_farOf) (maxL := 5) (ret := (some .int)) (by decide) rfl ?_
  intro p e s m args below meth c s₁ B hml hv
  obtain ⟨rfl, hsz, hP, hK, hD0, hG⟩ := hv
  have hx := B.exec
  have hb := B.bytes
  have hr := B.returns
  have hts := atoms_spec (ws := wsX7_farOf) B.pre
  have hown : s.vm.findClass RX7 = some m.cls := findClass_of_methodNamed B.named
  have hlocks := B.notSynchronized
  subst hsz
  have hD := hD0.self (sz := s.heap.size)
  clear hD0
  have hA0 : ∀ q : Nat, s.heap.size ≤ q → va_A (w_Model cI cB cZ aM aMt aMn aMr aMs aMi mth mtd msz mto mfr mso mnu mfa mpl mwo msm mgo mt mno mre msn mis) s.heap.size q := fun q h => Or.inr h
  generalize hAe : va_A (w_Model cI cB cZ aM aMt aMn aMr aMs aMi mth mtd msz mto mfr mso mnu mfa mpl mwo msm mgo mt mno mre msn mis) s.heap.size = A at hD hG hA0 ⊢
  have hA : ∀ q : Nat, s.heap.size ≤ q → A q := hA0
  clear hA0
  have hS : va_S A s.heap s.heap [] := va_S.rf
  have hl := lv_entry ([.ref aM, .int x1, .int x2, .int x3]) (n := 5) (Nat.le_of_ble_eq_true rfl)
  rw [lg_entry_eq]
  generalize (lg_sl ([.ref aM, .int x1, .int x2, .int x3]) ++ List.replicate (5 - (lg_sl ([.ref aM, .int x1, .int x2, .int x3])).length) Slot.unset).toArray = ls at hl ⊢
  have hl : lv_has ls 5 [(0, .ref aM), (1, .int x1), (2, .int x2), (3, .int x3)] := hl
  replace hm : (ob1 (m_X7_differenceOf mno x1 x2 x3) (fun r1 => (if 0 ≤ r1 then some r1 else some (-r1)))) = some r0 := hm
  refine lv_aload_n hx hb dX7_farOf_0 rfl (lv_at hl 0 rfl) ?_
  refine lv_iload_n hx hb dX7_farOf_1 rfl (lv_at hl 1 rfl) ?_
  refine lv_iload_n hx hb dX7_farOf_2 rfl (lv_at hl 2 rfl) ?_
  refine lv_iload_n hx hb dX7_farOf_3 rfl (lv_at hl 3 rfl) ?_
  obtain ⟨r1, h1, hm1⟩ := ob1_e hm
  refine gcall_i (ws' := (w_Model cI cB cZ aM aMt aMn aMr aMs aMi mth mtd msz mto mfr mso mnu mfa mpl mwo msm mgo mt mno mre msn mis)) (va_runV (As := [.int x1, .int x2, .int x3]) (rest := []) ⟨hx, hb, hml, hown, hts⟩ (c_X7_differenceOf l D cI cB cZ ta aM aMt aMn aMr aMs aMi s.heap.size mth mtd msz mto mfr mso mnu mfa mpl mwo msm mgo mt mno mre msn mis x1 x2 x3 r1 h1) (cwV 3 hts gX7_farOf_X7_differenceOf rfl rfl rfl (by decide +kernel) ⟨(Nat.le_of_ble_eq_true rfl), (Nat.le_of_ble_eq_true rfl)⟩) ⟨PW_blind, va_recv hK hP rfl (q0 := 0) rfl, PW_at hP hD hK hS hA hG [0, 1, 2, 3, 4, 5] rfl (by decide)⟩ rfl rfl hl.1 rfl (lv_room (Nat.le_of_ble_eq_true rfl)) dX7_farOf_4 ⟨(Nat.le_of_ble_eq_true rfl), (Nat.le_of_ble_eq_true rfl)⟩) hP hD hS hA [0, 1, 2, 3, 4, 5] [] [0, 1, 2, 3, 4, 5] rfl rfl (by decide) (by decide) (by decide) rfl (fun H2 lo2 hP2 hD2 hS2 => ?_)
  clear hP hD hS
  refine lv_istore (lv' := [(4, .int r1), (0, .ref aM), (1, .int x1), (2, .int x2), (3, .int x3)]) hx hb dX7_farOf_7 hl (by decide) rfl (fun ls3 hl3 => ?_)
  refine lv_iload hx hb dX7_farOf_9 (lv_at hl3 0 rfl) ?_
  refine lv_if_ge (tgt := 20) hx hb dX7_farOf_11 (by decide) (fun c4 => ?_) (fun c4 => ?_)
  · have hm5 := zz_if c4 hm1
    refine lv_iload hx hb dX7_farOf_20 (lv_at hl3 0 rfl) ?_
    have hq1 := Option.some.inj hm5
    subst hq1
    exact W.iret hx hb hr (fun t ht hW => ⟨⟨_, (), rfl, rfl, by rw [ht]; exact hP2, va_K.moved hW.alike hK, hD2⟩, hS2.F ht⟩) hS2.2.2 dX7_farOf_22
  · have hm6 := zz_nf c4 hm1
    refine lv_iload hx hb dX7_farOf_14 (lv_at hl3 0 rfl) ?_
    refine lv_ineg hx hb dX7_farOf_16 ?_
    refine lv_goto (tgt := 22) hx hb dX7_farOf_17 (by decide) ?_
    have hq1 := Option.some.inj hm6
    subst hq1
    exact W.iret hx hb hr (fun t ht hW => ⟨⟨_, (), rfl, rfl, by rw [ht]; exact hP2, va_K.moved hW.alike hK, hD2⟩, hS2.F ht⟩) hS2.2.2 dX7_farOf_22
theorem iw_X7_mover_X7 : ∀ w ∈ wsX70, w ∈ wsX7_mover := by decide +kernel
set_option maxHeartbeats 4000000 in
set_option maxRecDepth 100000 in
theorem c_X7_mover (l : Launch) (D : va_G) (cI cB cZ : ClassId) (ta : Nat → Nat) (aM : Nat) (aMt : Nat) (aMn : Nat) (aMr : Nat) (aMs : Nat) (aMi : Nat) (sz : Nat) (mth : Int32) (mtd : Int32) (msz : Int32) (mto : Int32) (mfr : Int32) (mso : Int32) (mnu : Int32) (mfa : Int32) (mpl : Int32) (mwo : Int64) (msm : Int32) (mgo : Int32) (mt : (Nat → Int32)) (mno : (Nat → Int32)) (mre : (Nat → Int32)) (msn : (Nat → Int32)) (mis : (Nat → Int32)) (x1 : Int32) (x2 : Int32) (x3 : Int32) (r0 : Int32) (u_mth : Int32) (hm : m_X7_mover mth mno x1 x2 x3 = some (r0, u_mth)) : Met l yX7_mover wsX7_mover ({ frames := 6, cells := 0, slots := 0, locals := 144 } : Room) (va_Pc [.ref aM, .int x1, .int x2, .int x3] (PW D cI cB cZ ta (w_Model cI cB cZ aM aMt aMn aMr aMs aMi mth mtd msz mto mfr mso mnu mfa mpl mwo msm mgo mt mno mre msn mis) sz)) (QI D cI cB cZ (va_A (w_Model cI cB cZ aM aMt aMn aMr aMs aMi mth mtd msz mto mfr mso mnu mfa mpl mwo msm mgo mt mno mre msn mis) sz) (w_Model cI cB cZ aM aMt aMn aMr aMs aMi u_mth mtd msz mto mfr mso mnu mfa mpl mwo msm mgo mt mno mre msn mis) r0) 0 0 (va_A (w_Model cI cB cZ aM aMt aMn aMr aMs aMi mth mtd msz mto mfr mso mnu mfa mpl mwo msm mgo mt mno mre msn mis) sz) := by
  refine Met.ofW (cc := cX7_mover) (maxL := 7) (ret := (some .int)) (by decide) rfl ?_
  intro p e s m args below meth c s₁ B hml hv
  obtain ⟨rfl, hsz, hP, hK, hD0, hG⟩ := hv
  have hx := B.exec
  have hb := B.bytes
  have hr := B.returns
  have hts := atoms_spec (ws := wsX7_mover) B.pre
  have hown : s.vm.findClass RX7 = some m.cls := findClass_of_methodNamed B.named
  have hlocks := B.notSynchronized
  subst hsz
  have hD := hD0.self (sz := s.heap.size)
  clear hD0
  have hA0 : ∀ q : Nat, s.heap.size ≤ q → va_A (w_Model cI cB cZ aM aMt aMn aMr aMs aMi mth mtd msz mto mfr mso mnu mfa mpl mwo msm mgo mt mno mre msn mis) s.heap.size q := fun q h => Or.inr h
  generalize hAe : va_A (w_Model cI cB cZ aM aMt aMn aMr aMs aMi mth mtd msz mto mfr mso mnu mfa mpl mwo msm mgo mt mno mre msn mis) s.heap.size = A at hD hG hA0 ⊢
  have hA : ∀ q : Nat, s.heap.size ≤ q → A q := hA0
  clear hA0
  have hS : va_S A s.heap s.heap [] := va_S.rf
  have iw_X7 := iw_X7_mover_X7
  have hk_48 : ∀ (ct19 : Int32 → Int32 → Int32 → Int32 → Int32 → Option (Int32 × Int32)) (hct19 : ∀ (mth : Int32) (y1 : Int32) (y2 : Int32) (y3 : Int32) (y4 : Int32), ct19 mth y1 y2 y3 y4 = some (r0, u_mth) → ∀ (ls : Array Slot) (H : Heap) (lo : List Loc), lv_has ls 7 [(0, .ref aM), (1, .int y1), (2, .int y2), (3, .int y3), (4, .int y4)] → va_P D vwCl (w_Model cI cB cZ aM aMt aMn aMr aMs aMi mth mtd msz mto mfr mso mnu mfa mpl mwo msm mgo mt mno mre msn mis) H → va_D A (w_Model cI cB cZ aM aMt aMn aMr aMs aMi mth mtd msz mto mfr mso mnu mfa mpl mwo msm mgo mt mno mre msn mis) → va_S A s.heap H lo → W p l e (headSpec wsX7_mover ({ frames := 6, cells := 0, slots := 0, locals := 144 } : Room)).room s m (([.ref aM, .int x1, .int x2, .int x3] : List Value).toArray) below meth c H lo 0 0 (MQ below (QI D cI cB cZ A (w_Model cI cB cZ aM aMt aMn aMr aMs aMi u_mth mtd msz mto mfr mso mnu mfa mpl mwo msm mgo mt mno mre msn mis) r0) (([.ref aM, .int x1, .int x2, .int x3] : List Value).toArray) s 0 0 A) (F0 m 19 ls [])) (n : Nat) (mth : Int32) (y1 : Int32) (y2 : Int32) (y3 : Int32) (y4 : Int32) (y5 : Int32) (y6 : Int32), k_X7_mover_48 mno ct19 n mth y1 y2 y3 y4 y5 y6 = some (r0, u_mth) → ∀ (ls : Array Slot) (H : Heap) (lo : List Loc), lv_has ls 7 [(0, .ref aM), (1, .int y1), (2, .int y2), (3, .int y3), (4, .int y4), (5, .int y5), (6, .int y6)] → va_P D vwCl (w_Model cI cB cZ aM aMt aMn aMr aMs aMi mth mtd msz mto mfr mso mnu mfa mpl mwo msm mgo mt mno mre msn mis) H → va_D A (w_Model cI cB cZ aM aMt aMn aMr aMs aMi mth mtd msz mto mfr mso mnu mfa mpl mwo msm mgo mt mno mre msn mis) → va_S A s.heap H lo → W p l e (headSpec wsX7_mover ({ frames := 6, cells := 0, slots := 0, locals := 144 } : Room)).room s m (([.ref aM, .int x1, .int x2, .int x3] : List Value).toArray) below meth c H lo 0 0 (MQ below (QI D cI cB cZ A (w_Model cI cB cZ aM aMt aMn aMr aMs aMi u_mth mtd msz mto mfr mso mnu mfa mpl mwo msm mgo mt mno mre msn mis) r0) (([.ref aM, .int x1, .int x2, .int x3] : List Value).toArray) s 0 0 A) (F0 m 48 ls []) := by
    intro ct19 hct19 n
    induction n with
    | zero => intro mth y1 y2 y3 y4 y5 y6 hm; exact zz_nn hm
    | succ n ih =>
      intro mth y1 y2 y3 y4 y5 y6 hm ls H lo hl hP hD hS
      replace hm := (k_X7_mover_48_s mno ct19 n mth y1 y2 y3 y4 y5 y6).symm.trans hm
      refine lv_iload hx hb dX7_mover_48 (lv_at hl 6 rfl) ?_
      refine lv_aload_n hx hb dX7_mover_50 rfl (lv_at hl 0 rfl) ?_
      refine va_get (D := D) (ci := 7) (v := .ref aMn) (C := RX7) (T := TX7) (N := 17) hx hb hts iw_X7 hown hK hP 0 rfl rfl 11 (by decide) (hts (.fieldLink RX7 64 "VarianceBridgeModel" "now" "[I") (by decide +kernel)) (fun _ h9 => h9) rfl dX7_mover_51 ?_
      refine lv_iconst (v := (1 : Int32)) hx hb dX7_mover_54 (by decide) ?_
      obtain ⟨c1, hm2⟩ := zz_no hm
      refine va_iald hx hb hK hP 2 0 rfl rfl c1 dX7_mover_55 ?_
      refine lv_icmp_ge (tgt := 122) hx hb dX7_mover_56 (by decide) (fun c3 => ?_) (fun c3 => ?_)
      · have hm4 := zz_if c3 hm2
        refine lv_iload hx hb dX7_mover_122 (lv_at hl 5 rfl) ?_
        refine lv_iload_n hx hb dX7_mover_124 rfl (lv_at hl 3 rfl) ?_
        refine lv_icmp_ne (tgt := 131) hx hb dX7_mover_125 (by decide) (fun c6 => ?_) (fun c6 => ?_)
        · have hm7 := zz_nf c6 hm4
          refine lv_iinc (v := (y4 + (1 : Int32))) (lv' := [(4, .int (y4 + (1 : Int32))), (0, .ref aM), (1, .int y1), (2, .int y2), (3, .int y3), (5, .int y5), (6, .int y6)]) hx hb dX7_mover_131 hl (k := 4) rfl (by rfl) (by decide) rfl (fun ls9 hl9 => ?_)
          refine lv_goto (tgt := 19) hx hb dX7_mover_134 (by decide) ?_
          exact hct19 mth y1 y2 y3 (y4 + (1 : Int32)) hm7 ls9 H lo (lv_sub hl9 [1, 2, 3, 4, 0] rfl) hP hD hS
        · have hm8 := zz_if c6 hm4
          refine lv_iload hx hb dX7_mover_128 (lv_at hl 4 rfl) ?_
          obtain ⟨hq1, hq2⟩ := Prod.mk.inj (Option.some.inj hm8)
          subst hq1
          subst hq2
          exact W.iret hx hb hr (fun t ht hW => ⟨⟨_, (), rfl, rfl, by rw [ht]; exact hP, va_K.moved hW.alike hK, hD⟩, hS.F ht⟩) hS.2.2 dX7_mover_130
      · have hm5 := zz_nf c3 hm2
        refine lv_aload_n hx hb dX7_mover_59 rfl (lv_at hl 0 rfl) ?_
        refine lv_iload hx hb dX7_mover_60 (lv_at hl 6 rfl) ?_
        obtain ⟨r10, h10, hm10⟩ := ob1_e hm5
        refine gcall_b (ws' := (w_Model cI cB cZ aM aMt aMn aMr aMs aMi mth mtd msz mto mfr mso mnu mfa mpl mwo msm mgo mt mno mre msn mis)) (va_runV (As := [.int y6]) (rest := []) ⟨hx, hb, hml, hown, hts⟩ (c_X7_isLeaf l D cI cB cZ ta aM aMt aMn aMr aMs aMi H.size mth mtd msz mto mfr mso mnu mfa mpl mwo msm mgo mt mno mre msn mis y6 r10 h10) (cwV 1 hts gX7_mover_X7_isLeaf rfl rfl rfl (by decide +kernel) ⟨(Nat.le_of_ble_eq_true rfl), (Nat.le_of_ble_eq_true rfl)⟩) ⟨PW_blind, va_recv hK hP rfl (q0 := 0) rfl, PW_at hP hD hK hS hA hG [0, 1, 2, 3, 4, 5] rfl (by decide)⟩ rfl rfl hl.1 rfl (lv_room (Nat.le_of_ble_eq_true rfl)) dX7_mover_62 ⟨(Nat.le_of_ble_eq_true rfl), (Nat.le_of_ble_eq_true rfl)⟩) hP hD hS hA [0, 1, 2, 3, 4, 5] [] [0, 1, 2, 3, 4, 5] rfl rfl (by decide) (by decide) (by decide) rfl (fun H11 lo11 hz10 hP11 hD11 hS11 => ?_)
        clear hP hD hS
        refine lv_if_eq (tgt := 116) hx hb dX7_mover_65 (by decide) (fun c12 => ?_) (fun c12 => ?_)
        · have hm13 := zz_if c12 hm10
          refine lv_iinc (v := (y6 + (1 : Int32))) (lv' := [(6, .int (y6 + (1 : Int32))), (0, .ref aM), (1, .int y1), (2, .int y2), (3, .int y3), (4, .int y4), (5, .int y5)]) hx hb dX7_mover_116 hl (k := 6) rfl (by rfl) (by decide) rfl (fun ls15 hl15 => ?_)
          refine lv_goto (tgt := 48) hx hb dX7_mover_119 (by decide) ?_
          exact ih mth y1 y2 y3 y4 y5 (y6 + (1 : Int32)) hm13 ls15 H11 lo11 (lv_sub hl15 [1, 2, 3, 4, 5, 6, 0] rfl) hP11 hD11 hS11
        · have hm14 := zz_nf c12 hm10
          refine lv_aload_n hx hb dX7_mover_68 rfl (lv_at hl 0 rfl) ?_
          refine lv_iload hx hb dX7_mover_69 (lv_at hl 6 rfl) ?_
          refine lv_iload_n hx hb dX7_mover_71 rfl (lv_at hl 1 rfl) ?_
          refine lv_iload_n hx hb dX7_mover_72 rfl (lv_at hl 2 rfl) ?_
          obtain ⟨r16, h16, hm16⟩ := ob1_e hm14
          refine gcall_i (ws' := (w_Model cI cB cZ aM aMt aMn aMr aMs aMi mth mtd msz mto mfr mso mnu mfa mpl mwo msm mgo mt mno mre msn mis)) (va_runV (As := [.int y6, .int y1, .int y2]) (rest := []) ⟨hx, hb, hml, hown, hts⟩ (c_X7_farOf l D cI cB cZ ta aM aMt aMn aMr aMs aMi H11.size mth mtd msz mto mfr mso mnu mfa mpl mwo msm mgo mt mno mre msn mis y6 y1 y2 r16 h16) (cwV 3 hts gX7_mover_X7_farOf rfl rfl rfl (by decide +kernel) ⟨(Nat.le_of_ble_eq_true rfl), (Nat.le_of_ble_eq_true rfl)⟩) ⟨PW_blind, va_recv hK hP11 rfl (q0 := 0) rfl, PW_at hP11 hD11 hK hS11 hA hG [0, 1, 2, 3, 4, 5] rfl (by decide)⟩ rfl rfl hl.1 rfl (lv_room (Nat.le_of_ble_eq_true rfl)) dX7_mover_73 ⟨(Nat.le_of_ble_eq_true rfl), (Nat.le_of_ble_eq_true rfl)⟩) hP11 hD11 hS11 hA [0, 1, 2, 3, 4, 5] [] [0, 1, 2, 3, 4, 5] rfl rfl (by decide) (by decide) (by decide) rfl (fun H17 lo17 hP17 hD17 hS17 => ?_)
          clear hP11 hD11 hS11
          refine lv_aload_n hx hb dX7_mover_76 rfl (lv_at hl 0 rfl) ?_
          refine lv_iload hx hb dX7_mover_77 (lv_at hl 4 rfl) ?_
          refine lv_iload_n hx hb dX7_mover_79 rfl (lv_at hl 1 rfl) ?_
          refine lv_iload_n hx hb dX7_mover_80 rfl (lv_at hl 2 rfl) ?_
          obtain ⟨r18, h18, hm18⟩ := ob1_e hm16
          refine gcall_i (ws' := (w_Model cI cB cZ aM aMt aMn aMr aMs aMi mth mtd msz mto mfr mso mnu mfa mpl mwo msm mgo mt mno mre msn mis)) (va_runV (As := [.int y4, .int y1, .int y2]) (rest := [.int r16]) ⟨hx, hb, hml, hown, hts⟩ (c_X7_farOf l D cI cB cZ ta aM aMt aMn aMr aMs aMi H17.size mth mtd msz mto mfr mso mnu mfa mpl mwo msm mgo mt mno mre msn mis y4 y1 y2 r18 h18) (cwV 3 hts gX7_mover_X7_farOf rfl rfl rfl (by decide +kernel) ⟨(Nat.le_of_ble_eq_true rfl), (Nat.le_of_ble_eq_true rfl)⟩) ⟨PW_blind, va_recv hK hP17 rfl (q0 := 0) rfl, PW_at hP17 hD17 hK hS17 hA hG [0, 1, 2, 3, 4, 5] rfl (by decide)⟩ rfl rfl hl.1 rfl (lv_room (Nat.le_of_ble_eq_true rfl)) dX7_mover_81 ⟨(Nat.le_of_ble_eq_true rfl), (Nat.le_of_ble_eq_true rfl)⟩) hP17 hD17 hS17 hA [0, 1, 2, 3, 4, 5] [] [0, 1, 2, 3, 4, 5] rfl rfl (by decide) (by decide) (by decide) rfl (fun H19 lo19 hP19 hD19 hS19 => ?_)
          clear hP17 hD17 hS17
          refine lv_icmp_gt (tgt := 113) hx hb dX7_mover_84 (by decide) (fun c20 => ?_) (fun c20 => ?_)
          · have hm21 := zz_if c20 hm18
            refine lv_iinc (v := (y5 + (1 : Int32))) (lv' := [(5, .int (y5 + (1 : Int32))), (0, .ref aM), (1, .int y1), (2, .int y2), (3, .int y3), (4, .int y4), (6, .int y6)]) hx hb dX7_mover_113 hl (k := 5) rfl (by rfl) (by decide) rfl (fun ls23 hl23 => ?_)
            refine lv_iinc (v := (y6 + (1 : Int32))) (lv' := [(6, .int (y6 + (1 : Int32))), (5, .int (y5 + (1 : Int32))), (0, .ref aM), (1, .int y1), (2, .int y2), (3, .int y3), (4, .int y4)]) hx hb dX7_mover_116 hl23 (k := 6) rfl (by rfl) (by decide) rfl (fun ls24 hl24 => ?_)
            refine lv_goto (tgt := 48) hx hb dX7_mover_119 (by decide) ?_
            exact ih mth y1 y2 y3 y4 (y5 + (1 : Int32)) (y6 + (1 : Int32)) hm21 ls24 H19 lo19 (lv_sub hl24 [2, 3, 4, 5, 6, 1, 0] rfl) hP19 hD19 hS19
          · have hm22 := zz_nf c20 hm18
            refine lv_iload hx hb dX7_mover_87 (lv_at hl 6 rfl) ?_
            refine lv_iload hx hb dX7_mover_89 (lv_at hl 4 rfl) ?_
            refine lv_icmp_ge (tgt := 116) hx hb dX7_mover_91 (by decide) (fun c25 => ?_) (fun c25 => ?_)
            · have hm26 := zz_if c25 hm22
              refine lv_iinc (v := (y6 + (1 : Int32))) (lv' := [(6, .int (y6 + (1 : Int32))), (0, .ref aM), (1, .int y1), (2, .int y2), (3, .int y3), (4, .int y4), (5, .int y5)]) hx hb dX7_mover_116 hl (k := 6) rfl (by rfl) (by decide) rfl (fun ls28 hl28 => ?_)
              refine lv_goto (tgt := 48) hx hb dX7_mover_119 (by decide) ?_
              exact ih mth y1 y2 y3 y4 y5 (y6 + (1 : Int32)) hm26 ls28 H19 lo19 (lv_sub hl28 [1, 2, 3, 4, 5, 6, 0] rfl) hP19 hD19 hS19
            · have hm27 := zz_nf c25 hm22
              refine lv_aload_n hx hb dX7_mover_94 rfl (lv_at hl 0 rfl) ?_
              refine lv_iload hx hb dX7_mover_95 (lv_at hl 6 rfl) ?_
              refine lv_iload_n hx hb dX7_mover_97 rfl (lv_at hl 1 rfl) ?_
              refine lv_iload_n hx hb dX7_mover_98 rfl (lv_at hl 2 rfl) ?_
              obtain ⟨r29, h29, hm29⟩ := ob1_e hm27
              refine gcall_i (ws' := (w_Model cI cB cZ aM aMt aMn aMr aMs aMi mth mtd msz mto mfr mso mnu mfa mpl mwo msm mgo mt mno mre msn mis)) (va_runV (As := [.int y6, .int y1, .int y2]) (rest := []) ⟨hx, hb, hml, hown, hts⟩ (c_X7_farOf l D cI cB cZ ta aM aMt aMn aMr aMs aMi H19.size mth mtd msz mto mfr mso mnu mfa mpl mwo msm mgo mt mno mre msn mis y6 y1 y2 r29 h29) (cwV 3 hts gX7_mover_X7_farOf rfl rfl rfl (by decide +kernel) ⟨(Nat.le_of_ble_eq_true rfl), (Nat.le_of_ble_eq_true rfl)⟩) ⟨PW_blind, va_recv hK hP19 rfl (q0 := 0) rfl, PW_at hP19 hD19 hK hS19 hA hG [0, 1, 2, 3, 4, 5] rfl (by decide)⟩ rfl rfl hl.1 rfl (lv_room (Nat.le_of_ble_eq_true rfl)) dX7_mover_99 ⟨(Nat.le_of_ble_eq_true rfl), (Nat.le_of_ble_eq_true rfl)⟩) hP19 hD19 hS19 hA [0, 1, 2, 3, 4, 5] [] [0, 1, 2, 3, 4, 5] rfl rfl (by decide) (by decide) (by decide) rfl (fun H30 lo30 hP30 hD30 hS30 => ?_)
              clear hP19 hD19 hS19
              refine lv_aload_n hx hb dX7_mover_102 rfl (lv_at hl 0 rfl) ?_
              refine lv_iload hx hb dX7_mover_103 (lv_at hl 4 rfl) ?_
              refine lv_iload_n hx hb dX7_mover_105 rfl (lv_at hl 1 rfl) ?_
              refine lv_iload_n hx hb dX7_mover_106 rfl (lv_at hl 2 rfl) ?_
              obtain ⟨r31, h31, hm31⟩ := ob1_e hm29
              refine gcall_i (ws' := (w_Model cI cB cZ aM aMt aMn aMr aMs aMi mth mtd msz mto mfr mso mnu mfa mpl mwo msm mgo mt mno mre msn mis)) (va_runV (As := [.int y4, .int y1, .int y2]) (rest := [.int r29]) ⟨hx, hb, hml, hown, hts⟩ (c_X7_farOf l D cI cB cZ ta aM aMt aMn aMr aMs aMi H30.size mth mtd msz mto mfr mso mnu mfa mpl mwo msm mgo mt mno mre msn mis y4 y1 y2 r31 h31) (cwV 3 hts gX7_mover_X7_farOf rfl rfl rfl (by decide +kernel) ⟨(Nat.le_of_ble_eq_true rfl), (Nat.le_of_ble_eq_true rfl)⟩) ⟨PW_blind, va_recv hK hP30 rfl (q0 := 0) rfl, PW_at hP30 hD30 hK hS30 hA hG [0, 1, 2, 3, 4, 5] rfl (by decide)⟩ rfl rfl hl.1 rfl (lv_room (Nat.le_of_ble_eq_true rfl)) dX7_mover_107 ⟨(Nat.le_of_ble_eq_true rfl), (Nat.le_of_ble_eq_true rfl)⟩) hP30 hD30 hS30 hA [0, 1, 2, 3, 4, 5] [] [0, 1, 2, 3, 4, 5] rfl rfl (by decide) (by decide) (by decide) rfl (fun H32 lo32 hP32 hD32 hS32 => ?_)
              clear hP30 hD30 hS30
              refine lv_icmp_ne (tgt := 116) hx hb dX7_mover_110 (by decide) (fun c33 => ?_) (fun c33 => ?_)
              · have hm34 := zz_nf c33 hm31
                refine lv_iinc (v := (y6 + (1 : Int32))) (lv' := [(6, .int (y6 + (1 : Int32))), (0, .ref aM), (1, .int y1), (2, .int y2), (3, .int y3), (4, .int y4), (5, .int y5)]) hx hb dX7_mover_116 hl (k := 6) rfl (by rfl) (by decide) rfl (fun ls36 hl36 => ?_)
                refine lv_goto (tgt := 48) hx hb dX7_mover_119 (by decide) ?_
                exact ih mth y1 y2 y3 y4 y5 (y6 + (1 : Int32)) hm34 ls36 H32 lo32 (lv_sub hl36 [1, 2, 3, 4, 5, 6, 0] rfl) hP32 hD32 hS32
              · have hm35 := zz_if c33 hm31
                refine lv_iinc (v := (y5 + (1 : Int32))) (lv' := [(5, .int (y5 + (1 : Int32))), (0, .ref aM), (1, .int y1), (2, .int y2), (3, .int y3), (4, .int y4), (6, .int y6)]) hx hb dX7_mover_113 hl (k := 5) rfl (by rfl) (by decide) rfl (fun ls37 hl37 => ?_)
                refine lv_iinc (v := (y6 + (1 : Int32))) (lv' := [(6, .int (y6 + (1 : Int32))), (5, .int (y5 + (1 : Int32))), (0, .ref aM), (1, .int y1), (2, .int y2), (3, .int y3), (4, .int y4)]) hx hb dX7_mover_116 hl37 (k := 6) rfl (by rfl) (by decide) rfl (fun ls38 hl38 => ?_)
                refine lv_goto (tgt := 48) hx hb dX7_mover_119 (by decide) ?_
                exact ih mth y1 y2 y3 y4 (y5 + (1 : Int32)) (y6 + (1 : Int32)) hm35 ls38 H32 lo32 (lv_sub hl38 [2, 3, 4, 5, 6, 1, 0] rfl) hP32 hD32 hS32
  have hk_19 : ∀ (n : Nat) (mth : Int32) (y1 : Int32) (y2 : Int32) (y3 : Int32) (y4 : Int32), k_X7_mover_19 mno n mth y1 y2 y3 y4 = some (r0, u_mth) → ∀ (ls : Array Slot) (H : Heap) (lo : List Loc), lv_has ls 7 [(0, .ref aM), (1, .int y1), (2, .int y2), (3, .int y3), (4, .int y4)] → va_P D vwCl (w_Model cI cB cZ aM aMt aMn aMr aMs aMi mth mtd msz mto mfr mso mnu mfa mpl mwo msm mgo mt mno mre msn mis) H → va_D A (w_Model cI cB cZ aM aMt aMn aMr aMs aMi mth mtd msz mto mfr mso mnu mfa mpl mwo msm mgo mt mno mre msn mis) → va_S A s.heap H lo → W p l e (headSpec wsX7_mover ({ frames := 6, cells := 0, slots := 0, locals := 144 } : Room)).room s m (([.ref aM, .int x1, .int x2, .int x3] : List Value).toArray) below meth c H lo 0 0 (MQ below (QI D cI cB cZ A (w_Model cI cB cZ aM aMt aMn aMr aMs aMi u_mth mtd msz mto mfr mso mnu mfa mpl mwo msm mgo mt mno mre msn mis) r0) (([.ref aM, .int x1, .int x2, .int x3] : List Value).toArray) s 0 0 A) (F0 m 19 ls []) := by
    intro n
    induction n with
    | zero => intro mth y1 y2 y3 y4 hm; exact zz_nn hm
    | succ n ih =>
      intro mth y1 y2 y3 y4 hm ls H lo hl hP hD hS
      replace hm := (k_X7_mover_19_s mno n mth y1 y2 y3 y4).symm.trans hm
      refine lv_iload hx hb dX7_mover_19 (lv_at hl 4 rfl) ?_
      refine lv_aload_n hx hb dX7_mover_21 rfl (lv_at hl 0 rfl) ?_
      refine va_get (D := D) (ci := 7) (v := .ref aMn) (C := RX7) (T := TX7) (N := 17) hx hb hts iw_X7 hown hK hP 0 rfl rfl 11 (by decide) (hts (.fieldLink RX7 64 "VarianceBridgeModel" "now" "[I") (by decide +kernel)) (fun _ h9 => h9) rfl dX7_mover_22 ?_
      refine lv_iconst (v := (1 : Int32)) hx hb dX7_mover_25 (by decide) ?_
      obtain ⟨c39, hm40⟩ := zz_no hm
      refine va_iald hx hb hK hP 2 0 rfl rfl c39 dX7_mover_26 ?_
      refine lv_icmp_ge (tgt := 137) hx hb dX7_mover_27 (by decide) (fun c41 => ?_) (fun c41 => ?_)
      · have hm42 := zz_if c41 hm40
        refine lv_iconst (v := (-1 : Int32)) hx hb dX7_mover_137 (by decide) ?_
        obtain ⟨hq1, hq2⟩ := Prod.mk.inj (Option.some.inj hm42)
        subst hq1
        subst hq2
        exact W.iret hx hb hr (fun t ht hW => ⟨⟨_, (), rfl, rfl, by rw [ht]; exact hP, va_K.moved hW.alike hK, hD⟩, hS.F ht⟩) hS.2.2 dX7_mover_138
      · have hm43 := zz_nf c41 hm40
        refine lv_aload_n hx hb dX7_mover_30 rfl (lv_at hl 0 rfl) ?_
        refine lv_iload hx hb dX7_mover_31 (lv_at hl 4 rfl) ?_
        obtain ⟨r44, h44, hm44⟩ := ob1_e hm43
        refine gcall_b (ws' := (w_Model cI cB cZ aM aMt aMn aMr aMs aMi mth mtd msz mto mfr mso mnu mfa mpl mwo msm mgo mt mno mre msn mis)) (va_runV (As := [.int y4]) (rest := []) ⟨hx, hb, hml, hown, hts⟩ (c_X7_isLeaf l D cI cB cZ ta aM aMt aMn aMr aMs aMi H.size mth mtd msz mto mfr mso mnu mfa mpl mwo msm mgo mt mno mre msn mis y4 r44 h44) (cwV 1 hts gX7_mover_X7_isLeaf rfl rfl rfl (by decide +kernel) ⟨(Nat.le_of_ble_eq_true rfl), (Nat.le_of_ble_eq_true rfl)⟩) ⟨PW_blind, va_recv hK hP rfl (q0 := 0) rfl, PW_at hP hD hK hS hA hG [0, 1, 2, 3, 4, 5] rfl (by decide)⟩ rfl rfl hl.1 rfl (lv_room (Nat.le_of_ble_eq_true rfl)) dX7_mover_33 ⟨(Nat.le_of_ble_eq_true rfl), (Nat.le_of_ble_eq_true rfl)⟩) hP hD hS hA [0, 1, 2, 3, 4, 5] [] [0, 1, 2, 3, 4, 5] rfl rfl (by decide) (by decide) (by decide) rfl (fun H45 lo45 hz44 hP45 hD45 hS45 => ?_)
        clear hP hD hS
        refine lv_if_ne (tgt := 42) hx hb dX7_mover_36 (by decide) (fun c46 => ?_) (fun c46 => ?_)
        · have hm47 := zz_nf c46 hm44
          refine lv_iconst (v := (0 : Int32)) hx hb dX7_mover_42 (by decide) ?_
          refine lv_istore (lv' := [(5, .int (0 : Int32)), (0, .ref aM), (1, .int y1), (2, .int y2), (3, .int y3), (4, .int y4)]) hx hb dX7_mover_43 hl (by decide) rfl (fun ls49 hl49 => ?_)
          refine lv_iconst (v := (0 : Int32)) hx hb dX7_mover_45 (by decide) ?_
          refine lv_istore (lv' := [(6, .int (0 : Int32)), (5, .int (0 : Int32)), (0, .ref aM), (1, .int y1), (2, .int y2), (3, .int y3), (4, .int y4)]) hx hb dX7_mover_46 hl49 (by decide) rfl (fun ls50 hl50 => ?_)
          exact hk_48 (k_X7_mover_19 mno n) ih FU mth y1 y2 y3 y4 (0 : Int32) (0 : Int32) hm47 ls50 H45 lo45 (lv_sub hl50 [2, 3, 4, 5, 6, 1, 0] rfl) hP45 hD45 hS45
        · have hm48 := zz_if c46 hm44
          refine lv_goto (tgt := 131) hx hb dX7_mover_39 (by decide) ?_
          refine lv_iinc (v := (y4 + (1 : Int32))) (lv' := [(4, .int (y4 + (1 : Int32))), (0, .ref aM), (1, .int y1), (2, .int y2), (3, .int y3)]) hx hb dX7_mover_131 hl (k := 4) rfl (by rfl) (by decide) rfl (fun ls51 hl51 => ?_)
          refine lv_goto (tgt := 19) hx hb dX7_mover_134 (by decide) ?_
          exact ih mth y1 y2 y3 (y4 + (1 : Int32)) hm48 ls51 H45 lo45 (lv_sub hl51 [1, 2, 3, 4, 0] rfl) hP45 hD45 hS45
  have hl := lv_entry ([.ref aM, .int x1, .int x2, .int x3]) (n := 7) (Nat.le_of_ble_eq_true rfl)
  rw [lg_entry_eq]
  generalize (lg_sl ([.ref aM, .int x1, .int x2, .int x3]) ++ List.replicate (7 - (lg_sl ([.ref aM, .int x1, .int x2, .int x3])).length) Slot.unset).toArray = ls at hl ⊢
  have hl : lv_has ls 7 [(0, .ref aM), (1, .int x1), (2, .int x2), (3, .int x3)] := hl
  replace hm : (ob1 (m_X7_areScenes mno x1 x2) (fun r53 => (if r53 = 0 then some ((-1 : Int32), (0 : Int32)) else (k_X7_mover_19 mno FU (0 : Int32) x1 x2 x3 (0 : Int32))))) = some (r0, u_mth) := hm
  refine lv_aload_n hx hb dX7_mover_0 rfl (lv_at hl 0 rfl) ?_
  refine lv_iconst (v := (0 : Int32)) hx hb dX7_mover_1 (by decide) ?_
  refine va_put (D := D) (ci := 7) (v := .int (0 : Int32)) (ty := .int) (C := RX7) (T := TX7) (N := 17) hx hb hts iw_X7 tyX7 tyX7_ok nmX7 hown hK hP hD hS 0 rfl rfl 0 (by decide) (hts (.fieldLink RX7 1 "VarianceBridgeModel" "thrown" "I") (by decide +kernel)) (fun _ h9 => h9) rfl (by decide +kernel) rfl rfl (Nat.le_of_ble_eq_true rfl) dX7_mover_2 (fun H52 lo52 hP52 hD52 hS52 => ?_)
  replace hP52 : va_P D vwCl (w_Model cI cB cZ aM aMt aMn aMr aMs aMi (0 : Int32) mtd msz mto mfr mso mnu mfa mpl mwo msm mgo mt mno mre msn mis) H52 := hP52
  replace hD52 : va_D A (w_Model cI cB cZ aM aMt aMn aMr aMs aMi (0 : Int32) mtd msz mto mfr mso mnu mfa mpl mwo msm mgo mt mno mre msn mis) := hD52
  clear hP hD hS
  refine lv_aload_n hx hb dX7_mover_5 rfl (lv_at hl 0 rfl) ?_
  refine lv_iload_n hx hb dX7_mover_6 rfl (lv_at hl 1 rfl) ?_
  refine lv_iload_n hx hb dX7_mover_7 rfl (lv_at hl 2 rfl) ?_
  obtain ⟨r53, h53, hm53⟩ := ob1_e hm
  refine gcall_b (ws' := (w_Model cI cB cZ aM aMt aMn aMr aMs aMi (0 : Int32) mtd msz mto mfr mso mnu mfa mpl mwo msm mgo mt mno mre msn mis)) (va_runV (As := [.int x1, .int x2]) (rest := []) ⟨hx, hb, hml, hown, hts⟩ (c_X7_areScenes l D cI cB cZ ta aM aMt aMn aMr aMs aMi H52.size (0 : Int32) mtd msz mto mfr mso mnu mfa mpl mwo msm mgo mt mno mre msn mis x1 x2 r53 h53) (cwV 2 hts gX7_mover_X7_areScenes rfl rfl rfl (by decide +kernel) ⟨(Nat.le_of_ble_eq_true rfl), (Nat.le_of_ble_eq_true rfl)⟩) ⟨PW_blind, va_recv hK hP52 rfl (q0 := 0) rfl, PW_at hP52 hD52 hK hS52 hA hG [0, 1, 2, 3, 4, 5] rfl (by decide)⟩ rfl rfl hl.1 rfl (lv_room (Nat.le_of_ble_eq_true rfl)) dX7_mover_8 ⟨(Nat.le_of_ble_eq_true rfl), (Nat.le_of_ble_eq_true rfl)⟩) hP52 hD52 hS52 hA [0, 1, 2, 3, 4, 5] [] [0, 1, 2, 3, 4, 5] rfl rfl (by decide) (by decide) (by decide) rfl (fun H54 lo54 hz53 hP54 hD54 hS54 => ?_)
  clear hP52 hD52 hS52
  refine lv_if_ne (tgt := 16) hx hb dX7_mover_11 (by decide) (fun c55 => ?_) (fun c55 => ?_)
  · have hm56 := zz_nf c55 hm53
    refine lv_iconst (v := (0 : Int32)) hx hb dX7_mover_16 (by decide) ?_
    refine lv_istore (lv' := [(4, .int (0 : Int32)), (0, .ref aM), (1, .int x1), (2, .int x2), (3, .int x3)]) hx hb dX7_mover_17 hl (by decide) rfl (fun ls58 hl58 => ?_)
    exact hk_19 FU (0 : Int32) x1 x2 x3 (0 : Int32) hm56 ls58 H54 lo54 (lv_sub hl58 [1, 2, 3, 4, 0] rfl) hP54 hD54 hS54
  · have hm57 := zz_if c55 hm53
    refine lv_iconst (v := (-1 : Int32)) hx hb dX7_mover_14 (by decide) ?_
    obtain ⟨hq1, hq2⟩ := Prod.mk.inj (Option.some.inj hm57)
    subst hq1
    subst hq2
    exact W.iret hx hb hr (fun t ht hW => ⟨⟨_, (), rfl, rfl, by rw [ht]; exact hP54, va_K.moved hW.alike hK, hD54⟩, hS54.F ht⟩) hS54.2.2 dX7_mover_15
