theorem iw_X7_bad_X7 : ∀ w ∈ wsX70, w ∈ wsX7_bad := by decide +kernel
set_option maxHeartbeats 4000000 in
set_option maxRecDepth 100000 in
theorem c_X7_bad (l : Launch) (D : va_G) (cI cB cZ : ClassId) (ta : Nat → Nat) (aM : Nat) (aMt : Nat) (aMn : Nat) (aMr : Nat) (aMs : Nat) (aMi : Nat) (sz : Nat) (mth : Int32) (mtd : Int32) (msz : Int32) (mto : Int32) (mfr : Int32) (mso : Int32) (mnu : Int32) (mfa : Int32) (mpl : Int32) (mwo : Int64) (msm : Int32) (mgo : Int32) (mt : (Nat → Int32)) (mno : (Nat → Int32)) (mre : (Nat → Int32)) (msn : (Nat → Int32)) (mis : (Nat → Int32)) (x1 : Int32) (r0 : Int32) (u_mfa : Int32) (u_mpl : Int32) (hm : m_X7_bad mfr mso mfa mpl x1 = some (r0, u_mfa, u_mpl)) : Met l yX7_bad wsX7_bad ({ frames := 0, cells := 0, slots := 0, locals := 0 } : Room) (va_Pc [.ref aM, .int x1] (PW D cI cB cZ ta (w_Model cI cB cZ aM aMt aMn aMr aMs aMi mth mtd msz mto mfr mso mnu mfa mpl mwo msm mgo mt mno mre msn mis) sz)) (QZ .boolean D cI cB cZ (va_A (w_Model cI cB cZ aM aMt aMn aMr aMs aMi mth mtd msz mto mfr mso mnu mfa mpl mwo msm mgo mt mno mre msn mis) sz) (w_Model cI cB cZ aM aMt aMn aMr aMs aMi mth mtd msz mto mfr mso mnu u_mfa u_mpl mwo msm mgo mt mno mre msn mis) r0) 0 0 (va_A (w_Model cI cB cZ aM aMt aMn aMr aMs aMi mth mtd msz mto mfr mso mnu mfa mpl mwo msm mgo mt mno mre msn mis) sz) := by
  refine Met.ofW (cc := cX7_bad) (maxL := 2) (ret := (some .boolean)) (by decide) rfl ?_
  intro p e s m args below meth c s₁ B hml hv
  obtain ⟨rfl, hsz, hP, hK, hD0, hG⟩ := hv
  have hx := B.exec
  have hb := B.bytes
  have hr := B.returns
  have hts := atoms_spec (ws := wsX7_bad) B.pre
  have hown : s.vm.findClass RX7 = some m.cls := findClass_of_methodNamed B.named
  have hlocks := B.notSynchronized
  subst hsz
  have hD := hD0.self (sz := s.heap.size)
  clear hD0
  have hA0 : ∀ q : Nat, s.heap.size ≤ q → va_A (w_Model cI cB cZ aM aMt aMn aMr aMs aMi mth mtd msz mto mfr mso mnu mfa mpl mwo msm mgo mt mno mre msn mis) s.heap.size q := fun q h => Or.inr h
  generalize hAe : va_A (w_Model cI cB cZ aM aMt aMn aMr aMs aMi mth mtd msz mto mfr mso mnu mfa mpl mwo msm mgo mt mno mre msn mis) s.heap.size = A at hD hG hA0 ⊢
  have hA : ∀ q : Nat, s.heap.size ≤ q → A q := hA0
  clear hA0
  have hS : va_S A s.heap s.heap [] := va_S.rf
  have iw_X7 := iw_X7_bad_X7
  have hk_14 : ∀ (mfa : Int32) (mpl : Int32) (z1 : Int32), k_X7_bad_14 mfr mso mfa mpl z1 = some (r0, u_mfa, u_mpl) → ∀ (ls : Array Slot) (H : Heap) (lo : List Loc), lv_has ls 2 [(0, .ref aM)] → va_P D vwCl (w_Model cI cB cZ aM aMt aMn aMr aMs aMi mth mtd msz mto mfr mso mnu mfa mpl mwo msm mgo mt mno mre msn mis) H → va_D A (w_Model cI cB cZ aM aMt aMn aMr aMs aMi mth mtd msz mto mfr mso mnu mfa mpl mwo msm mgo mt mno mre msn mis) → va_S A s.heap H lo → W p l e (headSpec wsX7_bad ({ frames := 0, cells := 0, slots := 0, locals := 0 } : Room)).room s m (([.ref aM, .int x1] : List Value).toArray) below meth c H lo 0 0 (MQ below (QZ .boolean D cI cB cZ A (w_Model cI cB cZ aM aMt aMn aMr aMs aMi mth mtd msz mto mfr mso mnu u_mfa u_mpl mwo msm mgo mt mno mre msn mis) r0) (([.ref aM, .int x1] : List Value).toArray) s 0 0 A) (F0 m 14 ls [.int z1, .ref aM]) := by
    intro mfa mpl z1 hm ls H lo hl hP hD hS
    replace hm : some ((0 : Int32), z1, mfr) = some (r0, u_mfa, u_mpl) := hm
    refine va_put (D := D) (ci := 7) (v := .int z1) (ty := .int) (C := RX7) (T := TX7) (N := 17) hx hb hts iw_X7 tyX7 tyX7_ok nmX7 hown hK hP hD hS 0 rfl rfl 8 (by decide) (hts (.fieldLink RX7 52 "VarianceBridgeModel" "fault" "I") (by decide +kernel)) (fun _ h9 => h9) rfl (by decide +kernel) rfl rfl (Nat.le_of_ble_eq_true rfl) dX7_bad_14 (fun H1 lo1 hP1 hD1 hS1 => ?_)
    replace hP1 : va_P D vwCl (w_Model cI cB cZ aM aMt aMn aMr aMs aMi mth mtd msz mto mfr mso mnu z1 mpl mwo msm mgo mt mno mre msn mis) H1 := hP1
    replace hD1 : va_D A (w_Model cI cB cZ aM aMt aMn aMr aMs aMi mth mtd msz mto mfr mso mnu z1 mpl mwo msm mgo mt mno mre msn mis) := hD1
    clear hP hD hS
    refine lv_aload_n hx hb dX7_bad_17 rfl (lv_at hl 0 rfl) ?_
    refine lv_aload_n hx hb dX7_bad_18 rfl (lv_at hl 0 rfl) ?_
    refine va_get (D := D) (ci := 7) (v := .int mfr) (C := RX7) (T := TX7) (N := 17) hx hb hts iw_X7 hown hK hP1 0 rfl rfl 5 (by decide) (hts (.fieldLink RX7 24 "VarianceBridgeModel" "from" "I") (by decide +kernel)) (fun _ h9 => h9) rfl dX7_bad_19 ?_
    refine va_put (D := D) (ci := 7) (v := .int mfr) (ty := .int) (C := RX7) (T := TX7) (N := 17) hx hb hts iw_X7 tyX7 tyX7_ok nmX7 hown hK hP1 hD1 hS1 0 rfl rfl 9 (by decide) (hts (.fieldLink RX7 55 "VarianceBridgeModel" "place" "I") (by decide +kernel)) (fun _ h9 => h9) rfl (by decide +kernel) rfl rfl (Nat.le_of_ble_eq_true rfl) dX7_bad_22 (fun H2 lo2 hP2 hD2 hS2 => ?_)
    replace hP2 : va_P D vwCl (w_Model cI cB cZ aM aMt aMn aMr aMs aMi mth mtd msz mto mfr mso mnu z1 mfr mwo msm mgo mt mno mre msn mis) H2 := hP2
    replace hD2 : va_D A (w_Model cI cB cZ aM aMt aMn aMr aMs aMi mth mtd msz mto mfr mso mnu z1 mfr mwo msm mgo mt mno mre msn mis) := hD2
    clear hP1 hD1 hS1
    refine lv_iconst (v := (0 : Int32)) hx hb dX7_bad_25 (by decide) ?_
    obtain ⟨hq1, hq99⟩ := Prod.mk.inj (Option.some.inj hm)
    obtain ⟨hq2, hq3⟩ := Prod.mk.inj (hq99)
    subst hq1
    subst hq2
    subst hq3
    exact W.zret (ty := .boolean) hx hb hr (by decide) (fun t ht hW => ⟨⟨_, (), rfl, ⟨rfl, (by decide)⟩, by rw [ht]; exact hP2, va_K.moved hW.alike hK, hD2⟩, hS2.F ht⟩) hS2.2.2 dX7_bad_26
  have hl := lv_entry ([.ref aM, .int x1]) (n := 2) (Nat.le_of_ble_eq_true rfl)
  rw [lg_entry_eq]
  generalize (lg_sl ([.ref aM, .int x1]) ++ List.replicate (2 - (lg_sl ([.ref aM, .int x1])).length) Slot.unset).toArray = ls at hl ⊢
  have hl : lv_has ls 2 [(0, .ref aM), (1, .int x1)] := hl
  replace hm : (if mso = (1 : Int32) then (k_X7_bad_14 mfr mso mfa mpl (1 : Int32)) else (k_X7_bad_14 mfr mso mfa mpl x1)) = some (r0, u_mfa, u_mpl) := hm
  refine lv_aload_n hx hb dX7_bad_0 rfl (lv_at hl 0 rfl) ?_
  refine lv_aload_n hx hb dX7_bad_1 rfl (lv_at hl 0 rfl) ?_
  refine va_get (D := D) (ci := 7) (v := .int mso) (C := RX7) (T := TX7) (N := 17) hx hb hts iw_X7 hown hK hP 0 rfl rfl 6 (by decide) (hts (.fieldLink RX7 27 "VarianceBridgeModel" "sort" "I") (by decide +kernel)) (fun _ h9 => h9) rfl dX7_bad_2 ?_
  refine lv_iconst (v := (1 : Int32)) hx hb dX7_bad_5 (by decide) ?_
  refine lv_icmp_ne (tgt := 13) hx hb dX7_bad_6 (by decide) (fun c3 => ?_) (fun c3 => ?_)
  · have hm4 := zz_nf c3 hm
    refine lv_iload_n hx hb dX7_bad_13 rfl (lv_at hl 1 rfl) ?_
    exact hk_14 mfa mpl x1 hm4 ls s.heap [] (lv_sub hl [0] rfl) hP hD hS
  · have hm5 := zz_if c3 hm
    refine lv_iconst (v := (1 : Int32)) hx hb dX7_bad_9 (by decide) ?_
    refine lv_goto (tgt := 14) hx hb dX7_bad_10 (by decide) ?_
    exact hk_14 mfa mpl (1 : Int32) hm5 ls s.heap [] (lv_sub hl [0] rfl) hP hD hS
set_option maxHeartbeats 4000000 in
set_option maxRecDepth 100000 in
theorem c_X7_begins (l : Launch) (D : va_G) (cI cB cZ : ClassId) (ta : Nat → Nat) (aA : Nat) (sz : Nat) (ar : (Nat → Int32)) (u_ar : (Nat → Int32)) (hm : m_X7_begins ar = some u_ar) : Met l yX7_begins wsX7_begins ({ frames := 0, cells := 0, slots := 0, locals := 0 } : Room) (va_Pc [.ref aA] (PW D cI cB cZ ta (w_arr442 cI cB cZ aA ar) sz)) (QV D cI cB cZ (va_A (w_arr442 cI cB cZ aA ar) sz) (w_arr442 cI cB cZ aA u_ar)) 0 0 (va_A (w_arr442 cI cB cZ aA ar) sz) := by
  refine Met.ofW (cc := cX7_begins) (maxL := 1) (ret := none) (by decide) rfl ?_
  intro p e s m args below meth c s₁ B hml hv
  obtain ⟨rfl, hsz, hP, hK, hD0, hG⟩ := hv
  have hx := B.exec
  have hb := B.bytes
  have hr := B.returns
  have hts := atoms_spec (ws := wsX7_begins) B.pre
  have hown : s.vm.findClass RX7 = some m.cls := findClass_of_methodNamed B.named
  have hlocks := B.notSynchronized
  subst hsz
  have hD := hD0.self (sz := s.heap.size)
  clear hD0
  have hA0 : ∀ q : Nat, s.heap.size ≤ q → va_A (w_arr442 cI cB cZ aA ar) s.heap.size q := fun q h => Or.inr h
  generalize hAe : va_A (w_arr442 cI cB cZ aA ar) s.heap.size = A at hD hG hA0 ⊢
  have hA : ∀ q : Nat, s.heap.size ≤ q → A q := hA0
  clear hA0
  have hS : va_S A s.heap s.heap [] := va_S.rf
  have hl := lv_entry ([.ref aA]) (n := 1) (Nat.le_of_ble_eq_true rfl)
  rw [lg_entry_eq]
  generalize (lg_sl ([.ref aA]) ++ List.replicate (1 - (lg_sl ([.ref aA])).length) Slot.unset).toArray = ls at hl ⊢
  have hl : lv_has ls 1 [(0, .ref aA)] := hl
  replace hm : (if (1 : Int32) < 0 ∨ 442 ≤ (1 : Int32).toNatClampNeg then none else (if (2 : Int32) < 0 ∨ 442 ≤ (2 : Int32).toNatClampNeg then none else (if (22 : Int32) < 0 ∨ 442 ≤ (22 : Int32).toNatClampNeg then none else some (upd (upd (upd ar (1 : Int32).toNatClampNeg (1 : Int32)) (2 : Int32).toNatClampNeg (-1 : Int32)) (22 : Int32).toNatClampNeg (1 : Int32))))) = some u_ar := hm
  refine lv_aload_n hx hb dX7_begins_0 rfl (lv_at hl 0 rfl) ?_
  refine lv_iconst (v := (1 : Int32)) hx hb dX7_begins_1 (by decide) ?_
  refine lv_iconst (v := (1 : Int32)) hx hb dX7_begins_2 (by decide) ?_
  obtain ⟨c1, hm2⟩ := zz_no hm
  refine va_iast hx hb hK hP hD hS 0 0 rfl rfl c1 dX7_begins_3 (fun H3 lo3 hP3 hD3 hS3 => ?_)
  replace hP3 : va_P D vwCl (w_arr442 cI cB cZ aA (upd ar (1 : Int32).toNatClampNeg (1 : Int32))) H3 := hP3
  replace hD3 : va_D A (w_arr442 cI cB cZ aA (upd ar (1 : Int32).toNatClampNeg (1 : Int32))) := hD3
  clear hP hD hS
  refine lv_aload_n hx hb dX7_begins_4 rfl (lv_at hl 0 rfl) ?_
  refine lv_iconst (v := (2 : Int32)) hx hb dX7_begins_5 (by decide) ?_
  refine lv_iconst (v := (-1 : Int32)) hx hb dX7_begins_6 (by decide) ?_
  obtain ⟨c4, hm5⟩ := zz_no hm2
  refine va_iast hx hb hK hP3 hD3 hS3 0 0 rfl rfl c4 dX7_begins_7 (fun H6 lo6 hP6 hD6 hS6 => ?_)
  replace hP6 : va_P D vwCl (w_arr442 cI cB cZ aA (upd (upd ar (1 : Int32).toNatClampNeg (1 : Int32)) (2 : Int32).toNatClampNeg (-1 : Int32))) H6 := hP6
  replace hD6 : va_D A (w_arr442 cI cB cZ aA (upd (upd ar (1 : Int32).toNatClampNeg (1 : Int32)) (2 : Int32).toNatClampNeg (-1 : Int32))) := hD6
  clear hP3 hD3 hS3
  refine lv_aload_n hx hb dX7_begins_8 rfl (lv_at hl 0 rfl) ?_
  refine lv_bipush (v := (22 : Int32)) hx hb dX7_begins_9 (by decide) ?_
  refine lv_iconst (v := (1 : Int32)) hx hb dX7_begins_11 (by decide) ?_
  obtain ⟨c7, hm8⟩ := zz_no hm5
  refine va_iast hx hb hK hP6 hD6 hS6 0 0 rfl rfl c7 dX7_begins_12 (fun H9 lo9 hP9 hD9 hS9 => ?_)
  replace hP9 : va_P D vwCl (w_arr442 cI cB cZ aA (upd (upd (upd ar (1 : Int32).toNatClampNeg (1 : Int32)) (2 : Int32).toNatClampNeg (-1 : Int32)) (22 : Int32).toNatClampNeg (1 : Int32))) H9 := hP9
  replace hD9 : va_D A (w_arr442 cI cB cZ aA (upd (upd (upd ar (1 : Int32).toNatClampNeg (1 : Int32)) (2 : Int32).toNatClampNeg (-1 : Int32)) (22 : Int32).toNatClampNeg (1 : Int32))) := hD9
  clear hP6 hD6 hS6
  have hq1 := Option.some.inj hm8
  subst hq1
  exact W.vret hx hb hr (fun t ht hW => ⟨⟨(), rfl, trivial, by rw [ht]; exact hP9, va_K.moved hW.alike hK, hD9⟩, hS9.F ht⟩) hS9.2.2 dX7_begins_13
set_option maxHeartbeats 4000000 in
set_option maxRecDepth 100000 in
theorem c_X7_at (l : Launch) (D : va_G) (cI cB cZ : ClassId) (ta : Nat → Nat) (sz : Nat) (x1 : Int32) (x2 : Int32) (x3 : Int32) (r0 : Int32) (hm : m_X7_at x1 x2 x3 = some r0) : Met l yX7_at wsX7_at ({ frames := 0, cells := 0, slots := 0, locals := 0 } : Room) (va_Pc [.int x1, .int x2, .int x3] (PW D cI cB cZ ta (w_none cI cB cZ) sz)) (QI D cI cB cZ (va_A (w_none cI cB cZ) sz) (w_none cI cB cZ) r0) 0 0 (va_A (w_none cI cB cZ) sz) := by
  refine Met.ofW (cc := cX7_at) (maxL := 3) (ret := (some .int)) (by decide) rfl ?_
  intro p e s m args below meth c s₁ B hml hv
  obtain ⟨rfl, hsz, hP, hK, hD0, hG⟩ := hv
  have hx := B.exec
  have hb := B.bytes
  have hr := B.returns
  have hts := atoms_spec (ws := wsX7_at) B.pre
  have hown : s.vm.findClass RX7 = some m.cls := findClass_of_methodNamed B.named
  have hlocks := B.notSynchronized
  subst hsz
  have hD := hD0.self (sz := s.heap.size)
  clear hD0
  have hA0 : ∀ q : Nat, s.heap.size ≤ q → va_A (w_none cI cB cZ) s.heap.size q := fun q h => Or.inr h
  generalize hAe : va_A (w_none cI cB cZ) s.heap.size = A at hD hG hA0 ⊢
  have hA : ∀ q : Nat, s.heap.size ≤ q → A q := hA0
  clear hA0
  have hS : va_S A s.heap s.heap [] := va_S.rf
  have hl := lv_entry ([.int x1, .int x2, .int x3]) (n := 3) (Nat.le_of_ble_eq_true rfl)
  rw [lg_entry_eq]
  generalize (lg_sl ([.int x1, .int x2, .int x3]) ++ List.replicate (3 - (lg_sl ([.int x1, .int x2, .int x3])).length) Slot.unset).toArray = ls at hl ⊢
  have hl : lv_has ls 3 [(0, .int x1), (1, .int x2), (2, .int x3)] := hl
  replace hm : some ((((42 : Int32) + ((20 : Int32) * x1)) + ((5 : Int32) * x2)) + x3) = some r0 := hm
  refine lv_bipush (v := (42 : Int32)) hx hb dX7_at_0 (by decide) ?_
  refine lv_bipush (v := (20 : Int32)) hx hb dX7_at_2 (by decide) ?_
  refine lv_iload_n hx hb dX7_at_4 rfl (lv_at hl 0 rfl) ?_
  refine lv_imul hx hb dX7_at_5 ?_
  refine lv_iadd hx hb dX7_at_6 ?_
  refine lv_iconst (v := (5 : Int32)) hx hb dX7_at_7 (by decide) ?_
  refine lv_iload_n hx hb dX7_at_8 rfl (lv_at hl 1 rfl) ?_
  refine lv_imul hx hb dX7_at_9 ?_
  refine lv_iadd hx hb dX7_at_10 ?_
  refine lv_iload_n hx hb dX7_at_11 rfl (lv_at hl 2 rfl) ?_
  refine lv_iadd hx hb dX7_at_12 ?_
  have hq1 := Option.some.inj hm
  subst hq1
  exact W.iret hx hb hr (fun t ht hW => ⟨⟨_, (), rfl, rfl, by rw [ht]; exact hP, va_K.moved hW.alike hK, hD⟩, hS.F ht⟩) hS.2.2 dX7_at_13
set_option maxHeartbeats 4000000 in
set_option maxRecDepth 100000 in
theorem c_X7_adds (l : Launch) (D : va_G) (cI cB cZ : ClassId) (ta : Nat → Nat) (aA : Nat) (sz : Nat) (ar : (Nat → Int32)) (x2 : Int32) (x3 : Int32) (u_ar : (Nat → Int32)) (hm : m_X7_adds ar x2 x3 = some u_ar) : Met l yX7_adds wsX7_adds ({ frames := 1, cells := 0, slots := 0, locals := 22 } : Room) (va_Pc [.ref aA, .int x2, .int x3] (PW D cI cB cZ ta (w_arr442 cI cB cZ aA ar) sz)) (QV D cI cB cZ (va_A (w_arr442 cI cB cZ aA ar) sz) (w_arr442 cI cB cZ aA u_ar)) 0 0 (va_A (w_arr442 cI cB cZ aA ar) sz) := by
  refine Met.ofW (cc := cX7_adds) (maxL := 6) (ret := none) (by decide) rfl ?_
  intro p e s m args below meth c s₁ B hml hv
  obtain ⟨rfl, hsz, hP, hK, hD0, hG⟩ := hv
  have hx := B.exec
  have hb := B.bytes
  have hr := B.returns
  have hts := atoms_spec (ws := wsX7_adds) B.pre
  have hown : s.vm.findClass RX7 = some m.cls := findClass_of_methodNamed B.named
  have hlocks := B.notSynchronized
  subst hsz
  have hD := hD0.self (sz := s.heap.size)
  clear hD0
  have hA0 : ∀ q : Nat, s.heap.size ≤ q → va_A (w_arr442 cI cB cZ aA ar) s.heap.size q := fun q h => Or.inr h
  generalize hAe : va_A (w_arr442 cI cB cZ aA ar) s.heap.size = A at hD hG hA0 ⊢
  have hA : ∀ q : Nat, s.heap.size ≤ q → A q := hA0
  clear hA0
  have hS : va_S A s.heap s.heap [] := va_S.rf
  have hk_64 : ∀ (ct28 : (Nat → Int32) → Int32 → Int32 → Option ((Nat → Int32))) (hct28 : ∀ (ar : (Nat → Int32)) (y3 : Int32) (y4 : Int32), ct28 ar y3 y4 = some u_ar → ∀ (ls : Array Slot) (H : Heap) (lo : List Loc), lv_has ls 6 [(0, .ref aA), (3, .int y3), (4, .int y4)] → va_P D vwCl (w_arr442 cI cB cZ aA ar) H → va_D A (w_arr442 cI cB cZ aA ar) → va_S A s.heap H lo → W p l e (headSpec wsX7_adds ({ frames := 1, cells := 0, slots := 0, locals := 22 } : Room)).room s m (([.ref aA, .int x2, .int x3] : List Value).toArray) below meth c H lo 0 0 (MQ below (QV D cI cB cZ A (w_arr442 cI cB cZ aA u_ar)) (([.ref aA, .int x2, .int x3] : List Value).toArray) s 0 0 A) (F0 m 28 ls [])) (ct37 : (Nat → Int32) → Int32 → Int32 → Int32 → Option ((Nat → Int32))) (hct37 : ∀ (ar : (Nat → Int32)) (y3 : Int32) (y4 : Int32) (y5 : Int32), ct37 ar y3 y4 y5 = some u_ar → ∀ (ls : Array Slot) (H : Heap) (lo : List Loc), lv_has ls 6 [(0, .ref aA), (3, .int y3), (4, .int y4), (5, .int y5)] → va_P D vwCl (w_arr442 cI cB cZ aA ar) H → va_D A (w_arr442 cI cB cZ aA ar) → va_S A s.heap H lo → W p l e (headSpec wsX7_adds ({ frames := 1, cells := 0, slots := 0, locals := 22 } : Room)).room s m (([.ref aA, .int x2, .int x3] : List Value).toArray) below meth c H lo 0 0 (MQ below (QV D cI cB cZ A (w_arr442 cI cB cZ aA u_ar)) (([.ref aA, .int x2, .int x3] : List Value).toArray) s 0 0 A) (F0 m 37 ls [])) (ar : (Nat → Int32)) (y3 : Int32) (y4 : Int32) (y5 : Int32) (z1 : Int32) (z2 : Int32), k_X7_adds_64 ct28 ct37 ar y3 y4 y5 z1 z2 = some u_ar → ∀ (ls : Array Slot) (H : Heap) (lo : List Loc), lv_has ls 6 [(0, .ref aA), (3, .int y3), (4, .int y4), (5, .int y5)] → va_P D vwCl (w_arr442 cI cB cZ aA ar) H → va_D A (w_arr442 cI cB cZ aA ar) → va_S A s.heap H lo → W p l e (headSpec wsX7_adds ({ frames := 1, cells := 0, slots := 0, locals := 22 } : Room)).room s m (([.ref aA, .int x2, .int x3] : List Value).toArray) below meth c H lo 0 0 (MQ below (QV D cI cB cZ A (w_arr442 cI cB cZ aA u_ar)) (([.ref aA, .int x2, .int x3] : List Value).toArray) s 0 0 A) (F0 m 64 ls [.int z2, .int z1, .ref aA]) := by
    intro ct28 hct28 ct37 hct37 ar y3 y4 y5 z1 z2 hm ls H lo hl hP hD hS
    replace hm : (if z1 < 0 ∨ 442 ≤ z1.toNatClampNeg then none else (ct37 (upd ar z1.toNatClampNeg z2) y3 y4 (y5 + (1 : Int32)))) = some u_ar := hm
    obtain ⟨c1, hm2⟩ := zz_no hm
    refine va_iast hx hb hK hP hD hS 0 0 rfl rfl c1 dX7_adds_64 (fun H3 lo3 hP3 hD3 hS3 => ?_)
    replace hP3 : va_P D vwCl (w_arr442 cI cB cZ aA (upd ar z1.toNatClampNeg z2)) H3 := hP3
    replace hD3 : va_D A (w_arr442 cI cB cZ aA (upd ar z1.toNatClampNeg z2)) := hD3
    clear hP hD hS
    refine lv_iinc (v := (y5 + (1 : Int32))) (lv' := [(5, .int (y5 + (1 : Int32))), (0, .ref aA), (3, .int y3), (4, .int y4)]) hx hb dX7_adds_65 hl (k := 3) rfl (by rfl) (by decide) rfl (fun ls4 hl4 => ?_)
    refine lv_goto (tgt := 37) hx hb dX7_adds_68 (by decide) ?_
    exact hct37 (upd ar z1.toNatClampNeg z2) y3 y4 (y5 + (1 : Int32)) hm2 ls4 H3 lo3 (lv_sub hl4 [1, 2, 3, 0] rfl) hP3 hD3 hS3
  have hk_37 : ∀ (ct28 : (Nat → Int32) → Int32 → Int32 → Option ((Nat → Int32))) (hct28 : ∀ (ar : (Nat → Int32)) (y3 : Int32) (y4 : Int32), ct28 ar y3 y4 = some u_ar → ∀ (ls : Array Slot) (H : Heap) (lo : List Loc), lv_has ls 6 [(0, .ref aA), (3, .int y3), (4, .int y4)] → va_P D vwCl (w_arr442 cI cB cZ aA ar) H → va_D A (w_arr442 cI cB cZ aA ar) → va_S A s.heap H lo → W p l e (headSpec wsX7_adds ({ frames := 1, cells := 0, slots := 0, locals := 22 } : Room)).room s m (([.ref aA, .int x2, .int x3] : List Value).toArray) below meth c H lo 0 0 (MQ below (QV D cI cB cZ A (w_arr442 cI cB cZ aA u_ar)) (([.ref aA, .int x2, .int x3] : List Value).toArray) s 0 0 A) (F0 m 28 ls [])) (n : Nat) (ar : (Nat → Int32)) (y3 : Int32) (y4 : Int32) (y5 : Int32), k_X7_adds_37 ct28 n ar y3 y4 y5 = some u_ar → ∀ (ls : Array Slot) (H : Heap) (lo : List Loc), lv_has ls 6 [(0, .ref aA), (3, .int y3), (4, .int y4), (5, .int y5)] → va_P D vwCl (w_arr442 cI cB cZ aA ar) H → va_D A (w_arr442 cI cB cZ aA ar) → va_S A s.heap H lo → W p l e (headSpec wsX7_adds ({ frames := 1, cells := 0, slots := 0, locals := 22 } : Room)).room s m (([.ref aA, .int x2, .int x3] : List Value).toArray) below meth c H lo 0 0 (MQ below (QV D cI cB cZ A (w_arr442 cI cB cZ aA u_ar)) (([.ref aA, .int x2, .int x3] : List Value).toArray) s 0 0 A) (F0 m 37 ls []) := by
    intro ct28 hct28 n
    induction n with
    | zero => intro ar y3 y4 y5 hm; exact zz_nn hm
    | succ n ih =>
      intro ar y3 y4 y5 hm ls H lo hl hP hD hS
      replace hm := (k_X7_adds_37_s ct28 n ar y3 y4 y5).symm.trans hm
      refine lv_iload hx hb dX7_adds_37 (lv_at hl 3 rfl) ?_
      refine lv_iconst (v := (5 : Int32)) hx hb dX7_adds_39 (by decide) ?_
      refine lv_icmp_ge (tgt := 71) hx hb dX7_adds_40 (by decide) (fun c5 => ?_) (fun c5 => ?_)
      · have hm6 := zz_if c5 hm
        refine lv_iinc (v := (y4 + (1 : Int32))) (lv' := [(4, .int (y4 + (1 : Int32))), (0, .ref aA), (3, .int y3), (5, .int y5)]) hx hb dX7_adds_71 hl (k := 2) rfl (by rfl) (by decide) rfl (fun ls8 hl8 => ?_)
        refine lv_goto (tgt := 28) hx hb dX7_adds_74 (by decide) ?_
        exact hct28 ar y3 (y4 + (1 : Int32)) hm6 ls8 H lo (lv_sub hl8 [1, 2, 0] rfl) hP hD hS
      · have hm7 := zz_nf c5 hm
        refine lv_aload_n hx hb dX7_adds_43 rfl (lv_at hl 0 rfl) ?_
        refine lv_iload_n hx hb dX7_adds_44 rfl (lv_at hl 1 rfl) ?_
        refine lv_iload hx hb dX7_adds_45 (lv_at hl 2 rfl) ?_
        refine lv_iload hx hb dX7_adds_47 (lv_at hl 3 rfl) ?_
        obtain ⟨r9, h9, hm9⟩ := ob1_e hm7
        refine gcall_i (ws' := (w_arr442 cI cB cZ aA ar)) (va_runS (As := [.int y3, .int y4, .int y5]) (rest := [.ref aA]) ⟨hx, hb, hml, hown, hts⟩ (c_X7_at l D cI cB cZ ta H.size y3 y4 y5 r9 h9) (va_cwS 3 hts gX7_adds_X7_at rfl rfl rfl (by decide +kernel) ⟨(Nat.le_of_ble_eq_true rfl), (Nat.le_of_ble_eq_true rfl)⟩) ⟨PW_blind, PW_at hP hD hK hS hA hG [] rfl (by decide)⟩ rfl rfl hl.1 rfl (lv_room (Nat.le_of_ble_eq_true rfl)) dX7_adds_49 ⟨(Nat.le_of_ble_eq_true rfl), (Nat.le_of_ble_eq_true rfl)⟩) hP hD hS hA [] [0] [0] rfl rfl (by decide) (by decide) (by decide) rfl (fun H10 lo10 hP10 hD10 hS10 => ?_)
        clear hP hD hS
        refine lv_iload hx hb dX7_adds_52 (lv_at hl 3 rfl) ?_
        refine lv_iconst (v := (3 : Int32)) hx hb dX7_adds_54 (by decide) ?_
        refine lv_icmp_ge (tgt := 62) hx hb dX7_adds_55 (by decide) (fun c11 => ?_) (fun c11 => ?_)
        · have hm12 := zz_if c11 hm9
          refine lv_bipush (v := (100 : Int32)) hx hb dX7_adds_62 (by decide) ?_
          exact hk_64 ct28 hct28 (k_X7_adds_37 ct28 n) ih ar y3 y4 y5 r9 (100 : Int32) hm12 ls H10 lo10 (lv_sub hl [0, 1, 2, 3] rfl) hP10 hD10 hS10
        · have hm13 := zz_nf c11 hm9
          refine lv_iconst (v := (0 : Int32)) hx hb dX7_adds_58 (by decide) ?_
          refine lv_goto (tgt := 64) hx hb dX7_adds_59 (by decide) ?_
          exact hk_64 ct28 hct28 (k_X7_adds_37 ct28 n) ih ar y3 y4 y5 r9 (0 : Int32) hm13 ls H10 lo10 (lv_sub hl [0, 1, 2, 3] rfl) hP10 hD10 hS10
  have hk_28 : ∀ (n : Nat) (ar : (Nat → Int32)) (y3 : Int32) (y4 : Int32), k_X7_adds_28 n ar y3 y4 = some u_ar → ∀ (ls : Array Slot) (H : Heap) (lo : List Loc), lv_has ls 6 [(0, .ref aA), (3, .int y3), (4, .int y4)] → va_P D vwCl (w_arr442 cI cB cZ aA ar) H → va_D A (w_arr442 cI cB cZ aA ar) → va_S A s.heap H lo → W p l e (headSpec wsX7_adds ({ frames := 1, cells := 0, slots := 0, locals := 22 } : Room)).room s m (([.ref aA, .int x2, .int x3] : List Value).toArray) below meth c H lo 0 0 (MQ below (QV D cI cB cZ A (w_arr442 cI cB cZ aA u_ar)) (([.ref aA, .int x2, .int x3] : List Value).toArray) s 0 0 A) (F0 m 28 ls []) := by
    intro n
    induction n with
    | zero => intro ar y3 y4 hm; exact zz_nn hm
    | succ n ih =>
      intro ar y3 y4 hm ls H lo hl hP hD hS
      replace hm := (k_X7_adds_28_s n ar y3 y4).symm.trans hm
      refine lv_iload hx hb dX7_adds_28 (lv_at hl 2 rfl) ?_
      refine lv_iconst (v := (4 : Int32)) hx hb dX7_adds_30 (by decide) ?_
      refine lv_icmp_ge (tgt := 77) hx hb dX7_adds_31 (by decide) (fun c14 => ?_) (fun c14 => ?_)
      · have hm15 := zz_if c14 hm
        refine lv_aload_n hx hb dX7_adds_77 rfl (lv_at hl 0 rfl) ?_
        refine lv_iconst (v := (1 : Int32)) hx hb dX7_adds_78 (by decide) ?_
        refine lv_dup2_11 hx hb dX7_adds_79 rfl rfl ?_
        obtain ⟨c17, hm18⟩ := zz_no hm15
        refine va_iald hx hb hK hP 0 0 rfl rfl c17 dX7_adds_80 ?_
        refine lv_iconst (v := (1 : Int32)) hx hb dX7_adds_81 (by decide) ?_
        refine lv_iadd hx hb dX7_adds_82 ?_
        obtain ⟨c19, hm20⟩ := zz_no hm18
        refine va_iast hx hb hK hP hD hS 0 0 rfl rfl c19 dX7_adds_83 (fun H21 lo21 hP21 hD21 hS21 => ?_)
        replace hP21 : va_P D vwCl (w_arr442 cI cB cZ aA (upd ar (1 : Int32).toNatClampNeg ((ar (1 : Int32).toNatClampNeg) + (1 : Int32)))) H21 := hP21
        replace hD21 : va_D A (w_arr442 cI cB cZ aA (upd ar (1 : Int32).toNatClampNeg ((ar (1 : Int32).toNatClampNeg) + (1 : Int32)))) := hD21
        clear hP hD hS
        have hq1 := Option.some.inj hm20
        subst hq1
        exact W.vret hx hb hr (fun t ht hW => ⟨⟨(), rfl, trivial, by rw [ht]; exact hP21, va_K.moved hW.alike hK, hD21⟩, hS21.F ht⟩) hS21.2.2 dX7_adds_84
      · have hm16 := zz_nf c14 hm
        refine lv_iconst (v := (0 : Int32)) hx hb dX7_adds_34 (by decide) ?_
        refine lv_istore (lv' := [(5, .int (0 : Int32)), (0, .ref aA), (3, .int y3), (4, .int y4)]) hx hb dX7_adds_35 hl (by decide) rfl (fun ls22 hl22 => ?_)
        exact hk_37 (k_X7_adds_28 n) ih FU ar y3 y4 (0 : Int32) hm16 ls22 H lo (lv_sub hl22 [1, 2, 3, 0] rfl) hP hD hS
  have hk_24 : ∀ (ar : (Nat → Int32)) (y3 : Int32) (z1 : Int32) (z2 : Int32), k_X7_adds_24 ar y3 z1 z2 = some u_ar → ∀ (ls : Array Slot) (H : Heap) (lo : List Loc), lv_has ls 6 [(0, .ref aA), (3, .int y3)] → va_P D vwCl (w_arr442 cI cB cZ aA ar) H → va_D A (w_arr442 cI cB cZ aA ar) → va_S A s.heap H lo → W p l e (headSpec wsX7_adds ({ frames := 1, cells := 0, slots := 0, locals := 22 } : Room)).room s m (([.ref aA, .int x2, .int x3] : List Value).toArray) below meth c H lo 0 0 (MQ below (QV D cI cB cZ A (w_arr442 cI cB cZ aA u_ar)) (([.ref aA, .int x2, .int x3] : List Value).toArray) s 0 0 A) (F0 m 24 ls [.int z2, .int z1, .ref aA]) := by
    intro ar y3 z1 z2 hm ls H lo hl hP hD hS
    replace hm : (if z1 < 0 ∨ 442 ≤ z1.toNatClampNeg then none else (k_X7_adds_28 FU (upd ar z1.toNatClampNeg z2) y3 (0 : Int32))) = some u_ar := hm
    obtain ⟨c23, hm24⟩ := zz_no hm
    refine va_iast hx hb hK hP hD hS 0 0 rfl rfl c23 dX7_adds_24 (fun H25 lo25 hP25 hD25 hS25 => ?_)
    replace hP25 : va_P D vwCl (w_arr442 cI cB cZ aA (upd ar z1.toNatClampNeg z2)) H25 := hP25
    replace hD25 : va_D A (w_arr442 cI cB cZ aA (upd ar z1.toNatClampNeg z2)) := hD25
    clear hP hD hS
    refine lv_iconst (v := (0 : Int32)) hx hb dX7_adds_25 (by decide) ?_
    refine lv_istore (lv' := [(4, .int (0 : Int32)), (0, .ref aA), (3, .int y3)]) hx hb dX7_adds_26 hl (by decide) rfl (fun ls26 hl26 => ?_)
    exact hk_28 FU (upd ar z1.toNatClampNeg z2) y3 (0 : Int32) hm24 ls26 H25 lo25 (lv_sub hl26 [1, 2, 0] rfl) hP25 hD25 hS25
  have hl := lv_entry ([.ref aA, .int x2, .int x3]) (n := 6) (Nat.le_of_ble_eq_true rfl)
  rw [lg_entry_eq]
  generalize (lg_sl ([.ref aA, .int x2, .int x3]) ++ List.replicate (6 - (lg_sl ([.ref aA, .int x2, .int x3])).length) Slot.unset).toArray = ls at hl ⊢
  have hl : lv_has ls 6 [(0, .ref aA), (1, .int x2), (2, .int x3)] := hl
  replace hm : (if (1 : Int32) < 0 ∨ 442 ≤ (1 : Int32).toNatClampNeg then none else (if ((2 : Int32) + (ar (1 : Int32).toNatClampNeg)) < 0 ∨ 442 ≤ ((2 : Int32) + (ar (1 : Int32).toNatClampNeg)).toNatClampNeg then none else (if x3 = 0 then (k_X7_adds_24 (upd ar ((2 : Int32) + (ar (1 : Int32).toNatClampNeg)).toNatClampNeg x2) (ar (1 : Int32).toNatClampNeg) ((22 : Int32) + (ar (1 : Int32).toNatClampNeg)) (0 : Int32)) else (k_X7_adds_24 (upd ar ((2 : Int32) + (ar (1 : Int32).toNatClampNeg)).toNatClampNeg x2) (ar (1 : Int32).toNatClampNeg) ((22 : Int32) + (ar (1 : Int32).toNatClampNeg)) (1 : Int32))))) = some u_ar := hm
  refine lv_aload_n hx hb dX7_adds_0 rfl (lv_at hl 0 rfl) ?_
  refine lv_iconst (v := (1 : Int32)) hx hb dX7_adds_1 (by decide) ?_
  obtain ⟨c27, hm28⟩ := zz_no hm
  refine va_iald hx hb hK hP 0 0 rfl rfl c27 dX7_adds_2 ?_
  refine lv_istore_n (lv' := [(3, .int (ar (1 : Int32).toNatClampNeg)), (0, .ref aA), (1, .int x2), (2, .int x3)]) hx hb dX7_adds_3 rfl hl (by decide) rfl (fun ls29 hl29 => ?_)
  refine lv_aload_n hx hb dX7_adds_4 rfl (lv_at hl29 1 rfl) ?_
  refine lv_iconst (v := (2 : Int32)) hx hb dX7_adds_5 (by decide) ?_
  refine lv_iload_n hx hb dX7_adds_6 rfl (lv_at hl29 0 rfl) ?_
  refine lv_iadd hx hb dX7_adds_7 ?_
  refine lv_iload_n hx hb dX7_adds_8 rfl (lv_at hl29 2 rfl) ?_
  obtain ⟨c30, hm31⟩ := zz_no hm28
  refine va_iast hx hb hK hP hD hS 0 0 rfl rfl c30 dX7_adds_9 (fun H32 lo32 hP32 hD32 hS32 => ?_)
  replace hP32 : va_P D vwCl (w_arr442 cI cB cZ aA (upd ar ((2 : Int32) + (ar (1 : Int32).toNatClampNeg)).toNatClampNeg x2)) H32 := hP32
  replace hD32 : va_D A (w_arr442 cI cB cZ aA (upd ar ((2 : Int32) + (ar (1 : Int32).toNatClampNeg)).toNatClampNeg x2)) := hD32
  clear hP hD hS
  refine lv_aload_n hx hb dX7_adds_10 rfl (lv_at hl29 1 rfl) ?_
  refine lv_bipush (v := (22 : Int32)) hx hb dX7_adds_11 (by decide) ?_
  refine lv_iload_n hx hb dX7_adds_13 rfl (lv_at hl29 0 rfl) ?_
  refine lv_iadd hx hb dX7_adds_14 ?_
  refine lv_iload_n hx hb dX7_adds_15 rfl (lv_at hl29 3 rfl) ?_
  refine lv_if_eq (tgt := 23) hx hb dX7_adds_16 (by decide) (fun c33 => ?_) (fun c33 => ?_)
  · have hm34 := zz_if c33 hm31
    refine lv_iconst (v := (0 : Int32)) hx hb dX7_adds_23 (by decide) ?_
    exact hk_24 (upd ar ((2 : Int32) + (ar (1 : Int32).toNatClampNeg)).toNatClampNeg x2) (ar (1 : Int32).toNatClampNeg) ((22 : Int32) + (ar (1 : Int32).toNatClampNeg)) (0 : Int32) hm34 ls29 H32 lo32 (lv_sub hl29 [1, 0] rfl) hP32 hD32 hS32
  · have hm35 := zz_nf c33 hm31
    refine lv_iconst (v := (1 : Int32)) hx hb dX7_adds_19 (by decide) ?_
    refine lv_goto (tgt := 24) hx hb dX7_adds_20 (by decide) ?_
    exact hk_24 (upd ar ((2 : Int32) + (ar (1 : Int32).toNatClampNeg)).toNatClampNeg x2) (ar (1 : Int32).toNatClampNeg) ((22 : Int32) + (ar (1 : Int32).toNatClampNeg)) (1 : Int32) hm35 ls29 H32 lo32 (lv_sub hl29 [1, 0] rfl) hP32 hD32 hS32
theorem iw_X7_takes_X7 : ∀ w ∈ wsX70, w ∈ wsX7_takes := by decide +kernel
set_option maxHeartbeats 4000000 in
set_option maxRecDepth 100000 in
theorem c_X7_takes (l : Launch) (D : va_G) (cI cB cZ : ClassId) (ta : Nat → Nat) (aM : Nat) (aMt : Nat) (aMn : Nat) (aMr : Nat) (aMs : Nat) (aMi : Nat) (sz : Nat) (mth : Int32) (mtd : Int32) (msz : Int32) (mto : Int32) (mfr : Int32) (mso : Int32) (mnu : Int32) (mfa : Int32) (mpl : Int32) (mwo : Int64) (msm : Int32) (mgo : Int32) (mt : (Nat → Int32)) (mno : (Nat → Int32)) (mre : (Nat → Int32)) (msn : (Nat → Int32)) (mis : (Nat → Int32)) (x1 : Int32) (x2 : Int32) (r0 : Int32) (u_mto : Int32) (u_mfr : Int32) (u_mso : Int32) (u_mnu : Int32) (u_mfa : Int32) (u_mpl : Int32) (u_mwo : Int64) (u_mgo : Int32) (hm : m_X7_takes msz mto mfr mso mnu mfa mpl mwo mgo mt x1 x2 = some (r0, u_mto, u_mfr, u_mso, u_mnu, u_mfa, u_mpl, u_mwo, u_mgo)) : Met l yX7_takes wsX7_takes ({ frames := 2, cells := 0, slots := 0, locals := 45 } : Room) (va_Pc [.ref aM, .int x1, .int x2] (PW D cI cB cZ ta (w_Model cI cB cZ aM aMt aMn aMr aMs aMi mth mtd msz mto mfr mso mnu mfa mpl mwo msm mgo mt mno mre msn mis) sz)) (QZ .boolean D cI cB cZ (va_A (w_Model cI cB cZ aM aMt aMn aMr aMs aMi mth mtd msz mto mfr mso mnu mfa mpl mwo msm mgo mt mno mre msn mis) sz) (w_Model cI cB cZ aM aMt aMn aMr aMs aMi mth mtd msz u_mto u_mfr u_mso u_mnu u_mfa u_mpl u_mwo msm u_mgo mt mno mre msn mis) r0) 0 0 (va_A (w_Model cI cB cZ aM aMt aMn aMr aMs aMi mth mtd msz mto mfr mso mnu mfa mpl mwo msm mgo mt mno mre msn mis) sz) := by
  refine Met.ofW (cc := cX7_takes) (maxL := 3) (ret := (some .boolean)) (by decide) rfl ?_
  intro p e s m args below meth c s₁ B hml hv
  obtain ⟨rfl, hsz, hP, hK, hD0, hG⟩ := hv
  have hx := B.exec
  have hb := B.bytes
  have hr := B.returns
  have hts := atoms_spec (ws := wsX7_takes) B.pre
  have hown : s.vm.findClass RX7 = some m.cls := findClass_of_methodNamed B.named
  have hlocks := B.notSynchronized
  subst hsz
  have hD := hD0.self (sz := s.heap.size)
  clear hD0
  have hA0 : ∀ q : Nat, s.heap.size ≤ q → va_A (w_Model cI cB cZ aM aMt aMn aMr aMs aMi mth mtd msz mto mfr mso mnu mfa mpl mwo msm mgo mt mno mre msn mis) s.heap.size q := fun q h => Or.inr h
  generalize hAe : va_A (w_Model cI cB cZ aM aMt aMn aMr aMs aMi mth mtd msz mto mfr mso mnu mfa mpl mwo msm mgo mt mno mre msn mis) s.heap.size = A at hD hG hA0 ⊢
  have hA : ∀ q : Nat, s.heap.size ≤ q → A q := hA0
  clear hA0
  have hS : va_S A s.heap s.heap [] := va_S.rf
  have iw_X7 := iw_X7_takes_X7
  have hl := lv_entry ([.ref aM, .int x1, .int x2]) (n := 3) (Nat.le_of_ble_eq_true rfl)
  rw [lg_entry_eq]
  generalize (lg_sl ([.ref aM, .int x1, .int x2]) ++ List.replicate (3 - (lg_sl ([.ref aM, .int x1, .int x2])).length) Slot.unset).toArray = ls at hl ⊢
  have hl : lv_has ls 3 [(0, .ref aM), (1, .int x1), (2, .int x2)] := hl
  replace hm : (if mso = (3 : Int32) then (ob1 (m_X7_isIn mnu x1 x2) (fun r4 => (if r4 = 0 then (ob3 (m_X7_bad mfr mso mfa mpl (2 : Int32)) (fun r12 mfa_12 mpl_12 => some (r12, mto, mfr, mso, mnu, mfa_12, mpl_12, mwo, mgo))) else (ob5 (m_X7_go msz mto mfr mso mnu mwo mt) (fun mto_10 mfr_10 mso_10 mnu_10 mwo_10 => some ((1 : Int32), mto_10, mfr_10, mso_10, mnu_10, mfa, mpl, mwo_10, mnu)))))) else (ob3 (m_X7_bad mfr mso mfa mpl (1 : Int32)) (fun r14 mfa_14 mpl_14 => some (r14, mto, mfr, mso, mnu, mfa_14, mpl_14, mwo, mgo)))) = some (r0, u_mto, u_mfr, u_mso, u_mnu, u_mfa, u_mpl, u_mwo, u_mgo) := hm
  refine lv_aload_n hx hb dX7_takes_0 rfl (lv_at hl 0 rfl) ?_
  refine va_get (D := D) (ci := 7) (v := .int mso) (C := RX7) (T := TX7) (N := 17) hx hb hts iw_X7 hown hK hP 0 rfl rfl 6 (by decide) (hts (.fieldLink RX7 27 "VarianceBridgeModel" "sort" "I") (by decide +kernel)) (fun _ h9 => h9) rfl dX7_takes_1 ?_
  refine lv_iconst (v := (3 : Int32)) hx hb dX7_takes_4 (by decide) ?_
  refine lv_icmp_eq (tgt := 14) hx hb dX7_takes_5 (by decide) (fun c1 => ?_) (fun c1 => ?_)
  · have hm2 := zz_if c1 hm
    refine lv_aload_n hx hb dX7_takes_14 rfl (lv_at hl 0 rfl) ?_
    refine va_get (D := D) (ci := 7) (v := .int mnu) (C := RX7) (T := TX7) (N := 17) hx hb hts iw_X7 hown hK hP 0 rfl rfl 7 (by decide) (hts (.fieldLink RX7 41 "VarianceBridgeModel" "number" "I") (by decide +kernel)) (fun _ h9 => h9) rfl dX7_takes_15 ?_
    refine lv_iload_n hx hb dX7_takes_18 rfl (lv_at hl 1 rfl) ?_
    refine lv_iload_n hx hb dX7_takes_19 rfl (lv_at hl 2 rfl) ?_
    obtain ⟨r4, h4, hm4⟩ := ob1_e hm2
    refine gcall_b (ws' := (w_Model cI cB cZ aM aMt aMn aMr aMs aMi mth mtd msz mto mfr mso mnu mfa mpl mwo msm mgo mt mno mre msn mis)) (va_runS (As := [.int mnu, .int x1, .int x2]) (rest := []) ⟨hx, hb, hml, hown, hts⟩ (c_X7_isIn l D cI cB cZ ta s.heap.size mnu x1 x2 r4 h4) (va_cwS 3 hts gX7_takes_X7_isIn rfl rfl rfl (by decide +kernel) ⟨(Nat.le_of_ble_eq_true rfl), (Nat.le_of_ble_eq_true rfl)⟩) ⟨PW_blind, PW_at hP hD hK hS hA hG [] rfl (by decide)⟩ rfl rfl hl.1 rfl (lv_room (Nat.le_of_ble_eq_true rfl)) dX7_takes_20 ⟨(Nat.le_of_ble_eq_true rfl), (Nat.le_of_ble_eq_true rfl)⟩) hP hD hS hA [] [0, 1, 2, 3, 4, 5] [0, 1, 2, 3, 4, 5] rfl rfl (by decide) (by decide) (by decide) rfl (fun H5 lo5 hz4 hP5 hD5 hS5 => ?_)
    clear hP hD hS
    refine lv_if_ne (tgt := 32) hx hb dX7_takes_23 (by decide) (fun c6 => ?_) (fun c6 => ?_)
    · have hm7 := zz_nf c6 hm4
      refine lv_aload_n hx hb dX7_takes_32 rfl (lv_at hl 0 rfl) ?_
      refine lv_aload_n hx hb dX7_takes_33 rfl (lv_at hl 0 rfl) ?_
      refine va_get (D := D) (ci := 7) (v := .int mnu) (C := RX7) (T := TX7) (N := 17) hx hb hts iw_X7 hown hK hP5 0 rfl rfl 7 (by decide) (hts (.fieldLink RX7 41 "VarianceBridgeModel" "number" "I") (by decide +kernel)) (fun _ h9 => h9) rfl dX7_takes_34 ?_
      refine va_put (D := D) (ci := 7) (v := .int mnu) (ty := .int) (C := RX7) (T := TX7) (N := 17) hx hb hts iw_X7 tyX7 tyX7_ok nmX7 hown hK hP5 hD5 hS5 0 rfl rfl 15 (by decide) (hts (.fieldLink RX7 92 "VarianceBridgeModel" "got" "I") (by decide +kernel)) (fun _ h9 => h9) rfl (by decide +kernel) rfl rfl (Nat.le_of_ble_eq_true rfl) dX7_takes_37 (fun H9 lo9 hP9 hD9 hS9 => ?_)
      replace hP9 : va_P D vwCl (w_Model cI cB cZ aM aMt aMn aMr aMs aMi mth mtd msz mto mfr mso mnu mfa mpl mwo msm mnu mt mno mre msn mis) H9 := hP9
      replace hD9 : va_D A (w_Model cI cB cZ aM aMt aMn aMr aMs aMi mth mtd msz mto mfr mso mnu mfa mpl mwo msm mnu mt mno mre msn mis) := hD9
      clear hP5 hD5 hS5
      refine lv_aload_n hx hb dX7_takes_40 rfl (lv_at hl 0 rfl) ?_
      obtain ⟨mto_10, mfr_10, mso_10, mnu_10, mwo_10, h10, hm10⟩ := ob5_e hm7
      refine gcall_v (ws' := (w_Model cI cB cZ aM aMt aMn aMr aMs aMi mth mtd msz mto_10 mfr_10 mso_10 mnu_10 mfa mpl mwo_10 msm mnu mt mno mre msn mis)) (va_runV (As := []) (rest := []) ⟨hx, hb, hml, hown, hts⟩ (c_X7_go l D cI cB cZ ta aM aMt aMn aMr aMs aMi H9.size mth mtd msz mto mfr mso mnu mfa mpl mwo msm mnu mt mno mre msn mis mto_10 mfr_10 mso_10 mnu_10 mwo_10 h10) (cwV 0 hts gX7_takes_X7_go rfl rfl rfl (by decide +kernel) ⟨(Nat.le_of_ble_eq_true rfl), (Nat.le_of_ble_eq_true rfl)⟩) ⟨PW_blind, va_recv hK hP9 rfl (q0 := 0) rfl, PW_at hP9 hD9 hK hS9 hA hG [0, 1, 2, 3, 4, 5] rfl (by decide)⟩ rfl rfl hl.1 rfl (lv_room (Nat.le_of_ble_eq_true rfl)) dX7_takes_41 ⟨(Nat.le_of_ble_eq_true rfl), (Nat.le_of_ble_eq_true rfl)⟩) hP9 hD9 hS9 hA [0, 1, 2, 3, 4, 5] [] [0, 1, 2, 3, 4, 5] rfl rfl (by decide) (by decide) (by decide) rfl (fun H11 lo11 hP11 hD11 hS11 => ?_)
      clear hP9 hD9 hS9
      refine lv_iconst (v := (1 : Int32)) hx hb dX7_takes_44 (by decide) ?_
      obtain ⟨hq1, hq99⟩ := Prod.mk.inj (Option.some.inj hm10)
      obtain ⟨hq2, hq99⟩ := Prod.mk.inj (hq99)
      obtain ⟨hq3, hq99⟩ := Prod.mk.inj (hq99)
      obtain ⟨hq4, hq99⟩ := Prod.mk.inj (hq99)
      obtain ⟨hq5, hq99⟩ := Prod.mk.inj (hq99)
      obtain ⟨hq6, hq99⟩ := Prod.mk.inj (hq99)
      obtain ⟨hq7, hq99⟩ := Prod.mk.inj (hq99)
      obtain ⟨hq8, hq9⟩ := Prod.mk.inj (hq99)
      subst hq1
      subst hq2
      subst hq3
      subst hq4
      subst hq5
      subst hq6
      subst hq7
      subst hq8
      subst hq9
      exact W.zret (ty := .boolean) hx hb hr (by decide) (fun t ht hW => ⟨⟨_, (), rfl, ⟨rfl, (by decide)⟩, by rw [ht]; exact hP11, va_K.moved hW.alike hK, hD11⟩, hS11.F ht⟩) hS11.2.2 dX7_takes_45
    · have hm8 := zz_if c6 hm4
      refine lv_aload_n hx hb dX7_takes_26 rfl (lv_at hl 0 rfl) ?_
      refine lv_iconst (v := (2 : Int32)) hx hb dX7_takes_27 (by decide) ?_
      obtain ⟨r12, mfa_12, mpl_12, h12, hm12⟩ := ob3_e hm8
      refine gcall_b (ws' := (w_Model cI cB cZ aM aMt aMn aMr aMs aMi mth mtd msz mto mfr mso mnu mfa_12 mpl_12 mwo msm mgo mt mno mre msn mis)) (va_runV (As := [.int (2 : Int32)]) (rest := []) ⟨hx, hb, hml, hown, hts⟩ (c_X7_bad l D cI cB cZ ta aM aMt aMn aMr aMs aMi H5.size mth mtd msz mto mfr mso mnu mfa mpl mwo msm mgo mt mno mre msn mis (2 : Int32) r12 mfa_12 mpl_12 h12) (cwV 1 hts gX7_takes_X7_bad rfl rfl rfl (by decide +kernel) ⟨(Nat.le_of_ble_eq_true rfl), (Nat.le_of_ble_eq_true rfl)⟩) ⟨PW_blind, va_recv hK hP5 rfl (q0 := 0) rfl, PW_at hP5 hD5 hK hS5 hA hG [0, 1, 2, 3, 4, 5] rfl (by decide)⟩ rfl rfl hl.1 rfl (lv_room (Nat.le_of_ble_eq_true rfl)) dX7_takes_28 ⟨(Nat.le_of_ble_eq_true rfl), (Nat.le_of_ble_eq_true rfl)⟩) hP5 hD5 hS5 hA [0, 1, 2, 3, 4, 5] [] [0, 1, 2, 3, 4, 5] rfl rfl (by decide) (by decide) (by decide) rfl (fun H13 lo13 hz12 hP13 hD13 hS13 => ?_)
      clear hP5 hD5 hS5
      obtain ⟨hq1, hq99⟩ := Prod.mk.inj (Option.some.inj hm12)
      obtain ⟨hq2, hq99⟩ := Prod.mk.inj (hq99)
      obtain ⟨hq3, hq99⟩ := Prod.mk.inj (hq99)
      obtain ⟨hq4, hq99⟩ := Prod.mk.inj (hq99)
      obtain ⟨hq5, hq99⟩ := Prod.mk.inj (hq99)
      obtain ⟨hq6, hq99⟩ := Prod.mk.inj (hq99)
      obtain ⟨hq7, hq99⟩ := Prod.mk.inj (hq99)
      obtain ⟨hq8, hq9⟩ := Prod.mk.inj (hq99)
      subst hq1
      subst hq2
      subst hq3
      subst hq4
      subst hq5
      subst hq6
      subst hq7
      subst hq8
      subst hq9
      exact W.zret (ty := .boolean) hx hb hr hz12 (fun t ht hW => ⟨⟨_, (), rfl, ⟨rfl, hz12⟩, by rw [ht]; exact hP13, va_K.moved hW.alike hK, hD13⟩, hS13.F ht⟩) hS13.2.2 dX7_takes_31
  · have hm3 := zz_nf c1 hm
    refine lv_aload_n hx hb dX7_takes_8 rfl (lv_at hl 0 rfl) ?_
    refine lv_iconst (v := (1 : Int32)) hx hb dX7_takes_9 (by decide) ?_
    obtain ⟨r14, mfa_14, mpl_14, h14, hm14⟩ := ob3_e hm3
    refine gcall_b (ws' := (w_Model cI cB cZ aM aMt aMn aMr aMs aMi mth mtd msz mto mfr mso mnu mfa_14 mpl_14 mwo msm mgo mt mno mre msn mis)) (va_runV (As := [.int (1 : Int32)]) (rest := []) ⟨hx, hb, hml, hown, hts⟩ (c_X7_bad l D cI cB cZ ta aM aMt aMn aMr aMs aMi s.heap.size mth mtd msz mto mfr mso mnu mfa mpl mwo msm mgo mt mno mre msn mis (1 : Int32) r14 mfa_14 mpl_14 h14) (cwV 1 hts gX7_takes_X7_bad rfl rfl rfl (by decide +kernel) ⟨(Nat.le_of_ble_eq_true rfl), (Nat.le_of_ble_eq_true rfl)⟩) ⟨PW_blind, va_recv hK hP rfl (q0 := 0) rfl, PW_at hP hD hK hS hA hG [0, 1, 2, 3, 4, 5] rfl (by decide)⟩ rfl rfl hl.1 rfl (lv_room (Nat.le_of_ble_eq_true rfl)) dX7_takes_10 ⟨(Nat.le_of_ble_eq_true rfl), (Nat.le_of_ble_eq_true rfl)⟩) hP hD hS hA [0, 1, 2, 3, 4, 5] [] [0, 1, 2, 3, 4, 5] rfl rfl (by decide) (by decide) (by decide) rfl (fun H15 lo15 hz14 hP15 hD15 hS15 => ?_)
    clear hP hD hS
    obtain ⟨hq1, hq99⟩ := Prod.mk.inj (Option.some.inj hm14)
    obtain ⟨hq2, hq99⟩ := Prod.mk.inj (hq99)
    obtain ⟨hq3, hq99⟩ := Prod.mk.inj (hq99)
    obtain ⟨hq4, hq99⟩ := Prod.mk.inj (hq99)
    obtain ⟨hq5, hq99⟩ := Prod.mk.inj (hq99)
    obtain ⟨hq6, hq99⟩ := Prod.mk.inj (hq99)
    obtain ⟨hq7, hq99⟩ := Prod.mk.inj (hq99)
    obtain ⟨hq8, hq9⟩ := Prod.mk.inj (hq99)
    subst hq1
    subst hq2
    subst hq3
    subst hq4
    subst hq5
    subst hq6
    subst hq7
    subst hq8
    subst hq9
    exact W.zret (ty := .boolean) hx hb hr hz14 (fun t ht hW => ⟨⟨_, (), rfl, ⟨rfl, hz14⟩, by rw [ht]; exact hP15, va_K.moved hW.alike hK, hD15⟩, hS15.F ht⟩) hS15.2.2 dX7_takes_13
theorem iw_X7_readEnd_X7 : ∀ w ∈ wsX70, w ∈ wsX7_readEnd := by decide +kernel
set_option maxHeartbeats 4000000 in
set_option maxRecDepth 100000 in
theorem c_X7_readEnd (l : Launch) (D : va_G) (cI cB cZ : ClassId) (ta : Nat → Nat) (aM : Nat) (aMt : Nat) (aMn : Nat) (aMr : Nat) (aMs : Nat) (aMi : Nat) (sz : Nat) (mth : Int32) (mtd : Int32) (msz : Int32) (mto : Int32) (mfr : Int32) (mso : Int32) (mnu : Int32) (mfa : Int32) (mpl : Int32) (mwo : Int64) (msm : Int32) (mgo : Int32) (mt : (Nat → Int32)) (mno : (Nat → Int32)) (mre : (Nat → Int32)) (msn : (Nat → Int32)) (mis : (Nat → Int32)) (r0 : Int32) (u_mto : Int32) (u_mfr : Int32) (u_mso : Int32) (u_mnu : Int32) (u_mfa : Int32) (u_mpl : Int32) (u_mwo : Int64) (hm : m_X7_readEnd msz mto mfr mso mnu mfa mpl mwo mt = some (r0, u_mto, u_mfr, u_mso, u_mnu, u_mfa, u_mpl, u_mwo)) : Met l yX7_readEnd wsX7_readEnd ({ frames := 2, cells := 0, slots := 0, locals := 45 } : Room) (va_Pc [.ref aM] (PW D cI cB cZ ta (w_Model cI cB cZ aM aMt aMn aMr aMs aMi mth mtd msz mto mfr mso mnu mfa mpl mwo msm mgo mt mno mre msn mis) sz)) (QZ .boolean D cI cB cZ (va_A (w_Model cI cB cZ aM aMt aMn aMr aMs aMi mth mtd msz mto mfr mso mnu mfa mpl mwo msm mgo mt mno mre msn mis) sz) (w_Model cI cB cZ aM aMt aMn aMr aMs aMi mth mtd msz u_mto u_mfr u_mso u_mnu u_mfa u_mpl u_mwo msm mgo mt mno mre msn mis) r0) 0 0 (va_A (w_Model cI cB cZ aM aMt aMn aMr aMs aMi mth mtd msz mto mfr mso mnu mfa mpl mwo msm mgo mt mno mre msn mis) sz) := by
  refine Met.ofW (cc := cX7_readEnd) (maxL := 1) (ret := (some .boolean)) (by decide) rfl ?_
  intro p e s m args below meth c s₁ B hml hv
  obtain ⟨rfl, hsz, hP, hK, hD0, hG⟩ := hv
  have hx := B.exec
  have hb := B.bytes
  have hr := B.returns
  have hts := atoms_spec (ws := wsX7_readEnd) B.pre
  have hown : s.vm.findClass RX7 = some m.cls := findClass_of_methodNamed B.named
  have hlocks := B.notSynchronized
  subst hsz
  have hD := hD0.self (sz := s.heap.size)
  clear hD0
  have hA0 : ∀ q : Nat, s.heap.size ≤ q → va_A (w_Model cI cB cZ aM aMt aMn aMr aMs aMi mth mtd msz mto mfr mso mnu mfa mpl mwo msm mgo mt mno mre msn mis) s.heap.size q := fun q h => Or.inr h
  generalize hAe : va_A (w_Model cI cB cZ aM aMt aMn aMr aMs aMi mth mtd msz mto mfr mso mnu mfa mpl mwo msm mgo mt mno mre msn mis) s.heap.size = A at hD hG hA0 ⊢
  have hA : ∀ q : Nat, s.heap.size ≤ q → A q := hA0
  clear hA0
  have hS : va_S A s.heap s.heap [] := va_S.rf
  have iw_X7 := iw_X7_readEnd_X7
  have hl := lv_entry ([.ref aM]) (n := 1) (Nat.le_of_ble_eq_true rfl)
  rw [lg_entry_eq]
  generalize (lg_sl ([.ref aM]) ++ List.replicate (1 - (lg_sl ([.ref aM])).length) Slot.unset).toArray = ls at hl ⊢
  have hl : lv_has ls 1 [(0, .ref aM)] := hl
  replace hm : (if mso = (4 : Int32) then (ob5 (m_X7_go msz mto mfr mso mnu mwo mt) (fun mto_4 mfr_4 mso_4 mnu_4 mwo_4 => some ((1 : Int32), mto_4, mfr_4, mso_4, mnu_4, mfa, mpl, mwo_4))) else (ob3 (m_X7_bad mfr mso mfa mpl (1 : Int32)) (fun r6 mfa_6 mpl_6 => some (r6, mto, mfr, mso, mnu, mfa_6, mpl_6, mwo)))) = some (r0, u_mto, u_mfr, u_mso, u_mnu, u_mfa, u_mpl, u_mwo) := hm
  refine lv_aload_n hx hb dX7_readEnd_0 rfl (lv_at hl 0 rfl) ?_
  refine va_get (D := D) (ci := 7) (v := .int mso) (C := RX7) (T := TX7) (N := 17) hx hb hts iw_X7 hown hK hP 0 rfl rfl 6 (by decide) (hts (.fieldLink RX7 27 "VarianceBridgeModel" "sort" "I") (by decide +kernel)) (fun _ h9 => h9) rfl dX7_readEnd_1 ?_
  refine lv_iconst (v := (4 : Int32)) hx hb dX7_readEnd_4 (by decide) ?_
  refine lv_icmp_eq (tgt := 14) hx hb dX7_readEnd_5 (by decide) (fun c1 => ?_) (fun c1 => ?_)
  · have hm2 := zz_if c1 hm
    refine lv_aload_n hx hb dX7_readEnd_14 rfl (lv_at hl 0 rfl) ?_
    obtain ⟨mto_4, mfr_4, mso_4, mnu_4, mwo_4, h4, hm4⟩ := ob5_e hm2
    refine gcall_v (ws' := (w_Model cI cB cZ aM aMt aMn aMr aMs aMi mth mtd msz mto_4 mfr_4 mso_4 mnu_4 mfa mpl mwo_4 msm mgo mt mno mre msn mis)) (va_runV (As := []) (rest := []) ⟨hx, hb, hml, hown, hts⟩ (c_X7_go l D cI cB cZ ta aM aMt aMn aMr aMs aMi s.heap.size mth mtd msz mto mfr mso mnu mfa mpl mwo msm mgo mt mno mre msn mis mto_4 mfr_4 mso_4 mnu_4 mwo_4 h4) (cwV 0 hts gX7_readEnd_X7_go rfl rfl rfl (by decide +kernel) ⟨(Nat.le_of_ble_eq_true rfl), (Nat.le_of_ble_eq_true rfl)⟩) ⟨PW_blind, va_recv hK hP rfl (q0 := 0) rfl, PW_at hP hD hK hS hA hG [0, 1, 2, 3, 4, 5] rfl (by decide)⟩ rfl rfl hl.1 rfl (lv_room (Nat.le_of_ble_eq_true rfl)) dX7_readEnd_15 ⟨(Nat.le_of_ble_eq_true rfl), (Nat.le_of_ble_eq_true rfl)⟩) hP hD hS hA [0, 1, 2, 3, 4, 5] [] [0, 1, 2, 3, 4, 5] rfl rfl (by decide) (by decide) (by decide) rfl (fun H5 lo5 hP5 hD5 hS5 => ?_)
    clear hP hD hS
    refine lv_iconst (v := (1 : Int32)) hx hb dX7_readEnd_18 (by decide) ?_
    obtain ⟨hq1, hq99⟩ := Prod.mk.inj (Option.some.inj hm4)
    obtain ⟨hq2, hq99⟩ := Prod.mk.inj (hq99)
    obtain ⟨hq3, hq99⟩ := Prod.mk.inj (hq99)
    obtain ⟨hq4, hq99⟩ := Prod.mk.inj (hq99)
    obtain ⟨hq5, hq99⟩ := Prod.mk.inj (hq99)
    obtain ⟨hq6, hq99⟩ := Prod.mk.inj (hq99)
    obtain ⟨hq7, hq8⟩ := Prod.mk.inj (hq99)
    subst hq1
    subst hq2
    subst hq3
    subst hq4
    subst hq5
    subst hq6
    subst hq7
    subst hq8
    exact W.zret (ty := .boolean) hx hb hr (by decide) (fun t ht hW => ⟨⟨_, (), rfl, ⟨rfl, (by decide)⟩, by rw [ht]; exact hP5, va_K.moved hW.alike hK, hD5⟩, hS5.F ht⟩) hS5.2.2 dX7_readEnd_19
  · have hm3 := zz_nf c1 hm
    refine lv_aload_n hx hb dX7_readEnd_8 rfl (lv_at hl 0 rfl) ?_
    refine lv_iconst (v := (1 : Int32)) hx hb dX7_readEnd_9 (by decide) ?_
    obtain ⟨r6, mfa_6, mpl_6, h6, hm6⟩ := ob3_e hm3
    refine gcall_b (ws' := (w_Model cI cB cZ aM aMt aMn aMr aMs aMi mth mtd msz mto mfr mso mnu mfa_6 mpl_6 mwo msm mgo mt mno mre msn mis)) (va_runV (As := [.int (1 : Int32)]) (rest := []) ⟨hx, hb, hml, hown, hts⟩ (c_X7_bad l D cI cB cZ ta aM aMt aMn aMr aMs aMi s.heap.size mth mtd msz mto mfr mso mnu mfa mpl mwo msm mgo mt mno mre msn mis (1 : Int32) r6 mfa_6 mpl_6 h6) (cwV 1 hts gX7_readEnd_X7_bad rfl rfl rfl (by decide +kernel) ⟨(Nat.le_of_ble_eq_true rfl), (Nat.le_of_ble_eq_true rfl)⟩) ⟨PW_blind, va_recv hK hP rfl (q0 := 0) rfl, PW_at hP hD hK hS hA hG [0, 1, 2, 3, 4, 5] rfl (by decide)⟩ rfl rfl hl.1 rfl (lv_room (Nat.le_of_ble_eq_true rfl)) dX7_readEnd_10 ⟨(Nat.le_of_ble_eq_true rfl), (Nat.le_of_ble_eq_true rfl)⟩) hP hD hS hA [0, 1, 2, 3, 4, 5] [] [0, 1, 2, 3, 4, 5] rfl rfl (by decide) (by decide) (by decide) rfl (fun H7 lo7 hz6 hP7 hD7 hS7 => ?_)
    clear hP hD hS
    obtain ⟨hq1, hq99⟩ := Prod.mk.inj (Option.some.inj hm6)
    obtain ⟨hq2, hq99⟩ := Prod.mk.inj (hq99)
    obtain ⟨hq3, hq99⟩ := Prod.mk.inj (hq99)
    obtain ⟨hq4, hq99⟩ := Prod.mk.inj (hq99)
    obtain ⟨hq5, hq99⟩ := Prod.mk.inj (hq99)
    obtain ⟨hq6, hq99⟩ := Prod.mk.inj (hq99)
    obtain ⟨hq7, hq8⟩ := Prod.mk.inj (hq99)
    subst hq1
    subst hq2
    subst hq3
    subst hq4
    subst hq5
    subst hq6
    subst hq7
    subst hq8
    exact W.zret (ty := .boolean) hx hb hr hz6 (fun t ht hW => ⟨⟨_, (), rfl, ⟨rfl, hz6⟩, by rw [ht]; exact hP7, va_K.moved hW.alike hK, hD7⟩, hS7.F ht⟩) hS7.2.2 dX7_readEnd_13
set_option maxHeartbeats 4000000 in
set_option maxRecDepth 100000 in
theorem c_X7_lowOf (l : Launch) (D : va_G) (cI cB cZ : ClassId) (ta : Nat → Nat) (sz : Nat) (x1 : Int32) (r0 : Int32) (hm : m_X7_lowOf x1 = some r0) : Met l yX7_lowOf wsX7_lowOf ({ frames := 0, cells := 0, slots := 0, locals := 0 } : Room) (va_Pc [.int x1] (PW D cI cB cZ ta (w_none cI cB cZ) sz)) (QI D cI cB cZ (va_A (w_none cI cB cZ) sz) (w_none cI cB cZ) r0) 0 0 (va_A (w_none cI cB cZ) sz) := by
  refine Met.ofW (cc := cX7_lowOf) (maxL := 1) (ret := (some .int)) (by decide) rfl ?_
  intro p e s m args below meth c s₁ B hml hv
  obtain ⟨rfl, hsz, hP, hK, hD0, hG⟩ := hv
  have hx := B.exec
  have hb := B.bytes
  have hr := B.returns
  have hts := atoms_spec (ws := wsX7_lowOf) B.pre
  have hown : s.vm.findClass RX7 = some m.cls := findClass_of_methodNamed B.named
  have hlocks := B.notSynchronized
  subst hsz
  have hD := hD0.self (sz := s.heap.size)
  clear hD0
  have hA0 : ∀ q : Nat, s.heap.size ≤ q → va_A (w_none cI cB cZ) s.heap.size q := fun q h => Or.inr h
  generalize hAe : va_A (w_none cI cB cZ) s.heap.size = A at hD hG hA0 ⊢
  have hA : ∀ q : Nat, s.heap.size ≤ q → A q := hA0
  clear hA0
  have hS : va_S A s.heap s.heap [] := va_S.rf
  have hl := lv_entry ([.int x1]) (n := 1) (Nat.le_of_ble_eq_true rfl)
  rw [lg_entry_eq]
  generalize (lg_sl ([.int x1]) ++ List.replicate (1 - (lg_sl ([.int x1])).length) Slot.unset).toArray = ls at hl ⊢
  have hl : lv_has ls 1 [(0, .int x1)] := hl
  replace hm : (if x1 = (3 : Int32) then some (1 : Int32) else (if x1 = (4 : Int32) then some (10 : Int32) else some (0 : Int32))) = some r0 := hm
  refine lv_iload_n hx hb dX7_lowOf_0 rfl (lv_at hl 0 rfl) ?_
  refine lv_iconst (v := (3 : Int32)) hx hb dX7_lowOf_1 (by decide) ?_
  refine lv_icmp_ne (tgt := 9) hx hb dX7_lowOf_2 (by decide) (fun c1 => ?_) (fun c1 => ?_)
  · have hm2 := zz_nf c1 hm
    refine lv_iload_n hx hb dX7_lowOf_9 rfl (lv_at hl 0 rfl) ?_
    refine lv_iconst (v := (4 : Int32)) hx hb dX7_lowOf_10 (by decide) ?_
    refine lv_icmp_ne (tgt := 19) hx hb dX7_lowOf_11 (by decide) (fun c4 => ?_) (fun c4 => ?_)
    · have hm5 := zz_nf c4 hm2
      refine lv_iconst (v := (0 : Int32)) hx hb dX7_lowOf_19 (by decide) ?_
      have hq1 := Option.some.inj hm5
      subst hq1
      exact W.iret hx hb hr (fun t ht hW => ⟨⟨_, (), rfl, rfl, by rw [ht]; exact hP, va_K.moved hW.alike hK, hD⟩, hS.F ht⟩) hS.2.2 dX7_lowOf_20
    · have hm6 := zz_if c4 hm2
      refine lv_bipush (v := (10 : Int32)) hx hb dX7_lowOf_14 (by decide) ?_
      refine lv_goto (tgt := 20) hx hb dX7_lowOf_16 (by decide) ?_
      have hq1 := Option.some.inj hm6
      subst hq1
      exact W.iret hx hb hr (fun t ht hW => ⟨⟨_, (), rfl, rfl, by rw [ht]; exact hP, va_K.moved hW.alike hK, hD⟩, hS.F ht⟩) hS.2.2 dX7_lowOf_20
  · have hm3 := zz_if c1 hm
    refine lv_iconst (v := (1 : Int32)) hx hb dX7_lowOf_5 (by decide) ?_
    refine lv_goto (tgt := 20) hx hb dX7_lowOf_6 (by decide) ?_
    have hq1 := Option.some.inj hm3
    subst hq1
    exact W.iret hx hb hr (fun t ht hW => ⟨⟨_, (), rfl, rfl, by rw [ht]; exact hP, va_K.moved hW.alike hK, hD⟩, hS.F ht⟩) hS.2.2 dX7_lowOf_20
set_option maxHeartbeats 4000000 in
set_option maxRecDepth 100000 in
theorem c_X7_highOf (l : Launch) (D : va_G) (cI cB cZ : ClassId) (ta : Nat → Nat) (sz : Nat) (x1 : Int32) (r0 : Int32) (hm : m_X7_highOf x1 = some r0) : Met l yX7_highOf wsX7_highOf ({ frames := 0, cells := 0, slots := 0, locals := 0 } : Room) (va_Pc [.int x1] (PW D cI cB cZ ta (w_none cI cB cZ) sz)) (QI D cI cB cZ (va_A (w_none cI cB cZ) sz) (w_none cI cB cZ) r0) 0 0 (va_A (w_none cI cB cZ) sz) := by
  refine Met.ofW (cc := cX7_highOf) (maxL := 1) (ret := (some .int)) (by decide) rfl ?_
  intro p e s m args below meth c s₁ B hml hv
  obtain ⟨rfl, hsz, hP, hK, hD0, hG⟩ := hv
  have hx := B.exec
  have hb := B.bytes
  have hr := B.returns
  have hts := atoms_spec (ws := wsX7_highOf) B.pre
  have hown : s.vm.findClass RX7 = some m.cls := findClass_of_methodNamed B.named
  have hlocks := B.notSynchronized
  subst hsz
  have hD := hD0.self (sz := s.heap.size)
  clear hD0
  have hA0 : ∀ q : Nat, s.heap.size ≤ q → va_A (w_none cI cB cZ) s.heap.size q := fun q h => Or.inr h
  generalize hAe : va_A (w_none cI cB cZ) s.heap.size = A at hD hG hA0 ⊢
  have hA : ∀ q : Nat, s.heap.size ≤ q → A q := hA0
  clear hA0
  have hS : va_S A s.heap s.heap [] := va_S.rf
  have hl := lv_entry ([.int x1]) (n := 1) (Nat.le_of_ble_eq_true rfl)
  rw [lg_entry_eq]
  generalize (lg_sl ([.int x1]) ++ List.replicate (1 - (lg_sl ([.int x1])).length) Slot.unset).toArray = ls at hl ⊢
  have hl : lv_has ls 1 [(0, .int x1)] := hl
  replace hm : (if x1 = (3 : Int32) then some (200 : Int32) else (if x1 = (4 : Int32) then some (100 : Int32) else some (999 : Int32))) = some r0 := hm
  refine lv_iload_n hx hb dX7_highOf_0 rfl (lv_at hl 0 rfl) ?_
  refine lv_iconst (v := (3 : Int32)) hx hb dX7_highOf_1 (by decide) ?_
  refine lv_icmp_ne (tgt := 11) hx hb dX7_highOf_2 (by decide) (fun c1 => ?_) (fun c1 => ?_)
  · have hm2 := zz_nf c1 hm
    refine lv_iload_n hx hb dX7_highOf_11 rfl (lv_at hl 0 rfl) ?_
    refine lv_iconst (v := (4 : Int32)) hx hb dX7_highOf_12 (by decide) ?_
    refine lv_icmp_ne (tgt := 21) hx hb dX7_highOf_13 (by decide) (fun c4 => ?_) (fun c4 => ?_)
    · have hm5 := zz_nf c4 hm2
      refine lv_sipush (v := (999 : Int32)) hx hb dX7_highOf_21 (by decide) ?_
      have hq1 := Option.some.inj hm5
      subst hq1
      exact W.iret hx hb hr (fun t ht hW => ⟨⟨_, (), rfl, rfl, by rw [ht]; exact hP, va_K.moved hW.alike hK, hD⟩, hS.F ht⟩) hS.2.2 dX7_highOf_24
    · have hm6 := zz_if c4 hm2
      refine lv_bipush (v := (100 : Int32)) hx hb dX7_highOf_16 (by decide) ?_
      refine lv_goto (tgt := 24) hx hb dX7_highOf_18 (by decide) ?_
      have hq1 := Option.some.inj hm6
      subst hq1
      exact W.iret hx hb hr (fun t ht hW => ⟨⟨_, (), rfl, rfl, by rw [ht]; exact hP, va_K.moved hW.alike hK, hD⟩, hS.F ht⟩) hS.2.2 dX7_highOf_24
  · have hm3 := zz_if c1 hm
    refine lv_sipush (v := (200 : Int32)) hx hb dX7_highOf_5 (by decide) ?_
    refine lv_goto (tgt := 24) hx hb dX7_highOf_8 (by decide) ?_
    have hq1 := Option.some.inj hm3
    subst hq1
    exact W.iret hx hb hr (fun t ht hW => ⟨⟨_, (), rfl, rfl, by rw [ht]; exact hP, va_K.moved hW.alike hK, hD⟩, hS.F ht⟩) hS.2.2 dX7_highOf_24
theorem iw_X7_readNode_X7 : ∀ w ∈ wsX70, w ∈ wsX7_readNode := by decide +kernel
set_option maxHeartbeats 4000000 in
set_option maxRecDepth 100000 in
theorem c_X7_readNode (l : Launch) (D : va_G) (cI cB cZ : ClassId) (ta : Nat → Nat) (aM : Nat) (aMt : Nat) (aMn : Nat) (aMr : Nat) (aMs : Nat) (aMi : Nat) (sz : Nat) (mth : Int32) (mtd : Int32) (msz : Int32) (mto : Int32) (mfr : Int32) (mso : Int32) (mnu : Int32) (mfa : Int32) (mpl : Int32) (mwo : Int64) (msm : Int32) (mgo : Int32) (mt : (Nat → Int32)) (mno : (Nat → Int32)) (mre : (Nat → Int32)) (msn : (Nat → Int32)) (mis : (Nat → Int32)) (x1 : Int32) (r0 : Int32) (u_mto : Int32) (u_mfr : Int32) (u_mso : Int32) (u_mnu : Int32) (u_mfa : Int32) (u_mpl : Int32) (u_mwo : Int64) (u_mre : (Nat → Int32)) (hm : m_X7_readNode msz mto mfr mso mnu mfa mpl mwo mt mre x1 = some (r0, u_mto, u_mfr, u_mso, u_mnu, u_mfa, u_mpl, u_mwo, u_mre)) : Met l yX7_readNode wsX7_readNode ({ frames := 3, cells := 0, slots := 0, locals := 65 } : Room) (va_Pc [.ref aM, .int x1] (PW D cI cB cZ ta (w_Model cI cB cZ aM aMt aMn aMr aMs aMi mth mtd msz mto mfr mso mnu mfa mpl mwo msm mgo mt mno mre msn mis) sz)) (QZ .boolean D cI cB cZ (va_A (w_Model cI cB cZ aM aMt aMn aMr aMs aMi mth mtd msz mto mfr mso mnu mfa mpl mwo msm mgo mt mno mre msn mis) sz) (w_Model cI cB cZ aM aMt aMn aMr aMs aMi mth mtd msz u_mto u_mfr u_mso u_mnu u_mfa u_mpl u_mwo msm mgo mt mno u_mre msn mis) r0) 0 0 (va_A (w_Model cI cB cZ aM aMt aMn aMr aMs aMi mth mtd msz mto mfr mso mnu mfa mpl mwo msm mgo mt mno mre msn mis) sz) := by
  refine Met.ofW (cc := cX7_readNode) (maxL := 2) (ret := (some .boolean)) (by decide) rfl ?_
  intro p e s m args below meth c s₁ B hml hv
  obtain ⟨rfl, hsz, hP, hK, hD0, hG⟩ := hv
  have hx := B.exec
  have hb := B.bytes
  have hr := B.returns
  have hts := atoms_spec (ws := wsX7_readNode) B.pre
  have hown : s.vm.findClass RX7 = some m.cls := findClass_of_methodNamed B.named
  have hlocks := B.notSynchronized
  subst hsz
  have hD := hD0.self (sz := s.heap.size)
  clear hD0
  have hA0 : ∀ q : Nat, s.heap.size ≤ q → va_A (w_Model cI cB cZ aM aMt aMn aMr aMs aMi mth mtd msz mto mfr mso mnu mfa mpl mwo msm mgo mt mno mre msn mis) s.heap.size q := fun q h => Or.inr h
  generalize hAe : va_A (w_Model cI cB cZ aM aMt aMn aMr aMs aMi mth mtd msz mto mfr mso mnu mfa mpl mwo msm mgo mt mno mre msn mis) s.heap.size = A at hD hG hA0 ⊢
  have hA : ∀ q : Nat, s.heap.size ≤ q → A q := hA0
  clear hA0
  have hS : va_S A s.heap s.heap [] := va_S.rf
  have iw_X7 := iw_X7_readNode_X7
  have hk_63 : ∀ (mto : Int32) (mfr : Int32) (mso : Int32) (mnu : Int32) (mfa : Int32) (mpl : Int32) (mwo : Int64) (mre : (Nat → Int32)), k_X7_readNode_63 msz mt mto mfr mso mnu mfa mpl mwo mre = some (r0, u_mto, u_mfr, u_mso, u_mnu, u_mfa, u_mpl, u_mwo, u_mre) → ∀ (ls : Array Slot) (H : Heap) (lo : List Loc), lv_has ls 2 [(0, .ref aM)] → va_P D vwCl (w_Model cI cB cZ aM aMt aMn aMr aMs aMi mth mtd msz mto mfr mso mnu mfa mpl mwo msm mgo mt mno mre msn mis) H → va_D A (w_Model cI cB cZ aM aMt aMn aMr aMs aMi mth mtd msz mto mfr mso mnu mfa mpl mwo msm mgo mt mno mre msn mis) → va_S A s.heap H lo → W p l e (headSpec wsX7_readNode ({ frames := 3, cells := 0, slots := 0, locals := 65 } : Room)).room s m (([.ref aM, .int x1] : List Value).toArray) below meth c H lo 0 0 (MQ below (QZ .boolean D cI cB cZ A (w_Model cI cB cZ aM aMt aMn aMr aMs aMi mth mtd msz u_mto u_mfr u_mso u_mnu u_mfa u_mpl u_mwo msm mgo mt mno u_mre msn mis) r0) (([.ref aM, .int x1] : List Value).toArray) s 0 0 A) (F0 m 63 ls []) := by
    intro mto mfr mso mnu mfa mpl mwo mre hm ls H lo hl hP hD hS
    replace hm : (ob3 (m_X7_bad mfr mso mfa mpl (2 : Int32)) (fun r1 mfa_1 mpl_1 => some (r1, mto, mfr, mso, mnu, mfa_1, mpl_1, mwo, mre))) = some (r0, u_mto, u_mfr, u_mso, u_mnu, u_mfa, u_mpl, u_mwo, u_mre) := hm
    refine lv_aload_n hx hb dX7_readNode_63 rfl (lv_at hl 0 rfl) ?_
    refine lv_iconst (v := (2 : Int32)) hx hb dX7_readNode_64 (by decide) ?_
    obtain ⟨r1, mfa_1, mpl_1, h1, hm1⟩ := ob3_e hm
    refine gcall_b (ws' := (w_Model cI cB cZ aM aMt aMn aMr aMs aMi mth mtd msz mto mfr mso mnu mfa_1 mpl_1 mwo msm mgo mt mno mre msn mis)) (va_runV (As := [.int (2 : Int32)]) (rest := []) ⟨hx, hb, hml, hown, hts⟩ (c_X7_bad l D cI cB cZ ta aM aMt aMn aMr aMs aMi H.size mth mtd msz mto mfr mso mnu mfa mpl mwo msm mgo mt mno mre msn mis (2 : Int32) r1 mfa_1 mpl_1 h1) (cwV 1 hts gX7_readNode_X7_bad rfl rfl rfl (by decide +kernel) ⟨(Nat.le_of_ble_eq_true rfl), (Nat.le_of_ble_eq_true rfl)⟩) ⟨PW_blind, va_recv hK hP rfl (q0 := 0) rfl, PW_at hP hD hK hS hA hG [0, 1, 2, 3, 4, 5] rfl (by decide)⟩ rfl rfl hl.1 rfl (lv_room (Nat.le_of_ble_eq_true rfl)) dX7_readNode_65 ⟨(Nat.le_of_ble_eq_true rfl), (Nat.le_of_ble_eq_true rfl)⟩) hP hD hS hA [0, 1, 2, 3, 4, 5] [] [0, 1, 2, 3, 4, 5] rfl rfl (by decide) (by decide) (by decide) rfl (fun H2 lo2 hz1 hP2 hD2 hS2 => ?_)
    clear hP hD hS
    obtain ⟨hq1, hq99⟩ := Prod.mk.inj (Option.some.inj hm1)
    obtain ⟨hq2, hq99⟩ := Prod.mk.inj (hq99)
    obtain ⟨hq3, hq99⟩ := Prod.mk.inj (hq99)
    obtain ⟨hq4, hq99⟩ := Prod.mk.inj (hq99)
    obtain ⟨hq5, hq99⟩ := Prod.mk.inj (hq99)
    obtain ⟨hq6, hq99⟩ := Prod.mk.inj (hq99)
    obtain ⟨hq7, hq99⟩ := Prod.mk.inj (hq99)
    obtain ⟨hq8, hq9⟩ := Prod.mk.inj (hq99)
    subst hq1
    subst hq2
    subst hq3
    subst hq4
    subst hq5
    subst hq6
    subst hq7
    subst hq8
    subst hq9
    exact W.zret (ty := .boolean) hx hb hr hz1 (fun t ht hW => ⟨⟨_, (), rfl, ⟨rfl, hz1⟩, by rw [ht]; exact hP2, va_K.moved hW.alike hK, hD2⟩, hS2.F ht⟩) hS2.2.2 dX7_readNode_68
  have hl := lv_entry ([.ref aM, .int x1]) (n := 2) (Nat.le_of_ble_eq_true rfl)
  rw [lg_entry_eq]
  generalize (lg_sl ([.ref aM, .int x1]) ++ List.replicate (2 - (lg_sl ([.ref aM, .int x1])).length) Slot.unset).toArray = ls at hl ⊢
  have hl : lv_has ls 2 [(0, .ref aM), (1, .int x1)] := hl
  replace hm : (if (1 : Int32) < 0 ∨ 442 ≤ (1 : Int32).toNatClampNeg then none else (if (mre (1 : Int32).toNatClampNeg) ≤ (15 : Int32) then (ob5 (m_X7_go msz mto mfr mso mnu mwo mt) (fun mto_8 mfr_8 mso_8 mnu_8 mwo_8 => (if mso_8 = (3 : Int32) then (if (1 : Int32) < 0 ∨ 442 ≤ (1 : Int32).toNatClampNeg then none else (if (mre (1 : Int32).toNatClampNeg) ≤ mnu_8 then (k_X7_readNode_63 msz mt mto_8 mfr_8 mso_8 mnu_8 mfa mpl mwo_8 mre) else (if ((22 : Int32) + mnu_8) < 0 ∨ 442 ≤ ((22 : Int32) + mnu_8).toNatClampNeg then none else (if (mre ((22 : Int32) + mnu_8).toNatClampNeg) = 0 then (k_X7_readNode_63 msz mt mto_8 mfr_8 mso_8 mnu_8 mfa mpl mwo_8 mre) else (ob1 (m_X7_adds mre mnu_8 x1) (fun mre_23 => (ob5 (m_X7_go msz mto_8 mfr_8 mso_8 mnu_8 mwo_8 mt) (fun mto_25 mfr_25 mso_25 mnu_25 mwo_25 => (ob8 (m_X7_readEnd msz mto_25 mfr_25 mso_25 mnu_25 mfa mpl mwo_25 mt) (fun r27 mto_27 mfr_27 mso_27 mnu_27 mfa_27 mpl_27 mwo_27 => some (r27, mto_27, mfr_27, mso_27, mnu_27, mfa_27, mpl_27, mwo_27, mre_23))))))))))) else (ob3 (m_X7_bad mfr_8 mso_8 mfa mpl (1 : Int32)) (fun r29 mfa_29 mpl_29 => some (r29, mto_8, mfr_8, mso_8, mnu_8, mfa_29, mpl_29, mwo_8, mre)))))) else (ob3 (m_X7_bad mfr mso mfa mpl (3 : Int32)) (fun r31 mfa_31 mpl_31 => some (r31, mto, mfr, mso, mnu, mfa_31, mpl_31, mwo, mre))))) = some (r0, u_mto, u_mfr, u_mso, u_mnu, u_mfa, u_mpl, u_mwo, u_mre) := hm
  refine lv_aload_n hx hb dX7_readNode_0 rfl (lv_at hl 0 rfl) ?_
  refine va_get (D := D) (ci := 7) (v := .ref aMr) (C := RX7) (T := TX7) (N := 17) hx hb hts iw_X7 hown hK hP 0 rfl rfl 12 (by decide) (hts (.fieldLink RX7 67 "VarianceBridgeModel" "read" "[I") (by decide +kernel)) (fun _ h9 => h9) rfl dX7_readNode_1 ?_
  refine lv_iconst (v := (1 : Int32)) hx hb dX7_readNode_4 (by decide) ?_
  obtain ⟨c3, hm4⟩ := zz_no hm
  refine va_iald hx hb hK hP 3 0 rfl rfl c3 dX7_readNode_5 ?_
  refine lv_bipush (v := (15 : Int32)) hx hb dX7_readNode_6 (by decide) ?_
  refine lv_icmp_le (tgt := 17) hx hb dX7_readNode_8 (by decide) (fun c5 => ?_) (fun c5 => ?_)
  · have hm6 := zz_if c5 hm4
    refine lv_aload_n hx hb dX7_readNode_17 rfl (lv_at hl 0 rfl) ?_
    obtain ⟨mto_8, mfr_8, mso_8, mnu_8, mwo_8, h8, hm8⟩ := ob5_e hm6
    refine gcall_v (ws' := (w_Model cI cB cZ aM aMt aMn aMr aMs aMi mth mtd msz mto_8 mfr_8 mso_8 mnu_8 mfa mpl mwo_8 msm mgo mt mno mre msn mis)) (va_runV (As := []) (rest := []) ⟨hx, hb, hml, hown, hts⟩ (c_X7_go l D cI cB cZ ta aM aMt aMn aMr aMs aMi s.heap.size mth mtd msz mto mfr mso mnu mfa mpl mwo msm mgo mt mno mre msn mis mto_8 mfr_8 mso_8 mnu_8 mwo_8 h8) (cwV 0 hts gX7_readNode_X7_go rfl rfl rfl (by decide +kernel) ⟨(Nat.le_of_ble_eq_true rfl), (Nat.le_of_ble_eq_true rfl)⟩) ⟨PW_blind, va_recv hK hP rfl (q0 := 0) rfl, PW_at hP hD hK hS hA hG [0, 1, 2, 3, 4, 5] rfl (by decide)⟩ rfl rfl hl.1 rfl (lv_room (Nat.le_of_ble_eq_true rfl)) dX7_readNode_18 ⟨(Nat.le_of_ble_eq_true rfl), (Nat.le_of_ble_eq_true rfl)⟩) hP hD hS hA [0, 1, 2, 3, 4, 5] [] [0, 1, 2, 3, 4, 5] rfl rfl (by decide) (by decide) (by decide) rfl (fun H9 lo9 hP9 hD9 hS9 => ?_)
    clear hP hD hS
    refine lv_aload_n hx hb dX7_readNode_21 rfl (lv_at hl 0 rfl) ?_
    refine va_get (D := D) (ci := 7) (v := .int mso_8) (C := RX7) (T := TX7) (N := 17) hx hb hts iw_X7 hown hK hP9 0 rfl rfl 6 (by decide) (hts (.fieldLink RX7 27 "VarianceBridgeModel" "sort" "I") (by decide +kernel)) (fun _ h9 => h9) rfl dX7_readNode_22 ?_
    refine lv_iconst (v := (3 : Int32)) hx hb dX7_readNode_25 (by decide) ?_
    refine lv_icmp_eq (tgt := 35) hx hb dX7_readNode_26 (by decide) (fun c10 => ?_) (fun c10 => ?_)
    · have hm11 := zz_if c10 hm8
      refine lv_aload_n hx hb dX7_readNode_35 rfl (lv_at hl 0 rfl) ?_
      refine va_get (D := D) (ci := 7) (v := .int mnu_8) (C := RX7) (T := TX7) (N := 17) hx hb hts iw_X7 hown hK hP9 0 rfl rfl 7 (by decide) (hts (.fieldLink RX7 41 "VarianceBridgeModel" "number" "I") (by decide +kernel)) (fun _ h9 => h9) rfl dX7_readNode_36 ?_
      refine lv_aload_n hx hb dX7_readNode_39 rfl (lv_at hl 0 rfl) ?_
      refine va_get (D := D) (ci := 7) (v := .ref aMr) (C := RX7) (T := TX7) (N := 17) hx hb hts iw_X7 hown hK hP9 0 rfl rfl 12 (by decide) (hts (.fieldLink RX7 67 "VarianceBridgeModel" "read" "[I") (by decide +kernel)) (fun _ h9 => h9) rfl dX7_readNode_40 ?_
      refine lv_iconst (v := (1 : Int32)) hx hb dX7_readNode_43 (by decide) ?_
      obtain ⟨c13, hm14⟩ := zz_no hm11
      refine va_iald hx hb hK hP9 3 0 rfl rfl c13 dX7_readNode_44 ?_
      refine lv_icmp_ge (tgt := 63) hx hb dX7_readNode_45 (by decide) (fun c15 => ?_) (fun c15 => ?_)
      · have hm16 := zz_if c15 hm14
        exact hk_63 mto_8 mfr_8 mso_8 mnu_8 mfa mpl mwo_8 mre hm16 ls H9 lo9 (lv_sub hl [0] rfl) hP9 hD9 hS9
      · have hm17 := zz_nf c15 hm14
        refine lv_aload_n hx hb dX7_readNode_48 rfl (lv_at hl 0 rfl) ?_
        refine va_get (D := D) (ci := 7) (v := .ref aMr) (C := RX7) (T := TX7) (N := 17) hx hb hts iw_X7 hown hK hP9 0 rfl rfl 12 (by decide) (hts (.fieldLink RX7 67 "VarianceBridgeModel" "read" "[I") (by decide +kernel)) (fun _ h9 => h9) rfl dX7_readNode_49 ?_
        refine lv_bipush (v := (22 : Int32)) hx hb dX7_readNode_52 (by decide) ?_
        refine lv_aload_n hx hb dX7_readNode_54 rfl (lv_at hl 0 rfl) ?_
        refine va_get (D := D) (ci := 7) (v := .int mnu_8) (C := RX7) (T := TX7) (N := 17) hx hb hts iw_X7 hown hK hP9 0 rfl rfl 7 (by decide) (hts (.fieldLink RX7 41 "VarianceBridgeModel" "number" "I") (by decide +kernel)) (fun _ h9 => h9) rfl dX7_readNode_55 ?_
        refine lv_iadd hx hb dX7_readNode_58 ?_
        obtain ⟨c18, hm19⟩ := zz_no hm17
        refine va_iald hx hb hK hP9 3 0 rfl rfl c18 dX7_readNode_59 ?_
        refine lv_if_ne (tgt := 69) hx hb dX7_readNode_60 (by decide) (fun c20 => ?_) (fun c20 => ?_)
        · have hm21 := zz_nf c20 hm19
          refine lv_aload_n hx hb dX7_readNode_69 rfl (lv_at hl 0 rfl) ?_
          refine va_get (D := D) (ci := 7) (v := .ref aMr) (C := RX7) (T := TX7) (N := 17) hx hb hts iw_X7 hown hK hP9 0 rfl rfl 12 (by decide) (hts (.fieldLink RX7 67 "VarianceBridgeModel" "read" "[I") (by decide +kernel)) (fun _ h9 => h9) rfl dX7_readNode_70 ?_
          refine lv_aload_n hx hb dX7_readNode_73 rfl (lv_at hl 0 rfl) ?_
          refine va_get (D := D) (ci := 7) (v := .int mnu_8) (C := RX7) (T := TX7) (N := 17) hx hb hts iw_X7 hown hK hP9 0 rfl rfl 7 (by decide) (hts (.fieldLink RX7 41 "VarianceBridgeModel" "number" "I") (by decide +kernel)) (fun _ h9 => h9) rfl dX7_readNode_74 ?_
          refine lv_iload_n hx hb dX7_readNode_77 rfl (lv_at hl 1 rfl) ?_
          obtain ⟨mre_23, h23, hm23⟩ := ob1_e hm21
          refine gcall_v (ws' := (w_Model cI cB cZ aM aMt aMn aMr aMs aMi mth mtd msz mto_8 mfr_8 mso_8 mnu_8 mfa mpl mwo_8 msm mgo mt mno mre_23 msn mis)) (va_runS (As := [.ref aMr, .int mnu_8, .int x1]) (rest := []) ⟨hx, hb, hml, hown, hts⟩ (c_X7_adds l D cI cB cZ ta aMr H9.size mre mnu_8 x1 mre_23 h23) (va_cwS 3 hts gX7_readNode_X7_adds rfl rfl rfl (by decide +kernel) ⟨(Nat.le_of_ble_eq_true rfl), (Nat.le_of_ble_eq_true rfl)⟩) ⟨PW_blind, PW_at hP9 hD9 hK hS9 hA hG [3] rfl (by decide)⟩ rfl rfl hl.1 rfl (lv_room (Nat.le_of_ble_eq_true rfl)) dX7_readNode_78 ⟨(Nat.le_of_ble_eq_true rfl), (Nat.le_of_ble_eq_true rfl)⟩) hP9 hD9 hS9 hA [3] [0, 1, 2, 4, 5] [0, 1, 2, 5, 3, 4] rfl rfl (by decide) (by decide) (by decide) rfl (fun H24 lo24 hP24 hD24 hS24 => ?_)
          clear hP9 hD9 hS9
          refine lv_aload_n hx hb dX7_readNode_81 rfl (lv_at hl 0 rfl) ?_
          obtain ⟨mto_25, mfr_25, mso_25, mnu_25, mwo_25, h25, hm25⟩ := ob5_e hm23
          refine gcall_v (ws' := (w_Model cI cB cZ aM aMt aMn aMr aMs aMi mth mtd msz mto_25 mfr_25 mso_25 mnu_25 mfa mpl mwo_25 msm mgo mt mno mre_23 msn mis)) (va_runV (As := []) (rest := []) ⟨hx, hb, hml, hown, hts⟩ (c_X7_go l D cI cB cZ ta aM aMt aMn aMr aMs aMi H24.size mth mtd msz mto_8 mfr_8 mso_8 mnu_8 mfa mpl mwo_8 msm mgo mt mno mre_23 msn mis mto_25 mfr_25 mso_25 mnu_25 mwo_25 h25) (cwV 0 hts gX7_readNode_X7_go rfl rfl rfl (by decide +kernel) ⟨(Nat.le_of_ble_eq_true rfl), (Nat.le_of_ble_eq_true rfl)⟩) ⟨PW_blind, va_recv hK hP24 rfl (q0 := 0) rfl, PW_at hP24 hD24 hK hS24 hA hG [0, 1, 2, 3, 4, 5] rfl (by decide)⟩ rfl rfl hl.1 rfl (lv_room (Nat.le_of_ble_eq_true rfl)) dX7_readNode_82 ⟨(Nat.le_of_ble_eq_true rfl), (Nat.le_of_ble_eq_true rfl)⟩) hP24 hD24 hS24 hA [0, 1, 2, 3, 4, 5] [] [0, 1, 2, 3, 4, 5] rfl rfl (by decide) (by decide) (by decide) rfl (fun H26 lo26 hP26 hD26 hS26 => ?_)
          clear hP24 hD24 hS24
          refine lv_aload_n hx hb dX7_readNode_85 rfl (lv_at hl 0 rfl) ?_
          obtain ⟨r27, mto_27, mfr_27, mso_27, mnu_27, mfa_27, mpl_27, mwo_27, h27, hm27⟩ := ob8_e hm25
          refine gcall_b (ws' := (w_Model cI cB cZ aM aMt aMn aMr aMs aMi mth mtd msz mto_27 mfr_27 mso_27 mnu_27 mfa_27 mpl_27 mwo_27 msm mgo mt mno mre_23 msn mis)) (va_runV (As := []) (rest := []) ⟨hx, hb, hml, hown, hts⟩ (c_X7_readEnd l D cI cB cZ ta aM aMt aMn aMr aMs aMi H26.size mth mtd msz mto_25 mfr_25 mso_25 mnu_25 mfa mpl mwo_25 msm mgo mt mno mre_23 msn mis r27 mto_27 mfr_27 mso_27 mnu_27 mfa_27 mpl_27 mwo_27 h27) (cwV 0 hts gX7_readNode_X7_readEnd rfl rfl rfl (by decide +kernel) ⟨(Nat.le_of_ble_eq_true rfl), (Nat.le_of_ble_eq_true rfl)⟩) ⟨PW_blind, va_recv hK hP26 rfl (q0 := 0) rfl, PW_at hP26 hD26 hK hS26 hA hG [0, 1, 2, 3, 4, 5] rfl (by decide)⟩ rfl rfl hl.1 rfl (lv_room (Nat.le_of_ble_eq_true rfl)) dX7_readNode_86 ⟨(Nat.le_of_ble_eq_true rfl), (Nat.le_of_ble_eq_true rfl)⟩) hP26 hD26 hS26 hA [0, 1, 2, 3, 4, 5] [] [0, 1, 2, 3, 4, 5] rfl rfl (by decide) (by decide) (by decide) rfl (fun H28 lo28 hz27 hP28 hD28 hS28 => ?_)
          clear hP26 hD26 hS26
          obtain ⟨hq1, hq99⟩ := Prod.mk.inj (Option.some.inj hm27)
          obtain ⟨hq2, hq99⟩ := Prod.mk.inj (hq99)
          obtain ⟨hq3, hq99⟩ := Prod.mk.inj (hq99)
          obtain ⟨hq4, hq99⟩ := Prod.mk.inj (hq99)
          obtain ⟨hq5, hq99⟩ := Prod.mk.inj (hq99)
          obtain ⟨hq6, hq99⟩ := Prod.mk.inj (hq99)
          obtain ⟨hq7, hq99⟩ := Prod.mk.inj (hq99)
          obtain ⟨hq8, hq9⟩ := Prod.mk.inj (hq99)
          subst hq1
          subst hq2
          subst hq3
          subst hq4
          subst hq5
          subst hq6
          subst hq7
          subst hq8
          subst hq9
          exact W.zret (ty := .boolean) hx hb hr hz27 (fun t ht hW => ⟨⟨_, (), rfl, ⟨rfl, hz27⟩, by rw [ht]; exact hP28, va_K.moved hW.alike hK, hD28⟩, hS28.F ht⟩) hS28.2.2 dX7_readNode_89
        · have hm22 := zz_if c20 hm19
          exact hk_63 mto_8 mfr_8 mso_8 mnu_8 mfa mpl mwo_8 mre hm22 ls H9 lo9 (lv_sub hl [0] rfl) hP9 hD9 hS9
    · have hm12 := zz_nf c10 hm8
      refine lv_aload_n hx hb dX7_readNode_29 rfl (lv_at hl 0 rfl) ?_
      refine lv_iconst (v := (1 : Int32)) hx hb dX7_readNode_30 (by decide) ?_
      obtain ⟨r29, mfa_29, mpl_29, h29, hm29⟩ := ob3_e hm12
      refine gcall_b (ws' := (w_Model cI cB cZ aM aMt aMn aMr aMs aMi mth mtd msz mto_8 mfr_8 mso_8 mnu_8 mfa_29 mpl_29 mwo_8 msm mgo mt mno mre msn mis)) (va_runV (As := [.int (1 : Int32)]) (rest := []) ⟨hx, hb, hml, hown, hts⟩ (c_X7_bad l D cI cB cZ ta aM aMt aMn aMr aMs aMi H9.size mth mtd msz mto_8 mfr_8 mso_8 mnu_8 mfa mpl mwo_8 msm mgo mt mno mre msn mis (1 : Int32) r29 mfa_29 mpl_29 h29) (cwV 1 hts gX7_readNode_X7_bad rfl rfl rfl (by decide +kernel) ⟨(Nat.le_of_ble_eq_true rfl), (Nat.le_of_ble_eq_true rfl)⟩) ⟨PW_blind, va_recv hK hP9 rfl (q0 := 0) rfl, PW_at hP9 hD9 hK hS9 hA hG [0, 1, 2, 3, 4, 5] rfl (by decide)⟩ rfl rfl hl.1 rfl (lv_room (Nat.le_of_ble_eq_true rfl)) dX7_readNode_31 ⟨(Nat.le_of_ble_eq_true rfl), (Nat.le_of_ble_eq_true rfl)⟩) hP9 hD9 hS9 hA [0, 1, 2, 3, 4, 5] [] [0, 1, 2, 3, 4, 5] rfl rfl (by decide) (by decide) (by decide) rfl (fun H30 lo30 hz29 hP30 hD30 hS30 => ?_)
      clear hP9 hD9 hS9
      obtain ⟨hq1, hq99⟩ := Prod.mk.inj (Option.some.inj hm29)
      obtain ⟨hq2, hq99⟩ := Prod.mk.inj (hq99)
      obtain ⟨hq3, hq99⟩ := Prod.mk.inj (hq99)
      obtain ⟨hq4, hq99⟩ := Prod.mk.inj (hq99)
      obtain ⟨hq5, hq99⟩ := Prod.mk.inj (hq99)
      obtain ⟨hq6, hq99⟩ := Prod.mk.inj (hq99)
      obtain ⟨hq7, hq99⟩ := Prod.mk.inj (hq99)
      obtain ⟨hq8, hq9⟩ := Prod.mk.inj (hq99)
      subst hq1
      subst hq2
      subst hq3
      subst hq4
      subst hq5
      subst hq6
      subst hq7
      subst hq8
      subst hq9
      exact W.zret (ty := .boolean) hx hb hr hz29 (fun t ht hW => ⟨⟨_, (), rfl, ⟨rfl, hz29⟩, by rw [ht]; exact hP30, va_K.moved hW.alike hK, hD30⟩, hS30.F ht⟩) hS30.2.2 dX7_readNode_34
  · have hm7 := zz_nf c5 hm4
    refine lv_aload_n hx hb dX7_readNode_11 rfl (lv_at hl 0 rfl) ?_
    refine lv_iconst (v := (3 : Int32)) hx hb dX7_readNode_12 (by decide) ?_
    obtain ⟨r31, mfa_31, mpl_31, h31, hm31⟩ := ob3_e hm7
    refine gcall_b (ws' := (w_Model cI cB cZ aM aMt aMn aMr aMs aMi mth mtd msz mto mfr mso mnu mfa_31 mpl_31 mwo msm mgo mt mno mre msn mis)) (va_runV (As := [.int (3 : Int32)]) (rest := []) ⟨hx, hb, hml, hown, hts⟩ (c_X7_bad l D cI cB cZ ta aM aMt aMn aMr aMs aMi s.heap.size mth mtd msz mto mfr mso mnu mfa mpl mwo msm mgo mt mno mre msn mis (3 : Int32) r31 mfa_31 mpl_31 h31) (cwV 1 hts gX7_readNode_X7_bad rfl rfl rfl (by decide +kernel) ⟨(Nat.le_of_ble_eq_true rfl), (Nat.le_of_ble_eq_true rfl)⟩) ⟨PW_blind, va_recv hK hP rfl (q0 := 0) rfl, PW_at hP hD hK hS hA hG [0, 1, 2, 3, 4, 5] rfl (by decide)⟩ rfl rfl hl.1 rfl (lv_room (Nat.le_of_ble_eq_true rfl)) dX7_readNode_13 ⟨(Nat.le_of_ble_eq_true rfl), (Nat.le_of_ble_eq_true rfl)⟩) hP hD hS hA [0, 1, 2, 3, 4, 5] [] [0, 1, 2, 3, 4, 5] rfl rfl (by decide) (by decide) (by decide) rfl (fun H32 lo32 hz31 hP32 hD32 hS32 => ?_)
    clear hP hD hS
    obtain ⟨hq1, hq99⟩ := Prod.mk.inj (Option.some.inj hm31)
    obtain ⟨hq2, hq99⟩ := Prod.mk.inj (hq99)
    obtain ⟨hq3, hq99⟩ := Prod.mk.inj (hq99)
    obtain ⟨hq4, hq99⟩ := Prod.mk.inj (hq99)
    obtain ⟨hq5, hq99⟩ := Prod.mk.inj (hq99)
    obtain ⟨hq6, hq99⟩ := Prod.mk.inj (hq99)
    obtain ⟨hq7, hq99⟩ := Prod.mk.inj (hq99)
    obtain ⟨hq8, hq9⟩ := Prod.mk.inj (hq99)
    subst hq1
    subst hq2
    subst hq3
    subst hq4
    subst hq5
    subst hq6
    subst hq7
    subst hq8
    subst hq9
    exact W.zret (ty := .boolean) hx hb hr hz31 (fun t ht hW => ⟨⟨_, (), rfl, ⟨rfl, hz31⟩, by rw [ht]; exact hP32, va_K.moved hW.alike hK, hD32⟩, hS32.F ht⟩) hS32.2.2 dX7_readNode_16
theorem iw_X7_readSet_X7 : ∀ w ∈ wsX70, w ∈ wsX7_readSet := by decide +kernel
set_option maxHeartbeats 4000000 in
set_option maxRecDepth 100000 in
theorem c_X7_readSet (l : Launch) (D : va_G) (cI cB cZ : ClassId) (ta : Nat → Nat) (aM : Nat) (aMt : Nat) (aMn : Nat) (aMr : Nat) (aMs : Nat) (aMi : Nat) (sz : Nat) (mth : Int32) (mtd : Int32) (msz : Int32) (mto : Int32) (mfr : Int32) (mso : Int32) (mnu : Int32) (mfa : Int32) (mpl : Int32) (mwo : Int64) (msm : Int32) (mgo : Int32) (mt : (Nat → Int32)) (mno : (Nat → Int32)) (mre : (Nat → Int32)) (msn : (Nat → Int32)) (mis : (Nat → Int32)) (r0 : Int32) (u_mto : Int32) (u_mfr : Int32) (u_mso : Int32) (u_mnu : Int32) (u_mfa : Int32) (u_mpl : Int32) (u_mwo : Int64) (u_mgo : Int32) (u_mre : (Nat → Int32)) (u_mis : (Nat → Int32)) (hm : m_X7_readSet msz mto mfr mso mnu mfa mpl mwo mgo mt mre mis = some (r0, u_mto, u_mfr, u_mso, u_mnu, u_mfa, u_mpl, u_mwo, u_mgo, u_mre, u_mis)) : Met l yX7_readSet wsX7_readSet ({ frames := 3, cells := 0, slots := 0, locals := 67 } : Room) (va_Pc [.ref aM] (PW D cI cB cZ ta (w_Model cI cB cZ aM aMt aMn aMr aMs aMi mth mtd msz mto mfr mso mnu mfa mpl mwo msm mgo mt mno mre msn mis) sz)) (QZ .boolean D cI cB cZ (va_A (w_Model cI cB cZ aM aMt aMn aMr aMs aMi mth mtd msz mto mfr mso mnu mfa mpl mwo msm mgo mt mno mre msn mis) sz) (w_Model cI cB cZ aM aMt aMn aMr aMs aMi mth mtd msz u_mto u_mfr u_mso u_mnu u_mfa u_mpl u_mwo msm u_mgo mt mno u_mre msn u_mis) r0) 0 0 (va_A (w_Model cI cB cZ aM aMt aMn aMr aMs aMi mth mtd msz mto mfr mso mnu mfa mpl mwo msm mgo mt mno mre msn mis) sz) := by
  refine Met.ofW (cc := cX7_readSet) (maxL := 4) (ret := (some .boolean)) (by decide) rfl ?_
  intro p e s m args below meth c s₁ B hml hv
  obtain ⟨rfl, hsz, hP, hK, hD0, hG⟩ := hv
  have hx := B.exec
  have hb := B.bytes
  have hr := B.returns
  have hts := atoms_spec (ws := wsX7_readSet) B.pre
  have hown : s.vm.findClass RX7 = some m.cls := findClass_of_methodNamed B.named
  have hlocks := B.notSynchronized
  subst hsz
  have hD := hD0.self (sz := s.heap.size)
  clear hD0
  have hA0 : ∀ q : Nat, s.heap.size ≤ q → va_A (w_Model cI cB cZ aM aMt aMn aMr aMs aMi mth mtd msz mto mfr mso mnu mfa mpl mwo msm mgo mt mno mre msn mis) s.heap.size q := fun q h => Or.inr h
  generalize hAe : va_A (w_Model cI cB cZ aM aMt aMn aMr aMs aMi mth mtd msz mto mfr mso mnu mfa mpl mwo msm mgo mt mno mre msn mis) s.heap.size = A at hD hG hA0 ⊢
  have hA : ∀ q : Nat, s.heap.size ≤ q → A q := hA0
  clear hA0
  have hS : va_S A s.heap s.heap [] := va_S.rf
  have iw_X7 := iw_X7_readSet_X7
  have hk_47 : ∀ (mto : Int32) (mfr : Int32) (mso : Int32) (mnu : Int32) (mfa : Int32) (mpl : Int32) (mwo : Int64) (mgo : Int32) (mre : (Nat → Int32)) (mis : (Nat → Int32)), k_X7_readSet_47 msz mt mto mfr mso mnu mfa mpl mwo mgo mre mis = some (r0, u_mto, u_mfr, u_mso, u_mnu, u_mfa, u_mpl, u_mwo, u_mgo, u_mre, u_mis) → ∀ (ls : Array Slot) (H : Heap) (lo : List Loc), lv_has ls 4 [(0, .ref aM)] → va_P D vwCl (w_Model cI cB cZ aM aMt aMn aMr aMs aMi mth mtd msz mto mfr mso mnu mfa mpl mwo msm mgo mt mno mre msn mis) H → va_D A (w_Model cI cB cZ aM aMt aMn aMr aMs aMi mth mtd msz mto mfr mso mnu mfa mpl mwo msm mgo mt mno mre msn mis) → va_S A s.heap H lo → W p l e (headSpec wsX7_readSet ({ frames := 3, cells := 0, slots := 0, locals := 67 } : Room)).room s m (([.ref aM] : List Value).toArray) below meth c H lo 0 0 (MQ below (QZ .boolean D cI cB cZ A (w_Model cI cB cZ aM aMt aMn aMr aMs aMi mth mtd msz u_mto u_mfr u_mso u_mnu u_mfa u_mpl u_mwo msm u_mgo mt mno u_mre msn u_mis) r0) (([.ref aM] : List Value).toArray) s 0 0 A) (F0 m 47 ls []) := by
    intro mto mfr mso mnu mfa mpl mwo mgo mre mis hm ls H lo hl hP hD hS
    replace hm : (ob3 (m_X7_bad mfr mso mfa mpl (2 : Int32)) (fun r1 mfa_1 mpl_1 => some (r1, mto, mfr, mso, mnu, mfa_1, mpl_1, mwo, mgo, mre, mis))) = some (r0, u_mto, u_mfr, u_mso, u_mnu, u_mfa, u_mpl, u_mwo, u_mgo, u_mre, u_mis) := hm
    refine lv_aload_n hx hb dX7_readSet_47 rfl (lv_at hl 0 rfl) ?_
    refine lv_iconst (v := (2 : Int32)) hx hb dX7_readSet_48 (by decide) ?_
    obtain ⟨r1, mfa_1, mpl_1, h1, hm1⟩ := ob3_e hm
    refine gcall_b (ws' := (w_Model cI cB cZ aM aMt aMn aMr aMs aMi mth mtd msz mto mfr mso mnu mfa_1 mpl_1 mwo msm mgo mt mno mre msn mis)) (va_runV (As := [.int (2 : Int32)]) (rest := []) ⟨hx, hb, hml, hown, hts⟩ (c_X7_bad l D cI cB cZ ta aM aMt aMn aMr aMs aMi H.size mth mtd msz mto mfr mso mnu mfa mpl mwo msm mgo mt mno mre msn mis (2 : Int32) r1 mfa_1 mpl_1 h1) (cwV 1 hts gX7_readSet_X7_bad rfl rfl rfl (by decide +kernel) ⟨(Nat.le_of_ble_eq_true rfl), (Nat.le_of_ble_eq_true rfl)⟩) ⟨PW_blind, va_recv hK hP rfl (q0 := 0) rfl, PW_at hP hD hK hS hA hG [0, 1, 2, 3, 4, 5] rfl (by decide)⟩ rfl rfl hl.1 rfl (lv_room (Nat.le_of_ble_eq_true rfl)) dX7_readSet_49 ⟨(Nat.le_of_ble_eq_true rfl), (Nat.le_of_ble_eq_true rfl)⟩) hP hD hS hA [0, 1, 2, 3, 4, 5] [] [0, 1, 2, 3, 4, 5] rfl rfl (by decide) (by decide) (by decide) rfl (fun H2 lo2 hz1 hP2 hD2 hS2 => ?_)
    clear hP hD hS
    obtain ⟨hq1, hq99⟩ := Prod.mk.inj (Option.some.inj hm1)
    obtain ⟨hq2, hq99⟩ := Prod.mk.inj (hq99)
    obtain ⟨hq3, hq99⟩ := Prod.mk.inj (hq99)
    obtain ⟨hq4, hq99⟩ := Prod.mk.inj (hq99)
    obtain ⟨hq5, hq99⟩ := Prod.mk.inj (hq99)
    obtain ⟨hq6, hq99⟩ := Prod.mk.inj (hq99)
    obtain ⟨hq7, hq99⟩ := Prod.mk.inj (hq99)
    obtain ⟨hq8, hq99⟩ := Prod.mk.inj (hq99)
    obtain ⟨hq9, hq99⟩ := Prod.mk.inj (hq99)
    obtain ⟨hq10, hq11⟩ := Prod.mk.inj (hq99)
    subst hq1
    subst hq2
    subst hq3
    subst hq4
    subst hq5
    subst hq6
    subst hq7
    subst hq8
    subst hq9
    subst hq10
    subst hq11
    exact W.zret (ty := .boolean) hx hb hr hz1 (fun t ht hW => ⟨⟨_, (), rfl, ⟨rfl, hz1⟩, by rw [ht]; exact hP2, va_K.moved hW.alike hK, hD2⟩, hS2.F ht⟩) hS2.2.2 dX7_readSet_52
  have hk_105 : ∀ (mto : Int32) (mfr : Int32) (mso : Int32) (mnu : Int32) (mfa : Int32) (mpl : Int32) (mwo : Int64) (mgo : Int32) (mre : (Nat → Int32)) (mis : (Nat → Int32)), k_X7_readSet_105 msz mt mto mfr mso mnu mfa mpl mwo mgo mre mis = some (r0, u_mto, u_mfr, u_mso, u_mnu, u_mfa, u_mpl, u_mwo, u_mgo, u_mre, u_mis) → ∀ (ls : Array Slot) (H : Heap) (lo : List Loc), lv_has ls 4 [(0, .ref aM)] → va_P D vwCl (w_Model cI cB cZ aM aMt aMn aMr aMs aMi mth mtd msz mto mfr mso mnu mfa mpl mwo msm mgo mt mno mre msn mis) H → va_D A (w_Model cI cB cZ aM aMt aMn aMr aMs aMi mth mtd msz mto mfr mso mnu mfa mpl mwo msm mgo mt mno mre msn mis) → va_S A s.heap H lo → W p l e (headSpec wsX7_readSet ({ frames := 3, cells := 0, slots := 0, locals := 67 } : Room)).room s m (([.ref aM] : List Value).toArray) below meth c H lo 0 0 (MQ below (QZ .boolean D cI cB cZ A (w_Model cI cB cZ aM aMt aMn aMr aMs aMi mth mtd msz u_mto u_mfr u_mso u_mnu u_mfa u_mpl u_mwo msm u_mgo mt mno u_mre msn u_mis) r0) (([.ref aM] : List Value).toArray) s 0 0 A) (F0 m 105 ls []) := by
    intro mto mfr mso mnu mfa mpl mwo mgo mre mis hm ls H lo hl hP hD hS
    replace hm : (ob3 (m_X7_bad mfr mso mfa mpl (2 : Int32)) (fun r3 mfa_3 mpl_3 => some (r3, mto, mfr, mso, mnu, mfa_3, mpl_3, mwo, mgo, mre, mis))) = some (r0, u_mto, u_mfr, u_mso, u_mnu, u_mfa, u_mpl, u_mwo, u_mgo, u_mre, u_mis) := hm
    refine lv_aload_n hx hb dX7_readSet_105 rfl (lv_at hl 0 rfl) ?_
    refine lv_iconst (v := (2 : Int32)) hx hb dX7_readSet_106 (by decide) ?_
    obtain ⟨r3, mfa_3, mpl_3, h3, hm3⟩ := ob3_e hm
    refine gcall_b (ws' := (w_Model cI cB cZ aM aMt aMn aMr aMs aMi mth mtd msz mto mfr mso mnu mfa_3 mpl_3 mwo msm mgo mt mno mre msn mis)) (va_runV (As := [.int (2 : Int32)]) (rest := []) ⟨hx, hb, hml, hown, hts⟩ (c_X7_bad l D cI cB cZ ta aM aMt aMn aMr aMs aMi H.size mth mtd msz mto mfr mso mnu mfa mpl mwo msm mgo mt mno mre msn mis (2 : Int32) r3 mfa_3 mpl_3 h3) (cwV 1 hts gX7_readSet_X7_bad rfl rfl rfl (by decide +kernel) ⟨(Nat.le_of_ble_eq_true rfl), (Nat.le_of_ble_eq_true rfl)⟩) ⟨PW_blind, va_recv hK hP rfl (q0 := 0) rfl, PW_at hP hD hK hS hA hG [0, 1, 2, 3, 4, 5] rfl (by decide)⟩ rfl rfl hl.1 rfl (lv_room (Nat.le_of_ble_eq_true rfl)) dX7_readSet_107 ⟨(Nat.le_of_ble_eq_true rfl), (Nat.le_of_ble_eq_true rfl)⟩) hP hD hS hA [0, 1, 2, 3, 4, 5] [] [0, 1, 2, 3, 4, 5] rfl rfl (by decide) (by decide) (by decide) rfl (fun H4 lo4 hz3 hP4 hD4 hS4 => ?_)
    clear hP hD hS
    obtain ⟨hq1, hq99⟩ := Prod.mk.inj (Option.some.inj hm3)
    obtain ⟨hq2, hq99⟩ := Prod.mk.inj (hq99)
    obtain ⟨hq3, hq99⟩ := Prod.mk.inj (hq99)
    obtain ⟨hq4, hq99⟩ := Prod.mk.inj (hq99)
    obtain ⟨hq5, hq99⟩ := Prod.mk.inj (hq99)
    obtain ⟨hq6, hq99⟩ := Prod.mk.inj (hq99)
    obtain ⟨hq7, hq99⟩ := Prod.mk.inj (hq99)
    obtain ⟨hq8, hq99⟩ := Prod.mk.inj (hq99)
    obtain ⟨hq9, hq99⟩ := Prod.mk.inj (hq99)
    obtain ⟨hq10, hq11⟩ := Prod.mk.inj (hq99)
    subst hq1
    subst hq2
    subst hq3
    subst hq4
    subst hq5
    subst hq6
    subst hq7
    subst hq8
    subst hq9
    subst hq10
    subst hq11
    exact W.zret (ty := .boolean) hx hb hr hz3 (fun t ht hW => ⟨⟨_, (), rfl, ⟨rfl, hz3⟩, by rw [ht]; exact hP4, va_K.moved hW.alike hK, hD4⟩, hS4.F ht⟩) hS4.2.2 dX7_readSet_110
  have hk_133 : ∀ (n : Nat) (mto : Int32) (mfr : Int32) (mso : Int32) (mnu : Int32) (mfa : Int32) (mpl : Int32) (mwo : Int64) (mgo : Int32) (mre : (Nat → Int32)) (mis : (Nat → Int32)) (y1 : Int32) (y2 : Int32) (y3 : Int32), k_X7_readSet_133 msz mt n mto mfr mso mnu mfa mpl mwo mgo mre mis y1 y2 y3 = some (r0, u_mto, u_mfr, u_mso, u_mnu, u_mfa, u_mpl, u_mwo, u_mgo, u_mre, u_mis) → ∀ (ls : Array Slot) (H : Heap) (lo : List Loc), lv_has ls 4 [(0, .ref aM), (1, .int y1), (2, .int y2), (3, .int y3)] → va_P D vwCl (w_Model cI cB cZ aM aMt aMn aMr aMs aMi mth mtd msz mto mfr mso mnu mfa mpl mwo msm mgo mt mno mre msn mis) H → va_D A (w_Model cI cB cZ aM aMt aMn aMr aMs aMi mth mtd msz mto mfr mso mnu mfa mpl mwo msm mgo mt mno mre msn mis) → va_S A s.heap H lo → W p l e (headSpec wsX7_readSet ({ frames := 3, cells := 0, slots := 0, locals := 67 } : Room)).room s m (([.ref aM] : List Value).toArray) below meth c H lo 0 0 (MQ below (QZ .boolean D cI cB cZ A (w_Model cI cB cZ aM aMt aMn aMr aMs aMi mth mtd msz u_mto u_mfr u_mso u_mnu u_mfa u_mpl u_mwo msm u_mgo mt mno u_mre msn u_mis) r0) (([.ref aM] : List Value).toArray) s 0 0 A) (F0 m 133 ls []) := by
    intro n
    induction n with
    | zero => intro mto mfr mso mnu mfa mpl mwo mgo mre mis y1 y2 y3 hm; exact zz_nn hm
    | succ n ih =>
      intro mto mfr mso mnu mfa mpl mwo mgo mre mis y1 y2 y3 hm ls H lo hl hP hD hS
      replace hm := (k_X7_readSet_133_s msz mt n mto mfr mso mnu mfa mpl mwo mgo mre mis y1 y2 y3).symm.trans hm
      refine lv_iload_n hx hb dX7_readSet_133 rfl (lv_at hl 3 rfl) ?_
      refine lv_iconst (v := (5 : Int32)) hx hb dX7_readSet_134 (by decide) ?_
      refine lv_icmp_ge (tgt := 176) hx hb dX7_readSet_135 (by decide) (fun c5 => ?_) (fun c5 => ?_)
      · have hm6 := zz_if c5 hm
        refine lv_aload_n hx hb dX7_readSet_176 rfl (lv_at hl 0 rfl) ?_
        obtain ⟨r8, mto_8, mfr_8, mso_8, mnu_8, mfa_8, mpl_8, mwo_8, h8, hm8⟩ := ob8_e hm6
        refine gcall_b (ws' := (w_Model cI cB cZ aM aMt aMn aMr aMs aMi mth mtd msz mto_8 mfr_8 mso_8 mnu_8 mfa_8 mpl_8 mwo_8 msm mgo mt mno mre msn mis)) (va_runV (As := []) (rest := []) ⟨hx, hb, hml, hown, hts⟩ (c_X7_readEnd l D cI cB cZ ta aM aMt aMn aMr aMs aMi H.size mth mtd msz mto mfr mso mnu mfa mpl mwo msm mgo mt mno mre msn mis r8 mto_8 mfr_8 mso_8 mnu_8 mfa_8 mpl_8 mwo_8 h8) (cwV 0 hts gX7_readSet_X7_readEnd rfl rfl rfl (by decide +kernel) ⟨(Nat.le_of_ble_eq_true rfl), (Nat.le_of_ble_eq_true rfl)⟩) ⟨PW_blind, va_recv hK hP rfl (q0 := 0) rfl, PW_at hP hD hK hS hA hG [0, 1, 2, 3, 4, 5] rfl (by decide)⟩ rfl rfl hl.1 rfl (lv_room (Nat.le_of_ble_eq_true rfl)) dX7_readSet_177 ⟨(Nat.le_of_ble_eq_true rfl), (Nat.le_of_ble_eq_true rfl)⟩) hP hD hS hA [0, 1, 2, 3, 4, 5] [] [0, 1, 2, 3, 4, 5] rfl rfl (by decide) (by decide) (by decide) rfl (fun H9 lo9 hz8 hP9 hD9 hS9 => ?_)
        clear hP hD hS
        obtain ⟨hq1, hq99⟩ := Prod.mk.inj (Option.some.inj hm8)
        obtain ⟨hq2, hq99⟩ := Prod.mk.inj (hq99)
        obtain ⟨hq3, hq99⟩ := Prod.mk.inj (hq99)
        obtain ⟨hq4, hq99⟩ := Prod.mk.inj (hq99)
        obtain ⟨hq5, hq99⟩ := Prod.mk.inj (hq99)
        obtain ⟨hq6, hq99⟩ := Prod.mk.inj (hq99)
        obtain ⟨hq7, hq99⟩ := Prod.mk.inj (hq99)
        obtain ⟨hq8, hq99⟩ := Prod.mk.inj (hq99)
        obtain ⟨hq9, hq99⟩ := Prod.mk.inj (hq99)
        obtain ⟨hq10, hq11⟩ := Prod.mk.inj (hq99)
        subst hq1
        subst hq2
        subst hq3
        subst hq4
        subst hq5
        subst hq6
        subst hq7
        subst hq8
        subst hq9
        subst hq10
        subst hq11
        exact W.zret (ty := .boolean) hx hb hr hz8 (fun t ht hW => ⟨⟨_, (), rfl, ⟨rfl, hz8⟩, by rw [ht]; exact hP9, va_K.moved hW.alike hK, hD9⟩, hS9.F ht⟩) hS9.2.2 dX7_readSet_180
      · have hm7 := zz_nf c5 hm
        refine lv_aload_n hx hb dX7_readSet_138 rfl (lv_at hl 0 rfl) ?_
        refine lv_iload_n hx hb dX7_readSet_139 rfl (lv_at hl 3 rfl) ?_
        obtain ⟨r10, h10, hm10⟩ := ob1_e hm7
        refine gcall_i (ws' := (w_Model cI cB cZ aM aMt aMn aMr aMs aMi mth mtd msz mto mfr mso mnu mfa mpl mwo msm mgo mt mno mre msn mis)) (va_runS (As := [.int y3]) (rest := [.ref aM]) ⟨hx, hb, hml, hown, hts⟩ (c_X7_lowOf l D cI cB cZ ta H.size y3 r10 h10) (va_cwS 1 hts gX7_readSet_X7_lowOf rfl rfl rfl (by decide +kernel) ⟨(Nat.le_of_ble_eq_true rfl), (Nat.le_of_ble_eq_true rfl)⟩) ⟨PW_blind, PW_at hP hD hK hS hA hG [] rfl (by decide)⟩ rfl rfl hl.1 rfl (lv_room (Nat.le_of_ble_eq_true rfl)) dX7_readSet_140 ⟨(Nat.le_of_ble_eq_true rfl), (Nat.le_of_ble_eq_true rfl)⟩) hP hD hS hA [] [0, 1, 2, 3, 4, 5] [0, 1, 2, 3, 4, 5] rfl rfl (by decide) (by decide) (by decide) rfl (fun H11 lo11 hP11 hD11 hS11 => ?_)
        clear hP hD hS
        refine lv_iload_n hx hb dX7_readSet_143 rfl (lv_at hl 3 rfl) ?_
        obtain ⟨r12, h12, hm12⟩ := ob1_e hm10
        refine gcall_i (ws' := (w_Model cI cB cZ aM aMt aMn aMr aMs aMi mth mtd msz mto mfr mso mnu mfa mpl mwo msm mgo mt mno mre msn mis)) (va_runS (As := [.int y3]) (rest := [.int r10, .ref aM]) ⟨hx, hb, hml, hown, hts⟩ (c_X7_highOf l D cI cB cZ ta H11.size y3 r12 h12) (va_cwS 1 hts gX7_readSet_X7_highOf rfl rfl rfl (by decide +kernel) ⟨(Nat.le_of_ble_eq_true rfl), (Nat.le_of_ble_eq_true rfl)⟩) ⟨PW_blind, PW_at hP11 hD11 hK hS11 hA hG [] rfl (by decide)⟩ rfl rfl hl.1 rfl (lv_room (Nat.le_of_ble_eq_true rfl)) dX7_readSet_144 ⟨(Nat.le_of_ble_eq_true rfl), (Nat.le_of_ble_eq_true rfl)⟩) hP11 hD11 hS11 hA [] [0, 1, 2, 3, 4, 5] [0, 1, 2, 3, 4, 5] rfl rfl (by decide) (by decide) (by decide) rfl (fun H13 lo13 hP13 hD13 hS13 => ?_)
        clear hP11 hD11 hS11
        obtain ⟨r14, mto_14, mfr_14, mso_14, mnu_14, mfa_14, mpl_14, mwo_14, mgo_14, h14, hm14⟩ := ob9_e hm12
        refine gcall_b (ws' := (w_Model cI cB cZ aM aMt aMn aMr aMs aMi mth mtd msz mto_14 mfr_14 mso_14 mnu_14 mfa_14 mpl_14 mwo_14 msm mgo_14 mt mno mre msn mis)) (va_runV (As := [.int r10, .int r12]) (rest := []) ⟨hx, hb, hml, hown, hts⟩ (c_X7_takes l D cI cB cZ ta aM aMt aMn aMr aMs aMi H13.size mth mtd msz mto mfr mso mnu mfa mpl mwo msm mgo mt mno mre msn mis r10 r12 r14 mto_14 mfr_14 mso_14 mnu_14 mfa_14 mpl_14 mwo_14 mgo_14 h14) (cwV 2 hts gX7_readSet_X7_takes rfl rfl rfl (by decide +kernel) ⟨(Nat.le_of_ble_eq_true rfl), (Nat.le_of_ble_eq_true rfl)⟩) ⟨PW_blind, va_recv hK hP13 rfl (q0 := 0) rfl, PW_at hP13 hD13 hK hS13 hA hG [0, 1, 2, 3, 4, 5] rfl (by decide)⟩ rfl rfl hl.1 rfl (lv_room (Nat.le_of_ble_eq_true rfl)) dX7_readSet_147 ⟨(Nat.le_of_ble_eq_true rfl), (Nat.le_of_ble_eq_true rfl)⟩) hP13 hD13 hS13 hA [0, 1, 2, 3, 4, 5] [] [0, 1, 2, 3, 4, 5] rfl rfl (by decide) (by decide) (by decide) rfl (fun H15 lo15 hz14 hP15 hD15 hS15 => ?_)
        clear hP13 hD13 hS13
        refine lv_if_ne (tgt := 155) hx hb dX7_readSet_150 (by decide) (fun c16 => ?_) (fun c16 => ?_)
        · have hm17 := zz_nf c16 hm14
          refine lv_aload_n hx hb dX7_readSet_155 rfl (lv_at hl 0 rfl) ?_
          refine va_get (D := D) (ci := 7) (v := .ref aMr) (C := RX7) (T := TX7) (N := 17) hx hb hts iw_X7 hown hK hP15 0 rfl rfl 12 (by decide) (hts (.fieldLink RX7 67 "VarianceBridgeModel" "read" "[I") (by decide +kernel)) (fun _ h9 => h9) rfl dX7_readSet_156 ?_
          refine lv_iload_n hx hb dX7_readSet_159 rfl (lv_at hl 1 rfl) ?_
          refine lv_iload_n hx hb dX7_readSet_160 rfl (lv_at hl 2 rfl) ?_
          refine lv_iload_n hx hb dX7_readSet_161 rfl (lv_at hl 3 rfl) ?_
          obtain ⟨r19, h19, hm19⟩ := ob1_e hm17
          refine gcall_i (ws' := (w_Model cI cB cZ aM aMt aMn aMr aMs aMi mth mtd msz mto_14 mfr_14 mso_14 mnu_14 mfa_14 mpl_14 mwo_14 msm mgo_14 mt mno mre msn mis)) (va_runS (As := [.int y1, .int y2, .int y3]) (rest := [.ref aMr]) ⟨hx, hb, hml, hown, hts⟩ (c_X7_at l D cI cB cZ ta H15.size y1 y2 y3 r19 h19) (va_cwS 3 hts gX7_readSet_X7_at rfl rfl rfl (by decide +kernel) ⟨(Nat.le_of_ble_eq_true rfl), (Nat.le_of_ble_eq_true rfl)⟩) ⟨PW_blind, PW_at hP15 hD15 hK hS15 hA hG [] rfl (by decide)⟩ rfl rfl hl.1 rfl (lv_room (Nat.le_of_ble_eq_true rfl)) dX7_readSet_162 ⟨(Nat.le_of_ble_eq_true rfl), (Nat.le_of_ble_eq_true rfl)⟩) hP15 hD15 hS15 hA [] [0, 1, 2, 3, 4, 5] [0, 1, 2, 3, 4, 5] rfl rfl (by decide) (by decide) (by decide) rfl (fun H20 lo20 hP20 hD20 hS20 => ?_)
          clear hP15 hD15 hS15
          refine lv_aload_n hx hb dX7_readSet_165 rfl (lv_at hl 0 rfl) ?_
          refine va_get (D := D) (ci := 7) (v := .int mgo_14) (C := RX7) (T := TX7) (N := 17) hx hb hts iw_X7 hown hK hP20 0 rfl rfl 15 (by decide) (hts (.fieldLink RX7 92 "VarianceBridgeModel" "got" "I") (by decide +kernel)) (fun _ h9 => h9) rfl dX7_readSet_166 ?_
          obtain ⟨c21, hm22⟩ := zz_no hm19
          refine va_iast hx hb hK hP20 hD20 hS20 3 0 rfl rfl c21 dX7_readSet_169 (fun H23 lo23 hP23 hD23 hS23 => ?_)
          replace hP23 : va_P D vwCl (w_Model cI cB cZ aM aMt aMn aMr aMs aMi mth mtd msz mto_14 mfr_14 mso_14 mnu_14 mfa_14 mpl_14 mwo_14 msm mgo_14 mt mno (upd mre r19.toNatClampNeg mgo_14) msn mis) H23 := hP23
          replace hD23 : va_D A (w_Model cI cB cZ aM aMt aMn aMr aMs aMi mth mtd msz mto_14 mfr_14 mso_14 mnu_14 mfa_14 mpl_14 mwo_14 msm mgo_14 mt mno (upd mre r19.toNatClampNeg mgo_14) msn mis) := hD23
          clear hP20 hD20 hS20
          refine lv_iinc (v := (y3 + (1 : Int32))) (lv' := [(3, .int (y3 + (1 : Int32))), (0, .ref aM), (1, .int y1), (2, .int y2)]) hx hb dX7_readSet_170 hl (k := 3) rfl (by rfl) (by decide) rfl (fun ls24 hl24 => ?_)
          refine lv_goto (tgt := 133) hx hb dX7_readSet_173 (by decide) ?_
          exact ih mto_14 mfr_14 mso_14 mnu_14 mfa_14 mpl_14 mwo_14 mgo_14 (upd mre r19.toNatClampNeg mgo_14) mis y1 y2 (y3 + (1 : Int32)) hm22 ls24 H23 lo23 (lv_sub hl24 [1, 2, 3, 0] rfl) hP23 hD23 hS23
        · have hm18 := zz_if c16 hm14
          refine lv_iconst (v := (0 : Int32)) hx hb dX7_readSet_153 (by decide) ?_
          obtain ⟨hq1, hq99⟩ := Prod.mk.inj (Option.some.inj hm18)
          obtain ⟨hq2, hq99⟩ := Prod.mk.inj (hq99)
          obtain ⟨hq3, hq99⟩ := Prod.mk.inj (hq99)
          obtain ⟨hq4, hq99⟩ := Prod.mk.inj (hq99)
          obtain ⟨hq5, hq99⟩ := Prod.mk.inj (hq99)
          obtain ⟨hq6, hq99⟩ := Prod.mk.inj (hq99)
          obtain ⟨hq7, hq99⟩ := Prod.mk.inj (hq99)
          obtain ⟨hq8, hq99⟩ := Prod.mk.inj (hq99)
          obtain ⟨hq9, hq99⟩ := Prod.mk.inj (hq99)
          obtain ⟨hq10, hq11⟩ := Prod.mk.inj (hq99)
          subst hq1
          subst hq2
          subst hq3
          subst hq4
          subst hq5
          subst hq6
          subst hq7
          subst hq8
          subst hq9
          subst hq10
          subst hq11
          exact W.zret (ty := .boolean) hx hb hr (by decide) (fun t ht hW => ⟨⟨_, (), rfl, ⟨rfl, (by decide)⟩, by rw [ht]; exact hP15, va_K.moved hW.alike hK, hD15⟩, hS15.F ht⟩) hS15.2.2 dX7_readSet_154
  have hl := lv_entry ([.ref aM]) (n := 4) (Nat.le_of_ble_eq_true rfl)
  rw [lg_entry_eq]
  generalize (lg_sl ([.ref aM]) ++ List.replicate (4 - (lg_sl ([.ref aM])).length) Slot.unset).toArray = ls at hl ⊢
  have hl : lv_has ls 4 [(0, .ref aM)] := hl
  replace hm : (ob5 (m_X7_go msz mto mfr mso mnu mwo mt) (fun mto_25 mfr_25 mso_25 mnu_25 mwo_25 => (if mso_25 = (3 : Int32) then (if (1 : Int32) < 0 ∨ 442 ≤ (1 : Int32).toNatClampNeg then none else (if (mre (1 : Int32).toNatClampNeg) ≤ mnu_25 then (k_X7_readSet_47 msz mt mto_25 mfr_25 mso_25 mnu_25 mfa mpl mwo_25 mgo mre mis) else (if ((22 : Int32) + mnu_25) < 0 ∨ 442 ≤ ((22 : Int32) + mnu_25).toNatClampNeg then none else (if (mre ((22 : Int32) + mnu_25).toNatClampNeg) = (1 : Int32) then (k_X7_readSet_47 msz mt mto_25 mfr_25 mso_25 mnu_25 mfa mpl mwo_25 mgo mre mis) else (ob5 (m_X7_go msz mto_25 mfr_25 mso_25 mnu_25 mwo_25 mt) (fun mto_41 mfr_41 mso_41 mnu_41 mwo_41 => (if mso_41 = (3 : Int32) then (if (0 : Int32) < 0 ∨ 442 ≤ (0 : Int32).toNatClampNeg then none else (if (mre (0 : Int32).toNatClampNeg) ≤ mnu_41 then (k_X7_readSet_105 msz mt mto_41 mfr_41 mso_41 mnu_41 mfa mpl mwo_41 mgo mre mis) else (if (((4 : Int32) * mnu_25) + mnu_41) < 0 ∨ 80 ≤ (((4 : Int32) * mnu_25) + mnu_41).toNatClampNeg then none else (if (mis (((4 : Int32) * mnu_25) + mnu_41).toNatClampNeg) = 0 then (if (((4 : Int32) * mnu_25) + mnu_41) < 0 ∨ 80 ≤ (((4 : Int32) * mnu_25) + mnu_41).toNatClampNeg then none else (ob5 (m_X7_go msz mto_41 mfr_41 mso_41 mnu_41 mwo_41 mt) (fun mto_60 mfr_60 mso_60 mnu_60 mwo_60 => (k_X7_readSet_133 msz mt FU mto_60 mfr_60 mso_60 mnu_60 mfa mpl mwo_60 mgo mre (upd mis (((4 : Int32) * mnu_25) + mnu_41).toNatClampNeg (vp_nar .boolean (1 : Int32))) mnu_25 mnu_41 (0 : Int32))))) else (k_X7_readSet_105 msz mt mto_41 mfr_41 mso_41 mnu_41 mfa mpl mwo_41 mgo mre mis))))) else (ob3 (m_X7_bad mfr_41 mso_41 mfa mpl (1 : Int32)) (fun r63 mfa_63 mpl_63 => some (r63, mto_41, mfr_41, mso_41, mnu_41, mfa_63, mpl_63, mwo_41, mgo, mre, mis)))))))))) else (ob3 (m_X7_bad mfr_25 mso_25 mfa mpl (1 : Int32)) (fun r65 mfa_65 mpl_65 => some (r65, mto_25, mfr_25, mso_25, mnu_25, mfa_65, mpl_65, mwo_25, mgo, mre, mis)))))) = some (r0, u_mto, u_mfr, u_mso, u_mnu, u_mfa, u_mpl, u_mwo, u_mgo, u_mre, u_mis) := hm
  refine lv_aload_n hx hb dX7_readSet_0 rfl (lv_at hl 0 rfl) ?_
  obtain ⟨mto_25, mfr_25, mso_25, mnu_25, mwo_25, h25, hm25⟩ := ob5_e hm
  refine gcall_v (ws' := (w_Model cI cB cZ aM aMt aMn aMr aMs aMi mth mtd msz mto_25 mfr_25 mso_25 mnu_25 mfa mpl mwo_25 msm mgo mt mno mre msn mis)) (va_runV (As := []) (rest := []) ⟨hx, hb, hml, hown, hts⟩ (c_X7_go l D cI cB cZ ta aM aMt aMn aMr aMs aMi s.heap.size mth mtd msz mto mfr mso mnu mfa mpl mwo msm mgo mt mno mre msn mis mto_25 mfr_25 mso_25 mnu_25 mwo_25 h25) (cwV 0 hts gX7_readSet_X7_go rfl rfl rfl (by decide +kernel) ⟨(Nat.le_of_ble_eq_true rfl), (Nat.le_of_ble_eq_true rfl)⟩) ⟨PW_blind, va_recv hK hP rfl (q0 := 0) rfl, PW_at hP hD hK hS hA hG [0, 1, 2, 3, 4, 5] rfl (by decide)⟩ rfl rfl hl.1 rfl (lv_room (Nat.le_of_ble_eq_true rfl)) dX7_readSet_1 ⟨(Nat.le_of_ble_eq_true rfl), (Nat.le_of_ble_eq_true rfl)⟩) hP hD hS hA [0, 1, 2, 3, 4, 5] [] [0, 1, 2, 3, 4, 5] rfl rfl (by decide) (by decide) (by decide) rfl (fun H26 lo26 hP26 hD26 hS26 => ?_)
  clear hP hD hS
  refine lv_aload_n hx hb dX7_readSet_4 rfl (lv_at hl 0 rfl) ?_
  refine va_get (D := D) (ci := 7) (v := .int mso_25) (C := RX7) (T := TX7) (N := 17) hx hb hts iw_X7 hown hK hP26 0 rfl rfl 6 (by decide) (hts (.fieldLink RX7 27 "VarianceBridgeModel" "sort" "I") (by decide +kernel)) (fun _ h9 => h9) rfl dX7_readSet_5 ?_
  refine lv_iconst (v := (3 : Int32)) hx hb dX7_readSet_8 (by decide) ?_
  refine lv_icmp_eq (tgt := 18) hx hb dX7_readSet_9 (by decide) (fun c27 => ?_) (fun c27 => ?_)
  · have hm28 := zz_if c27 hm25
    refine lv_aload_n hx hb dX7_readSet_18 rfl (lv_at hl 0 rfl) ?_
    refine va_get (D := D) (ci := 7) (v := .int mnu_25) (C := RX7) (T := TX7) (N := 17) hx hb hts iw_X7 hown hK hP26 0 rfl rfl 7 (by decide) (hts (.fieldLink RX7 41 "VarianceBridgeModel" "number" "I") (by decide +kernel)) (fun _ h9 => h9) rfl dX7_readSet_19 ?_
    refine lv_aload_n hx hb dX7_readSet_22 rfl (lv_at hl 0 rfl) ?_
    refine va_get (D := D) (ci := 7) (v := .ref aMr) (C := RX7) (T := TX7) (N := 17) hx hb hts iw_X7 hown hK hP26 0 rfl rfl 12 (by decide) (hts (.fieldLink RX7 67 "VarianceBridgeModel" "read" "[I") (by decide +kernel)) (fun _ h9 => h9) rfl dX7_readSet_23 ?_
    refine lv_iconst (v := (1 : Int32)) hx hb dX7_readSet_26 (by decide) ?_
    obtain ⟨c30, hm31⟩ := zz_no hm28
    refine va_iald hx hb hK hP26 3 0 rfl rfl c30 dX7_readSet_27 ?_
    refine lv_icmp_ge (tgt := 47) hx hb dX7_readSet_28 (by decide) (fun c32 => ?_) (fun c32 => ?_)
    · have hm33 := zz_if c32 hm31
      exact hk_47 mto_25 mfr_25 mso_25 mnu_25 mfa mpl mwo_25 mgo mre mis hm33 ls H26 lo26 (lv_sub hl [0] rfl) hP26 hD26 hS26
    · have hm34 := zz_nf c32 hm31
      refine lv_aload_n hx hb dX7_readSet_31 rfl (lv_at hl 0 rfl) ?_
      refine va_get (D := D) (ci := 7) (v := .ref aMr) (C := RX7) (T := TX7) (N := 17) hx hb hts iw_X7 hown hK hP26 0 rfl rfl 12 (by decide) (hts (.fieldLink RX7 67 "VarianceBridgeModel" "read" "[I") (by decide +kernel)) (fun _ h9 => h9) rfl dX7_readSet_32 ?_
      refine lv_bipush (v := (22 : Int32)) hx hb dX7_readSet_35 (by decide) ?_
      refine lv_aload_n hx hb dX7_readSet_37 rfl (lv_at hl 0 rfl) ?_
      refine va_get (D := D) (ci := 7) (v := .int mnu_25) (C := RX7) (T := TX7) (N := 17) hx hb hts iw_X7 hown hK hP26 0 rfl rfl 7 (by decide) (hts (.fieldLink RX7 41 "VarianceBridgeModel" "number" "I") (by decide +kernel)) (fun _ h9 => h9) rfl dX7_readSet_38 ?_
      refine lv_iadd hx hb dX7_readSet_41 ?_
      obtain ⟨c35, hm36⟩ := zz_no hm34
      refine va_iald hx hb hK hP26 3 0 rfl rfl c35 dX7_readSet_42 ?_
      refine lv_iconst (v := (1 : Int32)) hx hb dX7_readSet_43 (by decide) ?_
      refine lv_icmp_ne (tgt := 53) hx hb dX7_readSet_44 (by decide) (fun c37 => ?_) (fun c37 => ?_)
      · have hm38 := zz_nf c37 hm36
        refine lv_aload_n hx hb dX7_readSet_53 rfl (lv_at hl 0 rfl) ?_
        refine va_get (D := D) (ci := 7) (v := .int mnu_25) (C := RX7) (T := TX7) (N := 17) hx hb hts iw_X7 hown hK hP26 0 rfl rfl 7 (by decide) (hts (.fieldLink RX7 41 "VarianceBridgeModel" "number" "I") (by decide +kernel)) (fun _ h9 => h9) rfl dX7_readSet_54 ?_
        refine lv_istore_n (lv' := [(1, .int mnu_25), (0, .ref aM)]) hx hb dX7_readSet_57 rfl hl (by decide) rfl (fun ls40 hl40 => ?_)
        refine lv_aload_n hx hb dX7_readSet_58 rfl (lv_at hl40 1 rfl) ?_
        obtain ⟨mto_41, mfr_41, mso_41, mnu_41, mwo_41, h41, hm41⟩ := ob5_e hm38
        refine gcall_v (ws' := (w_Model cI cB cZ aM aMt aMn aMr aMs aMi mth mtd msz mto_41 mfr_41 mso_41 mnu_41 mfa mpl mwo_41 msm mgo mt mno mre msn mis)) (va_runV (As := []) (rest := []) ⟨hx, hb, hml, hown, hts⟩ (c_X7_go l D cI cB cZ ta aM aMt aMn aMr aMs aMi H26.size mth mtd msz mto_25 mfr_25 mso_25 mnu_25 mfa mpl mwo_25 msm mgo mt mno mre msn mis mto_41 mfr_41 mso_41 mnu_41 mwo_41 h41) (cwV 0 hts gX7_readSet_X7_go rfl rfl rfl (by decide +kernel) ⟨(Nat.le_of_ble_eq_true rfl), (Nat.le_of_ble_eq_true rfl)⟩) ⟨PW_blind, va_recv hK hP26 rfl (q0 := 0) rfl, PW_at hP26 hD26 hK hS26 hA hG [0, 1, 2, 3, 4, 5] rfl (by decide)⟩ rfl rfl hl40.1 rfl (lv_room (Nat.le_of_ble_eq_true rfl)) dX7_readSet_59 ⟨(Nat.le_of_ble_eq_true rfl), (Nat.le_of_ble_eq_true rfl)⟩) hP26 hD26 hS26 hA [0, 1, 2, 3, 4, 5] [] [0, 1, 2, 3, 4, 5] rfl rfl (by decide) (by decide) (by decide) rfl (fun H42 lo42 hP42 hD42 hS42 => ?_)
        clear hP26 hD26 hS26
        refine lv_aload_n hx hb dX7_readSet_62 rfl (lv_at hl40 1 rfl) ?_
        refine va_get (D := D) (ci := 7) (v := .int mso_41) (C := RX7) (T := TX7) (N := 17) hx hb hts iw_X7 hown hK hP42 0 rfl rfl 6 (by decide) (hts (.fieldLink RX7 27 "VarianceBridgeModel" "sort" "I") (by decide +kernel)) (fun _ h9 => h9) rfl dX7_readSet_63 ?_
        refine lv_iconst (v := (3 : Int32)) hx hb dX7_readSet_66 (by decide) ?_
        refine lv_icmp_eq (tgt := 76) hx hb dX7_readSet_67 (by decide) (fun c43 => ?_) (fun c43 => ?_)
        · have hm44 := zz_if c43 hm41
          refine lv_aload_n hx hb dX7_readSet_76 rfl (lv_at hl40 1 rfl) ?_
          refine va_get (D := D) (ci := 7) (v := .int mnu_41) (C := RX7) (T := TX7) (N := 17) hx hb hts iw_X7 hown hK hP42 0 rfl rfl 7 (by decide) (hts (.fieldLink RX7 41 "VarianceBridgeModel" "number" "I") (by decide +kernel)) (fun _ h9 => h9) rfl dX7_readSet_77 ?_
          refine lv_aload_n hx hb dX7_readSet_80 rfl (lv_at hl40 1 rfl) ?_
          refine va_get (D := D) (ci := 7) (v := .ref aMr) (C := RX7) (T := TX7) (N := 17) hx hb hts iw_X7 hown hK hP42 0 rfl rfl 12 (by decide) (hts (.fieldLink RX7 67 "VarianceBridgeModel" "read" "[I") (by decide +kernel)) (fun _ h9 => h9) rfl dX7_readSet_81 ?_
          refine lv_iconst (v := (0 : Int32)) hx hb dX7_readSet_84 (by decide) ?_
          obtain ⟨c46, hm47⟩ := zz_no hm44
          refine va_iald hx hb hK hP42 3 0 rfl rfl c46 dX7_readSet_85 ?_
          refine lv_icmp_ge (tgt := 105) hx hb dX7_readSet_86 (by decide) (fun c48 => ?_) (fun c48 => ?_)
          · have hm49 := zz_if c48 hm47
            exact hk_105 mto_41 mfr_41 mso_41 mnu_41 mfa mpl mwo_41 mgo mre mis hm49 ls40 H42 lo42 (lv_sub hl40 [1] rfl) hP42 hD42 hS42
          · have hm50 := zz_nf c48 hm47
            refine lv_aload_n hx hb dX7_readSet_89 rfl (lv_at hl40 1 rfl) ?_
            refine va_get (D := D) (ci := 7) (v := .ref aMi) (C := RX7) (T := TX7) (N := 17) hx hb hts iw_X7 hown hK hP42 0 rfl rfl 16 (by decide) (hts (.fieldLink RX7 73 "VarianceBridgeModel" "isSet" "[Z") (by decide +kernel)) (fun _ h9 => h9) rfl dX7_readSet_90 ?_
            refine lv_iconst (v := (4 : Int32)) hx hb dX7_readSet_93 (by decide) ?_
            refine lv_iload_n hx hb dX7_readSet_94 rfl (lv_at hl40 0 rfl) ?_
            refine lv_imul hx hb dX7_readSet_95 ?_
            refine lv_aload_n hx hb dX7_readSet_96 rfl (lv_at hl40 1 rfl) ?_
            refine va_get (D := D) (ci := 7) (v := .int mnu_41) (C := RX7) (T := TX7) (N := 17) hx hb hts iw_X7 hown hK hP42 0 rfl rfl 7 (by decide) (hts (.fieldLink RX7 41 "VarianceBridgeModel" "number" "I") (by decide +kernel)) (fun _ h9 => h9) rfl dX7_readSet_97 ?_
            refine lv_iadd hx hb dX7_readSet_100 ?_
            obtain ⟨c51, hm52⟩ := zz_no hm50
            refine va_zald hx hb hK hP42 5 2 rfl rfl c51 dX7_readSet_101 ?_
            refine lv_if_eq (tgt := 111) hx hb dX7_readSet_102 (by decide) (fun c53 => ?_) (fun c53 => ?_)
            · have hm54 := zz_if c53 hm52
              refine lv_aload_n hx hb dX7_readSet_111 rfl (lv_at hl40 1 rfl) ?_
              refine va_get (D := D) (ci := 7) (v := .int mnu_41) (C := RX7) (T := TX7) (N := 17) hx hb hts iw_X7 hown hK hP42 0 rfl rfl 7 (by decide) (hts (.fieldLink RX7 41 "VarianceBridgeModel" "number" "I") (by decide +kernel)) (fun _ h9 => h9) rfl dX7_readSet_112 ?_
              refine lv_istore_n (lv' := [(2, .int mnu_41), (1, .int mnu_25), (0, .ref aM)]) hx hb dX7_readSet_115 rfl hl40 (by decide) rfl (fun ls56 hl56 => ?_)
              refine lv_aload_n hx hb dX7_readSet_116 rfl (lv_at hl56 2 rfl) ?_
              refine va_get (D := D) (ci := 7) (v := .ref aMi) (C := RX7) (T := TX7) (N := 17) hx hb hts iw_X7 hown hK hP42 0 rfl rfl 16 (by decide) (hts (.fieldLink RX7 73 "VarianceBridgeModel" "isSet" "[Z") (by decide +kernel)) (fun _ h9 => h9) rfl dX7_readSet_117 ?_
              refine lv_iconst (v := (4 : Int32)) hx hb dX7_readSet_120 (by decide) ?_
              refine lv_iload_n hx hb dX7_readSet_121 rfl (lv_at hl56 1 rfl) ?_
              refine lv_imul hx hb dX7_readSet_122 ?_
              refine lv_iload_n hx hb dX7_readSet_123 rfl (lv_at hl56 0 rfl) ?_
              refine lv_iadd hx hb dX7_readSet_124 ?_
              refine lv_iconst (v := (1 : Int32)) hx hb dX7_readSet_125 (by decide) ?_
              obtain ⟨c57, hm58⟩ := zz_no hm54
              refine va_zast hx hb hK hP42 hD42 hS42 5 2 rfl rfl c57 dX7_readSet_126 (fun H59 lo59 hP59 hD59 hS59 => ?_)
              replace hP59 : va_P D vwCl (w_Model cI cB cZ aM aMt aMn aMr aMs aMi mth mtd msz mto_41 mfr_41 mso_41 mnu_41 mfa mpl mwo_41 msm mgo mt mno mre msn (upd mis (((4 : Int32) * mnu_25) + mnu_41).toNatClampNeg (vp_nar .boolean (1 : Int32)))) H59 := hP59
              replace hD59 : va_D A (w_Model cI cB cZ aM aMt aMn aMr aMs aMi mth mtd msz mto_41 mfr_41 mso_41 mnu_41 mfa mpl mwo_41 msm mgo mt mno mre msn (upd mis (((4 : Int32) * mnu_25) + mnu_41).toNatClampNeg (vp_nar .boolean (1 : Int32)))) := hD59
              clear hP42 hD42 hS42
              refine lv_aload_n hx hb dX7_readSet_127 rfl (lv_at hl56 2 rfl) ?_
              obtain ⟨mto_60, mfr_60, mso_60, mnu_60, mwo_60, h60, hm60⟩ := ob5_e hm58
              refine gcall_v (ws' := (w_Model cI cB cZ aM aMt aMn aMr aMs aMi mth mtd msz mto_60 mfr_60 mso_60 mnu_60 mfa mpl mwo_60 msm mgo mt mno mre msn (upd mis (((4 : Int32) * mnu_25) + mnu_41).toNatClampNeg (vp_nar .boolean (1 : Int32))))) (va_runV (As := []) (rest := []) ⟨hx, hb, hml, hown, hts⟩ (c_X7_go l D cI cB cZ ta aM aMt aMn aMr aMs aMi H59.size mth mtd msz mto_41 mfr_41 mso_41 mnu_41 mfa mpl mwo_41 msm mgo mt mno mre msn (upd mis (((4 : Int32) * mnu_25) + mnu_41).toNatClampNeg (vp_nar .boolean (1 : Int32))) mto_60 mfr_60 mso_60 mnu_60 mwo_60 h60) (cwV 0 hts gX7_readSet_X7_go rfl rfl rfl (by decide +kernel) ⟨(Nat.le_of_ble_eq_true rfl), (Nat.le_of_ble_eq_true rfl)⟩) ⟨PW_blind, va_recv hK hP59 rfl (q0 := 0) rfl, PW_at hP59 hD59 hK hS59 hA hG [0, 1, 2, 3, 4, 5] rfl (by decide)⟩ rfl rfl hl56.1 rfl (lv_room (Nat.le_of_ble_eq_true rfl)) dX7_readSet_128 ⟨(Nat.le_of_ble_eq_true rfl), (Nat.le_of_ble_eq_true rfl)⟩) hP59 hD59 hS59 hA [0, 1, 2, 3, 4, 5] [] [0, 1, 2, 3, 4, 5] rfl rfl (by decide) (by decide) (by decide) rfl (fun H61 lo61 hP61 hD61 hS61 => ?_)
              clear hP59 hD59 hS59
              refine lv_iconst (v := (0 : Int32)) hx hb dX7_readSet_131 (by decide) ?_
              refine lv_istore_n (lv' := [(3, .int (0 : Int32)), (2, .int mnu_41), (1, .int mnu_25), (0, .ref aM)]) hx hb dX7_readSet_132 rfl hl56 (by decide) rfl (fun ls62 hl62 => ?_)
              exact hk_133 FU mto_60 mfr_60 mso_60 mnu_60 mfa mpl mwo_60 mgo mre (upd mis (((4 : Int32) * mnu_25) + mnu_41).toNatClampNeg (vp_nar .boolean (1 : Int32))) mnu_25 mnu_41 (0 : Int32) hm60 ls62 H61 lo61 (lv_sub hl62 [3, 2, 1, 0] rfl) hP61 hD61 hS61
            · have hm55 := zz_nf c53 hm52
              exact hk_105 mto_41 mfr_41 mso_41 mnu_41 mfa mpl mwo_41 mgo mre mis hm55 ls40 H42 lo42 (lv_sub hl40 [1] rfl) hP42 hD42 hS42
        · have hm45 := zz_nf c43 hm41
          refine lv_aload_n hx hb dX7_readSet_70 rfl (lv_at hl40 1 rfl) ?_
          refine lv_iconst (v := (1 : Int32)) hx hb dX7_readSet_71 (by decide) ?_
          obtain ⟨r63, mfa_63, mpl_63, h63, hm63⟩ := ob3_e hm45
          refine gcall_b (ws' := (w_Model cI cB cZ aM aMt aMn aMr aMs aMi mth mtd msz mto_41 mfr_41 mso_41 mnu_41 mfa_63 mpl_63 mwo_41 msm mgo mt mno mre msn mis)) (va_runV (As := [.int (1 : Int32)]) (rest := []) ⟨hx, hb, hml, hown, hts⟩ (c_X7_bad l D cI cB cZ ta aM aMt aMn aMr aMs aMi H42.size mth mtd msz mto_41 mfr_41 mso_41 mnu_41 mfa mpl mwo_41 msm mgo mt mno mre msn mis (1 : Int32) r63 mfa_63 mpl_63 h63) (cwV 1 hts gX7_readSet_X7_bad rfl rfl rfl (by decide +kernel) ⟨(Nat.le_of_ble_eq_true rfl), (Nat.le_of_ble_eq_true rfl)⟩) ⟨PW_blind, va_recv hK hP42 rfl (q0 := 0) rfl, PW_at hP42 hD42 hK hS42 hA hG [0, 1, 2, 3, 4, 5] rfl (by decide)⟩ rfl rfl hl40.1 rfl (lv_room (Nat.le_of_ble_eq_true rfl)) dX7_readSet_72 ⟨(Nat.le_of_ble_eq_true rfl), (Nat.le_of_ble_eq_true rfl)⟩) hP42 hD42 hS42 hA [0, 1, 2, 3, 4, 5] [] [0, 1, 2, 3, 4, 5] rfl rfl (by decide) (by decide) (by decide) rfl (fun H64 lo64 hz63 hP64 hD64 hS64 => ?_)
          clear hP42 hD42 hS42
          obtain ⟨hq1, hq99⟩ := Prod.mk.inj (Option.some.inj hm63)
          obtain ⟨hq2, hq99⟩ := Prod.mk.inj (hq99)
          obtain ⟨hq3, hq99⟩ := Prod.mk.inj (hq99)
          obtain ⟨hq4, hq99⟩ := Prod.mk.inj (hq99)
          obtain ⟨hq5, hq99⟩ := Prod.mk.inj (hq99)
          obtain ⟨hq6, hq99⟩ := Prod.mk.inj (hq99)
          obtain ⟨hq7, hq99⟩ := Prod.mk.inj (hq99)
          obtain ⟨hq8, hq99⟩ := Prod.mk.inj (hq99)
          obtain ⟨hq9, hq99⟩ := Prod.mk.inj (hq99)
          obtain ⟨hq10, hq11⟩ := Prod.mk.inj (hq99)
          subst hq1
          subst hq2
          subst hq3
          subst hq4
          subst hq5
          subst hq6
          subst hq7
          subst hq8
          subst hq9
          subst hq10
          subst hq11
          exact W.zret (ty := .boolean) hx hb hr hz63 (fun t ht hW => ⟨⟨_, (), rfl, ⟨rfl, hz63⟩, by rw [ht]; exact hP64, va_K.moved hW.alike hK, hD64⟩, hS64.F ht⟩) hS64.2.2 dX7_readSet_75
      · have hm39 := zz_if c37 hm36
        exact hk_47 mto_25 mfr_25 mso_25 mnu_25 mfa mpl mwo_25 mgo mre mis hm39 ls H26 lo26 (lv_sub hl [0] rfl) hP26 hD26 hS26
  · have hm29 := zz_nf c27 hm25
    refine lv_aload_n hx hb dX7_readSet_12 rfl (lv_at hl 0 rfl) ?_
    refine lv_iconst (v := (1 : Int32)) hx hb dX7_readSet_13 (by decide) ?_
    obtain ⟨r65, mfa_65, mpl_65, h65, hm65⟩ := ob3_e hm29
    refine gcall_b (ws' := (w_Model cI cB cZ aM aMt aMn aMr aMs aMi mth mtd msz mto_25 mfr_25 mso_25 mnu_25 mfa_65 mpl_65 mwo_25 msm mgo mt mno mre msn mis)) (va_runV (As := [.int (1 : Int32)]) (rest := []) ⟨hx, hb, hml, hown, hts⟩ (c_X7_bad l D cI cB cZ ta aM aMt aMn aMr aMs aMi H26.size mth mtd msz mto_25 mfr_25 mso_25 mnu_25 mfa mpl mwo_25 msm mgo mt mno mre msn mis (1 : Int32) r65 mfa_65 mpl_65 h65) (cwV 1 hts gX7_readSet_X7_bad rfl rfl rfl (by decide +kernel) ⟨(Nat.le_of_ble_eq_true rfl), (Nat.le_of_ble_eq_true rfl)⟩) ⟨PW_blind, va_recv hK hP26 rfl (q0 := 0) rfl, PW_at hP26 hD26 hK hS26 hA hG [0, 1, 2, 3, 4, 5] rfl (by decide)⟩ rfl rfl hl.1 rfl (lv_room (Nat.le_of_ble_eq_true rfl)) dX7_readSet_14 ⟨(Nat.le_of_ble_eq_true rfl), (Nat.le_of_ble_eq_true rfl)⟩) hP26 hD26 hS26 hA [0, 1, 2, 3, 4, 5] [] [0, 1, 2, 3, 4, 5] rfl rfl (by decide) (by decide) (by decide) rfl (fun H66 lo66 hz65 hP66 hD66 hS66 => ?_)
    clear hP26 hD26 hS26
    obtain ⟨hq1, hq99⟩ := Prod.mk.inj (Option.some.inj hm65)
    obtain ⟨hq2, hq99⟩ := Prod.mk.inj (hq99)
    obtain ⟨hq3, hq99⟩ := Prod.mk.inj (hq99)
    obtain ⟨hq4, hq99⟩ := Prod.mk.inj (hq99)
    obtain ⟨hq5, hq99⟩ := Prod.mk.inj (hq99)
    obtain ⟨hq6, hq99⟩ := Prod.mk.inj (hq99)
    obtain ⟨hq7, hq99⟩ := Prod.mk.inj (hq99)
    obtain ⟨hq8, hq99⟩ := Prod.mk.inj (hq99)
    obtain ⟨hq9, hq99⟩ := Prod.mk.inj (hq99)
    obtain ⟨hq10, hq11⟩ := Prod.mk.inj (hq99)
    subst hq1
    subst hq2
    subst hq3
    subst hq4
    subst hq5
    subst hq6
    subst hq7
    subst hq8
    subst hq9
    subst hq10
    subst hq11
    exact W.zret (ty := .boolean) hx hb hr hz65 (fun t ht hW => ⟨⟨_, (), rfl, ⟨rfl, hz65⟩, by rw [ht]; exact hP66, va_K.moved hW.alike hK, hD66⟩, hS66.F ht⟩) hS66.2.2 dX7_readSet_17
