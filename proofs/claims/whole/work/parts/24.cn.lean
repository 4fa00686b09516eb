theorem iw_X7_undo_X7 : ∀ w ∈ wsX70, w ∈ wsX7_undo := by decide +kernel
set_option maxHeartbeats 4000000 in
set_option maxRecDepth 100000 in
theorem c_X7_undo (l : Launch) (D : va_G) (cI cB cZ : ClassId) (ta : Nat → Nat) (aM : Nat) (aMt : Nat) (aMn : Nat) (aMr : Nat) (aMs : Nat) (aMi : Nat) (sz : Nat) (mth : Int32) (mtd : Int32) (msz : Int32) (mto : Int32) (mfr : Int32) (mso : Int32) (mnu : Int32) (mfa : Int32) (mpl : Int32) (mwo : Int64) (msm : Int32) (mgo : Int32) (mt : (Nat → Int32)) (mno : (Nat → Int32)) (mre : (Nat → Int32)) (msn : (Nat → Int32)) (mis : (Nat → Int32)) (r0 : Int32) (u_mth : Int32) (u_msm : Int32) (u_mno : (Nat → Int32)) (hm : m_X7_undo mth msm mno msn = some (r0, u_mth, u_msm, u_mno)) : Met l yX7_undo wsX7_undo ({ frames := 0, cells := 0, slots := 0, locals := 0 } : Room) (va_Pc [.ref aM] (PW D cI cB cZ ta (w_Model cI cB cZ aM aMt aMn aMr aMs aMi mth mtd msz mto mfr mso mnu mfa mpl mwo msm mgo mt mno mre msn mis) sz)) (QI D cI cB cZ (va_A (w_Model cI cB cZ aM aMt aMn aMr aMs aMi mth mtd msz mto mfr mso mnu mfa mpl mwo msm mgo mt mno mre msn mis) sz) (w_Model cI cB cZ aM aMt aMn aMr aMs aMi u_mth mtd msz mto mfr mso mnu mfa mpl mwo u_msm mgo mt u_mno mre msn mis) r0) 0 0 (va_A (w_Model cI cB cZ aM aMt aMn aMr aMs aMi mth mtd msz mto mfr mso mnu mfa mpl mwo msm mgo mt mno mre msn mis) sz) := by
  refine Met.ofW (cc := cX7_undo) (maxL := 2) (ret := (some .int)) (by decide) rfl ?_
  intro p e s m args below meth c s₁ B hml hv
  obtain ⟨rfl, hsz, hP, hK, hD0, hG⟩ := hv
  have hx := B.exec
  have hb := B.bytes
  have hr := B.returns
  have hts := atoms_spec (ws := wsX7_undo) B.pre
  have hown : s.vm.findClass RX7 = some m.cls := findClass_of_methodNamed B.named
  have hlocks := B.notSynchronized
  subst hsz
  have hD := hD0.self (sz := s.heap.size)
  clear hD0
  have hA0 : ∀ q : Nat, s.heap.size ≤ q → va_A (w_Model cI cB cZ aM aMt aMn aMr aMs aMi mth mtd msz mto mfr mso mnu mfa mpl mwo msm mgo mt mno mre msn mis) s.heap.size q := fun q h => Or.inr h
  generalize hAe : va_A (w_Model cI cB cZ aM aMt aMn aMr aMs aMi mth mtd msz mto mfr mso mnu mfa mpl mwo msm mgo mt mno mre msn mis) s.heap.size = A at hD hG hA0 ⊢
  have hA : ∀ q : Nat, s.heap.size ≤ q → A q := hA0
  clear hA0
  have hS : va_S A s.heap s.heap [] := va_S.rf
  have iw_X7 := iw_X7_undo_X7
  have hk_26 : ∀ (n : Nat) (mth : Int32) (msm : Int32) (mno : (Nat → Int32)) (y1 : Int32), k_X7_undo_26 msn n mth msm mno y1 = some (r0, u_mth, u_msm, u_mno) → ∀ (ls : Array Slot) (H : Heap) (lo : List Loc), lv_has ls 2 [(0, .ref aM), (1, .int y1)] → va_P D vwCl (w_Model cI cB cZ aM aMt aMn aMr aMs aMi mth mtd msz mto mfr mso mnu mfa mpl mwo msm mgo mt mno mre msn mis) H → va_D A (w_Model cI cB cZ aM aMt aMn aMr aMs aMi mth mtd msz mto mfr mso mnu mfa mpl mwo msm mgo mt mno mre msn mis) → va_S A s.heap H lo → W p l e (headSpec wsX7_undo ({ frames := 0, cells := 0, slots := 0, locals := 0 } : Room)).room s m (([.ref aM] : List Value).toArray) below meth c H lo 0 0 (MQ below (QI D cI cB cZ A (w_Model cI cB cZ aM aMt aMn aMr aMs aMi u_mth mtd msz mto mfr mso mnu mfa mpl mwo u_msm mgo mt u_mno mre msn mis) r0) (([.ref aM] : List Value).toArray) s 0 0 A) (F0 m 26 ls []) := by
    intro n
    induction n with
    | zero => intro mth msm mno y1 hm; exact zz_nn hm
    | succ n ih =>
      intro mth msm mno y1 hm ls H lo hl hP hD hS
      replace hm := (k_X7_undo_26_s msn n mth msm mno y1).symm.trans hm
      refine lv_iload_n hx hb dX7_undo_26 rfl (lv_at hl 1 rfl) ?_
      refine lv_sipush (v := (442 : Int32)) hx hb dX7_undo_27 (by decide) ?_
      refine lv_icmp_ge (tgt := 60) hx hb dX7_undo_30 (by decide) (fun c1 => ?_) (fun c1 => ?_)
      · have hm2 := zz_if c1 hm
        refine lv_aload_n hx hb dX7_undo_60 rfl (lv_at hl 0 rfl) ?_
        refine va_get (D := D) (ci := 7) (v := .int msm) (C := RX7) (T := TX7) (N := 17) hx hb hts iw_X7 hown hK hP 0 rfl rfl 14 (by decide) (hts (.fieldLink RX7 147 "VarianceBridgeModel" "snapMany" "I") (by decide +kernel)) (fun _ h9 => h9) rfl dX7_undo_61 ?_
        obtain ⟨hq1, hq99⟩ := Prod.mk.inj (Option.some.inj hm2)
        obtain ⟨hq2, hq99⟩ := Prod.mk.inj (hq99)
        obtain ⟨hq3, hq4⟩ := Prod.mk.inj (hq99)
        subst hq1
        subst hq2
        subst hq3
        subst hq4
        exact W.iret hx hb hr (fun t ht hW => ⟨⟨_, (), rfl, rfl, by rw [ht]; exact hP, va_K.moved hW.alike hK, hD⟩, hS.F ht⟩) hS.2.2 dX7_undo_64
      · have hm3 := zz_nf c1 hm
        refine lv_aload_n hx hb dX7_undo_33 rfl (lv_at hl 0 rfl) ?_
        refine va_get (D := D) (ci := 7) (v := .ref aMn) (C := RX7) (T := TX7) (N := 17) hx hb hts iw_X7 hown hK hP 0 rfl rfl 11 (by decide) (hts (.fieldLink RX7 64 "VarianceBridgeModel" "now" "[I") (by decide +kernel)) (fun _ h9 => h9) rfl dX7_undo_34 ?_
        refine lv_iload_n hx hb dX7_undo_37 rfl (lv_at hl 1 rfl) ?_
        refine lv_aload_n hx hb dX7_undo_38 rfl (lv_at hl 0 rfl) ?_
        refine va_get (D := D) (ci := 7) (v := .ref aMs) (C := RX7) (T := TX7) (N := 17) hx hb hts iw_X7 hown hK hP 0 rfl rfl 13 (by decide) (hts (.fieldLink RX7 70 "VarianceBridgeModel" "snaps" "[I") (by decide +kernel)) (fun _ h9 => h9) rfl dX7_undo_39 ?_
        refine lv_sipush (v := (442 : Int32)) hx hb dX7_undo_42 (by decide) ?_
        refine lv_aload_n hx hb dX7_undo_45 rfl (lv_at hl 0 rfl) ?_
        refine va_get (D := D) (ci := 7) (v := .int msm) (C := RX7) (T := TX7) (N := 17) hx hb hts iw_X7 hown hK hP 0 rfl rfl 14 (by decide) (hts (.fieldLink RX7 147 "VarianceBridgeModel" "snapMany" "I") (by decide +kernel)) (fun _ h9 => h9) rfl dX7_undo_46 ?_
        refine lv_imul hx hb dX7_undo_49 ?_
        refine lv_iload_n hx hb dX7_undo_50 rfl (lv_at hl 1 rfl) ?_
        refine lv_iadd hx hb dX7_undo_51 ?_
        obtain ⟨c4, hm5⟩ := zz_no hm3
        refine va_iald hx hb hK hP 4 0 rfl rfl c4 dX7_undo_52 ?_
        obtain ⟨c6, hm7⟩ := zz_no hm5
        refine va_iast hx hb hK hP hD hS 2 0 rfl rfl c6 dX7_undo_53 (fun H8 lo8 hP8 hD8 hS8 => ?_)
        replace hP8 : va_P D vwCl (w_Model cI cB cZ aM aMt aMn aMr aMs aMi mth mtd msz mto mfr mso mnu mfa mpl mwo msm mgo mt (upd mno y1.toNatClampNeg (msn (((442 : Int32) * msm) + y1).toNatClampNeg)) mre msn mis) H8 := hP8
        replace hD8 : va_D A (w_Model cI cB cZ aM aMt aMn aMr aMs aMi mth mtd msz mto mfr mso mnu mfa mpl mwo msm mgo mt (upd mno y1.toNatClampNeg (msn (((442 : Int32) * msm) + y1).toNatClampNeg)) mre msn mis) := hD8
        clear hP hD hS
        refine lv_iinc (v := (y1 + (1 : Int32))) (lv' := [(1, .int (y1 + (1 : Int32))), (0, .ref aM)]) hx hb dX7_undo_54 hl (k := 1) rfl (by rfl) (by decide) rfl (fun ls9 hl9 => ?_)
        refine lv_goto (tgt := 26) hx hb dX7_undo_57 (by decide) ?_
        exact ih mth msm (upd mno y1.toNatClampNeg (msn (((442 : Int32) * msm) + y1).toNatClampNeg)) (y1 + (1 : Int32)) hm7 ls9 H8 lo8 (lv_sub hl9 [1, 0] rfl) hP8 hD8 hS8
  have hl := lv_entry ([.ref aM]) (n := 2) (Nat.le_of_ble_eq_true rfl)
  rw [lg_entry_eq]
  generalize (lg_sl ([.ref aM]) ++ List.replicate (2 - (lg_sl ([.ref aM])).length) Slot.unset).toArray = ls at hl ⊢
  have hl : lv_has ls 2 [(0, .ref aM)] := hl
  replace hm : (if msm = 0 then some ((-1 : Int32), (0 : Int32), msm, mno) else (k_X7_undo_26 msn FU (0 : Int32) (msm - (1 : Int32)) mno (0 : Int32))) = some (r0, u_mth, u_msm, u_mno) := hm
  refine lv_aload_n hx hb dX7_undo_0 rfl (lv_at hl 0 rfl) ?_
  refine lv_iconst (v := (0 : Int32)) hx hb dX7_undo_1 (by decide) ?_
  refine va_put (D := D) (ci := 7) (v := .int (0 : Int32)) (ty := .int) (C := RX7) (T := TX7) (N := 17) hx hb hts iw_X7 tyX7 tyX7_ok nmX7 hown hK hP hD hS 0 rfl rfl 0 (by decide) (hts (.fieldLink RX7 1 "VarianceBridgeModel" "thrown" "I") (by decide +kernel)) (fun _ h9 => h9) rfl (by decide +kernel) rfl rfl (Nat.le_of_ble_eq_true rfl) dX7_undo_2 (fun H10 lo10 hP10 hD10 hS10 => ?_)
  replace hP10 : va_P D vwCl (w_Model cI cB cZ aM aMt aMn aMr aMs aMi (0 : Int32) mtd msz mto mfr mso mnu mfa mpl mwo msm mgo mt mno mre msn mis) H10 := hP10
  replace hD10 : va_D A (w_Model cI cB cZ aM aMt aMn aMr aMs aMi (0 : Int32) mtd msz mto mfr mso mnu mfa mpl mwo msm mgo mt mno mre msn mis) := hD10
  clear hP hD hS
  refine lv_aload_n hx hb dX7_undo_5 rfl (lv_at hl 0 rfl) ?_
  refine va_get (D := D) (ci := 7) (v := .int msm) (C := RX7) (T := TX7) (N := 17) hx hb hts iw_X7 hown hK hP10 0 rfl rfl 14 (by decide) (hts (.fieldLink RX7 147 "VarianceBridgeModel" "snapMany" "I") (by decide +kernel)) (fun _ h9 => h9) rfl dX7_undo_6 ?_
  refine lv_if_ne (tgt := 14) hx hb dX7_undo_9 (by decide) (fun c11 => ?_) (fun c11 => ?_)
  · have hm12 := zz_nf c11 hm
    refine lv_aload_n hx hb dX7_undo_14 rfl (lv_at hl 0 rfl) ?_
    refine lv_dup hx hb dX7_undo_15 rfl ?_
    refine va_get (D := D) (ci := 7) (v := .int msm) (C := RX7) (T := TX7) (N := 17) hx hb hts iw_X7 hown hK hP10 0 rfl rfl 14 (by decide) (hts (.fieldLink RX7 147 "VarianceBridgeModel" "snapMany" "I") (by decide +kernel)) (fun _ h9 => h9) rfl dX7_undo_16 ?_
    refine lv_iconst (v := (1 : Int32)) hx hb dX7_undo_19 (by decide) ?_
    refine lv_isub hx hb dX7_undo_20 ?_
    refine va_put (D := D) (ci := 7) (v := .int (msm - (1 : Int32))) (ty := .int) (C := RX7) (T := TX7) (N := 17) hx hb hts iw_X7 tyX7 tyX7_ok nmX7 hown hK hP10 hD10 hS10 0 rfl rfl 14 (by decide) (hts (.fieldLink RX7 147 "VarianceBridgeModel" "snapMany" "I") (by decide +kernel)) (fun _ h9 => h9) rfl (by decide +kernel) rfl rfl (Nat.le_of_ble_eq_true rfl) dX7_undo_21 (fun H14 lo14 hP14 hD14 hS14 => ?_)
    replace hP14 : va_P D vwCl (w_Model cI cB cZ aM aMt aMn aMr aMs aMi (0 : Int32) mtd msz mto mfr mso mnu mfa mpl mwo (msm - (1 : Int32)) mgo mt mno mre msn mis) H14 := hP14
    replace hD14 : va_D A (w_Model cI cB cZ aM aMt aMn aMr aMs aMi (0 : Int32) mtd msz mto mfr mso mnu mfa mpl mwo (msm - (1 : Int32)) mgo mt mno mre msn mis) := hD14
    clear hP10 hD10 hS10
    refine lv_iconst (v := (0 : Int32)) hx hb dX7_undo_24 (by decide) ?_
    refine lv_istore_n (lv' := [(1, .int (0 : Int32)), (0, .ref aM)]) hx hb dX7_undo_25 rfl hl (by decide) rfl (fun ls15 hl15 => ?_)
    exact hk_26 FU (0 : Int32) (msm - (1 : Int32)) mno (0 : Int32) hm12 ls15 H14 lo14 (lv_sub hl15 [1, 0] rfl) hP14 hD14 hS14
  · have hm13 := zz_if c11 hm
    refine lv_iconst (v := (-1 : Int32)) hx hb dX7_undo_12 (by decide) ?_
    obtain ⟨hq1, hq99⟩ := Prod.mk.inj (Option.some.inj hm13)
    obtain ⟨hq2, hq99⟩ := Prod.mk.inj (hq99)
    obtain ⟨hq3, hq4⟩ := Prod.mk.inj (hq99)
    subst hq1
    subst hq2
    subst hq3
    subst hq4
    exact W.iret hx hb hr (fun t ht hW => ⟨⟨_, (), rfl, rfl, by rw [ht]; exact hP10, va_K.moved hW.alike hK, hD10⟩, hS10.F ht⟩) hS10.2.2 dX7_undo_13
