theorem iw_X7_branch_X7 : ∀ w ∈ wsX70, w ∈ wsX7_branch := by decide +kernel
set_option maxHeartbeats 4000000 in
set_option maxRecDepth 100000 in
theorem c_X7_branch (l : Launch) (D : va_G) (cI cB cZ : ClassId) (ta : Nat → Nat) (aM : Nat) (aMt : Nat) (aMn : Nat) (aMr : Nat) (aMs : Nat) (aMi : Nat) (sz : Nat) (mth : Int32) (mtd : Int32) (msz : Int32) (mto : Int32) (mfr : Int32) (mso : Int32) (mnu : Int32) (mfa : Int32) (mpl : Int32) (mwo : Int64) (msm : Int32) (mgo : Int32) (mt : (Nat → Int32)) (mno : (Nat → Int32)) (mre : (Nat → Int32)) (msn : (Nat → Int32)) (mis : (Nat → Int32)) (x1 : Int32) (x2 : Int32) (r0 : Int32) (u_mth : Int32) (hm : m_X7_branch mth mno x1 x2 = some (r0, u_mth)) : Met l yX7_branch wsX7_branch ({ frames := 6, cells := 0, slots := 0, locals := 144 } : Room) (va_Pc [.ref aM, .int x1, .int x2] (PW D cI cB cZ ta (w_Model cI cB cZ aM aMt aMn aMr aMs aMi mth mtd msz mto mfr mso mnu mfa mpl mwo msm mgo mt mno mre msn mis) sz)) (QI D cI cB cZ (va_A (w_Model cI cB cZ aM aMt aMn aMr aMs aMi mth mtd msz mto mfr mso mnu mfa mpl mwo msm mgo mt mno mre msn mis) sz) (w_Model cI cB cZ aM aMt aMn aMr aMs aMi u_mth mtd msz mto mfr mso mnu mfa mpl mwo msm mgo mt mno mre msn mis) r0) 0 0 (va_A (w_Model cI cB cZ aM aMt aMn aMr aMs aMi mth mtd msz mto mfr mso mnu mfa mpl mwo msm mgo mt mno mre msn mis) sz) := by
  refine Met.ofW (cc := cX7_branch) (maxL := 5) (ret := (some .int)) (by decide) rfl ?_
  intro p e s m args below meth c s₁ B hml hv
  obtain ⟨rfl, hsz, hP, hK, hD0, hG⟩ := hv
  have hx := B.exec
  have hb := B.bytes
  have hr := B.returns
  have hts := atoms_spec (ws := wsX7_branch) B.pre
  have hown : s.vm.findClass RX7 = some m.cls := findClass_of_methodNamed B.named
  have hlocks := B.notSynchronized
  subst hsz
  have hD := hD0.self (sz := s.heap.size)
  clear hD0
  have hA0 : ∀ q : Nat, s.heap.size ≤ q → va_A (w_Model cI cB cZ aM aMt aMn aMr aMs aMi mth mtd msz mto mfr mso mnu mfa mpl mwo msm mgo mt mno mre msn mis) s.heap.size q := fun q h => Or.inr h
  generalize hAe : va_A (w_Model cI cB cZ aM aMt aMn aMr aMs aMi mth mtd msz mto mfr mso mnu mfa mpl mwo msm mgo mt mno mre msn mis) s.heap.size = A at hD hG hA0 ⊢
  have hA : ∀ q : Nat, s.heap.size ≤ q → A q := hA0
  clear hA0
  have hS : va_S A s.heap s.heap [] := va_S.rf
  have iw_X7 := iw_X7_branch_X7
  have hk_66 : ∀ (ct22 : Int32 → Int32 → Int32 → Int32 → Int32 → Option (Int32 × Int32)) (hct22 : ∀ (mth : Int32) (y1 : Int32) (y2 : Int32) (y3 : Int32) (y4 : Int32), ct22 mth y1 y2 y3 y4 = some (r0, u_mth) → ∀ (ls : Array Slot) (H : Heap) (lo : List Loc), lv_has ls 5 [(0, .ref aM), (1, .int y1), (2, .int y2), (3, .int y3), (4, .int y4)] → va_P D vwCl (w_Model cI cB cZ aM aMt aMn aMr aMs aMi mth mtd msz mto mfr mso mnu mfa mpl mwo msm mgo mt mno mre msn mis) H → va_D A (w_Model cI cB cZ aM aMt aMn aMr aMs aMi mth mtd msz mto mfr mso mnu mfa mpl mwo msm mgo mt mno mre msn mis) → va_S A s.heap H lo → W p l e (headSpec wsX7_branch ({ frames := 6, cells := 0, slots := 0, locals := 144 } : Room)).room s m (([.ref aM, .int x1, .int x2] : List Value).toArray) below meth c H lo 0 0 (MQ below (QI D cI cB cZ A (w_Model cI cB cZ aM aMt aMn aMr aMs aMi u_mth mtd msz mto mfr mso mnu mfa mpl mwo msm mgo mt mno mre msn mis) r0) (([.ref aM, .int x1, .int x2] : List Value).toArray) s 0 0 A) (F0 m 22 ls [])) (mth : Int32) (y1 : Int32) (y2 : Int32) (y4 : Int32), k_X7_branch_66 mno ct22 mth y1 y2 y4 = some (r0, u_mth) → ∀ (ls : Array Slot) (H : Heap) (lo : List Loc), lv_has ls 5 [(0, .ref aM), (1, .int y1), (2, .int y2), (4, .int y4)] → va_P D vwCl (w_Model cI cB cZ aM aMt aMn aMr aMs aMi mth mtd msz mto mfr mso mnu mfa mpl mwo msm mgo mt mno mre msn mis) H → va_D A (w_Model cI cB cZ aM aMt aMn aMr aMs aMi mth mtd msz mto mfr mso mnu mfa mpl mwo msm mgo mt mno mre msn mis) → va_S A s.heap H lo → W p l e (headSpec wsX7_branch ({ frames := 6, cells := 0, slots := 0, locals := 144 } : Room)).room s m (([.ref aM, .int x1, .int x2] : List Value).toArray) below meth c H lo 0 0 (MQ below (QI D cI cB cZ A (w_Model cI cB cZ aM aMt aMn aMr aMs aMi u_mth mtd msz mto mfr mso mnu mfa mpl mwo msm mgo mt mno mre msn mis) r0) (([.ref aM, .int x1, .int x2] : List Value).toArray) s 0 0 A) (F0 m 66 ls []) := by
    intro ct22 hct22 mth y1 y2 y4 hm ls H lo hl hP hD hS
    replace hm : (ct22 mth y1 y2 y4 (y4 + (1 : Int32))) = some (r0, u_mth) := hm
    refine lv_iload hx hb dX7_branch_66 (lv_at hl 3 rfl) ?_
    refine lv_istore_n (lv' := [(3, .int y4), (0, .ref aM), (1, .int y1), (2, .int y2), (4, .int y4)]) hx hb dX7_branch_68 rfl hl (by decide) rfl (fun ls1 hl1 => ?_)
    refine lv_iinc (v := (y4 + (1 : Int32))) (lv' := [(4, .int (y4 + (1 : Int32))), (3, .int y4), (0, .ref aM), (1, .int y1), (2, .int y2)]) hx hb dX7_branch_69 hl1 (k := 4) rfl (by rfl) (by decide) rfl (fun ls2 hl2 => ?_)
    refine lv_goto (tgt := 22) hx hb dX7_branch_72 (by decide) ?_
    exact hct22 mth y1 y2 y4 (y4 + (1 : Int32)) hm ls2 H lo (lv_sub hl2 [2, 3, 4, 1, 0] rfl) hP hD hS
  have hk_22 : ∀ (n : Nat) (mth : Int32) (y1 : Int32) (y2 : Int32) (y3 : Int32) (y4 : Int32), k_X7_branch_22 mno n mth y1 y2 y3 y4 = some (r0, u_mth) → ∀ (ls : Array Slot) (H : Heap) (lo : List Loc), lv_has ls 5 [(0, .ref aM), (1, .int y1), (2, .int y2), (3, .int y3), (4, .int y4)] → va_P D vwCl (w_Model cI cB cZ aM aMt aMn aMr aMs aMi mth mtd msz mto mfr mso mnu mfa mpl mwo msm mgo mt mno mre msn mis) H → va_D A (w_Model cI cB cZ aM aMt aMn aMr aMs aMi mth mtd msz mto mfr mso mnu mfa mpl mwo msm mgo mt mno mre msn mis) → va_S A s.heap H lo → W p l e (headSpec wsX7_branch ({ frames := 6, cells := 0, slots := 0, locals := 144 } : Room)).room s m (([.ref aM, .int x1, .int x2] : List Value).toArray) below meth c H lo 0 0 (MQ below (QI D cI cB cZ A (w_Model cI cB cZ aM aMt aMn aMr aMs aMi u_mth mtd msz mto mfr mso mnu mfa mpl mwo msm mgo mt mno mre msn mis) r0) (([.ref aM, .int x1, .int x2] : List Value).toArray) s 0 0 A) (F0 m 22 ls []) := by
    intro n
    induction n with
    | zero => intro mth y1 y2 y3 y4 hm; exact zz_nn hm
    | succ n ih =>
      intro mth y1 y2 y3 y4 hm ls H lo hl hP hD hS
      replace hm := (k_X7_branch_22_s mno n mth y1 y2 y3 y4).symm.trans hm
      refine lv_iload hx hb dX7_branch_22 (lv_at hl 4 rfl) ?_
      refine lv_aload_n hx hb dX7_branch_24 rfl (lv_at hl 0 rfl) ?_
      refine va_get (D := D) (ci := 7) (v := .ref aMn) (C := RX7) (T := TX7) (N := 17) hx hb hts iw_X7 hown hK hP 0 rfl rfl 11 (by decide) (hts (.fieldLink RX7 64 "VarianceBridgeModel" "now" "[I") (by decide +kernel)) (fun _ h9 => h9) rfl dX7_branch_25 ?_
      refine lv_iconst (v := (1 : Int32)) hx hb dX7_branch_28 (by decide) ?_
      obtain ⟨c3, hm4⟩ := zz_no hm
      refine va_iald hx hb hK hP 2 0 rfl rfl c3 dX7_branch_29 ?_
      refine lv_icmp_ge (tgt := 75) hx hb dX7_branch_30 (by decide) (fun c5 => ?_) (fun c5 => ?_)
      · have hm6 := zz_if c5 hm4
        refine lv_iload_n hx hb dX7_branch_75 rfl (lv_at hl 3 rfl) ?_
        obtain ⟨hq1, hq2⟩ := Prod.mk.inj (Option.some.inj hm6)
        subst hq1
        subst hq2
        exact W.iret hx hb hr (fun t ht hW => ⟨⟨_, (), rfl, rfl, by rw [ht]; exact hP, va_K.moved hW.alike hK, hD⟩, hS.F ht⟩) hS.2.2 dX7_branch_76
      · have hm7 := zz_nf c5 hm4
        refine lv_aload_n hx hb dX7_branch_33 rfl (lv_at hl 0 rfl) ?_
        refine lv_iload hx hb dX7_branch_34 (lv_at hl 4 rfl) ?_
        obtain ⟨r8, h8, hm8⟩ := ob1_e hm7
        refine gcall_b (ws' := (w_Model cI cB cZ aM aMt aMn aMr aMs aMi mth mtd msz mto mfr mso mnu mfa mpl mwo msm mgo mt mno mre msn mis)) (va_runV (As := [.int y4]) (rest := []) ⟨hx, hb, hml, hown, hts⟩ (c_X7_isGroup l D cI cB cZ ta aM aMt aMn aMr aMs aMi H.size mth mtd msz mto mfr mso mnu mfa mpl mwo msm mgo mt mno mre msn mis y4 r8 h8) (cwV 1 hts gX7_branch_X7_isGroup rfl rfl rfl (by decide +kernel) ⟨(Nat.le_of_ble_eq_true rfl), (Nat.le_of_ble_eq_true rfl)⟩) ⟨PW_blind, va_recv hK hP rfl (q0 := 0) rfl, PW_at hP hD hK hS hA hG [0, 1, 2, 3, 4, 5] rfl (by decide)⟩ rfl rfl hl.1 rfl (lv_room (Nat.le_of_ble_eq_true rfl)) dX7_branch_36 ⟨(Nat.le_of_ble_eq_true rfl), (Nat.le_of_ble_eq_true rfl)⟩) hP hD hS hA [0, 1, 2, 3, 4, 5] [] [0, 1, 2, 3, 4, 5] rfl rfl (by decide) (by decide) (by decide) rfl (fun H9 lo9 hz8 hP9 hD9 hS9 => ?_)
        clear hP hD hS
        refine lv_if_eq (tgt := 69) hx hb dX7_branch_39 (by decide) (fun c10 => ?_) (fun c10 => ?_)
        · have hm11 := zz_if c10 hm8
          refine lv_iinc (v := (y4 + (1 : Int32))) (lv' := [(4, .int (y4 + (1 : Int32))), (0, .ref aM), (1, .int y1), (2, .int y2), (3, .int y3)]) hx hb dX7_branch_69 hl (k := 4) rfl (by rfl) (by decide) rfl (fun ls13 hl13 => ?_)
          refine lv_goto (tgt := 22) hx hb dX7_branch_72 (by decide) ?_
          exact ih mth y1 y2 y3 (y4 + (1 : Int32)) hm11 ls13 H9 lo9 (lv_sub hl13 [1, 2, 3, 4, 0] rfl) hP9 hD9 hS9
        · have hm12 := zz_nf c10 hm8
          refine lv_iload_n hx hb dX7_branch_42 rfl (lv_at hl 3 rfl) ?_
          refine lv_bipush (v := (-2 : Int32)) hx hb dX7_branch_43 (by decide) ?_
          refine lv_icmp_eq (tgt := 66) hx hb dX7_branch_45 (by decide) (fun c14 => ?_) (fun c14 => ?_)
          · have hm15 := zz_if c14 hm12
            exact hk_66 (k_X7_branch_22 mno n) ih mth y1 y2 y4 hm15 ls H9 lo9 (lv_sub hl [0, 1, 2, 4] rfl) hP9 hD9 hS9
          · have hm16 := zz_nf c14 hm12
            refine lv_aload_n hx hb dX7_branch_48 rfl (lv_at hl 0 rfl) ?_
            refine lv_iload hx hb dX7_branch_49 (lv_at hl 4 rfl) ?_
            refine lv_iload_n hx hb dX7_branch_51 rfl (lv_at hl 1 rfl) ?_
            refine lv_iload_n hx hb dX7_branch_52 rfl (lv_at hl 2 rfl) ?_
            obtain ⟨r17, h17, hm17⟩ := ob1_e hm16
            refine gcall_i (ws' := (w_Model cI cB cZ aM aMt aMn aMr aMs aMi mth mtd msz mto mfr mso mnu mfa mpl mwo msm mgo mt mno mre msn mis)) (va_runV (As := [.int y4, .int y1, .int y2]) (rest := []) ⟨hx, hb, hml, hown, hts⟩ (c_X7_farOf l D cI cB cZ ta aM aMt aMn aMr aMs aMi H9.size mth mtd msz mto mfr mso mnu mfa mpl mwo msm mgo mt mno mre msn mis y4 y1 y2 r17 h17) (cwV 3 hts gX7_branch_X7_farOf rfl rfl rfl (by decide +kernel) ⟨(Nat.le_of_ble_eq_true rfl), (Nat.le_of_ble_eq_true rfl)⟩) ⟨PW_blind, va_recv hK hP9 rfl (q0 := 0) rfl, PW_at hP9 hD9 hK hS9 hA hG [0, 1, 2, 3, 4, 5] rfl (by decide)⟩ rfl rfl hl.1 rfl (lv_room (Nat.le_of_ble_eq_true rfl)) dX7_branch_53 ⟨(Nat.le_of_ble_eq_true rfl), (Nat.le_of_ble_eq_true rfl)⟩) hP9 hD9 hS9 hA [0, 1, 2, 3, 4, 5] [] [0, 1, 2, 3, 4, 5] rfl rfl (by decide) (by decide) (by decide) rfl (fun H18 lo18 hP18 hD18 hS18 => ?_)
            clear hP9 hD9 hS9
            refine lv_aload_n hx hb dX7_branch_56 rfl (lv_at hl 0 rfl) ?_
            refine lv_iload_n hx hb dX7_branch_57 rfl (lv_at hl 3 rfl) ?_
            refine lv_iload_n hx hb dX7_branch_58 rfl (lv_at hl 1 rfl) ?_
            refine lv_iload_n hx hb dX7_branch_59 rfl (lv_at hl 2 rfl) ?_
            obtain ⟨r19, h19, hm19⟩ := ob1_e hm17
            refine gcall_i (ws' := (w_Model cI cB cZ aM aMt aMn aMr aMs aMi mth mtd msz mto mfr mso mnu mfa mpl mwo msm mgo mt mno mre msn mis)) (va_runV (As := [.int y3, .int y1, .int y2]) (rest := [.int r17]) ⟨hx, hb, hml, hown, hts⟩ (c_X7_farOf l D cI cB cZ ta aM aMt aMn aMr aMs aMi H18.size mth mtd msz mto mfr mso mnu mfa mpl mwo msm mgo mt mno mre msn mis y3 y1 y2 r19 h19) (cwV 3 hts gX7_branch_X7_farOf rfl rfl rfl (by decide +kernel) ⟨(Nat.le_of_ble_eq_true rfl), (Nat.le_of_ble_eq_true rfl)⟩) ⟨PW_blind, va_recv hK hP18 rfl (q0 := 0) rfl, PW_at hP18 hD18 hK hS18 hA hG [0, 1, 2, 3, 4, 5] rfl (by decide)⟩ rfl rfl hl.1 rfl (lv_room (Nat.le_of_ble_eq_true rfl)) dX7_branch_60 ⟨(Nat.le_of_ble_eq_true rfl), (Nat.le_of_ble_eq_true rfl)⟩) hP18 hD18 hS18 hA [0, 1, 2, 3, 4, 5] [] [0, 1, 2, 3, 4, 5] rfl rfl (by decide) (by decide) (by decide) rfl (fun H20 lo20 hP20 hD20 hS20 => ?_)
            clear hP18 hD18 hS18
            refine lv_icmp_le (tgt := 69) hx hb dX7_branch_63 (by decide) (fun c21 => ?_) (fun c21 => ?_)
            · have hm22 := zz_if c21 hm19
              refine lv_iinc (v := (y4 + (1 : Int32))) (lv' := [(4, .int (y4 + (1 : Int32))), (0, .ref aM), (1, .int y1), (2, .int y2), (3, .int y3)]) hx hb dX7_branch_69 hl (k := 4) rfl (by rfl) (by decide) rfl (fun ls24 hl24 => ?_)
              refine lv_goto (tgt := 22) hx hb dX7_branch_72 (by decide) ?_
              exact ih mth y1 y2 y3 (y4 + (1 : Int32)) hm22 ls24 H20 lo20 (lv_sub hl24 [1, 2, 3, 4, 0] rfl) hP20 hD20 hS20
            · have hm23 := zz_nf c21 hm19
              exact hk_66 (k_X7_branch_22 mno n) ih mth y1 y2 y4 hm23 ls H20 lo20 (lv_sub hl [0, 1, 2, 4] rfl) hP20 hD20 hS20
  have hl := lv_entry ([.ref aM, .int x1, .int x2]) (n := 5) (Nat.le_of_ble_eq_true rfl)
  rw [lg_entry_eq]
  generalize (lg_sl ([.ref aM, .int x1, .int x2]) ++ List.replicate (5 - (lg_sl ([.ref aM, .int x1, .int x2])).length) Slot.unset).toArray = ls at hl ⊢
  have hl : lv_has ls 5 [(0, .ref aM), (1, .int x1), (2, .int x2)] := hl
  replace hm : (ob1 (m_X7_areScenes mno x1 x2) (fun r26 => (if r26 = 0 then some ((-1 : Int32), (0 : Int32)) else (k_X7_branch_22 mno FU (0 : Int32) x1 x2 (-2 : Int32) (1 : Int32))))) = some (r0, u_mth) := hm
  refine lv_aload_n hx hb dX7_branch_0 rfl (lv_at hl 0 rfl) ?_
  refine lv_iconst (v := (0 : Int32)) hx hb dX7_branch_1 (by decide) ?_
  refine va_put (D := D) (ci := 7) (v := .int (0 : Int32)) (ty := .int) (C := RX7) (T := TX7) (N := 17) hx hb hts iw_X7 tyX7 tyX7_ok nmX7 hown hK hP hD hS 0 rfl rfl 0 (by decide) (hts (.fieldLink RX7 1 "VarianceBridgeModel" "thrown" "I") (by decide +kernel)) (fun _ h9 => h9) rfl (by decide +kernel) rfl rfl (Nat.le_of_ble_eq_true rfl) dX7_branch_2 (fun H25 lo25 hP25 hD25 hS25 => ?_)
  replace hP25 : va_P D vwCl (w_Model cI cB cZ aM aMt aMn aMr aMs aMi (0 : Int32) mtd msz mto mfr mso mnu mfa mpl mwo msm mgo mt mno mre msn mis) H25 := hP25
  replace hD25 : va_D A (w_Model cI cB cZ aM aMt aMn aMr aMs aMi (0 : Int32) mtd msz mto mfr mso mnu mfa mpl mwo msm mgo mt mno mre msn mis) := hD25
  clear hP hD hS
  refine lv_aload_n hx hb dX7_branch_5 rfl (lv_at hl 0 rfl) ?_
  refine lv_iload_n hx hb dX7_branch_6 rfl (lv_at hl 1 rfl) ?_
  refine lv_iload_n hx hb dX7_branch_7 rfl (lv_at hl 2 rfl) ?_
  obtain ⟨r26, h26, hm26⟩ := ob1_e hm
  refine gcall_b (ws' := (w_Model cI cB cZ aM aMt aMn aMr aMs aMi (0 : Int32) mtd msz mto mfr mso mnu mfa mpl mwo msm mgo mt mno mre msn mis)) (va_runV (As := [.int x1, .int x2]) (rest := []) ⟨hx, hb, hml, hown, hts⟩ (c_X7_areScenes l D cI cB cZ ta aM aMt aMn aMr aMs aMi H25.size (0 : Int32) mtd msz mto mfr mso mnu mfa mpl mwo msm mgo mt mno mre msn mis x1 x2 r26 h26) (cwV 2 hts gX7_branch_X7_areScenes rfl rfl rfl (by decide +kernel) ⟨(Nat.le_of_ble_eq_true rfl), (Nat.le_of_ble_eq_true rfl)⟩) ⟨PW_blind, va_recv hK hP25 rfl (q0 := 0) rfl, PW_at hP25 hD25 hK hS25 hA hG [0, 1, 2, 3, 4, 5] rfl (by decide)⟩ rfl rfl hl.1 rfl (lv_room (Nat.le_of_ble_eq_true rfl)) dX7_branch_8 ⟨(Nat.le_of_ble_eq_true rfl), (Nat.le_of_ble_eq_true rfl)⟩) hP25 hD25 hS25 hA [0, 1, 2, 3, 4, 5] [] [0, 1, 2, 3, 4, 5] rfl rfl (by decide) (by decide) (by decide) rfl (fun H27 lo27 hz26 hP27 hD27 hS27 => ?_)
  clear hP25 hD25 hS25
  refine lv_if_ne (tgt := 16) hx hb dX7_branch_11 (by decide) (fun c28 => ?_) (fun c28 => ?_)
  · have hm29 := zz_nf c28 hm26
    refine lv_bipush (v := (-2 : Int32)) hx hb dX7_branch_16 (by decide) ?_
    refine lv_istore_n (lv' := [(3, .int (-2 : Int32)), (0, .ref aM), (1, .int x1), (2, .int x2)]) hx hb dX7_branch_18 rfl hl (by decide) rfl (fun ls31 hl31 => ?_)
    refine lv_iconst (v := (1 : Int32)) hx hb dX7_branch_19 (by decide) ?_
    refine lv_istore (lv' := [(4, .int (1 : Int32)), (3, .int (-2 : Int32)), (0, .ref aM), (1, .int x1), (2, .int x2)]) hx hb dX7_branch_20 hl31 (by decide) rfl (fun ls32 hl32 => ?_)
    exact hk_22 FU (0 : Int32) x1 x2 (-2 : Int32) (1 : Int32) hm29 ls32 H27 lo27 (lv_sub hl32 [2, 3, 4, 1, 0] rfl) hP27 hD27 hS27
  · have hm30 := zz_if c28 hm26
    refine lv_iconst (v := (-1 : Int32)) hx hb dX7_branch_14 (by decide) ?_
    obtain ⟨hq1, hq2⟩ := Prod.mk.inj (Option.some.inj hm30)
    subst hq1
    subst hq2
    exact W.iret hx hb hr (fun t ht hW => ⟨⟨_, (), rfl, rfl, by rw [ht]; exact hP27, va_K.moved hW.alike hK, hD27⟩, hS27.F ht⟩) hS27.2.2 dX7_branch_15
set_option maxHeartbeats 4000000 in
set_option maxRecDepth 100000 in
theorem c_X7_canSet (l : Launch) (D : va_G) (cI cB cZ : ClassId) (ta : Nat → Nat) (aM : Nat) (aMt : Nat) (aMn : Nat) (aMr : Nat) (aMs : Nat) (aMi : Nat) (sz : Nat) (mth : Int32) (mtd : Int32) (msz : Int32) (mto : Int32) (mfr : Int32) (mso : Int32) (mnu : Int32) (mfa : Int32) (mpl : Int32) (mwo : Int64) (msm : Int32) (mgo : Int32) (mt : (Nat → Int32)) (mno : (Nat → Int32)) (mre : (Nat → Int32)) (msn : (Nat → Int32)) (mis : (Nat → Int32)) (x1 : Int32) (x2 : Int32) (x3 : Int32) (x4 : Int32) (r0 : Int32) (hm : m_X7_canSet mno x1 x2 x3 x4 = some r0) : Met l yX7_canSet wsX7_canSet ({ frames := 3, cells := 0, slots := 0, locals := 64 } : Room) (va_Pc [.ref aM, .int x1, .int x2, .int x3, .int x4] (PW D cI cB cZ ta (w_Model cI cB cZ aM aMt aMn aMr aMs aMi mth mtd msz mto mfr mso mnu mfa mpl mwo msm mgo mt mno mre msn mis) sz)) (QZ .boolean D cI cB cZ (va_A (w_Model cI cB cZ aM aMt aMn aMr aMs aMi mth mtd msz mto mfr mso mnu mfa mpl mwo msm mgo mt mno mre msn mis) sz) (w_Model cI cB cZ aM aMt aMn aMr aMs aMi mth mtd msz mto mfr mso mnu mfa mpl mwo msm mgo mt mno mre msn mis) r0) 0 0 (va_A (w_Model cI cB cZ aM aMt aMn aMr aMs aMi mth mtd msz mto mfr mso mnu mfa mpl mwo msm mgo mt mno mre msn mis) sz) := by
  refine Met.ofW (cc := cX7_canSet) (maxL := 5) (ret := (some .boolean)) (by decide) rfl ?_
  intro p e s m args below meth c s₁ B hml hv
  obtain ⟨rfl, hsz, hP, hK, hD0, hG⟩ := hv
  have hx := B.exec
  have hb := B.bytes
  have hr := B.returns
  have hts := atoms_spec (ws := wsX7_canSet) B.pre
  have hown : s.vm.findClass RX7 = some m.cls := findClass_of_methodNamed B.named
  have hlocks := B.notSynchronized
  subst hsz
  have hD := hD0.self (sz := s.heap.size)
  clear hD0
  have hA0 : ∀ q : Nat, s.heap.size ≤ q → va_A (w_Model cI cB cZ aM aMt aMn aMr aMs aMi mth mtd msz mto mfr mso mnu mfa mpl mwo msm mgo mt mno mre msn mis) s.heap.size q := fun q h => Or.inr h
  generalize hAe : va_A (w_Model cI cB cZ aM aMt aMn aMr aMs aMi mth mtd msz mto mfr mso mnu mfa mpl mwo msm mgo mt mno mre msn mis) s.heap.size = A at hD hG hA0 ⊢
  have hA : ∀ q : Nat, s.heap.size ≤ q → A q := hA0
  clear hA0
  have hS : va_S A s.heap s.heap [] := va_S.rf
  have hl := lv_entry ([.ref aM, .int x1, .int x2, .int x3, .int x4]) (n := 5) (Nat.le_of_ble_eq_true rfl)
  rw [lg_entry_eq]
  generalize (lg_sl ([.ref aM, .int x1, .int x2, .int x3, .int x4]) ++ List.replicate (5 - (lg_sl ([.ref aM, .int x1, .int x2, .int x3, .int x4])).length) Slot.unset).toArray = ls at hl ⊢
  have hl : lv_has ls 5 [(0, .ref aM), (1, .int x1), (2, .int x2), (3, .int x3), (4, .int x4)] := hl
  replace hm : (ob1 (m_X7_isLeaf mno x1) (fun r1 => (if r1 = 0 then some (0 : Int32) else (ob1 (m_X7_isScene mno x2) (fun r6 => (if r6 = 0 then some (0 : Int32) else (ob1 (m_X7_isFactor x3) (fun r11 => (if r11 = 0 then some (0 : Int32) else (ob1 (m_X7_lowOf x3) (fun r16 => (ob1 (m_X7_highOf x3) (fun r18 => (ob1 (m_X7_isIn x4 r16 r18) (fun r20 => (if r20 = 0 then some (0 : Int32) else some (1 : Int32))))))))))))))))) = some r0 := hm
  refine lv_aload_n hx hb dX7_canSet_0 rfl (lv_at hl 0 rfl) ?_
  refine lv_iload_n hx hb dX7_canSet_1 rfl (lv_at hl 1 rfl) ?_
  obtain ⟨r1, h1, hm1⟩ := ob1_e hm
  refine gcall_b (ws' := (w_Model cI cB cZ aM aMt aMn aMr aMs aMi mth mtd msz mto mfr mso mnu mfa mpl mwo msm mgo mt mno mre msn mis)) (va_runV (As := [.int x1]) (rest := []) ⟨hx, hb, hml, hown, hts⟩ (c_X7_isLeaf l D cI cB cZ ta aM aMt aMn aMr aMs aMi s.heap.size mth mtd msz mto mfr mso mnu mfa mpl mwo msm mgo mt mno mre msn mis x1 r1 h1) (cwV 1 hts gX7_canSet_X7_isLeaf rfl rfl rfl (by decide +kernel) ⟨(Nat.le_of_ble_eq_true rfl), (Nat.le_of_ble_eq_true rfl)⟩) ⟨PW_blind, va_recv hK hP rfl (q0 := 0) rfl, PW_at hP hD hK hS hA hG [0, 1, 2, 3, 4, 5] rfl (by decide)⟩ rfl rfl hl.1 rfl (lv_room (Nat.le_of_ble_eq_true rfl)) dX7_canSet_2 ⟨(Nat.le_of_ble_eq_true rfl), (Nat.le_of_ble_eq_true rfl)⟩) hP hD hS hA [0, 1, 2, 3, 4, 5] [] [0, 1, 2, 3, 4, 5] rfl rfl (by decide) (by decide) (by decide) rfl (fun H2 lo2 hz1 hP2 hD2 hS2 => ?_)
  clear hP hD hS
  refine lv_if_eq (tgt := 43) hx hb dX7_canSet_5 (by decide) (fun c3 => ?_) (fun c3 => ?_)
  · have hm4 := zz_if c3 hm1
    refine lv_iconst (v := (0 : Int32)) hx hb dX7_canSet_43 (by decide) ?_
    have hq1 := Option.some.inj hm4
    subst hq1
    exact W.zret (ty := .boolean) hx hb hr (by decide) (fun t ht hW => ⟨⟨_, (), rfl, ⟨rfl, (by decide)⟩, by rw [ht]; exact hP2, va_K.moved hW.alike hK, hD2⟩, hS2.F ht⟩) hS2.2.2 dX7_canSet_44
  · have hm5 := zz_nf c3 hm1
    refine lv_aload_n hx hb dX7_canSet_8 rfl (lv_at hl 0 rfl) ?_
    refine lv_iload_n hx hb dX7_canSet_9 rfl (lv_at hl 2 rfl) ?_
    obtain ⟨r6, h6, hm6⟩ := ob1_e hm5
    refine gcall_b (ws' := (w_Model cI cB cZ aM aMt aMn aMr aMs aMi mth mtd msz mto mfr mso mnu mfa mpl mwo msm mgo mt mno mre msn mis)) (va_runV (As := [.int x2]) (rest := []) ⟨hx, hb, hml, hown, hts⟩ (c_X7_isScene l D cI cB cZ ta aM aMt aMn aMr aMs aMi H2.size mth mtd msz mto mfr mso mnu mfa mpl mwo msm mgo mt mno mre msn mis x2 r6 h6) (cwV 1 hts gX7_canSet_X7_isScene rfl rfl rfl (by decide +kernel) ⟨(Nat.le_of_ble_eq_true rfl), (Nat.le_of_ble_eq_true rfl)⟩) ⟨PW_blind, va_recv hK hP2 rfl (q0 := 0) rfl, PW_at hP2 hD2 hK hS2 hA hG [0, 1, 2, 3, 4, 5] rfl (by decide)⟩ rfl rfl hl.1 rfl (lv_room (Nat.le_of_ble_eq_true rfl)) dX7_canSet_10 ⟨(Nat.le_of_ble_eq_true rfl), (Nat.le_of_ble_eq_true rfl)⟩) hP2 hD2 hS2 hA [0, 1, 2, 3, 4, 5] [] [0, 1, 2, 3, 4, 5] rfl rfl (by decide) (by decide) (by decide) rfl (fun H7 lo7 hz6 hP7 hD7 hS7 => ?_)
    clear hP2 hD2 hS2
    refine lv_if_eq (tgt := 43) hx hb dX7_canSet_13 (by decide) (fun c8 => ?_) (fun c8 => ?_)
    · have hm9 := zz_if c8 hm6
      refine lv_iconst (v := (0 : Int32)) hx hb dX7_canSet_43 (by decide) ?_
      have hq1 := Option.some.inj hm9
      subst hq1
      exact W.zret (ty := .boolean) hx hb hr (by decide) (fun t ht hW => ⟨⟨_, (), rfl, ⟨rfl, (by decide)⟩, by rw [ht]; exact hP7, va_K.moved hW.alike hK, hD7⟩, hS7.F ht⟩) hS7.2.2 dX7_canSet_44
    · have hm10 := zz_nf c8 hm6
      refine lv_iload_n hx hb dX7_canSet_16 rfl (lv_at hl 3 rfl) ?_
      obtain ⟨r11, h11, hm11⟩ := ob1_e hm10
      refine gcall_b (ws' := (w_Model cI cB cZ aM aMt aMn aMr aMs aMi mth mtd msz mto mfr mso mnu mfa mpl mwo msm mgo mt mno mre msn mis)) (va_runS (As := [.int x3]) (rest := []) ⟨hx, hb, hml, hown, hts⟩ (c_X7_isFactor l D cI cB cZ ta H7.size x3 r11 h11) (va_cwS 1 hts gX7_canSet_X7_isFactor rfl rfl rfl (by decide +kernel) ⟨(Nat.le_of_ble_eq_true rfl), (Nat.le_of_ble_eq_true rfl)⟩) ⟨PW_blind, PW_at hP7 hD7 hK hS7 hA hG [] rfl (by decide)⟩ rfl rfl hl.1 rfl (lv_room (Nat.le_of_ble_eq_true rfl)) dX7_canSet_17 ⟨(Nat.le_of_ble_eq_true rfl), (Nat.le_of_ble_eq_true rfl)⟩) hP7 hD7 hS7 hA [] [0, 1, 2, 3, 4, 5] [0, 1, 2, 3, 4, 5] rfl rfl (by decide) (by decide) (by decide) rfl (fun H12 lo12 hz11 hP12 hD12 hS12 => ?_)
      clear hP7 hD7 hS7
      refine lv_if_eq (tgt := 43) hx hb dX7_canSet_20 (by decide) (fun c13 => ?_) (fun c13 => ?_)
      · have hm14 := zz_if c13 hm11
        refine lv_iconst (v := (0 : Int32)) hx hb dX7_canSet_43 (by decide) ?_
        have hq1 := Option.some.inj hm14
        subst hq1
        exact W.zret (ty := .boolean) hx hb hr (by decide) (fun t ht hW => ⟨⟨_, (), rfl, ⟨rfl, (by decide)⟩, by rw [ht]; exact hP12, va_K.moved hW.alike hK, hD12⟩, hS12.F ht⟩) hS12.2.2 dX7_canSet_44
      · have hm15 := zz_nf c13 hm11
        refine lv_iload hx hb dX7_canSet_23 (lv_at hl 4 rfl) ?_
        refine lv_iload_n hx hb dX7_canSet_25 rfl (lv_at hl 3 rfl) ?_
        obtain ⟨r16, h16, hm16⟩ := ob1_e hm15
        refine gcall_i (ws' := (w_Model cI cB cZ aM aMt aMn aMr aMs aMi mth mtd msz mto mfr mso mnu mfa mpl mwo msm mgo mt mno mre msn mis)) (va_runS (As := [.int x3]) (rest := [.int x4]) ⟨hx, hb, hml, hown, hts⟩ (c_X7_lowOf l D cI cB cZ ta H12.size x3 r16 h16) (va_cwS 1 hts gX7_canSet_X7_lowOf rfl rfl rfl (by decide +kernel) ⟨(Nat.le_of_ble_eq_true rfl), (Nat.le_of_ble_eq_true rfl)⟩) ⟨PW_blind, PW_at hP12 hD12 hK hS12 hA hG [] rfl (by decide)⟩ rfl rfl hl.1 rfl (lv_room (Nat.le_of_ble_eq_true rfl)) dX7_canSet_26 ⟨(Nat.le_of_ble_eq_true rfl), (Nat.le_of_ble_eq_true rfl)⟩) hP12 hD12 hS12 hA [] [0, 1, 2, 3, 4, 5] [0, 1, 2, 3, 4, 5] rfl rfl (by decide) (by decide) (by decide) rfl (fun H17 lo17 hP17 hD17 hS17 => ?_)
        clear hP12 hD12 hS12
        refine lv_iload_n hx hb dX7_canSet_29 rfl (lv_at hl 3 rfl) ?_
        obtain ⟨r18, h18, hm18⟩ := ob1_e hm16
        refine gcall_i (ws' := (w_Model cI cB cZ aM aMt aMn aMr aMs aMi mth mtd msz mto mfr mso mnu mfa mpl mwo msm mgo mt mno mre msn mis)) (va_runS (As := [.int x3]) (rest := [.int r16, .int x4]) ⟨hx, hb, hml, hown, hts⟩ (c_X7_highOf l D cI cB cZ ta H17.size x3 r18 h18) (va_cwS 1 hts gX7_canSet_X7_highOf rfl rfl rfl (by decide +kernel) ⟨(Nat.le_of_ble_eq_true rfl), (Nat.le_of_ble_eq_true rfl)⟩) ⟨PW_blind, PW_at hP17 hD17 hK hS17 hA hG [] rfl (by decide)⟩ rfl rfl hl.1 rfl (lv_room (Nat.le_of_ble_eq_true rfl)) dX7_canSet_30 ⟨(Nat.le_of_ble_eq_true rfl), (Nat.le_of_ble_eq_true rfl)⟩) hP17 hD17 hS17 hA [] [0, 1, 2, 3, 4, 5] [0, 1, 2, 3, 4, 5] rfl rfl (by decide) (by decide) (by decide) rfl (fun H19 lo19 hP19 hD19 hS19 => ?_)
        clear hP17 hD17 hS17
        obtain ⟨r20, h20, hm20⟩ := ob1_e hm18
        refine gcall_b (ws' := (w_Model cI cB cZ aM aMt aMn aMr aMs aMi mth mtd msz mto mfr mso mnu mfa mpl mwo msm mgo mt mno mre msn mis)) (va_runS (As := [.int x4, .int r16, .int r18]) (rest := []) ⟨hx, hb, hml, hown, hts⟩ (c_X7_isIn l D cI cB cZ ta H19.size x4 r16 r18 r20 h20) (va_cwS 3 hts gX7_canSet_X7_isIn rfl rfl rfl (by decide +kernel) ⟨(Nat.le_of_ble_eq_true rfl), (Nat.le_of_ble_eq_true rfl)⟩) ⟨PW_blind, PW_at hP19 hD19 hK hS19 hA hG [] rfl (by decide)⟩ rfl rfl hl.1 rfl (lv_room (Nat.le_of_ble_eq_true rfl)) dX7_canSet_33 ⟨(Nat.le_of_ble_eq_true rfl), (Nat.le_of_ble_eq_true rfl)⟩) hP19 hD19 hS19 hA [] [0, 1, 2, 3, 4, 5] [0, 1, 2, 3, 4, 5] rfl rfl (by decide) (by decide) (by decide) rfl (fun H21 lo21 hz20 hP21 hD21 hS21 => ?_)
        clear hP19 hD19 hS19
        refine lv_if_eq (tgt := 43) hx hb dX7_canSet_36 (by decide) (fun c22 => ?_) (fun c22 => ?_)
        · have hm23 := zz_if c22 hm20
          refine lv_iconst (v := (0 : Int32)) hx hb dX7_canSet_43 (by decide) ?_
          have hq1 := Option.some.inj hm23
          subst hq1
          exact W.zret (ty := .boolean) hx hb hr (by decide) (fun t ht hW => ⟨⟨_, (), rfl, ⟨rfl, (by decide)⟩, by rw [ht]; exact hP21, va_K.moved hW.alike hK, hD21⟩, hS21.F ht⟩) hS21.2.2 dX7_canSet_44
        · have hm24 := zz_nf c22 hm20
          refine lv_iconst (v := (1 : Int32)) hx hb dX7_canSet_39 (by decide) ?_
          refine lv_goto (tgt := 44) hx hb dX7_canSet_40 (by decide) ?_
          have hq1 := Option.some.inj hm24
          subst hq1
          exact W.zret (ty := .boolean) hx hb hr (by decide) (fun t ht hW => ⟨⟨_, (), rfl, ⟨rfl, (by decide)⟩, by rw [ht]; exact hP21, va_K.moved hW.alike hK, hD21⟩, hS21.F ht⟩) hS21.2.2 dX7_canSet_44
theorem iw_X7_valueWith_X7 : ∀ w ∈ wsX70, w ∈ wsX7_valueWith := by decide +kernel
set_option maxHeartbeats 4000000 in
set_option maxRecDepth 100000 in
theorem c_X7_valueWith (l : Launch) (D : va_G) (cI cB cZ : ClassId) (ta : Nat → Nat) (aM : Nat) (aMt : Nat) (aMn : Nat) (aMr : Nat) (aMs : Nat) (aMi : Nat) (sz : Nat) (mth : Int32) (mtd : Int32) (msz : Int32) (mto : Int32) (mfr : Int32) (mso : Int32) (mnu : Int32) (mfa : Int32) (mpl : Int32) (mwo : Int64) (msm : Int32) (mgo : Int32) (mt : (Nat → Int32)) (mno : (Nat → Int32)) (mre : (Nat → Int32)) (msn : (Nat → Int32)) (mis : (Nat → Int32)) (x1 : Int32) (x2 : Int32) (x3 : Int32) (x4 : Int32) (r0 : Int32) (u_mno : (Nat → Int32)) (hm : m_X7_valueWith mno x1 x2 x3 x4 = some (r0, u_mno)) : Met l yX7_valueWith wsX7_valueWith ({ frames := 4, cells := 0, slots := 0, locals := 97 } : Room) (va_Pc [.ref aM, .int x1, .int x2, .int x3, .int x4] (PW D cI cB cZ ta (w_Model cI cB cZ aM aMt aMn aMr aMs aMi mth mtd msz mto mfr mso mnu mfa mpl mwo msm mgo mt mno mre msn mis) sz)) (QI D cI cB cZ (va_A (w_Model cI cB cZ aM aMt aMn aMr aMs aMi mth mtd msz mto mfr mso mnu mfa mpl mwo msm mgo mt mno mre msn mis) sz) (w_Model cI cB cZ aM aMt aMn aMr aMs aMi mth mtd msz mto mfr mso mnu mfa mpl mwo msm mgo mt u_mno mre msn mis) r0) 0 0 (va_A (w_Model cI cB cZ aM aMt aMn aMr aMs aMi mth mtd msz mto mfr mso mnu mfa mpl mwo msm mgo mt mno mre msn mis) sz) := by
  refine Met.ofW (cc := cX7_valueWith) (maxL := 7) (ret := (some .int)) (by decide) rfl ?_
  intro p e s m args below meth c s₁ B hml hv
  obtain ⟨rfl, hsz, hP, hK, hD0, hG⟩ := hv
  have hx := B.exec
  have hb := B.bytes
  have hr := B.returns
  have hts := atoms_spec (ws := wsX7_valueWith) B.pre
  have hown : s.vm.findClass RX7 = some m.cls := findClass_of_methodNamed B.named
  have hlocks := B.notSynchronized
  subst hsz
  have hD := hD0.self (sz := s.heap.size)
  clear hD0
  have hA0 : ∀ q : Nat, s.heap.size ≤ q → va_A (w_Model cI cB cZ aM aMt aMn aMr aMs aMi mth mtd msz mto mfr mso mnu mfa mpl mwo msm mgo mt mno mre msn mis) s.heap.size q := fun q h => Or.inr h
  generalize hAe : va_A (w_Model cI cB cZ aM aMt aMn aMr aMs aMi mth mtd msz mto mfr mso mnu mfa mpl mwo msm mgo mt mno mre msn mis) s.heap.size = A at hD hG hA0 ⊢
  have hA : ∀ q : Nat, s.heap.size ≤ q → A q := hA0
  clear hA0
  have hS : va_S A s.heap s.heap [] := va_S.rf
  have iw_X7 := iw_X7_valueWith_X7
  have hl := lv_entry ([.ref aM, .int x1, .int x2, .int x3, .int x4]) (n := 7) (Nat.le_of_ble_eq_true rfl)
  rw [lg_entry_eq]
  generalize (lg_sl ([.ref aM, .int x1, .int x2, .int x3, .int x4]) ++ List.replicate (7 - (lg_sl ([.ref aM, .int x1, .int x2, .int x3, .int x4])).length) Slot.unset).toArray = ls at hl ⊢
  have hl : lv_has ls 7 [(0, .ref aM), (1, .int x1), (2, .int x2), (3, .int x3), (4, .int x4)] := hl
  replace hm : (ob1 (m_X7_at x1 x2 x3) (fun r1 => (if r1 < 0 ∨ 442 ≤ r1.toNatClampNeg then none else (ob1 (m_X7_at x1 x2 x3) (fun r6 => (if r6 < 0 ∨ 442 ≤ r6.toNatClampNeg then none else (ob1 (m_X7_valueIn (upd mno r6.toNatClampNeg x4) (0 : Int32) x2) (fun r11 => (ob1 (m_X7_at x1 x2 x3) (fun r14 => (if r14 < 0 ∨ 442 ≤ r14.toNatClampNeg then none else some (r11, (upd (upd mno r6.toNatClampNeg x4) r14.toNatClampNeg (mno r1.toNatClampNeg)))))))))))))) = some (r0, u_mno) := hm
  refine lv_aload_n hx hb dX7_valueWith_0 rfl (lv_at hl 0 rfl) ?_
  refine va_get (D := D) (ci := 7) (v := .ref aMn) (C := RX7) (T := TX7) (N := 17) hx hb hts iw_X7 hown hK hP 0 rfl rfl 11 (by decide) (hts (.fieldLink RX7 64 "VarianceBridgeModel" "now" "[I") (by decide +kernel)) (fun _ h9 => h9) rfl dX7_valueWith_1 ?_
  refine lv_iload_n hx hb dX7_valueWith_4 rfl (lv_at hl 1 rfl) ?_
  refine lv_iload_n hx hb dX7_valueWith_5 rfl (lv_at hl 2 rfl) ?_
  refine lv_iload_n hx hb dX7_valueWith_6 rfl (lv_at hl 3 rfl) ?_
  obtain ⟨r1, h1, hm1⟩ := ob1_e hm
  refine gcall_i (ws' := (w_Model cI cB cZ aM aMt aMn aMr aMs aMi mth mtd msz mto mfr mso mnu mfa mpl mwo msm mgo mt mno mre msn mis)) (va_runS (As := [.int x1, .int x2, .int x3]) (rest := [.ref aMn]) ⟨hx, hb, hml, hown, hts⟩ (c_X7_at l D cI cB cZ ta s.heap.size x1 x2 x3 r1 h1) (va_cwS 3 hts gX7_valueWith_X7_at rfl rfl rfl (by decide +kernel) ⟨(Nat.le_of_ble_eq_true rfl), (Nat.le_of_ble_eq_true rfl)⟩) ⟨PW_blind, PW_at hP hD hK hS hA hG [] rfl (by decide)⟩ rfl rfl hl.1 rfl (lv_room (Nat.le_of_ble_eq_true rfl)) dX7_valueWith_7 ⟨(Nat.le_of_ble_eq_true rfl), (Nat.le_of_ble_eq_true rfl)⟩) hP hD hS hA [] [0, 1, 2, 3, 4, 5] [0, 1, 2, 3, 4, 5] rfl rfl (by decide) (by decide) (by decide) rfl (fun H2 lo2 hP2 hD2 hS2 => ?_)
  clear hP hD hS
  obtain ⟨c3, hm4⟩ := zz_no hm1
  refine va_iald hx hb hK hP2 2 0 rfl rfl c3 dX7_valueWith_10 ?_
  refine lv_istore (lv' := [(5, .int (mno r1.toNatClampNeg)), (0, .ref aM), (1, .int x1), (2, .int x2), (3, .int x3), (4, .int x4)]) hx hb dX7_valueWith_11 hl (by decide) rfl (fun ls5 hl5 => ?_)
  refine lv_aload_n hx hb dX7_valueWith_13 rfl (lv_at hl5 1 rfl) ?_
  refine va_get (D := D) (ci := 7) (v := .ref aMn) (C := RX7) (T := TX7) (N := 17) hx hb hts iw_X7 hown hK hP2 0 rfl rfl 11 (by decide) (hts (.fieldLink RX7 64 "VarianceBridgeModel" "now" "[I") (by decide +kernel)) (fun _ h9 => h9) rfl dX7_valueWith_14 ?_
  refine lv_iload_n hx hb dX7_valueWith_17 rfl (lv_at hl5 2 rfl) ?_
  refine lv_iload_n hx hb dX7_valueWith_18 rfl (lv_at hl5 3 rfl) ?_
  refine lv_iload_n hx hb dX7_valueWith_19 rfl (lv_at hl5 4 rfl) ?_
  obtain ⟨r6, h6, hm6⟩ := ob1_e hm4
  refine gcall_i (ws' := (w_Model cI cB cZ aM aMt aMn aMr aMs aMi mth mtd msz mto mfr mso mnu mfa mpl mwo msm mgo mt mno mre msn mis)) (va_runS (As := [.int x1, .int x2, .int x3]) (rest := [.ref aMn]) ⟨hx, hb, hml, hown, hts⟩ (c_X7_at l D cI cB cZ ta H2.size x1 x2 x3 r6 h6) (va_cwS 3 hts gX7_valueWith_X7_at rfl rfl rfl (by decide +kernel) ⟨(Nat.le_of_ble_eq_true rfl), (Nat.le_of_ble_eq_true rfl)⟩) ⟨PW_blind, PW_at hP2 hD2 hK hS2 hA hG [] rfl (by decide)⟩ rfl rfl hl5.1 rfl (lv_room (Nat.le_of_ble_eq_true rfl)) dX7_valueWith_20 ⟨(Nat.le_of_ble_eq_true rfl), (Nat.le_of_ble_eq_true rfl)⟩) hP2 hD2 hS2 hA [] [0, 1, 2, 3, 4, 5] [0, 1, 2, 3, 4, 5] rfl rfl (by decide) (by decide) (by decide) rfl (fun H7 lo7 hP7 hD7 hS7 => ?_)
  clear hP2 hD2 hS2
  refine lv_iload hx hb dX7_valueWith_23 (lv_at hl5 5 rfl) ?_
  obtain ⟨c8, hm9⟩ := zz_no hm6
  refine va_iast hx hb hK hP7 hD7 hS7 2 0 rfl rfl c8 dX7_valueWith_25 (fun H10 lo10 hP10 hD10 hS10 => ?_)
  replace hP10 : va_P D vwCl (w_Model cI cB cZ aM aMt aMn aMr aMs aMi mth mtd msz mto mfr mso mnu mfa mpl mwo msm mgo mt (upd mno r6.toNatClampNeg x4) mre msn mis) H10 := hP10
  replace hD10 : va_D A (w_Model cI cB cZ aM aMt aMn aMr aMs aMi mth mtd msz mto mfr mso mnu mfa mpl mwo msm mgo mt (upd mno r6.toNatClampNeg x4) mre msn mis) := hD10
  clear hP7 hD7 hS7
  refine lv_aload_n hx hb dX7_valueWith_26 rfl (lv_at hl5 1 rfl) ?_
  refine lv_iconst (v := (0 : Int32)) hx hb dX7_valueWith_27 (by decide) ?_
  refine lv_iload_n hx hb dX7_valueWith_28 rfl (lv_at hl5 3 rfl) ?_
  obtain ⟨r11, h11, hm11⟩ := ob1_e hm9
  refine gcall_i (ws' := (w_Model cI cB cZ aM aMt aMn aMr aMs aMi mth mtd msz mto mfr mso mnu mfa mpl mwo msm mgo mt (upd mno r6.toNatClampNeg x4) mre msn mis)) (va_runV (As := [.int (0 : Int32), .int x2]) (rest := []) ⟨hx, hb, hml, hown, hts⟩ (c_X7_valueIn l D cI cB cZ ta aM aMt aMn aMr aMs aMi H10.size mth mtd msz mto mfr mso mnu mfa mpl mwo msm mgo mt (upd mno r6.toNatClampNeg x4) mre msn mis (0 : Int32) x2 r11 h11) (cwV 2 hts gX7_valueWith_X7_valueIn rfl rfl rfl (by decide +kernel) ⟨(Nat.le_of_ble_eq_true rfl), (Nat.le_of_ble_eq_true rfl)⟩) ⟨PW_blind, va_recv hK hP10 rfl (q0 := 0) rfl, PW_at hP10 hD10 hK hS10 hA hG [0, 1, 2, 3, 4, 5] rfl (by decide)⟩ rfl rfl hl5.1 rfl (lv_room (Nat.le_of_ble_eq_true rfl)) dX7_valueWith_29 ⟨(Nat.le_of_ble_eq_true rfl), (Nat.le_of_ble_eq_true rfl)⟩) hP10 hD10 hS10 hA [0, 1, 2, 3, 4, 5] [] [0, 1, 2, 3, 4, 5] rfl rfl (by decide) (by decide) (by decide) rfl (fun H12 lo12 hP12 hD12 hS12 => ?_)
  clear hP10 hD10 hS10
  refine lv_istore (lv' := [(6, .int r11), (5, .int (mno r1.toNatClampNeg)), (0, .ref aM), (1, .int x1), (2, .int x2), (3, .int x3), (4, .int x4)]) hx hb dX7_valueWith_32 hl5 (by decide) rfl (fun ls13 hl13 => ?_)
  refine lv_aload_n hx hb dX7_valueWith_34 rfl (lv_at hl13 2 rfl) ?_
  refine va_get (D := D) (ci := 7) (v := .ref aMn) (C := RX7) (T := TX7) (N := 17) hx hb hts iw_X7 hown hK hP12 0 rfl rfl 11 (by decide) (hts (.fieldLink RX7 64 "VarianceBridgeModel" "now" "[I") (by decide +kernel)) (fun _ h9 => h9) rfl dX7_valueWith_35 ?_
  refine lv_iload_n hx hb dX7_valueWith_38 rfl (lv_at hl13 3 rfl) ?_
  refine lv_iload_n hx hb dX7_valueWith_39 rfl (lv_at hl13 4 rfl) ?_
  refine lv_iload_n hx hb dX7_valueWith_40 rfl (lv_at hl13 5 rfl) ?_
  obtain ⟨r14, h14, hm14⟩ := ob1_e hm11
  refine gcall_i (ws' := (w_Model cI cB cZ aM aMt aMn aMr aMs aMi mth mtd msz mto mfr mso mnu mfa mpl mwo msm mgo mt (upd mno r6.toNatClampNeg x4) mre msn mis)) (va_runS (As := [.int x1, .int x2, .int x3]) (rest := [.ref aMn]) ⟨hx, hb, hml, hown, hts⟩ (c_X7_at l D cI cB cZ ta H12.size x1 x2 x3 r14 h14) (va_cwS 3 hts gX7_valueWith_X7_at rfl rfl rfl (by decide +kernel) ⟨(Nat.le_of_ble_eq_true rfl), (Nat.le_of_ble_eq_true rfl)⟩) ⟨PW_blind, PW_at hP12 hD12 hK hS12 hA hG [] rfl (by decide)⟩ rfl rfl hl13.1 rfl (lv_room (Nat.le_of_ble_eq_true rfl)) dX7_valueWith_41 ⟨(Nat.le_of_ble_eq_true rfl), (Nat.le_of_ble_eq_true rfl)⟩) hP12 hD12 hS12 hA [] [0, 1, 2, 3, 4, 5] [0, 1, 2, 3, 4, 5] rfl rfl (by decide) (by decide) (by decide) rfl (fun H15 lo15 hP15 hD15 hS15 => ?_)
  clear hP12 hD12 hS12
  refine lv_iload hx hb dX7_valueWith_44 (lv_at hl13 1 rfl) ?_
  obtain ⟨c16, hm17⟩ := zz_no hm14
  refine va_iast hx hb hK hP15 hD15 hS15 2 0 rfl rfl c16 dX7_valueWith_46 (fun H18 lo18 hP18 hD18 hS18 => ?_)
  replace hP18 : va_P D vwCl (w_Model cI cB cZ aM aMt aMn aMr aMs aMi mth mtd msz mto mfr mso mnu mfa mpl mwo msm mgo mt (upd (upd mno r6.toNatClampNeg x4) r14.toNatClampNeg (mno r1.toNatClampNeg)) mre msn mis) H18 := hP18
  replace hD18 : va_D A (w_Model cI cB cZ aM aMt aMn aMr aMs aMi mth mtd msz mto mfr mso mnu mfa mpl mwo msm mgo mt (upd (upd mno r6.toNatClampNeg x4) r14.toNatClampNeg (mno r1.toNatClampNeg)) mre msn mis) := hD18
  clear hP15 hD15 hS15
  refine lv_iload hx hb dX7_valueWith_47 (lv_at hl13 0 rfl) ?_
  obtain ⟨hq1, hq2⟩ := Prod.mk.inj (Option.some.inj hm17)
  subst hq1
  subst hq2
  exact W.iret hx hb hr (fun t ht hW => ⟨⟨_, (), rfl, rfl, by rw [ht]; exact hP18, va_K.moved hW.alike hK, hD18⟩, hS18.F ht⟩) hS18.2.2 dX7_valueWith_49
theorem iw_X7_would_X7 : ∀ w ∈ wsX70, w ∈ wsX7_would := by decide +kernel
set_option maxHeartbeats 4000000 in
set_option maxRecDepth 100000 in
theorem c_X7_would (l : Launch) (D : va_G) (cI cB cZ : ClassId) (ta : Nat → Nat) (aM : Nat) (aMt : Nat) (aMn : Nat) (aMr : Nat) (aMs : Nat) (aMi : Nat) (sz : Nat) (mth : Int32) (mtd : Int32) (msz : Int32) (mto : Int32) (mfr : Int32) (mso : Int32) (mnu : Int32) (mfa : Int32) (mpl : Int32) (mwo : Int64) (msm : Int32) (mgo : Int32) (mt : (Nat → Int32)) (mno : (Nat → Int32)) (mre : (Nat → Int32)) (msn : (Nat → Int32)) (mis : (Nat → Int32)) (x1 : Int32) (x2 : Int32) (x3 : Int32) (x4 : Int32) (r0 : Int32) (u_mth : Int32) (u_mno : (Nat → Int32)) (hm : m_X7_would mth mno x1 x2 x3 x4 = some (r0, u_mth, u_mno)) : Met l yX7_would wsX7_would ({ frames := 5, cells := 0, slots := 0, locals := 123 } : Room) (va_Pc [.ref aM, .int x1, .int x2, .int x3, .int x4] (PW D cI cB cZ ta (w_Model cI cB cZ aM aMt aMn aMr aMs aMi mth mtd msz mto mfr mso mnu mfa mpl mwo msm mgo mt mno mre msn mis) sz)) (QI D cI cB cZ (va_A (w_Model cI cB cZ aM aMt aMn aMr aMs aMi mth mtd msz mto mfr mso mnu mfa mpl mwo msm mgo mt mno mre msn mis) sz) (w_Model cI cB cZ aM aMt aMn aMr aMs aMi u_mth mtd msz mto mfr mso mnu mfa mpl mwo msm mgo mt u_mno mre msn mis) r0) 0 0 (va_A (w_Model cI cB cZ aM aMt aMn aMr aMs aMi mth mtd msz mto mfr mso mnu mfa mpl mwo msm mgo mt mno mre msn mis) sz) := by
  refine Met.ofW (cc := cX7_would) (maxL := 5) (ret := (some .int)) (by decide) rfl ?_
  intro p e s m args below meth c s₁ B hml hv
  obtain ⟨rfl, hsz, hP, hK, hD0, hG⟩ := hv
  have hx := B.exec
  have hb := B.bytes
  have hr := B.returns
  have hts := atoms_spec (ws := wsX7_would) B.pre
  have hown : s.vm.findClass RX7 = some m.cls := findClass_of_methodNamed B.named
  have hlocks := B.notSynchronized
  subst hsz
  have hD := hD0.self (sz := s.heap.size)
  clear hD0
  have hA0 : ∀ q : Nat, s.heap.size ≤ q → va_A (w_Model cI cB cZ aM aMt aMn aMr aMs aMi mth mtd msz mto mfr mso mnu mfa mpl mwo msm mgo mt mno mre msn mis) s.heap.size q := fun q h => Or.inr h
  generalize hAe : va_A (w_Model cI cB cZ aM aMt aMn aMr aMs aMi mth mtd msz mto mfr mso mnu mfa mpl mwo msm mgo mt mno mre msn mis) s.heap.size = A at hD hG hA0 ⊢
  have hA : ∀ q : Nat, s.heap.size ≤ q → A q := hA0
  clear hA0
  have hS : va_S A s.heap s.heap [] := va_S.rf
  have iw_X7 := iw_X7_would_X7
  have hl := lv_entry ([.ref aM, .int x1, .int x2, .int x3, .int x4]) (n := 5) (Nat.le_of_ble_eq_true rfl)
  rw [lg_entry_eq]
  generalize (lg_sl ([.ref aM, .int x1, .int x2, .int x3, .int x4]) ++ List.replicate (5 - (lg_sl ([.ref aM, .int x1, .int x2, .int x3, .int x4])).length) Slot.unset).toArray = ls at hl ⊢
  have hl : lv_has ls 5 [(0, .ref aM), (1, .int x1), (2, .int x2), (3, .int x3), (4, .int x4)] := hl
  replace hm : (ob1 (m_X7_canSet mno x1 x2 x3 x4) (fun r2 => (if r2 = 0 then some ((-1000000000 : Int32), (0 : Int32), mno) else (ob2 (m_X7_valueWith mno x1 x2 x3 x4) (fun r7 mno_7 => (ob1 (m_X7_valueIn mno_7 (0 : Int32) x2) (fun r9 => some ((r7 - r9), (0 : Int32), mno_7)))))))) = some (r0, u_mth, u_mno) := hm
  refine lv_aload_n hx hb dX7_would_0 rfl (lv_at hl 0 rfl) ?_
  refine lv_iconst (v := (0 : Int32)) hx hb dX7_would_1 (by decide) ?_
  refine va_put (D := D) (ci := 7) (v := .int (0 : Int32)) (ty := .int) (C := RX7) (T := TX7) (N := 17) hx hb hts iw_X7 tyX7 tyX7_ok nmX7 hown hK hP hD hS 0 rfl rfl 0 (by decide) (hts (.fieldLink RX7 1 "VarianceBridgeModel" "thrown" "I") (by decide +kernel)) (fun _ h9 => h9) rfl (by decide +kernel) rfl rfl (Nat.le_of_ble_eq_true rfl) dX7_would_2 (fun H1 lo1 hP1 hD1 hS1 => ?_)
  replace hP1 : va_P D vwCl (w_Model cI cB cZ aM aMt aMn aMr aMs aMi (0 : Int32) mtd msz mto mfr mso mnu mfa mpl mwo msm mgo mt mno mre msn mis) H1 := hP1
  replace hD1 : va_D A (w_Model cI cB cZ aM aMt aMn aMr aMs aMi (0 : Int32) mtd msz mto mfr mso mnu mfa mpl mwo msm mgo mt mno mre msn mis) := hD1
  clear hP hD hS
  refine lv_aload_n hx hb dX7_would_5 rfl (lv_at hl 0 rfl) ?_
  refine lv_iload_n hx hb dX7_would_6 rfl (lv_at hl 1 rfl) ?_
  refine lv_iload_n hx hb dX7_would_7 rfl (lv_at hl 2 rfl) ?_
  refine lv_iload_n hx hb dX7_would_8 rfl (lv_at hl 3 rfl) ?_
  refine lv_iload hx hb dX7_would_9 (lv_at hl 4 rfl) ?_
  obtain ⟨r2, h2, hm2⟩ := ob1_e hm
  refine gcall_b (ws' := (w_Model cI cB cZ aM aMt aMn aMr aMs aMi (0 : Int32) mtd msz mto mfr mso mnu mfa mpl mwo msm mgo mt mno mre msn mis)) (va_runV (As := [.int x1, .int x2, .int x3, .int x4]) (rest := []) ⟨hx, hb, hml, hown, hts⟩ (c_X7_canSet l D cI cB cZ ta aM aMt aMn aMr aMs aMi H1.size (0 : Int32) mtd msz mto mfr mso mnu mfa mpl mwo msm mgo mt mno mre msn mis x1 x2 x3 x4 r2 h2) (cwV 4 hts gX7_would_X7_canSet rfl rfl rfl (by decide +kernel) ⟨(Nat.le_of_ble_eq_true rfl), (Nat.le_of_ble_eq_true rfl)⟩) ⟨PW_blind, va_recv hK hP1 rfl (q0 := 0) rfl, PW_at hP1 hD1 hK hS1 hA hG [0, 1, 2, 3, 4, 5] rfl (by decide)⟩ rfl rfl hl.1 rfl (lv_room (Nat.le_of_ble_eq_true rfl)) dX7_would_11 ⟨(Nat.le_of_ble_eq_true rfl), (Nat.le_of_ble_eq_true rfl)⟩) hP1 hD1 hS1 hA [0, 1, 2, 3, 4, 5] [] [0, 1, 2, 3, 4, 5] rfl rfl (by decide) (by decide) (by decide) rfl (fun H3 lo3 hz2 hP3 hD3 hS3 => ?_)
  clear hP1 hD1 hS1
  refine lv_if_eq (tgt := 36) hx hb dX7_would_14 (by decide) (fun c4 => ?_) (fun c4 => ?_)
  · have hm5 := zz_if c4 hm2
    refine lv_ldc (v := (-1000000000 : Int32)) hx hb hown (hts (.constant RX7 193 (-1000000000)) (by decide +kernel)) dX7_would_36 ?_
    obtain ⟨hq1, hq99⟩ := Prod.mk.inj (Option.some.inj hm5)
    obtain ⟨hq2, hq3⟩ := Prod.mk.inj (hq99)
    subst hq1
    subst hq2
    subst hq3
    exact W.iret hx hb hr (fun t ht hW => ⟨⟨_, (), rfl, rfl, by rw [ht]; exact hP3, va_K.moved hW.alike hK, hD3⟩, hS3.F ht⟩) hS3.2.2 dX7_would_38
  · have hm6 := zz_nf c4 hm2
    refine lv_aload_n hx hb dX7_would_17 rfl (lv_at hl 0 rfl) ?_
    refine lv_iload_n hx hb dX7_would_18 rfl (lv_at hl 1 rfl) ?_
    refine lv_iload_n hx hb dX7_would_19 rfl (lv_at hl 2 rfl) ?_
    refine lv_iload_n hx hb dX7_would_20 rfl (lv_at hl 3 rfl) ?_
    refine lv_iload hx hb dX7_would_21 (lv_at hl 4 rfl) ?_
    obtain ⟨r7, mno_7, h7, hm7⟩ := ob2_e hm6
    refine gcall_i (ws' := (w_Model cI cB cZ aM aMt aMn aMr aMs aMi (0 : Int32) mtd msz mto mfr mso mnu mfa mpl mwo msm mgo mt mno_7 mre msn mis)) (va_runV (As := [.int x1, .int x2, .int x3, .int x4]) (rest := []) ⟨hx, hb, hml, hown, hts⟩ (c_X7_valueWith l D cI cB cZ ta aM aMt aMn aMr aMs aMi H3.size (0 : Int32) mtd msz mto mfr mso mnu mfa mpl mwo msm mgo mt mno mre msn mis x1 x2 x3 x4 r7 mno_7 h7) (cwV 4 hts gX7_would_X7_valueWith rfl rfl rfl (by decide +kernel) ⟨(Nat.le_of_ble_eq_true rfl), (Nat.le_of_ble_eq_true rfl)⟩) ⟨PW_blind, va_recv hK hP3 rfl (q0 := 0) rfl, PW_at hP3 hD3 hK hS3 hA hG [0, 1, 2, 3, 4, 5] rfl (by decide)⟩ rfl rfl hl.1 rfl (lv_room (Nat.le_of_ble_eq_true rfl)) dX7_would_23 ⟨(Nat.le_of_ble_eq_true rfl), (Nat.le_of_ble_eq_true rfl)⟩) hP3 hD3 hS3 hA [0, 1, 2, 3, 4, 5] [] [0, 1, 2, 3, 4, 5] rfl rfl (by decide) (by decide) (by decide) rfl (fun H8 lo8 hP8 hD8 hS8 => ?_)
    clear hP3 hD3 hS3
    refine lv_aload_n hx hb dX7_would_26 rfl (lv_at hl 0 rfl) ?_
    refine lv_iconst (v := (0 : Int32)) hx hb dX7_would_27 (by decide) ?_
    refine lv_iload_n hx hb dX7_would_28 rfl (lv_at hl 2 rfl) ?_
    obtain ⟨r9, h9, hm9⟩ := ob1_e hm7
    refine gcall_i (ws' := (w_Model cI cB cZ aM aMt aMn aMr aMs aMi (0 : Int32) mtd msz mto mfr mso mnu mfa mpl mwo msm mgo mt mno_7 mre msn mis)) (va_runV (As := [.int (0 : Int32), .int x2]) (rest := [.int r7]) ⟨hx, hb, hml, hown, hts⟩ (c_X7_valueIn l D cI cB cZ ta aM aMt aMn aMr aMs aMi H8.size (0 : Int32) mtd msz mto mfr mso mnu mfa mpl mwo msm mgo mt mno_7 mre msn mis (0 : Int32) x2 r9 h9) (cwV 2 hts gX7_would_X7_valueIn rfl rfl rfl (by decide +kernel) ⟨(Nat.le_of_ble_eq_true rfl), (Nat.le_of_ble_eq_true rfl)⟩) ⟨PW_blind, va_recv hK hP8 rfl (q0 := 0) rfl, PW_at hP8 hD8 hK hS8 hA hG [0, 1, 2, 3, 4, 5] rfl (by decide)⟩ rfl rfl hl.1 rfl (lv_room (Nat.le_of_ble_eq_true rfl)) dX7_would_29 ⟨(Nat.le_of_ble_eq_true rfl), (Nat.le_of_ble_eq_true rfl)⟩) hP8 hD8 hS8 hA [0, 1, 2, 3, 4, 5] [] [0, 1, 2, 3, 4, 5] rfl rfl (by decide) (by decide) (by decide) rfl (fun H10 lo10 hP10 hD10 hS10 => ?_)
    clear hP8 hD8 hS8
    refine lv_isub hx hb dX7_would_32 ?_
    refine lv_goto (tgt := 38) hx hb dX7_would_33 (by decide) ?_
    obtain ⟨hq1, hq99⟩ := Prod.mk.inj (Option.some.inj hm9)
    obtain ⟨hq2, hq3⟩ := Prod.mk.inj (hq99)
    subst hq1
    subst hq2
    subst hq3
    exact W.iret hx hb hr (fun t ht hW => ⟨⟨_, (), rfl, rfl, by rw [ht]; exact hP10, va_K.moved hW.alike hK, hD10⟩, hS10.F ht⟩) hS10.2.2 dX7_would_38
theorem iw_X7_needs_X7 : ∀ w ∈ wsX70, w ∈ wsX7_needs := by decide +kernel
set_option maxHeartbeats 4000000 in
set_option maxRecDepth 100000 in
theorem c_X7_needs (l : Launch) (D : va_G) (cI cB cZ : ClassId) (ta : Nat → Nat) (aM : Nat) (aMt : Nat) (aMn : Nat) (aMr : Nat) (aMs : Nat) (aMi : Nat) (sz : Nat) (mth : Int32) (mtd : Int32) (msz : Int32) (mto : Int32) (mfr : Int32) (mso : Int32) (mnu : Int32) (mfa : Int32) (mpl : Int32) (mwo : Int64) (msm : Int32) (mgo : Int32) (mt : (Nat → Int32)) (mno : (Nat → Int32)) (mre : (Nat → Int32)) (msn : (Nat → Int32)) (mis : (Nat → Int32)) (x1 : Int32) (x2 : Int32) (x3 : Int32) (r0 : Int32) (u_mth : Int32) (u_mno : (Nat → Int32)) (hm : m_X7_needs mth mno x1 x2 x3 = some (r0, u_mth, u_mno)) : Met l yX7_needs wsX7_needs ({ frames := 5, cells := 0, slots := 0, locals := 123 } : Room) (va_Pc [.ref aM, .int x1, .int x2, .int x3] (PW D cI cB cZ ta (w_Model cI cB cZ aM aMt aMn aMr aMs aMi mth mtd msz mto mfr mso mnu mfa mpl mwo msm mgo mt mno mre msn mis) sz)) (QI D cI cB cZ (va_A (w_Model cI cB cZ aM aMt aMn aMr aMs aMi mth mtd msz mto mfr mso mnu mfa mpl mwo msm mgo mt mno mre msn mis) sz) (w_Model cI cB cZ aM aMt aMn aMr aMs aMi u_mth mtd msz mto mfr mso mnu mfa mpl mwo msm mgo mt u_mno mre msn mis) r0) 0 0 (va_A (w_Model cI cB cZ aM aMt aMn aMr aMs aMi mth mtd msz mto mfr mso mnu mfa mpl mwo msm mgo mt mno mre msn mis) sz) := by
  refine Met.ofW (cc := cX7_needs) (maxL := 7) (ret := (some .int)) (by decide) rfl ?_
  intro p e s m args below meth c s₁ B hml hv
  obtain ⟨rfl, hsz, hP, hK, hD0, hG⟩ := hv
  have hx := B.exec
  have hb := B.bytes
  have hr := B.returns
  have hts := atoms_spec (ws := wsX7_needs) B.pre
  have hown : s.vm.findClass RX7 = some m.cls := findClass_of_methodNamed B.named
  have hlocks := B.notSynchronized
  subst hsz
  have hD := hD0.self (sz := s.heap.size)
  clear hD0
  have hA0 : ∀ q : Nat, s.heap.size ≤ q → va_A (w_Model cI cB cZ aM aMt aMn aMr aMs aMi mth mtd msz mto mfr mso mnu mfa mpl mwo msm mgo mt mno mre msn mis) s.heap.size q := fun q h => Or.inr h
  generalize hAe : va_A (w_Model cI cB cZ aM aMt aMn aMr aMs aMi mth mtd msz mto mfr mso mnu mfa mpl mwo msm mgo mt mno mre msn mis) s.heap.size = A at hD hG hA0 ⊢
  have hA : ∀ q : Nat, s.heap.size ≤ q → A q := hA0
  clear hA0
  have hS : va_S A s.heap s.heap [] := va_S.rf
  have iw_X7 := iw_X7_needs_X7
  have hk_60 : ∀ (n : Nat) (mth : Int32) (mno : (Nat → Int32)) (y3 : Int32) (y4 : Int32) (y5 : Int32) (y6 : Int32), k_X7_needs_60 n mth mno y3 y4 y5 y6 = some (r0, u_mth, u_mno) → ∀ (ls : Array Slot) (H : Heap) (lo : List Loc), lv_has ls 7 [(3, .int y3), (4, .int y4), (5, .int y5), (6, .int y6)] → va_P D vwCl (w_Model cI cB cZ aM aMt aMn aMr aMs aMi mth mtd msz mto mfr mso mnu mfa mpl mwo msm mgo mt mno mre msn mis) H → va_D A (w_Model cI cB cZ aM aMt aMn aMr aMs aMi mth mtd msz mto mfr mso mnu mfa mpl mwo msm mgo mt mno mre msn mis) → va_S A s.heap H lo → W p l e (headSpec wsX7_needs ({ frames := 5, cells := 0, slots := 0, locals := 123 } : Room)).room s m (([.ref aM, .int x1, .int x2, .int x3] : List Value).toArray) below meth c H lo 0 0 (MQ below (QI D cI cB cZ A (w_Model cI cB cZ aM aMt aMn aMr aMs aMi u_mth mtd msz mto mfr mso mnu mfa mpl mwo msm mgo mt u_mno mre msn mis) r0) (([.ref aM, .int x1, .int x2, .int x3] : List Value).toArray) s 0 0 A) (F0 m 60 ls []) := by
    intro n
    induction n with
    | zero => intro mth mno y3 y4 y5 y6 hm; exact zz_nn hm
    | succ n ih =>
      intro mth mno y3 y4 y5 y6 hm ls H lo hl hP hD hS
      replace hm := (k_X7_needs_60_s n mth mno y3 y4 y5 y6).symm.trans hm
      refine lv_iload hx hb dX7_needs_60 (lv_at hl 3 rfl) ?_
      refine lv_sipush (v := (1000 : Int32)) hx hb dX7_needs_62 (by decide) ?_
      refine lv_icmp_ge (tgt := 89) hx hb dX7_needs_65 (by decide) (fun c1 => ?_) (fun c1 => ?_)
      · have hm2 := zz_if c1 hm
        refine lv_bipush (v := (-2 : Int32)) hx hb dX7_needs_89 (by decide) ?_
        obtain ⟨hq1, hq99⟩ := Prod.mk.inj (Option.some.inj hm2)
        obtain ⟨hq2, hq3⟩ := Prod.mk.inj (hq99)
        subst hq1
        subst hq2
        subst hq3
        exact W.iret hx hb hr (fun t ht hW => ⟨⟨_, (), rfl, rfl, by rw [ht]; exact hP, va_K.moved hW.alike hK, hD⟩, hS.F ht⟩) hS.2.2 dX7_needs_91
      · have hm3 := zz_nf c1 hm
        refine lv_iload hx hb dX7_needs_68 (lv_at hl 1 rfl) ?_
        refine lv_iload hx hb dX7_needs_70 (lv_at hl 3 rfl) ?_
        refine lv_iload hx hb dX7_needs_72 (lv_at hl 2 rfl) ?_
        refine lv_imul hx hb dX7_needs_74 ?_
        refine lv_iadd hx hb dX7_needs_75 ?_
        refine lv_iload_n hx hb dX7_needs_76 rfl (lv_at hl 0 rfl) ?_
        refine lv_icmp_lt (tgt := 83) hx hb dX7_needs_77 (by decide) (fun c4 => ?_) (fun c4 => ?_)
        · have hm5 := zz_if c4 hm3
          refine lv_iinc (v := (y6 + (1 : Int32))) (lv' := [(6, .int (y6 + (1 : Int32))), (3, .int y3), (4, .int y4), (5, .int y5)]) hx hb dX7_needs_83 hl (k := 3) rfl (by rfl) (by decide) rfl (fun ls7 hl7 => ?_)
          refine lv_goto (tgt := 60) hx hb dX7_needs_86 (by decide) ?_
          exact ih mth mno y3 y4 y5 (y6 + (1 : Int32)) hm5 ls7 H lo (lv_sub hl7 [1, 2, 3, 0] rfl) hP hD hS
        · have hm6 := zz_nf c4 hm3
          refine lv_iload hx hb dX7_needs_80 (lv_at hl 3 rfl) ?_
          obtain ⟨hq1, hq99⟩ := Prod.mk.inj (Option.some.inj hm6)
          obtain ⟨hq2, hq3⟩ := Prod.mk.inj (hq99)
          subst hq1
          subst hq2
          subst hq3
          exact W.iret hx hb hr (fun t ht hW => ⟨⟨_, (), rfl, rfl, by rw [ht]; exact hP, va_K.moved hW.alike hK, hD⟩, hS.F ht⟩) hS.2.2 dX7_needs_82
  have hl := lv_entry ([.ref aM, .int x1, .int x2, .int x3]) (n := 7) (Nat.le_of_ble_eq_true rfl)
  rw [lg_entry_eq]
  generalize (lg_sl ([.ref aM, .int x1, .int x2, .int x3]) ++ List.replicate (7 - (lg_sl ([.ref aM, .int x1, .int x2, .int x3])).length) Slot.unset).toArray = ls at hl ⊢
  have hl : lv_has ls 7 [(0, .ref aM), (1, .int x1), (2, .int x2), (3, .int x3)] := hl
  replace hm : (ob1 (m_X7_isLeaf mno x1) (fun r9 => (if r9 = 0 then some ((-1 : Int32), (0 : Int32), mno) else (ob1 (m_X7_isScene mno x2) (fun r14 => (if r14 = 0 then some ((-1 : Int32), (0 : Int32), mno) else (ob1 (m_X7_isIn x3 (-999999999 : Int32) (999999999 : Int32)) (fun r19 => (if r19 = 0 then some ((-1 : Int32), (0 : Int32), mno) else (ob2 (m_X7_valueWith mno x1 x2 (0 : Int32) (0 : Int32)) (fun r24 mno_24 => (ob2 (m_X7_valueWith mno_24 x1 x2 (0 : Int32) (1 : Int32)) (fun r27 mno_27 => (k_X7_needs_60 FU (0 : Int32) mno_27 x3 r24 (r27 - r24) (0 : Int32))))))))))))))) = some (r0, u_mth, u_mno) := hm
  refine lv_aload_n hx hb dX7_needs_0 rfl (lv_at hl 0 rfl) ?_
  refine lv_iconst (v := (0 : Int32)) hx hb dX7_needs_1 (by decide) ?_
  refine va_put (D := D) (ci := 7) (v := .int (0 : Int32)) (ty := .int) (C := RX7) (T := TX7) (N := 17) hx hb hts iw_X7 tyX7 tyX7_ok nmX7 hown hK hP hD hS 0 rfl rfl 0 (by decide) (hts (.fieldLink RX7 1 "VarianceBridgeModel" "thrown" "I") (by decide +kernel)) (fun _ h9 => h9) rfl (by decide +kernel) rfl rfl (Nat.le_of_ble_eq_true rfl) dX7_needs_2 (fun H8 lo8 hP8 hD8 hS8 => ?_)
  replace hP8 : va_P D vwCl (w_Model cI cB cZ aM aMt aMn aMr aMs aMi (0 : Int32) mtd msz mto mfr mso mnu mfa mpl mwo msm mgo mt mno mre msn mis) H8 := hP8
  replace hD8 : va_D A (w_Model cI cB cZ aM aMt aMn aMr aMs aMi (0 : Int32) mtd msz mto mfr mso mnu mfa mpl mwo msm mgo mt mno mre msn mis) := hD8
  clear hP hD hS
  refine lv_aload_n hx hb dX7_needs_5 rfl (lv_at hl 0 rfl) ?_
  refine lv_iload_n hx hb dX7_needs_6 rfl (lv_at hl 1 rfl) ?_
  obtain ⟨r9, h9, hm9⟩ := ob1_e hm
  refine gcall_b (ws' := (w_Model cI cB cZ aM aMt aMn aMr aMs aMi (0 : Int32) mtd msz mto mfr mso mnu mfa mpl mwo msm mgo mt mno mre msn mis)) (va_runV (As := [.int x1]) (rest := []) ⟨hx, hb, hml, hown, hts⟩ (c_X7_isLeaf l D cI cB cZ ta aM aMt aMn aMr aMs aMi H8.size (0 : Int32) mtd msz mto mfr mso mnu mfa mpl mwo msm mgo mt mno mre msn mis x1 r9 h9) (cwV 1 hts gX7_needs_X7_isLeaf rfl rfl rfl (by decide +kernel) ⟨(Nat.le_of_ble_eq_true rfl), (Nat.le_of_ble_eq_true rfl)⟩) ⟨PW_blind, va_recv hK hP8 rfl (q0 := 0) rfl, PW_at hP8 hD8 hK hS8 hA hG [0, 1, 2, 3, 4, 5] rfl (by decide)⟩ rfl rfl hl.1 rfl (lv_room (Nat.le_of_ble_eq_true rfl)) dX7_needs_7 ⟨(Nat.le_of_ble_eq_true rfl), (Nat.le_of_ble_eq_true rfl)⟩) hP8 hD8 hS8 hA [0, 1, 2, 3, 4, 5] [] [0, 1, 2, 3, 4, 5] rfl rfl (by decide) (by decide) (by decide) rfl (fun H10 lo10 hz9 hP10 hD10 hS10 => ?_)
  clear hP8 hD8 hS8
  refine lv_if_eq (tgt := 32) hx hb dX7_needs_10 (by decide) (fun c11 => ?_) (fun c11 => ?_)
  · have hm12 := zz_if c11 hm9
    refine lv_iconst (v := (-1 : Int32)) hx hb dX7_needs_32 (by decide) ?_
    obtain ⟨hq1, hq99⟩ := Prod.mk.inj (Option.some.inj hm12)
    obtain ⟨hq2, hq3⟩ := Prod.mk.inj (hq99)
    subst hq1
    subst hq2
    subst hq3
    exact W.iret hx hb hr (fun t ht hW => ⟨⟨_, (), rfl, rfl, by rw [ht]; exact hP10, va_K.moved hW.alike hK, hD10⟩, hS10.F ht⟩) hS10.2.2 dX7_needs_33
  · have hm13 := zz_nf c11 hm9
    refine lv_aload_n hx hb dX7_needs_13 rfl (lv_at hl 0 rfl) ?_
    refine lv_iload_n hx hb dX7_needs_14 rfl (lv_at hl 2 rfl) ?_
    obtain ⟨r14, h14, hm14⟩ := ob1_e hm13
    refine gcall_b (ws' := (w_Model cI cB cZ aM aMt aMn aMr aMs aMi (0 : Int32) mtd msz mto mfr mso mnu mfa mpl mwo msm mgo mt mno mre msn mis)) (va_runV (As := [.int x2]) (rest := []) ⟨hx, hb, hml, hown, hts⟩ (c_X7_isScene l D cI cB cZ ta aM aMt aMn aMr aMs aMi H10.size (0 : Int32) mtd msz mto mfr mso mnu mfa mpl mwo msm mgo mt mno mre msn mis x2 r14 h14) (cwV 1 hts gX7_needs_X7_isScene rfl rfl rfl (by decide +kernel) ⟨(Nat.le_of_ble_eq_true rfl), (Nat.le_of_ble_eq_true rfl)⟩) ⟨PW_blind, va_recv hK hP10 rfl (q0 := 0) rfl, PW_at hP10 hD10 hK hS10 hA hG [0, 1, 2, 3, 4, 5] rfl (by decide)⟩ rfl rfl hl.1 rfl (lv_room (Nat.le_of_ble_eq_true rfl)) dX7_needs_15 ⟨(Nat.le_of_ble_eq_true rfl), (Nat.le_of_ble_eq_true rfl)⟩) hP10 hD10 hS10 hA [0, 1, 2, 3, 4, 5] [] [0, 1, 2, 3, 4, 5] rfl rfl (by decide) (by decide) (by decide) rfl (fun H15 lo15 hz14 hP15 hD15 hS15 => ?_)
    clear hP10 hD10 hS10
    refine lv_if_eq (tgt := 32) hx hb dX7_needs_18 (by decide) (fun c16 => ?_) (fun c16 => ?_)
    · have hm17 := zz_if c16 hm14
      refine lv_iconst (v := (-1 : Int32)) hx hb dX7_needs_32 (by decide) ?_
      obtain ⟨hq1, hq99⟩ := Prod.mk.inj (Option.some.inj hm17)
      obtain ⟨hq2, hq3⟩ := Prod.mk.inj (hq99)
      subst hq1
      subst hq2
      subst hq3
      exact W.iret hx hb hr (fun t ht hW => ⟨⟨_, (), rfl, rfl, by rw [ht]; exact hP15, va_K.moved hW.alike hK, hD15⟩, hS15.F ht⟩) hS15.2.2 dX7_needs_33
    · have hm18 := zz_nf c16 hm14
      refine lv_iload_n hx hb dX7_needs_21 rfl (lv_at hl 3 rfl) ?_
      refine lv_ldc (v := (-999999999 : Int32)) hx hb hown (hts (.constant RX7 242 (-999999999)) (by decide +kernel)) dX7_needs_22 ?_
      refine lv_ldc (v := (999999999 : Int32)) hx hb hown (hts (.constant RX7 243 (999999999)) (by decide +kernel)) dX7_needs_24 ?_
      obtain ⟨r19, h19, hm19⟩ := ob1_e hm18
      refine gcall_b (ws' := (w_Model cI cB cZ aM aMt aMn aMr aMs aMi (0 : Int32) mtd msz mto mfr mso mnu mfa mpl mwo msm mgo mt mno mre msn mis)) (va_runS (As := [.int x3, .int (-999999999 : Int32), .int (999999999 : Int32)]) (rest := []) ⟨hx, hb, hml, hown, hts⟩ (c_X7_isIn l D cI cB cZ ta H15.size x3 (-999999999 : Int32) (999999999 : Int32) r19 h19) (va_cwS 3 hts gX7_needs_X7_isIn rfl rfl rfl (by decide +kernel) ⟨(Nat.le_of_ble_eq_true rfl), (Nat.le_of_ble_eq_true rfl)⟩) ⟨PW_blind, PW_at hP15 hD15 hK hS15 hA hG [] rfl (by decide)⟩ rfl rfl hl.1 rfl (lv_room (Nat.le_of_ble_eq_true rfl)) dX7_needs_26 ⟨(Nat.le_of_ble_eq_true rfl), (Nat.le_of_ble_eq_true rfl)⟩) hP15 hD15 hS15 hA [] [0, 1, 2, 3, 4, 5] [0, 1, 2, 3, 4, 5] rfl rfl (by decide) (by decide) (by decide) rfl (fun H20 lo20 hz19 hP20 hD20 hS20 => ?_)
      clear hP15 hD15 hS15
      refine lv_if_ne (tgt := 34) hx hb dX7_needs_29 (by decide) (fun c21 => ?_) (fun c21 => ?_)
      · have hm22 := zz_nf c21 hm19
        refine lv_aload_n hx hb dX7_needs_34 rfl (lv_at hl 0 rfl) ?_
        refine lv_iload_n hx hb dX7_needs_35 rfl (lv_at hl 1 rfl) ?_
        refine lv_iload_n hx hb dX7_needs_36 rfl (lv_at hl 2 rfl) ?_
        refine lv_iconst (v := (0 : Int32)) hx hb dX7_needs_37 (by decide) ?_
        refine lv_iconst (v := (0 : Int32)) hx hb dX7_needs_38 (by decide) ?_
        obtain ⟨r24, mno_24, h24, hm24⟩ := ob2_e hm22
        refine gcall_i (ws' := (w_Model cI cB cZ aM aMt aMn aMr aMs aMi (0 : Int32) mtd msz mto mfr mso mnu mfa mpl mwo msm mgo mt mno_24 mre msn mis)) (va_runV (As := [.int x1, .int x2, .int (0 : Int32), .int (0 : Int32)]) (rest := []) ⟨hx, hb, hml, hown, hts⟩ (c_X7_valueWith l D cI cB cZ ta aM aMt aMn aMr aMs aMi H20.size (0 : Int32) mtd msz mto mfr mso mnu mfa mpl mwo msm mgo mt mno mre msn mis x1 x2 (0 : Int32) (0 : Int32) r24 mno_24 h24) (cwV 4 hts gX7_needs_X7_valueWith rfl rfl rfl (by decide +kernel) ⟨(Nat.le_of_ble_eq_true rfl), (Nat.le_of_ble_eq_true rfl)⟩) ⟨PW_blind, va_recv hK hP20 rfl (q0 := 0) rfl, PW_at hP20 hD20 hK hS20 hA hG [0, 1, 2, 3, 4, 5] rfl (by decide)⟩ rfl rfl hl.1 rfl (lv_room (Nat.le_of_ble_eq_true rfl)) dX7_needs_39 ⟨(Nat.le_of_ble_eq_true rfl), (Nat.le_of_ble_eq_true rfl)⟩) hP20 hD20 hS20 hA [0, 1, 2, 3, 4, 5] [] [0, 1, 2, 3, 4, 5] rfl rfl (by decide) (by decide) (by decide) rfl (fun H25 lo25 hP25 hD25 hS25 => ?_)
        clear hP20 hD20 hS20
        refine lv_istore (lv' := [(4, .int r24), (0, .ref aM), (1, .int x1), (2, .int x2), (3, .int x3)]) hx hb dX7_needs_42 hl (by decide) rfl (fun ls26 hl26 => ?_)
        refine lv_aload_n hx hb dX7_needs_44 rfl (lv_at hl26 1 rfl) ?_
        refine lv_iload_n hx hb dX7_needs_45 rfl (lv_at hl26 2 rfl) ?_
        refine lv_iload_n hx hb dX7_needs_46 rfl (lv_at hl26 3 rfl) ?_
        refine lv_iconst (v := (0 : Int32)) hx hb dX7_needs_47 (by decide) ?_
        refine lv_iconst (v := (1 : Int32)) hx hb dX7_needs_48 (by decide) ?_
        obtain ⟨r27, mno_27, h27, hm27⟩ := ob2_e hm24
        refine gcall_i (ws' := (w_Model cI cB cZ aM aMt aMn aMr aMs aMi (0 : Int32) mtd msz mto mfr mso mnu mfa mpl mwo msm mgo mt mno_27 mre msn mis)) (va_runV (As := [.int x1, .int x2, .int (0 : Int32), .int (1 : Int32)]) (rest := []) ⟨hx, hb, hml, hown, hts⟩ (c_X7_valueWith l D cI cB cZ ta aM aMt aMn aMr aMs aMi H25.size (0 : Int32) mtd msz mto mfr mso mnu mfa mpl mwo msm mgo mt mno_24 mre msn mis x1 x2 (0 : Int32) (1 : Int32) r27 mno_27 h27) (cwV 4 hts gX7_needs_X7_valueWith rfl rfl rfl (by decide +kernel) ⟨(Nat.le_of_ble_eq_true rfl), (Nat.le_of_ble_eq_true rfl)⟩) ⟨PW_blind, va_recv hK hP25 rfl (q0 := 0) rfl, PW_at hP25 hD25 hK hS25 hA hG [0, 1, 2, 3, 4, 5] rfl (by decide)⟩ rfl rfl hl26.1 rfl (lv_room (Nat.le_of_ble_eq_true rfl)) dX7_needs_49 ⟨(Nat.le_of_ble_eq_true rfl), (Nat.le_of_ble_eq_true rfl)⟩) hP25 hD25 hS25 hA [0, 1, 2, 3, 4, 5] [] [0, 1, 2, 3, 4, 5] rfl rfl (by decide) (by decide) (by decide) rfl (fun H28 lo28 hP28 hD28 hS28 => ?_)
        clear hP25 hD25 hS25
        refine lv_iload hx hb dX7_needs_52 (lv_at hl26 0 rfl) ?_
        refine lv_isub hx hb dX7_needs_54 ?_
        refine lv_istore (lv' := [(5, .int (r27 - r24)), (4, .int r24), (0, .ref aM), (1, .int x1), (2, .int x2), (3, .int x3)]) hx hb dX7_needs_55 hl26 (by decide) rfl (fun ls29 hl29 => ?_)
        refine lv_iconst (v := (0 : Int32)) hx hb dX7_needs_57 (by decide) ?_
        refine lv_istore (lv' := [(6, .int (0 : Int32)), (5, .int (r27 - r24)), (4, .int r24), (0, .ref aM), (1, .int x1), (2, .int x2), (3, .int x3)]) hx hb dX7_needs_58 hl29 (by decide) rfl (fun ls30 hl30 => ?_)
        exact hk_60 FU (0 : Int32) mno_27 x3 r24 (r27 - r24) (0 : Int32) hm27 ls30 H28 lo28 (lv_sub hl30 [6, 2, 1, 0] rfl) hP28 hD28 hS28
      · have hm23 := zz_if c21 hm19
        refine lv_iconst (v := (-1 : Int32)) hx hb dX7_needs_32 (by decide) ?_
        obtain ⟨hq1, hq99⟩ := Prod.mk.inj (Option.some.inj hm23)
        obtain ⟨hq2, hq3⟩ := Prod.mk.inj (hq99)
        subst hq1
        subst hq2
        subst hq3
        exact W.iret hx hb hr (fun t ht hW => ⟨⟨_, (), rfl, rfl, by rw [ht]; exact hP20, va_K.moved hW.alike hK, hD20⟩, hS20.F ht⟩) hS20.2.2 dX7_needs_33
theorem iw_X7_snap_X7 : ∀ w ∈ wsX70, w ∈ wsX7_snap := by decide +kernel
set_option maxHeartbeats 4000000 in
set_option maxRecDepth 100000 in
theorem c_X7_snap (l : Launch) (D : va_G) (cI cB cZ : ClassId) (ta : Nat → Nat) (aM : Nat) (aMt : Nat) (aMn : Nat) (aMr : Nat) (aMs : Nat) (aMi : Nat) (sz : Nat) (mth : Int32) (mtd : Int32) (msz : Int32) (mto : Int32) (mfr : Int32) (mso : Int32) (mnu : Int32) (mfa : Int32) (mpl : Int32) (mwo : Int64) (msm : Int32) (mgo : Int32) (mt : (Nat → Int32)) (mno : (Nat → Int32)) (mre : (Nat → Int32)) (msn : (Nat → Int32)) (mis : (Nat → Int32)) (u_msm : Int32) (u_msn : (Nat → Int32)) (hm : m_X7_snap msm mno msn = some (u_msm, u_msn)) : Met l yX7_snap wsX7_snap ({ frames := 0, cells := 0, slots := 0, locals := 0 } : Room) (va_Pc [.ref aM] (PW D cI cB cZ ta (w_Model cI cB cZ aM aMt aMn aMr aMs aMi mth mtd msz mto mfr mso mnu mfa mpl mwo msm mgo mt mno mre msn mis) sz)) (QV D cI cB cZ (va_A (w_Model cI cB cZ aM aMt aMn aMr aMs aMi mth mtd msz mto mfr mso mnu mfa mpl mwo msm mgo mt mno mre msn mis) sz) (w_Model cI cB cZ aM aMt aMn aMr aMs aMi mth mtd msz mto mfr mso mnu mfa mpl mwo u_msm mgo mt mno mre u_msn mis)) 0 0 (va_A (w_Model cI cB cZ aM aMt aMn aMr aMs aMi mth mtd msz mto mfr mso mnu mfa mpl mwo msm mgo mt mno mre msn mis) sz) := by
  refine Met.ofW (cc := cX7_snap) (maxL := 2) (ret := none) (by decide) rfl ?_
  intro p e s m args below meth c s₁ B hml hv
  obtain ⟨rfl, hsz, hP, hK, hD0, hG⟩ := hv
  have hx := B.exec
  have hb := B.bytes
  have hr := B.returns
  have hts := atoms_spec (ws := wsX7_snap) B.pre
  have hown : s.vm.findClass RX7 = some m.cls := findClass_of_methodNamed B.named
  have hlocks := B.notSynchronized
  subst hsz
  have hD := hD0.self (sz := s.heap.size)
  clear hD0
  have hA0 : ∀ q : Nat, s.heap.size ≤ q → va_A (w_Model cI cB cZ aM aMt aMn aMr aMs aMi mth mtd msz mto mfr mso mnu mfa mpl mwo msm mgo mt mno mre msn mis) s.heap.size q := fun q h => Or.inr h
  generalize hAe : va_A (w_Model cI cB cZ aM aMt aMn aMr aMs aMi mth mtd msz mto mfr mso mnu mfa mpl mwo msm mgo mt mno mre msn mis) s.heap.size = A at hD hG hA0 ⊢
  have hA : ∀ q : Nat, s.heap.size ≤ q → A q := hA0
  clear hA0
  have hS : va_S A s.heap s.heap [] := va_S.rf
  have iw_X7 := iw_X7_snap_X7
  have hk_52 : ∀ (n : Nat) (msm : Int32) (msn : (Nat → Int32)) (y1 : Int32), k_X7_snap_52 mno n msm msn y1 = some (u_msm, u_msn) → ∀ (ls : Array Slot) (H : Heap) (lo : List Loc), lv_has ls 2 [(0, .ref aM), (1, .int y1)] → va_P D vwCl (w_Model cI cB cZ aM aMt aMn aMr aMs aMi mth mtd msz mto mfr mso mnu mfa mpl mwo msm mgo mt mno mre msn mis) H → va_D A (w_Model cI cB cZ aM aMt aMn aMr aMs aMi mth mtd msz mto mfr mso mnu mfa mpl mwo msm mgo mt mno mre msn mis) → va_S A s.heap H lo → W p l e (headSpec wsX7_snap ({ frames := 0, cells := 0, slots := 0, locals := 0 } : Room)).room s m (([.ref aM] : List Value).toArray) below meth c H lo 0 0 (MQ below (QV D cI cB cZ A (w_Model cI cB cZ aM aMt aMn aMr aMs aMi mth mtd msz mto mfr mso mnu mfa mpl mwo u_msm mgo mt mno mre u_msn mis)) (([.ref aM] : List Value).toArray) s 0 0 A) (F0 m 52 ls []) := by
    intro n
    induction n with
    | zero => intro msm msn y1 hm; exact zz_nn hm
    | succ n ih =>
      intro msm msn y1 hm ls H lo hl hP hD hS
      replace hm := (k_X7_snap_52_s mno n msm msn y1).symm.trans hm
      refine lv_iload_n hx hb dX7_snap_52 rfl (lv_at hl 1 rfl) ?_
      refine lv_sipush (v := (442 : Int32)) hx hb dX7_snap_53 (by decide) ?_
      refine lv_icmp_ge (tgt := 86) hx hb dX7_snap_56 (by decide) (fun c1 => ?_) (fun c1 => ?_)
      · have hm2 := zz_if c1 hm
        refine lv_aload_n hx hb dX7_snap_86 rfl (lv_at hl 0 rfl) ?_
        refine lv_dup hx hb dX7_snap_87 rfl ?_
        refine va_get (D := D) (ci := 7) (v := .int msm) (C := RX7) (T := TX7) (N := 17) hx hb hts iw_X7 hown hK hP 0 rfl rfl 14 (by decide) (hts (.fieldLink RX7 147 "VarianceBridgeModel" "snapMany" "I") (by decide +kernel)) (fun _ h9 => h9) rfl dX7_snap_88 ?_
        refine lv_iconst (v := (1 : Int32)) hx hb dX7_snap_91 (by decide) ?_
        refine lv_iadd hx hb dX7_snap_92 ?_
        refine va_put (D := D) (ci := 7) (v := .int (msm + (1 : Int32))) (ty := .int) (C := RX7) (T := TX7) (N := 17) hx hb hts iw_X7 tyX7 tyX7_ok nmX7 hown hK hP hD hS 0 rfl rfl 14 (by decide) (hts (.fieldLink RX7 147 "VarianceBridgeModel" "snapMany" "I") (by decide +kernel)) (fun _ h9 => h9) rfl (by decide +kernel) rfl rfl (Nat.le_of_ble_eq_true rfl) dX7_snap_93 (fun H4 lo4 hP4 hD4 hS4 => ?_)
        replace hP4 : va_P D vwCl (w_Model cI cB cZ aM aMt aMn aMr aMs aMi mth mtd msz mto mfr mso mnu mfa mpl mwo (msm + (1 : Int32)) mgo mt mno mre msn mis) H4 := hP4
        replace hD4 : va_D A (w_Model cI cB cZ aM aMt aMn aMr aMs aMi mth mtd msz mto mfr mso mnu mfa mpl mwo (msm + (1 : Int32)) mgo mt mno mre msn mis) := hD4
        clear hP hD hS
        obtain ⟨hq1, hq2⟩ := Prod.mk.inj (Option.some.inj hm2)
        subst hq1
        subst hq2
        exact W.vret hx hb hr (fun t ht hW => ⟨⟨(), rfl, trivial, by rw [ht]; exact hP4, va_K.moved hW.alike hK, hD4⟩, hS4.F ht⟩) hS4.2.2 dX7_snap_96
      · have hm3 := zz_nf c1 hm
        refine lv_aload_n hx hb dX7_snap_59 rfl (lv_at hl 0 rfl) ?_
        refine va_get (D := D) (ci := 7) (v := .ref aMs) (C := RX7) (T := TX7) (N := 17) hx hb hts iw_X7 hown hK hP 0 rfl rfl 13 (by decide) (hts (.fieldLink RX7 70 "VarianceBridgeModel" "snaps" "[I") (by decide +kernel)) (fun _ h9 => h9) rfl dX7_snap_60 ?_
        refine lv_sipush (v := (442 : Int32)) hx hb dX7_snap_63 (by decide) ?_
        refine lv_aload_n hx hb dX7_snap_66 rfl (lv_at hl 0 rfl) ?_
        refine va_get (D := D) (ci := 7) (v := .int msm) (C := RX7) (T := TX7) (N := 17) hx hb hts iw_X7 hown hK hP 0 rfl rfl 14 (by decide) (hts (.fieldLink RX7 147 "VarianceBridgeModel" "snapMany" "I") (by decide +kernel)) (fun _ h9 => h9) rfl dX7_snap_67 ?_
        refine lv_imul hx hb dX7_snap_70 ?_
        refine lv_iload_n hx hb dX7_snap_71 rfl (lv_at hl 1 rfl) ?_
        refine lv_iadd hx hb dX7_snap_72 ?_
        refine lv_aload_n hx hb dX7_snap_73 rfl (lv_at hl 0 rfl) ?_
        refine va_get (D := D) (ci := 7) (v := .ref aMn) (C := RX7) (T := TX7) (N := 17) hx hb hts iw_X7 hown hK hP 0 rfl rfl 11 (by decide) (hts (.fieldLink RX7 64 "VarianceBridgeModel" "now" "[I") (by decide +kernel)) (fun _ h9 => h9) rfl dX7_snap_74 ?_
        refine lv_iload_n hx hb dX7_snap_77 rfl (lv_at hl 1 rfl) ?_
        obtain ⟨c5, hm6⟩ := zz_no hm3
        refine va_iald hx hb hK hP 2 0 rfl rfl c5 dX7_snap_78 ?_
        obtain ⟨c7, hm8⟩ := zz_no hm6
        refine va_iast hx hb hK hP hD hS 4 0 rfl rfl c7 dX7_snap_79 (fun H9 lo9 hP9 hD9 hS9 => ?_)
        replace hP9 : va_P D vwCl (w_Model cI cB cZ aM aMt aMn aMr aMs aMi mth mtd msz mto mfr mso mnu mfa mpl mwo msm mgo mt mno mre (upd msn (((442 : Int32) * msm) + y1).toNatClampNeg (mno y1.toNatClampNeg)) mis) H9 := hP9
        replace hD9 : va_D A (w_Model cI cB cZ aM aMt aMn aMr aMs aMi mth mtd msz mto mfr mso mnu mfa mpl mwo msm mgo mt mno mre (upd msn (((442 : Int32) * msm) + y1).toNatClampNeg (mno y1.toNatClampNeg)) mis) := hD9
        clear hP hD hS
        refine lv_iinc (v := (y1 + (1 : Int32))) (lv' := [(1, .int (y1 + (1 : Int32))), (0, .ref aM)]) hx hb dX7_snap_80 hl (k := 1) rfl (by rfl) (by decide) rfl (fun ls10 hl10 => ?_)
        refine lv_goto (tgt := 52) hx hb dX7_snap_83 (by decide) ?_
        exact ih msm (upd msn (((442 : Int32) * msm) + y1).toNatClampNeg (mno y1.toNatClampNeg)) (y1 + (1 : Int32)) hm8 ls10 H9 lo9 (lv_sub hl10 [1, 0] rfl) hP9 hD9 hS9
  have hk_50 : ∀ (msm : Int32) (msn : (Nat → Int32)), k_X7_snap_50 mno msm msn = some (u_msm, u_msn) → ∀ (ls : Array Slot) (H : Heap) (lo : List Loc), lv_has ls 2 [(0, .ref aM)] → va_P D vwCl (w_Model cI cB cZ aM aMt aMn aMr aMs aMi mth mtd msz mto mfr mso mnu mfa mpl mwo msm mgo mt mno mre msn mis) H → va_D A (w_Model cI cB cZ aM aMt aMn aMr aMs aMi mth mtd msz mto mfr mso mnu mfa mpl mwo msm mgo mt mno mre msn mis) → va_S A s.heap H lo → W p l e (headSpec wsX7_snap ({ frames := 0, cells := 0, slots := 0, locals := 0 } : Room)).room s m (([.ref aM] : List Value).toArray) below meth c H lo 0 0 (MQ below (QV D cI cB cZ A (w_Model cI cB cZ aM aMt aMn aMr aMs aMi mth mtd msz mto mfr mso mnu mfa mpl mwo u_msm mgo mt mno mre u_msn mis)) (([.ref aM] : List Value).toArray) s 0 0 A) (F0 m 50 ls []) := by
    intro msm msn hm ls H lo hl hP hD hS
    replace hm : (k_X7_snap_52 mno FU msm msn (0 : Int32)) = some (u_msm, u_msn) := hm
    refine lv_iconst (v := (0 : Int32)) hx hb dX7_snap_50 (by decide) ?_
    refine lv_istore_n (lv' := [(1, .int (0 : Int32)), (0, .ref aM)]) hx hb dX7_snap_51 rfl hl (by decide) rfl (fun ls11 hl11 => ?_)
    exact hk_52 FU msm msn (0 : Int32) hm ls11 H lo (lv_sub hl11 [1, 0] rfl) hP hD hS
  have hk_11 : ∀ (n : Nat) (msm : Int32) (msn : (Nat → Int32)) (y1 : Int32), k_X7_snap_11 mno n msm msn y1 = some (u_msm, u_msn) → ∀ (ls : Array Slot) (H : Heap) (lo : List Loc), lv_has ls 2 [(0, .ref aM), (1, .int y1)] → va_P D vwCl (w_Model cI cB cZ aM aMt aMn aMr aMs aMi mth mtd msz mto mfr mso mnu mfa mpl mwo msm mgo mt mno mre msn mis) H → va_D A (w_Model cI cB cZ aM aMt aMn aMr aMs aMi mth mtd msz mto mfr mso mnu mfa mpl mwo msm mgo mt mno mre msn mis) → va_S A s.heap H lo → W p l e (headSpec wsX7_snap ({ frames := 0, cells := 0, slots := 0, locals := 0 } : Room)).room s m (([.ref aM] : List Value).toArray) below meth c H lo 0 0 (MQ below (QV D cI cB cZ A (w_Model cI cB cZ aM aMt aMn aMr aMs aMi mth mtd msz mto mfr mso mnu mfa mpl mwo u_msm mgo mt mno mre u_msn mis)) (([.ref aM] : List Value).toArray) s 0 0 A) (F0 m 11 ls []) := by
    intro n
    induction n with
    | zero => intro msm msn y1 hm; exact zz_nn hm
    | succ n ih =>
      intro msm msn y1 hm ls H lo hl hP hD hS
      replace hm := (k_X7_snap_11_s mno n msm msn y1).symm.trans hm
      refine lv_iload_n hx hb dX7_snap_11 rfl (lv_at hl 1 rfl) ?_
      refine lv_sipush (v := (3978 : Int32)) hx hb dX7_snap_12 (by decide) ?_
      refine lv_icmp_ge (tgt := 40) hx hb dX7_snap_15 (by decide) (fun c12 => ?_) (fun c12 => ?_)
      · have hm13 := zz_if c12 hm
        refine lv_aload_n hx hb dX7_snap_40 rfl (lv_at hl 0 rfl) ?_
        refine lv_dup hx hb dX7_snap_41 rfl ?_
        refine va_get (D := D) (ci := 7) (v := .int msm) (C := RX7) (T := TX7) (N := 17) hx hb hts iw_X7 hown hK hP 0 rfl rfl 14 (by decide) (hts (.fieldLink RX7 147 "VarianceBridgeModel" "snapMany" "I") (by decide +kernel)) (fun _ h9 => h9) rfl dX7_snap_42 ?_
        refine lv_iconst (v := (1 : Int32)) hx hb dX7_snap_45 (by decide) ?_
        refine lv_isub hx hb dX7_snap_46 ?_
        refine va_put (D := D) (ci := 7) (v := .int (msm - (1 : Int32))) (ty := .int) (C := RX7) (T := TX7) (N := 17) hx hb hts iw_X7 tyX7 tyX7_ok nmX7 hown hK hP hD hS 0 rfl rfl 14 (by decide) (hts (.fieldLink RX7 147 "VarianceBridgeModel" "snapMany" "I") (by decide +kernel)) (fun _ h9 => h9) rfl (by decide +kernel) rfl rfl (Nat.le_of_ble_eq_true rfl) dX7_snap_47 (fun H15 lo15 hP15 hD15 hS15 => ?_)
        replace hP15 : va_P D vwCl (w_Model cI cB cZ aM aMt aMn aMr aMs aMi mth mtd msz mto mfr mso mnu mfa mpl mwo (msm - (1 : Int32)) mgo mt mno mre msn mis) H15 := hP15
        replace hD15 : va_D A (w_Model cI cB cZ aM aMt aMn aMr aMs aMi mth mtd msz mto mfr mso mnu mfa mpl mwo (msm - (1 : Int32)) mgo mt mno mre msn mis) := hD15
        clear hP hD hS
        exact hk_50 (msm - (1 : Int32)) msn hm13 ls H15 lo15 (lv_sub hl [0] rfl) hP15 hD15 hS15
      · have hm14 := zz_nf c12 hm
        refine lv_aload_n hx hb dX7_snap_18 rfl (lv_at hl 0 rfl) ?_
        refine va_get (D := D) (ci := 7) (v := .ref aMs) (C := RX7) (T := TX7) (N := 17) hx hb hts iw_X7 hown hK hP 0 rfl rfl 13 (by decide) (hts (.fieldLink RX7 70 "VarianceBridgeModel" "snaps" "[I") (by decide +kernel)) (fun _ h9 => h9) rfl dX7_snap_19 ?_
        refine lv_iload_n hx hb dX7_snap_22 rfl (lv_at hl 1 rfl) ?_
        refine lv_aload_n hx hb dX7_snap_23 rfl (lv_at hl 0 rfl) ?_
        refine va_get (D := D) (ci := 7) (v := .ref aMs) (C := RX7) (T := TX7) (N := 17) hx hb hts iw_X7 hown hK hP 0 rfl rfl 13 (by decide) (hts (.fieldLink RX7 70 "VarianceBridgeModel" "snaps" "[I") (by decide +kernel)) (fun _ h9 => h9) rfl dX7_snap_24 ?_
        refine lv_iload_n hx hb dX7_snap_27 rfl (lv_at hl 1 rfl) ?_
        refine lv_sipush (v := (442 : Int32)) hx hb dX7_snap_28 (by decide) ?_
        refine lv_iadd hx hb dX7_snap_31 ?_
        obtain ⟨c16, hm17⟩ := zz_no hm14
        refine va_iald hx hb hK hP 4 0 rfl rfl c16 dX7_snap_32 ?_
        obtain ⟨c18, hm19⟩ := zz_no hm17
        refine va_iast hx hb hK hP hD hS 4 0 rfl rfl c18 dX7_snap_33 (fun H20 lo20 hP20 hD20 hS20 => ?_)
        replace hP20 : va_P D vwCl (w_Model cI cB cZ aM aMt aMn aMr aMs aMi mth mtd msz mto mfr mso mnu mfa mpl mwo msm mgo mt mno mre (upd msn y1.toNatClampNeg (msn (y1 + (442 : Int32)).toNatClampNeg)) mis) H20 := hP20
        replace hD20 : va_D A (w_Model cI cB cZ aM aMt aMn aMr aMs aMi mth mtd msz mto mfr mso mnu mfa mpl mwo msm mgo mt mno mre (upd msn y1.toNatClampNeg (msn (y1 + (442 : Int32)).toNatClampNeg)) mis) := hD20
        clear hP hD hS
        refine lv_iinc (v := (y1 + (1 : Int32))) (lv' := [(1, .int (y1 + (1 : Int32))), (0, .ref aM)]) hx hb dX7_snap_34 hl (k := 1) rfl (by rfl) (by decide) rfl (fun ls21 hl21 => ?_)
        refine lv_goto (tgt := 11) hx hb dX7_snap_37 (by decide) ?_
        exact ih msm (upd msn y1.toNatClampNeg (msn (y1 + (442 : Int32)).toNatClampNeg)) (y1 + (1 : Int32)) hm19 ls21 H20 lo20 (lv_sub hl21 [1, 0] rfl) hP20 hD20 hS20
  have hl := lv_entry ([.ref aM]) (n := 2) (Nat.le_of_ble_eq_true rfl)
  rw [lg_entry_eq]
  generalize (lg_sl ([.ref aM]) ++ List.replicate (2 - (lg_sl ([.ref aM])).length) Slot.unset).toArray = ls at hl ⊢
  have hl : lv_has ls 2 [(0, .ref aM)] := hl
  replace hm : (if msm = (10 : Int32) then (k_X7_snap_11 mno FU msm msn (0 : Int32)) else (k_X7_snap_50 mno msm msn)) = some (u_msm, u_msn) := hm
  refine lv_aload_n hx hb dX7_snap_0 rfl (lv_at hl 0 rfl) ?_
  refine va_get (D := D) (ci := 7) (v := .int msm) (C := RX7) (T := TX7) (N := 17) hx hb hts iw_X7 hown hK hP 0 rfl rfl 14 (by decide) (hts (.fieldLink RX7 147 "VarianceBridgeModel" "snapMany" "I") (by decide +kernel)) (fun _ h9 => h9) rfl dX7_snap_1 ?_
  refine lv_bipush (v := (10 : Int32)) hx hb dX7_snap_4 (by decide) ?_
  refine lv_icmp_ne (tgt := 50) hx hb dX7_snap_6 (by decide) (fun c22 => ?_) (fun c22 => ?_)
  · have hm23 := zz_nf c22 hm
    exact hk_50 msm msn hm23 ls s.heap [] (lv_sub hl [0] rfl) hP hD hS
  · have hm24 := zz_if c22 hm
    refine lv_iconst (v := (0 : Int32)) hx hb dX7_snap_9 (by decide) ?_
    refine lv_istore_n (lv' := [(1, .int (0 : Int32)), (0, .ref aM)]) hx hb dX7_snap_10 rfl hl (by decide) rfl (fun ls25 hl25 => ?_)
    exact hk_11 FU msm msn (0 : Int32) hm24 ls25 s.heap [] (lv_sub hl25 [1, 0] rfl) hP hD hS
theorem iw_X7_set_X7 : ∀ w ∈ wsX70, w ∈ wsX7_set := by decide +kernel
set_option maxHeartbeats 4000000 in
set_option maxRecDepth 100000 in
theorem c_X7_set (l : Launch) (D : va_G) (cI cB cZ : ClassId) (ta : Nat → Nat) (aM : Nat) (aMt : Nat) (aMn : Nat) (aMr : Nat) (aMs : Nat) (aMi : Nat) (sz : Nat) (mth : Int32) (mtd : Int32) (msz : Int32) (mto : Int32) (mfr : Int32) (mso : Int32) (mnu : Int32) (mfa : Int32) (mpl : Int32) (mwo : Int64) (msm : Int32) (mgo : Int32) (mt : (Nat → Int32)) (mno : (Nat → Int32)) (mre : (Nat → Int32)) (msn : (Nat → Int32)) (mis : (Nat → Int32)) (x1 : Int32) (x2 : Int32) (x3 : Int32) (x4 : Int32) (r0 : Int32) (u_mth : Int32) (u_msm : Int32) (u_mno : (Nat → Int32)) (u_msn : (Nat → Int32)) (hm : m_X7_set mth msm mno msn x1 x2 x3 x4 = some (r0, u_mth, u_msm, u_mno, u_msn)) : Met l yX7_set wsX7_set ({ frames := 4, cells := 0, slots := 0, locals := 88 } : Room) (va_Pc [.ref aM, .int x1, .int x2, .int x3, .int x4] (PW D cI cB cZ ta (w_Model cI cB cZ aM aMt aMn aMr aMs aMi mth mtd msz mto mfr mso mnu mfa mpl mwo msm mgo mt mno mre msn mis) sz)) (QI D cI cB cZ (va_A (w_Model cI cB cZ aM aMt aMn aMr aMs aMi mth mtd msz mto mfr mso mnu mfa mpl mwo msm mgo mt mno mre msn mis) sz) (w_Model cI cB cZ aM aMt aMn aMr aMs aMi u_mth mtd msz mto mfr mso mnu mfa mpl mwo u_msm mgo mt u_mno mre u_msn mis) r0) 0 0 (va_A (w_Model cI cB cZ aM aMt aMn aMr aMs aMi mth mtd msz mto mfr mso mnu mfa mpl mwo msm mgo mt mno mre msn mis) sz) := by
  refine Met.ofW (cc := cX7_set) (maxL := 6) (ret := (some .int)) (by decide) rfl ?_
  intro p e s m args below meth c s₁ B hml hv
  obtain ⟨rfl, hsz, hP, hK, hD0, hG⟩ := hv
  have hx := B.exec
  have hb := B.bytes
  have hr := B.returns
  have hts := atoms_spec (ws := wsX7_set) B.pre
  have hown : s.vm.findClass RX7 = some m.cls := findClass_of_methodNamed B.named
  have hlocks := B.notSynchronized
  subst hsz
  have hD := hD0.self (sz := s.heap.size)
  clear hD0
  have hA0 : ∀ q : Nat, s.heap.size ≤ q → va_A (w_Model cI cB cZ aM aMt aMn aMr aMs aMi mth mtd msz mto mfr mso mnu mfa mpl mwo msm mgo mt mno mre msn mis) s.heap.size q := fun q h => Or.inr h
  generalize hAe : va_A (w_Model cI cB cZ aM aMt aMn aMr aMs aMi mth mtd msz mto mfr mso mnu mfa mpl mwo msm mgo mt mno mre msn mis) s.heap.size = A at hD hG hA0 ⊢
  have hA : ∀ q : Nat, s.heap.size ≤ q → A q := hA0
  clear hA0
  have hS : va_S A s.heap s.heap [] := va_S.rf
  have iw_X7 := iw_X7_set_X7
  have hl := lv_entry ([.ref aM, .int x1, .int x2, .int x3, .int x4]) (n := 6) (Nat.le_of_ble_eq_true rfl)
  rw [lg_entry_eq]
  generalize (lg_sl ([.ref aM, .int x1, .int x2, .int x3, .int x4]) ++ List.replicate (6 - (lg_sl ([.ref aM, .int x1, .int x2, .int x3, .int x4])).length) Slot.unset).toArray = ls at hl ⊢
  have hl : lv_has ls 6 [(0, .ref aM), (1, .int x1), (2, .int x2), (3, .int x3), (4, .int x4)] := hl
  replace hm : (ob1 (m_X7_canSet mno x1 x2 x3 x4) (fun r2 => (if r2 = 0 then some ((-1 : Int32), (0 : Int32), msm, mno, msn) else (ob2 (m_X7_snap msm mno msn) (fun msm_7 msn_7 => (ob1 (m_X7_at x1 x2 x3) (fun r9 => (if r9 < 0 ∨ 442 ≤ r9.toNatClampNeg then none else (ob1 (m_X7_at x1 x2 x3) (fun r14 => (if r14 < 0 ∨ 442 ≤ r14.toNatClampNeg then none else some ((mno r9.toNatClampNeg), (0 : Int32), msm_7, (upd mno r14.toNatClampNeg x4), msn_7)))))))))))) = some (r0, u_mth, u_msm, u_mno, u_msn) := hm
  refine lv_aload_n hx hb dX7_set_0 rfl (lv_at hl 0 rfl) ?_
  refine lv_iconst (v := (0 : Int32)) hx hb dX7_set_1 (by decide) ?_
  refine va_put (D := D) (ci := 7) (v := .int (0 : Int32)) (ty := .int) (C := RX7) (T := TX7) (N := 17) hx hb hts iw_X7 tyX7 tyX7_ok nmX7 hown hK hP hD hS 0 rfl rfl 0 (by decide) (hts (.fieldLink RX7 1 "VarianceBridgeModel" "thrown" "I") (by decide +kernel)) (fun _ h9 => h9) rfl (by decide +kernel) rfl rfl (Nat.le_of_ble_eq_true rfl) dX7_set_2 (fun H1 lo1 hP1 hD1 hS1 => ?_)
  replace hP1 : va_P D vwCl (w_Model cI cB cZ aM aMt aMn aMr aMs aMi (0 : Int32) mtd msz mto mfr mso mnu mfa mpl mwo msm mgo mt mno mre msn mis) H1 := hP1
  replace hD1 : va_D A (w_Model cI cB cZ aM aMt aMn aMr aMs aMi (0 : Int32) mtd msz mto mfr mso mnu mfa mpl mwo msm mgo mt mno mre msn mis) := hD1
  clear hP hD hS
  refine lv_aload_n hx hb dX7_set_5 rfl (lv_at hl 0 rfl) ?_
  refine lv_iload_n hx hb dX7_set_6 rfl (lv_at hl 1 rfl) ?_
  refine lv_iload_n hx hb dX7_set_7 rfl (lv_at hl 2 rfl) ?_
  refine lv_iload_n hx hb dX7_set_8 rfl (lv_at hl 3 rfl) ?_
  refine lv_iload hx hb dX7_set_9 (lv_at hl 4 rfl) ?_
  obtain ⟨r2, h2, hm2⟩ := ob1_e hm
  refine gcall_b (ws' := (w_Model cI cB cZ aM aMt aMn aMr aMs aMi (0 : Int32) mtd msz mto mfr mso mnu mfa mpl mwo msm mgo mt mno mre msn mis)) (va_runV (As := [.int x1, .int x2, .int x3, .int x4]) (rest := []) ⟨hx, hb, hml, hown, hts⟩ (c_X7_canSet l D cI cB cZ ta aM aMt aMn aMr aMs aMi H1.size (0 : Int32) mtd msz mto mfr mso mnu mfa mpl mwo msm mgo mt mno mre msn mis x1 x2 x3 x4 r2 h2) (cwV 4 hts gX7_set_X7_canSet rfl rfl rfl (by decide +kernel) ⟨(Nat.le_of_ble_eq_true rfl), (Nat.le_of_ble_eq_true rfl)⟩) ⟨PW_blind, va_recv hK hP1 rfl (q0 := 0) rfl, PW_at hP1 hD1 hK hS1 hA hG [0, 1, 2, 3, 4, 5] rfl (by decide)⟩ rfl rfl hl.1 rfl (lv_room (Nat.le_of_ble_eq_true rfl)) dX7_set_11 ⟨(Nat.le_of_ble_eq_true rfl), (Nat.le_of_ble_eq_true rfl)⟩) hP1 hD1 hS1 hA [0, 1, 2, 3, 4, 5] [] [0, 1, 2, 3, 4, 5] rfl rfl (by decide) (by decide) (by decide) rfl (fun H3 lo3 hz2 hP3 hD3 hS3 => ?_)
  clear hP1 hD1 hS1
  refine lv_if_ne (tgt := 19) hx hb dX7_set_14 (by decide) (fun c4 => ?_) (fun c4 => ?_)
  · have hm5 := zz_nf c4 hm2
    refine lv_aload_n hx hb dX7_set_19 rfl (lv_at hl 0 rfl) ?_
    obtain ⟨msm_7, msn_7, h7, hm7⟩ := ob2_e hm5
    refine gcall_v (ws' := (w_Model cI cB cZ aM aMt aMn aMr aMs aMi (0 : Int32) mtd msz mto mfr mso mnu mfa mpl mwo msm_7 mgo mt mno mre msn_7 mis)) (va_runV (As := []) (rest := []) ⟨hx, hb, hml, hown, hts⟩ (c_X7_snap l D cI cB cZ ta aM aMt aMn aMr aMs aMi H3.size (0 : Int32) mtd msz mto mfr mso mnu mfa mpl mwo msm mgo mt mno mre msn mis msm_7 msn_7 h7) (cwV 0 hts gX7_set_X7_snap rfl rfl rfl (by decide +kernel) ⟨(Nat.le_of_ble_eq_true rfl), (Nat.le_of_ble_eq_true rfl)⟩) ⟨PW_blind, va_recv hK hP3 rfl (q0 := 0) rfl, PW_at hP3 hD3 hK hS3 hA hG [0, 1, 2, 3, 4, 5] rfl (by decide)⟩ rfl rfl hl.1 rfl (lv_room (Nat.le_of_ble_eq_true rfl)) dX7_set_20 ⟨(Nat.le_of_ble_eq_true rfl), (Nat.le_of_ble_eq_true rfl)⟩) hP3 hD3 hS3 hA [0, 1, 2, 3, 4, 5] [] [0, 1, 2, 3, 4, 5] rfl rfl (by decide) (by decide) (by decide) rfl (fun H8 lo8 hP8 hD8 hS8 => ?_)
    clear hP3 hD3 hS3
    refine lv_aload_n hx hb dX7_set_23 rfl (lv_at hl 0 rfl) ?_
    refine va_get (D := D) (ci := 7) (v := .ref aMn) (C := RX7) (T := TX7) (N := 17) hx hb hts iw_X7 hown hK hP8 0 rfl rfl 11 (by decide) (hts (.fieldLink RX7 64 "VarianceBridgeModel" "now" "[I") (by decide +kernel)) (fun _ h9 => h9) rfl dX7_set_24 ?_
    refine lv_iload_n hx hb dX7_set_27 rfl (lv_at hl 1 rfl) ?_
    refine lv_iload_n hx hb dX7_set_28 rfl (lv_at hl 2 rfl) ?_
    refine lv_iload_n hx hb dX7_set_29 rfl (lv_at hl 3 rfl) ?_
    obtain ⟨r9, h9, hm9⟩ := ob1_e hm7
    refine gcall_i (ws' := (w_Model cI cB cZ aM aMt aMn aMr aMs aMi (0 : Int32) mtd msz mto mfr mso mnu mfa mpl mwo msm_7 mgo mt mno mre msn_7 mis)) (va_runS (As := [.int x1, .int x2, .int x3]) (rest := [.ref aMn]) ⟨hx, hb, hml, hown, hts⟩ (c_X7_at l D cI cB cZ ta H8.size x1 x2 x3 r9 h9) (va_cwS 3 hts gX7_set_X7_at rfl rfl rfl (by decide +kernel) ⟨(Nat.le_of_ble_eq_true rfl), (Nat.le_of_ble_eq_true rfl)⟩) ⟨PW_blind, PW_at hP8 hD8 hK hS8 hA hG [] rfl (by decide)⟩ rfl rfl hl.1 rfl (lv_room (Nat.le_of_ble_eq_true rfl)) dX7_set_30 ⟨(Nat.le_of_ble_eq_true rfl), (Nat.le_of_ble_eq_true rfl)⟩) hP8 hD8 hS8 hA [] [0, 1, 2, 3, 4, 5] [0, 1, 2, 3, 4, 5] rfl rfl (by decide) (by decide) (by decide) rfl (fun H10 lo10 hP10 hD10 hS10 => ?_)
    clear hP8 hD8 hS8
    obtain ⟨c11, hm12⟩ := zz_no hm9
    refine va_iald hx hb hK hP10 2 0 rfl rfl c11 dX7_set_33 ?_
    refine lv_istore (lv' := [(5, .int (mno r9.toNatClampNeg)), (0, .ref aM), (1, .int x1), (2, .int x2), (3, .int x3), (4, .int x4)]) hx hb dX7_set_34 hl (by decide) rfl (fun ls13 hl13 => ?_)
    refine lv_aload_n hx hb dX7_set_36 rfl (lv_at hl13 1 rfl) ?_
    refine va_get (D := D) (ci := 7) (v := .ref aMn) (C := RX7) (T := TX7) (N := 17) hx hb hts iw_X7 hown hK hP10 0 rfl rfl 11 (by decide) (hts (.fieldLink RX7 64 "VarianceBridgeModel" "now" "[I") (by decide +kernel)) (fun _ h9 => h9) rfl dX7_set_37 ?_
    refine lv_iload_n hx hb dX7_set_40 rfl (lv_at hl13 2 rfl) ?_
    refine lv_iload_n hx hb dX7_set_41 rfl (lv_at hl13 3 rfl) ?_
    refine lv_iload_n hx hb dX7_set_42 rfl (lv_at hl13 4 rfl) ?_
    obtain ⟨r14, h14, hm14⟩ := ob1_e hm12
    refine gcall_i (ws' := (w_Model cI cB cZ aM aMt aMn aMr aMs aMi (0 : Int32) mtd msz mto mfr mso mnu mfa mpl mwo msm_7 mgo mt mno mre msn_7 mis)) (va_runS (As := [.int x1, .int x2, .int x3]) (rest := [.ref aMn]) ⟨hx, hb, hml, hown, hts⟩ (c_X7_at l D cI cB cZ ta H10.size x1 x2 x3 r14 h14) (va_cwS 3 hts gX7_set_X7_at rfl rfl rfl (by decide +kernel) ⟨(Nat.le_of_ble_eq_true rfl), (Nat.le_of_ble_eq_true rfl)⟩) ⟨PW_blind, PW_at hP10 hD10 hK hS10 hA hG [] rfl (by decide)⟩ rfl rfl hl13.1 rfl (lv_room (Nat.le_of_ble_eq_true rfl)) dX7_set_43 ⟨(Nat.le_of_ble_eq_true rfl), (Nat.le_of_ble_eq_true rfl)⟩) hP10 hD10 hS10 hA [] [0, 1, 2, 3, 4, 5] [0, 1, 2, 3, 4, 5] rfl rfl (by decide) (by decide) (by decide) rfl (fun H15 lo15 hP15 hD15 hS15 => ?_)
    clear hP10 hD10 hS10
    refine lv_iload hx hb dX7_set_46 (lv_at hl13 5 rfl) ?_
    obtain ⟨c16, hm17⟩ := zz_no hm14
    refine va_iast hx hb hK hP15 hD15 hS15 2 0 rfl rfl c16 dX7_set_48 (fun H18 lo18 hP18 hD18 hS18 => ?_)
    replace hP18 : va_P D vwCl (w_Model cI cB cZ aM aMt aMn aMr aMs aMi (0 : Int32) mtd msz mto mfr mso mnu mfa mpl mwo msm_7 mgo mt (upd mno r14.toNatClampNeg x4) mre msn_7 mis) H18 := hP18
    replace hD18 : va_D A (w_Model cI cB cZ aM aMt aMn aMr aMs aMi (0 : Int32) mtd msz mto mfr mso mnu mfa mpl mwo msm_7 mgo mt (upd mno r14.toNatClampNeg x4) mre msn_7 mis) := hD18
    clear hP15 hD15 hS15
    refine lv_iload hx hb dX7_set_49 (lv_at hl13 0 rfl) ?_
    obtain ⟨hq1, hq99⟩ := Prod.mk.inj (Option.some.inj hm17)
    obtain ⟨hq2, hq99⟩ := Prod.mk.inj (hq99)
    obtain ⟨hq3, hq99⟩ := Prod.mk.inj (hq99)
    obtain ⟨hq4, hq5⟩ := Prod.mk.inj (hq99)
    subst hq1
    subst hq2
    subst hq3
    subst hq4
    subst hq5
    exact W.iret hx hb hr (fun t ht hW => ⟨⟨_, (), rfl, rfl, by rw [ht]; exact hP18, va_K.moved hW.alike hK, hD18⟩, hS18.F ht⟩) hS18.2.2 dX7_set_51
  · have hm6 := zz_if c4 hm2
    refine lv_iconst (v := (-1 : Int32)) hx hb dX7_set_17 (by decide) ?_
    obtain ⟨hq1, hq99⟩ := Prod.mk.inj (Option.some.inj hm6)
    obtain ⟨hq2, hq99⟩ := Prod.mk.inj (hq99)
    obtain ⟨hq3, hq99⟩ := Prod.mk.inj (hq99)
    obtain ⟨hq4, hq5⟩ := Prod.mk.inj (hq99)
    subst hq1
    subst hq2
    subst hq3
    subst hq4
    subst hq5
    exact W.iret hx hb hr (fun t ht hW => ⟨⟨_, (), rfl, rfl, by rw [ht]; exact hP3, va_K.moved hW.alike hK, hD3⟩, hS3.F ht⟩) hS3.2.2 dX7_set_18
theorem iw_X7_copy_X7 : ∀ w ∈ wsX70, w ∈ wsX7_copy := by decide +kernel
set_option maxHeartbeats 4000000 in
set_option maxRecDepth 100000 in
theorem c_X7_copy (l : Launch) (D : va_G) (cI cB cZ : ClassId) (ta : Nat → Nat) (aM : Nat) (aMt : Nat) (aMn : Nat) (aMr : Nat) (aMs : Nat) (aMi : Nat) (sz : Nat) (mth : Int32) (mtd : Int32) (msz : Int32) (mto : Int32) (mfr : Int32) (mso : Int32) (mnu : Int32) (mfa : Int32) (mpl : Int32) (mwo : Int64) (msm : Int32) (mgo : Int32) (mt : (Nat → Int32)) (mno : (Nat → Int32)) (mre : (Nat → Int32)) (msn : (Nat → Int32)) (mis : (Nat → Int32)) (x1 : Int32) (x2 : Int32) (r0 : Int32) (u_mth : Int32) (u_msm : Int32) (u_mno : (Nat → Int32)) (u_msn : (Nat → Int32)) (hm : m_X7_copy mth msm mno msn x1 x2 = some (r0, u_mth, u_msm, u_mno, u_msn)) : Met l yX7_copy wsX7_copy ({ frames := 3, cells := 0, slots := 0, locals := 65 } : Room) (va_Pc [.ref aM, .int x1, .int x2] (PW D cI cB cZ ta (w_Model cI cB cZ aM aMt aMn aMr aMs aMi mth mtd msz mto mfr mso mnu mfa mpl mwo msm mgo mt mno mre msn mis) sz)) (QI D cI cB cZ (va_A (w_Model cI cB cZ aM aMt aMn aMr aMs aMi mth mtd msz mto mfr mso mnu mfa mpl mwo msm mgo mt mno mre msn mis) sz) (w_Model cI cB cZ aM aMt aMn aMr aMs aMi u_mth mtd msz mto mfr mso mnu mfa mpl mwo u_msm mgo mt u_mno mre u_msn mis) r0) 0 0 (va_A (w_Model cI cB cZ aM aMt aMn aMr aMs aMi mth mtd msz mto mfr mso mnu mfa mpl mwo msm mgo mt mno mre msn mis) sz) := by
  refine Met.ofW (cc := cX7_copy) (maxL := 6) (ret := (some .int)) (by decide) rfl ?_
  intro p e s m args below meth c s₁ B hml hv
  obtain ⟨rfl, hsz, hP, hK, hD0, hG⟩ := hv
  have hx := B.exec
  have hb := B.bytes
  have hr := B.returns
  have hts := atoms_spec (ws := wsX7_copy) B.pre
  have hown : s.vm.findClass RX7 = some m.cls := findClass_of_methodNamed B.named
  have hlocks := B.notSynchronized
  subst hsz
  have hD := hD0.self (sz := s.heap.size)
  clear hD0
  have hA0 : ∀ q : Nat, s.heap.size ≤ q → va_A (w_Model cI cB cZ aM aMt aMn aMr aMs aMi mth mtd msz mto mfr mso mnu mfa mpl mwo msm mgo mt mno mre msn mis) s.heap.size q := fun q h => Or.inr h
  generalize hAe : va_A (w_Model cI cB cZ aM aMt aMn aMr aMs aMi mth mtd msz mto mfr mso mnu mfa mpl mwo msm mgo mt mno mre msn mis) s.heap.size = A at hD hG hA0 ⊢
  have hA : ∀ q : Nat, s.heap.size ≤ q → A q := hA0
  clear hA0
  have hS : va_S A s.heap s.heap [] := va_S.rf
  have iw_X7 := iw_X7_copy_X7
  have hk_91 : ∀ (ct30 : Int32 → Int32 → (Nat → Int32) → (Nat → Int32) → Int32 → Int32 → Int32 → Int32 → Option (Int32 × Int32 × Int32 × (Nat → Int32) × (Nat → Int32))) (hct30 : ∀ (mth : Int32) (msm : Int32) (mno : (Nat → Int32)) (msn : (Nat → Int32)) (y1 : Int32) (y2 : Int32) (y3 : Int32) (y4 : Int32), ct30 mth msm mno msn y1 y2 y3 y4 = some (r0, u_mth, u_msm, u_mno, u_msn) → ∀ (ls : Array Slot) (H : Heap) (lo : List Loc), lv_has ls 6 [(0, .ref aM), (1, .int y1), (2, .int y2), (3, .int y3), (4, .int y4)] → va_P D vwCl (w_Model cI cB cZ aM aMt aMn aMr aMs aMi mth mtd msz mto mfr mso mnu mfa mpl mwo msm mgo mt mno mre msn mis) H → va_D A (w_Model cI cB cZ aM aMt aMn aMr aMs aMi mth mtd msz mto mfr mso mnu mfa mpl mwo msm mgo mt mno mre msn mis) → va_S A s.heap H lo → W p l e (headSpec wsX7_copy ({ frames := 3, cells := 0, slots := 0, locals := 65 } : Room)).room s m (([.ref aM, .int x1, .int x2] : List Value).toArray) below meth c H lo 0 0 (MQ below (QI D cI cB cZ A (w_Model cI cB cZ aM aMt aMn aMr aMs aMi u_mth mtd msz mto mfr mso mnu mfa mpl mwo u_msm mgo mt u_mno mre u_msn mis) r0) (([.ref aM, .int x1, .int x2] : List Value).toArray) s 0 0 A) (F0 m 30 ls [])) (ct44 : Int32 → Int32 → (Nat → Int32) → (Nat → Int32) → Int32 → Int32 → Int32 → Int32 → Int32 → Option (Int32 × Int32 × Int32 × (Nat → Int32) × (Nat → Int32))) (hct44 : ∀ (mth : Int32) (msm : Int32) (mno : (Nat → Int32)) (msn : (Nat → Int32)) (y1 : Int32) (y2 : Int32) (y3 : Int32) (y4 : Int32) (y5 : Int32), ct44 mth msm mno msn y1 y2 y3 y4 y5 = some (r0, u_mth, u_msm, u_mno, u_msn) → ∀ (ls : Array Slot) (H : Heap) (lo : List Loc), lv_has ls 6 [(0, .ref aM), (1, .int y1), (2, .int y2), (3, .int y3), (4, .int y4), (5, .int y5)] → va_P D vwCl (w_Model cI cB cZ aM aMt aMn aMr aMs aMi mth mtd msz mto mfr mso mnu mfa mpl mwo msm mgo mt mno mre msn mis) H → va_D A (w_Model cI cB cZ aM aMt aMn aMr aMs aMi mth mtd msz mto mfr mso mnu mfa mpl mwo msm mgo mt mno mre msn mis) → va_S A s.heap H lo → W p l e (headSpec wsX7_copy ({ frames := 3, cells := 0, slots := 0, locals := 65 } : Room)).room s m (([.ref aM, .int x1, .int x2] : List Value).toArray) below meth c H lo 0 0 (MQ below (QI D cI cB cZ A (w_Model cI cB cZ aM aMt aMn aMr aMs aMi u_mth mtd msz mto mfr mso mnu mfa mpl mwo u_msm mgo mt u_mno mre u_msn mis) r0) (([.ref aM, .int x1, .int x2] : List Value).toArray) s 0 0 A) (F0 m 44 ls [])) (mth : Int32) (msm : Int32) (mno : (Nat → Int32)) (msn : (Nat → Int32)) (y1 : Int32) (y2 : Int32) (y3 : Int32) (y4 : Int32) (y5 : Int32), k_X7_copy_91 ct30 ct44 mth msm mno msn y1 y2 y3 y4 y5 = some (r0, u_mth, u_msm, u_mno, u_msn) → ∀ (ls : Array Slot) (H : Heap) (lo : List Loc), lv_has ls 6 [(0, .ref aM), (1, .int y1), (2, .int y2), (3, .int y3), (4, .int y4), (5, .int y5)] → va_P D vwCl (w_Model cI cB cZ aM aMt aMn aMr aMs aMi mth mtd msz mto mfr mso mnu mfa mpl mwo msm mgo mt mno mre msn mis) H → va_D A (w_Model cI cB cZ aM aMt aMn aMr aMs aMi mth mtd msz mto mfr mso mnu mfa mpl mwo msm mgo mt mno mre msn mis) → va_S A s.heap H lo → W p l e (headSpec wsX7_copy ({ frames := 3, cells := 0, slots := 0, locals := 65 } : Room)).room s m (([.ref aM, .int x1, .int x2] : List Value).toArray) below meth c H lo 0 0 (MQ below (QI D cI cB cZ A (w_Model cI cB cZ aM aMt aMn aMr aMs aMi u_mth mtd msz mto mfr mso mnu mfa mpl mwo u_msm mgo mt u_mno mre u_msn mis) r0) (([.ref aM, .int x1, .int x2] : List Value).toArray) s 0 0 A) (F0 m 91 ls []) := by
    intro ct30 hct30 ct44 hct44 mth msm mno msn y1 y2 y3 y4 y5 hm ls H lo hl hP hD hS
    replace hm : (ob1 (m_X7_at y4 y2 y5) (fun r1 => (ob1 (m_X7_at y4 y1 y5) (fun r3 => (if r3 < 0 ∨ 442 ≤ r3.toNatClampNeg then none else (if r1 < 0 ∨ 442 ≤ r1.toNatClampNeg then none else (ct44 mth msm (upd mno r1.toNatClampNeg (mno r3.toNatClampNeg)) msn y1 y2 y3 y4 (y5 + (1 : Int32))))))))) = some (r0, u_mth, u_msm, u_mno, u_msn) := hm
    refine lv_aload_n hx hb dX7_copy_91 rfl (lv_at hl 0 rfl) ?_
    refine va_get (D := D) (ci := 7) (v := .ref aMn) (C := RX7) (T := TX7) (N := 17) hx hb hts iw_X7 hown hK hP 0 rfl rfl 11 (by decide) (hts (.fieldLink RX7 64 "VarianceBridgeModel" "now" "[I") (by decide +kernel)) (fun _ h9 => h9) rfl dX7_copy_92 ?_
    refine lv_iload hx hb dX7_copy_95 (lv_at hl 4 rfl) ?_
    refine lv_iload_n hx hb dX7_copy_97 rfl (lv_at hl 2 rfl) ?_
    refine lv_iload hx hb dX7_copy_98 (lv_at hl 5 rfl) ?_
    obtain ⟨r1, h1, hm1⟩ := ob1_e hm
    refine gcall_i (ws' := (w_Model cI cB cZ aM aMt aMn aMr aMs aMi mth mtd msz mto mfr mso mnu mfa mpl mwo msm mgo mt mno mre msn mis)) (va_runS (As := [.int y4, .int y2, .int y5]) (rest := [.ref aMn]) ⟨hx, hb, hml, hown, hts⟩ (c_X7_at l D cI cB cZ ta H.size y4 y2 y5 r1 h1) (va_cwS 3 hts gX7_copy_X7_at rfl rfl rfl (by decide +kernel) ⟨(Nat.le_of_ble_eq_true rfl), (Nat.le_of_ble_eq_true rfl)⟩) ⟨PW_blind, PW_at hP hD hK hS hA hG [] rfl (by decide)⟩ rfl rfl hl.1 rfl (lv_room (Nat.le_of_ble_eq_true rfl)) dX7_copy_100 ⟨(Nat.le_of_ble_eq_true rfl), (Nat.le_of_ble_eq_true rfl)⟩) hP hD hS hA [] [0, 1, 2, 3, 4, 5] [0, 1, 2, 3, 4, 5] rfl rfl (by decide) (by decide) (by decide) rfl (fun H2 lo2 hP2 hD2 hS2 => ?_)
    clear hP hD hS
    refine lv_aload_n hx hb dX7_copy_103 rfl (lv_at hl 0 rfl) ?_
    refine va_get (D := D) (ci := 7) (v := .ref aMn) (C := RX7) (T := TX7) (N := 17) hx hb hts iw_X7 hown hK hP2 0 rfl rfl 11 (by decide) (hts (.fieldLink RX7 64 "VarianceBridgeModel" "now" "[I") (by decide +kernel)) (fun _ h9 => h9) rfl dX7_copy_104 ?_
    refine lv_iload hx hb dX7_copy_107 (lv_at hl 4 rfl) ?_
    refine lv_iload_n hx hb dX7_copy_109 rfl (lv_at hl 1 rfl) ?_
    refine lv_iload hx hb dX7_copy_110 (lv_at hl 5 rfl) ?_
    obtain ⟨r3, h3, hm3⟩ := ob1_e hm1
    refine gcall_i (ws' := (w_Model cI cB cZ aM aMt aMn aMr aMs aMi mth mtd msz mto mfr mso mnu mfa mpl mwo msm mgo mt mno mre msn mis)) (va_runS (As := [.int y4, .int y1, .int y5]) (rest := [.ref aMn, .int r1, .ref aMn]) ⟨hx, hb, hml, hown, hts⟩ (c_X7_at l D cI cB cZ ta H2.size y4 y1 y5 r3 h3) (va_cwS 3 hts gX7_copy_X7_at rfl rfl rfl (by decide +kernel) ⟨(Nat.le_of_ble_eq_true rfl), (Nat.le_of_ble_eq_true rfl)⟩) ⟨PW_blind, PW_at hP2 hD2 hK hS2 hA hG [] rfl (by decide)⟩ rfl rfl hl.1 rfl (lv_room (Nat.le_of_ble_eq_true rfl)) dX7_copy_112 ⟨(Nat.le_of_ble_eq_true rfl), (Nat.le_of_ble_eq_true rfl)⟩) hP2 hD2 hS2 hA [] [0, 1, 2, 3, 4, 5] [0, 1, 2, 3, 4, 5] rfl rfl (by decide) (by decide) (by decide) rfl (fun H4 lo4 hP4 hD4 hS4 => ?_)
    clear hP2 hD2 hS2
    obtain ⟨c5, hm6⟩ := zz_no hm3
    refine va_iald hx hb hK hP4 2 0 rfl rfl c5 dX7_copy_115 ?_
    obtain ⟨c7, hm8⟩ := zz_no hm6
    refine va_iast hx hb hK hP4 hD4 hS4 2 0 rfl rfl c7 dX7_copy_116 (fun H9 lo9 hP9 hD9 hS9 => ?_)
    replace hP9 : va_P D vwCl (w_Model cI cB cZ aM aMt aMn aMr aMs aMi mth mtd msz mto mfr mso mnu mfa mpl mwo msm mgo mt (upd mno r1.toNatClampNeg (mno r3.toNatClampNeg)) mre msn mis) H9 := hP9
    replace hD9 : va_D A (w_Model cI cB cZ aM aMt aMn aMr aMs aMi mth mtd msz mto mfr mso mnu mfa mpl mwo msm mgo mt (upd mno r1.toNatClampNeg (mno r3.toNatClampNeg)) mre msn mis) := hD9
    clear hP4 hD4 hS4
    refine lv_iinc (v := (y5 + (1 : Int32))) (lv' := [(5, .int (y5 + (1 : Int32))), (0, .ref aM), (1, .int y1), (2, .int y2), (3, .int y3), (4, .int y4)]) hx hb dX7_copy_117 hl (k := 5) rfl (by rfl) (by decide) rfl (fun ls10 hl10 => ?_)
    refine lv_goto (tgt := 44) hx hb dX7_copy_120 (by decide) ?_
    exact hct44 mth msm (upd mno r1.toNatClampNeg (mno r3.toNatClampNeg)) msn y1 y2 y3 y4 (y5 + (1 : Int32)) hm8 ls10 H9 lo9 (lv_sub hl10 [1, 2, 3, 4, 5, 0] rfl) hP9 hD9 hS9
  have hk_44 : ∀ (ct30 : Int32 → Int32 → (Nat → Int32) → (Nat → Int32) → Int32 → Int32 → Int32 → Int32 → Option (Int32 × Int32 × Int32 × (Nat → Int32) × (Nat → Int32))) (hct30 : ∀ (mth : Int32) (msm : Int32) (mno : (Nat → Int32)) (msn : (Nat → Int32)) (y1 : Int32) (y2 : Int32) (y3 : Int32) (y4 : Int32), ct30 mth msm mno msn y1 y2 y3 y4 = some (r0, u_mth, u_msm, u_mno, u_msn) → ∀ (ls : Array Slot) (H : Heap) (lo : List Loc), lv_has ls 6 [(0, .ref aM), (1, .int y1), (2, .int y2), (3, .int y3), (4, .int y4)] → va_P D vwCl (w_Model cI cB cZ aM aMt aMn aMr aMs aMi mth mtd msz mto mfr mso mnu mfa mpl mwo msm mgo mt mno mre msn mis) H → va_D A (w_Model cI cB cZ aM aMt aMn aMr aMs aMi mth mtd msz mto mfr mso mnu mfa mpl mwo msm mgo mt mno mre msn mis) → va_S A s.heap H lo → W p l e (headSpec wsX7_copy ({ frames := 3, cells := 0, slots := 0, locals := 65 } : Room)).room s m (([.ref aM, .int x1, .int x2] : List Value).toArray) below meth c H lo 0 0 (MQ below (QI D cI cB cZ A (w_Model cI cB cZ aM aMt aMn aMr aMs aMi u_mth mtd msz mto mfr mso mnu mfa mpl mwo u_msm mgo mt u_mno mre u_msn mis) r0) (([.ref aM, .int x1, .int x2] : List Value).toArray) s 0 0 A) (F0 m 30 ls [])) (n : Nat) (mth : Int32) (msm : Int32) (mno : (Nat → Int32)) (msn : (Nat → Int32)) (y1 : Int32) (y2 : Int32) (y3 : Int32) (y4 : Int32) (y5 : Int32), k_X7_copy_44 ct30 n mth msm mno msn y1 y2 y3 y4 y5 = some (r0, u_mth, u_msm, u_mno, u_msn) → ∀ (ls : Array Slot) (H : Heap) (lo : List Loc), lv_has ls 6 [(0, .ref aM), (1, .int y1), (2, .int y2), (3, .int y3), (4, .int y4), (5, .int y5)] → va_P D vwCl (w_Model cI cB cZ aM aMt aMn aMr aMs aMi mth mtd msz mto mfr mso mnu mfa mpl mwo msm mgo mt mno mre msn mis) H → va_D A (w_Model cI cB cZ aM aMt aMn aMr aMs aMi mth mtd msz mto mfr mso mnu mfa mpl mwo msm mgo mt mno mre msn mis) → va_S A s.heap H lo → W p l e (headSpec wsX7_copy ({ frames := 3, cells := 0, slots := 0, locals := 65 } : Room)).room s m (([.ref aM, .int x1, .int x2] : List Value).toArray) below meth c H lo 0 0 (MQ below (QI D cI cB cZ A (w_Model cI cB cZ aM aMt aMn aMr aMs aMi u_mth mtd msz mto mfr mso mnu mfa mpl mwo u_msm mgo mt u_mno mre u_msn mis) r0) (([.ref aM, .int x1, .int x2] : List Value).toArray) s 0 0 A) (F0 m 44 ls []) := by
    intro ct30 hct30 n
    induction n with
    | zero => intro mth msm mno msn y1 y2 y3 y4 y5 hm; exact zz_nn hm
    | succ n ih =>
      intro mth msm mno msn y1 y2 y3 y4 y5 hm ls H lo hl hP hD hS
      replace hm := (k_X7_copy_44_s ct30 n mth msm mno msn y1 y2 y3 y4 y5).symm.trans hm
      refine lv_iload hx hb dX7_copy_44 (lv_at hl 5 rfl) ?_
      refine lv_iconst (v := (5 : Int32)) hx hb dX7_copy_46 (by decide) ?_
      refine lv_icmp_ge (tgt := 123) hx hb dX7_copy_47 (by decide) (fun c11 => ?_) (fun c11 => ?_)
      · have hm12 := zz_if c11 hm
        refine lv_iinc (v := (y4 + (1 : Int32))) (lv' := [(4, .int (y4 + (1 : Int32))), (0, .ref aM), (1, .int y1), (2, .int y2), (3, .int y3), (5, .int y5)]) hx hb dX7_copy_123 hl (k := 4) rfl (by rfl) (by decide) rfl (fun ls14 hl14 => ?_)
        refine lv_goto (tgt := 30) hx hb dX7_copy_126 (by decide) ?_
        exact hct30 mth msm mno msn y1 y2 y3 (y4 + (1 : Int32)) hm12 ls14 H lo (lv_sub hl14 [1, 2, 3, 4, 0] rfl) hP hD hS
      · have hm13 := zz_nf c11 hm
        refine lv_aload_n hx hb dX7_copy_50 rfl (lv_at hl 0 rfl) ?_
        refine lv_iload hx hb dX7_copy_51 (lv_at hl 4 rfl) ?_
        obtain ⟨r15, h15, hm15⟩ := ob1_e hm13
        refine gcall_b (ws' := (w_Model cI cB cZ aM aMt aMn aMr aMs aMi mth mtd msz mto mfr mso mnu mfa mpl mwo msm mgo mt mno mre msn mis)) (va_runV (As := [.int y4]) (rest := []) ⟨hx, hb, hml, hown, hts⟩ (c_X7_isLeaf l D cI cB cZ ta aM aMt aMn aMr aMs aMi H.size mth mtd msz mto mfr mso mnu mfa mpl mwo msm mgo mt mno mre msn mis y4 r15 h15) (cwV 1 hts gX7_copy_X7_isLeaf rfl rfl rfl (by decide +kernel) ⟨(Nat.le_of_ble_eq_true rfl), (Nat.le_of_ble_eq_true rfl)⟩) ⟨PW_blind, va_recv hK hP rfl (q0 := 0) rfl, PW_at hP hD hK hS hA hG [0, 1, 2, 3, 4, 5] rfl (by decide)⟩ rfl rfl hl.1 rfl (lv_room (Nat.le_of_ble_eq_true rfl)) dX7_copy_53 ⟨(Nat.le_of_ble_eq_true rfl), (Nat.le_of_ble_eq_true rfl)⟩) hP hD hS hA [0, 1, 2, 3, 4, 5] [] [0, 1, 2, 3, 4, 5] rfl rfl (by decide) (by decide) (by decide) rfl (fun H16 lo16 hz15 hP16 hD16 hS16 => ?_)
        clear hP hD hS
        refine lv_if_eq (tgt := 123) hx hb dX7_copy_56 (by decide) (fun c17 => ?_) (fun c17 => ?_)
        · have hm18 := zz_if c17 hm15
          refine lv_iinc (v := (y4 + (1 : Int32))) (lv' := [(4, .int (y4 + (1 : Int32))), (0, .ref aM), (1, .int y1), (2, .int y2), (3, .int y3), (5, .int y5)]) hx hb dX7_copy_123 hl (k := 4) rfl (by rfl) (by decide) rfl (fun ls20 hl20 => ?_)
          refine lv_goto (tgt := 30) hx hb dX7_copy_126 (by decide) ?_
          exact hct30 mth msm mno msn y1 y2 y3 (y4 + (1 : Int32)) hm18 ls20 H16 lo16 (lv_sub hl20 [1, 2, 3, 4, 0] rfl) hP16 hD16 hS16
        · have hm19 := zz_nf c17 hm15
          refine lv_aload_n hx hb dX7_copy_59 rfl (lv_at hl 0 rfl) ?_
          refine va_get (D := D) (ci := 7) (v := .ref aMn) (C := RX7) (T := TX7) (N := 17) hx hb hts iw_X7 hown hK hP16 0 rfl rfl 11 (by decide) (hts (.fieldLink RX7 64 "VarianceBridgeModel" "now" "[I") (by decide +kernel)) (fun _ h9 => h9) rfl dX7_copy_60 ?_
          refine lv_iload hx hb dX7_copy_63 (lv_at hl 4 rfl) ?_
          refine lv_iload_n hx hb dX7_copy_65 rfl (lv_at hl 1 rfl) ?_
          refine lv_iload hx hb dX7_copy_66 (lv_at hl 5 rfl) ?_
          obtain ⟨r21, h21, hm21⟩ := ob1_e hm19
          refine gcall_i (ws' := (w_Model cI cB cZ aM aMt aMn aMr aMs aMi mth mtd msz mto mfr mso mnu mfa mpl mwo msm mgo mt mno mre msn mis)) (va_runS (As := [.int y4, .int y1, .int y5]) (rest := [.ref aMn]) ⟨hx, hb, hml, hown, hts⟩ (c_X7_at l D cI cB cZ ta H16.size y4 y1 y5 r21 h21) (va_cwS 3 hts gX7_copy_X7_at rfl rfl rfl (by decide +kernel) ⟨(Nat.le_of_ble_eq_true rfl), (Nat.le_of_ble_eq_true rfl)⟩) ⟨PW_blind, PW_at hP16 hD16 hK hS16 hA hG [] rfl (by decide)⟩ rfl rfl hl.1 rfl (lv_room (Nat.le_of_ble_eq_true rfl)) dX7_copy_68 ⟨(Nat.le_of_ble_eq_true rfl), (Nat.le_of_ble_eq_true rfl)⟩) hP16 hD16 hS16 hA [] [0, 1, 2, 3, 4, 5] [0, 1, 2, 3, 4, 5] rfl rfl (by decide) (by decide) (by decide) rfl (fun H22 lo22 hP22 hD22 hS22 => ?_)
          clear hP16 hD16 hS16
          obtain ⟨c23, hm24⟩ := zz_no hm21
          refine va_iald hx hb hK hP22 2 0 rfl rfl c23 dX7_copy_71 ?_
          refine lv_aload_n hx hb dX7_copy_72 rfl (lv_at hl 0 rfl) ?_
          refine va_get (D := D) (ci := 7) (v := .ref aMn) (C := RX7) (T := TX7) (N := 17) hx hb hts iw_X7 hown hK hP22 0 rfl rfl 11 (by decide) (hts (.fieldLink RX7 64 "VarianceBridgeModel" "now" "[I") (by decide +kernel)) (fun _ h9 => h9) rfl dX7_copy_73 ?_
          refine lv_iload hx hb dX7_copy_76 (lv_at hl 4 rfl) ?_
          refine lv_iload_n hx hb dX7_copy_78 rfl (lv_at hl 2 rfl) ?_
          refine lv_iload hx hb dX7_copy_79 (lv_at hl 5 rfl) ?_
          obtain ⟨r25, h25, hm25⟩ := ob1_e hm24
          refine gcall_i (ws' := (w_Model cI cB cZ aM aMt aMn aMr aMs aMi mth mtd msz mto mfr mso mnu mfa mpl mwo msm mgo mt mno mre msn mis)) (va_runS (As := [.int y4, .int y2, .int y5]) (rest := [.ref aMn, .int (mno r21.toNatClampNeg)]) ⟨hx, hb, hml, hown, hts⟩ (c_X7_at l D cI cB cZ ta H22.size y4 y2 y5 r25 h25) (va_cwS 3 hts gX7_copy_X7_at rfl rfl rfl (by decide +kernel) ⟨(Nat.le_of_ble_eq_true rfl), (Nat.le_of_ble_eq_true rfl)⟩) ⟨PW_blind, PW_at hP22 hD22 hK hS22 hA hG [] rfl (by decide)⟩ rfl rfl hl.1 rfl (lv_room (Nat.le_of_ble_eq_true rfl)) dX7_copy_81 ⟨(Nat.le_of_ble_eq_true rfl), (Nat.le_of_ble_eq_true rfl)⟩) hP22 hD22 hS22 hA [] [0, 1, 2, 3, 4, 5] [0, 1, 2, 3, 4, 5] rfl rfl (by decide) (by decide) (by decide) rfl (fun H26 lo26 hP26 hD26 hS26 => ?_)
          clear hP22 hD22 hS22
          obtain ⟨c27, hm28⟩ := zz_no hm25
          refine va_iald hx hb hK hP26 2 0 rfl rfl c27 dX7_copy_84 ?_
          refine lv_icmp_eq (tgt := 91) hx hb dX7_copy_85 (by decide) (fun c29 => ?_) (fun c29 => ?_)
          · have hm30 := zz_if c29 hm28
            exact hk_91 ct30 hct30 (k_X7_copy_44 ct30 n) ih mth msm mno msn y1 y2 y3 y4 y5 hm30 ls H26 lo26 (lv_sub hl [0, 1, 2, 3, 4, 5] rfl) hP26 hD26 hS26
          · have hm31 := zz_nf c29 hm28
            refine lv_iinc (v := (y3 + (1 : Int32))) (lv' := [(3, .int (y3 + (1 : Int32))), (0, .ref aM), (1, .int y1), (2, .int y2), (4, .int y4), (5, .int y5)]) hx hb dX7_copy_88 hl (k := 3) rfl (by rfl) (by decide) rfl (fun ls32 hl32 => ?_)
            exact hk_91 ct30 hct30 (k_X7_copy_44 ct30 n) ih mth msm mno msn y1 y2 (y3 + (1 : Int32)) y4 y5 hm31 ls32 H26 lo26 (lv_sub hl32 [1, 2, 3, 0, 4, 5] rfl) hP26 hD26 hS26
  have hk_30 : ∀ (n : Nat) (mth : Int32) (msm : Int32) (mno : (Nat → Int32)) (msn : (Nat → Int32)) (y1 : Int32) (y2 : Int32) (y3 : Int32) (y4 : Int32), k_X7_copy_30 n mth msm mno msn y1 y2 y3 y4 = some (r0, u_mth, u_msm, u_mno, u_msn) → ∀ (ls : Array Slot) (H : Heap) (lo : List Loc), lv_has ls 6 [(0, .ref aM), (1, .int y1), (2, .int y2), (3, .int y3), (4, .int y4)] → va_P D vwCl (w_Model cI cB cZ aM aMt aMn aMr aMs aMi mth mtd msz mto mfr mso mnu mfa mpl mwo msm mgo mt mno mre msn mis) H → va_D A (w_Model cI cB cZ aM aMt aMn aMr aMs aMi mth mtd msz mto mfr mso mnu mfa mpl mwo msm mgo mt mno mre msn mis) → va_S A s.heap H lo → W p l e (headSpec wsX7_copy ({ frames := 3, cells := 0, slots := 0, locals := 65 } : Room)).room s m (([.ref aM, .int x1, .int x2] : List Value).toArray) below meth c H lo 0 0 (MQ below (QI D cI cB cZ A (w_Model cI cB cZ aM aMt aMn aMr aMs aMi u_mth mtd msz mto mfr mso mnu mfa mpl mwo u_msm mgo mt u_mno mre u_msn mis) r0) (([.ref aM, .int x1, .int x2] : List Value).toArray) s 0 0 A) (F0 m 30 ls []) := by
    intro n
    induction n with
    | zero => intro mth msm mno msn y1 y2 y3 y4 hm; exact zz_nn hm
    | succ n ih =>
      intro mth msm mno msn y1 y2 y3 y4 hm ls H lo hl hP hD hS
      replace hm := (k_X7_copy_30_s n mth msm mno msn y1 y2 y3 y4).symm.trans hm
      refine lv_iload hx hb dX7_copy_30 (lv_at hl 4 rfl) ?_
      refine lv_aload_n hx hb dX7_copy_32 rfl (lv_at hl 0 rfl) ?_
      refine va_get (D := D) (ci := 7) (v := .ref aMn) (C := RX7) (T := TX7) (N := 17) hx hb hts iw_X7 hown hK hP 0 rfl rfl 11 (by decide) (hts (.fieldLink RX7 64 "VarianceBridgeModel" "now" "[I") (by decide +kernel)) (fun _ h9 => h9) rfl dX7_copy_33 ?_
      refine lv_iconst (v := (1 : Int32)) hx hb dX7_copy_36 (by decide) ?_
      obtain ⟨c33, hm34⟩ := zz_no hm
      refine va_iald hx hb hK hP 2 0 rfl rfl c33 dX7_copy_37 ?_
      refine lv_icmp_ge (tgt := 129) hx hb dX7_copy_38 (by decide) (fun c35 => ?_) (fun c35 => ?_)
      · have hm36 := zz_if c35 hm34
        refine lv_iload_n hx hb dX7_copy_129 rfl (lv_at hl 3 rfl) ?_
        obtain ⟨hq1, hq99⟩ := Prod.mk.inj (Option.some.inj hm36)
        obtain ⟨hq2, hq99⟩ := Prod.mk.inj (hq99)
        obtain ⟨hq3, hq99⟩ := Prod.mk.inj (hq99)
        obtain ⟨hq4, hq5⟩ := Prod.mk.inj (hq99)
        subst hq1
        subst hq2
        subst hq3
        subst hq4
        subst hq5
        exact W.iret hx hb hr (fun t ht hW => ⟨⟨_, (), rfl, rfl, by rw [ht]; exact hP, va_K.moved hW.alike hK, hD⟩, hS.F ht⟩) hS.2.2 dX7_copy_130
      · have hm37 := zz_nf c35 hm34
        refine lv_iconst (v := (0 : Int32)) hx hb dX7_copy_41 (by decide) ?_
        refine lv_istore (lv' := [(5, .int (0 : Int32)), (0, .ref aM), (1, .int y1), (2, .int y2), (3, .int y3), (4, .int y4)]) hx hb dX7_copy_42 hl (by decide) rfl (fun ls38 hl38 => ?_)
        exact hk_44 (k_X7_copy_30 n) ih FU mth msm mno msn y1 y2 y3 y4 (0 : Int32) hm37 ls38 H lo (lv_sub hl38 [1, 2, 3, 4, 5, 0] rfl) hP hD hS
  have hl := lv_entry ([.ref aM, .int x1, .int x2]) (n := 6) (Nat.le_of_ble_eq_true rfl)
  rw [lg_entry_eq]
  generalize (lg_sl ([.ref aM, .int x1, .int x2]) ++ List.replicate (6 - (lg_sl ([.ref aM, .int x1, .int x2])).length) Slot.unset).toArray = ls at hl ⊢
  have hl : lv_has ls 6 [(0, .ref aM), (1, .int x1), (2, .int x2)] := hl
  replace hm : (ob1 (m_X7_areScenes mno x1 x2) (fun r40 => (if r40 = 0 then some ((-1 : Int32), (0 : Int32), msm, mno, msn) else (if x1 = x2 then some ((-1 : Int32), (0 : Int32), msm, mno, msn) else (ob2 (m_X7_snap msm mno msn) (fun msm_48 msn_48 => (k_X7_copy_30 FU (0 : Int32) msm_48 mno msn_48 x1 x2 (0 : Int32) (0 : Int32)))))))) = some (r0, u_mth, u_msm, u_mno, u_msn) := hm
  refine lv_aload_n hx hb dX7_copy_0 rfl (lv_at hl 0 rfl) ?_
  refine lv_iconst (v := (0 : Int32)) hx hb dX7_copy_1 (by decide) ?_
  refine va_put (D := D) (ci := 7) (v := .int (0 : Int32)) (ty := .int) (C := RX7) (T := TX7) (N := 17) hx hb hts iw_X7 tyX7 tyX7_ok nmX7 hown hK hP hD hS 0 rfl rfl 0 (by decide) (hts (.fieldLink RX7 1 "VarianceBridgeModel" "thrown" "I") (by decide +kernel)) (fun _ h9 => h9) rfl (by decide +kernel) rfl rfl (Nat.le_of_ble_eq_true rfl) dX7_copy_2 (fun H39 lo39 hP39 hD39 hS39 => ?_)
  replace hP39 : va_P D vwCl (w_Model cI cB cZ aM aMt aMn aMr aMs aMi (0 : Int32) mtd msz mto mfr mso mnu mfa mpl mwo msm mgo mt mno mre msn mis) H39 := hP39
  replace hD39 : va_D A (w_Model cI cB cZ aM aMt aMn aMr aMs aMi (0 : Int32) mtd msz mto mfr mso mnu mfa mpl mwo msm mgo mt mno mre msn mis) := hD39
  clear hP hD hS
  refine lv_aload_n hx hb dX7_copy_5 rfl (lv_at hl 0 rfl) ?_
  refine lv_iload_n hx hb dX7_copy_6 rfl (lv_at hl 1 rfl) ?_
  refine lv_iload_n hx hb dX7_copy_7 rfl (lv_at hl 2 rfl) ?_
  obtain ⟨r40, h40, hm40⟩ := ob1_e hm
  refine gcall_b (ws' := (w_Model cI cB cZ aM aMt aMn aMr aMs aMi (0 : Int32) mtd msz mto mfr mso mnu mfa mpl mwo msm mgo mt mno mre msn mis)) (va_runV (As := [.int x1, .int x2]) (rest := []) ⟨hx, hb, hml, hown, hts⟩ (c_X7_areScenes l D cI cB cZ ta aM aMt aMn aMr aMs aMi H39.size (0 : Int32) mtd msz mto mfr mso mnu mfa mpl mwo msm mgo mt mno mre msn mis x1 x2 r40 h40) (cwV 2 hts gX7_copy_X7_areScenes rfl rfl rfl (by decide +kernel) ⟨(Nat.le_of_ble_eq_true rfl), (Nat.le_of_ble_eq_true rfl)⟩) ⟨PW_blind, va_recv hK hP39 rfl (q0 := 0) rfl, PW_at hP39 hD39 hK hS39 hA hG [0, 1, 2, 3, 4, 5] rfl (by decide)⟩ rfl rfl hl.1 rfl (lv_room (Nat.le_of_ble_eq_true rfl)) dX7_copy_8 ⟨(Nat.le_of_ble_eq_true rfl), (Nat.le_of_ble_eq_true rfl)⟩) hP39 hD39 hS39 hA [0, 1, 2, 3, 4, 5] [] [0, 1, 2, 3, 4, 5] rfl rfl (by decide) (by decide) (by decide) rfl (fun H41 lo41 hz40 hP41 hD41 hS41 => ?_)
  clear hP39 hD39 hS39
  refine lv_if_eq (tgt := 19) hx hb dX7_copy_11 (by decide) (fun c42 => ?_) (fun c42 => ?_)
  · have hm43 := zz_if c42 hm40
    refine lv_iconst (v := (-1 : Int32)) hx hb dX7_copy_19 (by decide) ?_
    obtain ⟨hq1, hq99⟩ := Prod.mk.inj (Option.some.inj hm43)
    obtain ⟨hq2, hq99⟩ := Prod.mk.inj (hq99)
    obtain ⟨hq3, hq99⟩ := Prod.mk.inj (hq99)
    obtain ⟨hq4, hq5⟩ := Prod.mk.inj (hq99)
    subst hq1
    subst hq2
    subst hq3
    subst hq4
    subst hq5
    exact W.iret hx hb hr (fun t ht hW => ⟨⟨_, (), rfl, rfl, by rw [ht]; exact hP41, va_K.moved hW.alike hK, hD41⟩, hS41.F ht⟩) hS41.2.2 dX7_copy_20
  · have hm44 := zz_nf c42 hm40
    refine lv_iload_n hx hb dX7_copy_14 rfl (lv_at hl 1 rfl) ?_
    refine lv_iload_n hx hb dX7_copy_15 rfl (lv_at hl 2 rfl) ?_
    refine lv_icmp_ne (tgt := 21) hx hb dX7_copy_16 (by decide) (fun c45 => ?_) (fun c45 => ?_)
    · have hm46 := zz_nf c45 hm44
      refine lv_aload_n hx hb dX7_copy_21 rfl (lv_at hl 0 rfl) ?_
      obtain ⟨msm_48, msn_48, h48, hm48⟩ := ob2_e hm46
      refine gcall_v (ws' := (w_Model cI cB cZ aM aMt aMn aMr aMs aMi (0 : Int32) mtd msz mto mfr mso mnu mfa mpl mwo msm_48 mgo mt mno mre msn_48 mis)) (va_runV (As := []) (rest := []) ⟨hx, hb, hml, hown, hts⟩ (c_X7_snap l D cI cB cZ ta aM aMt aMn aMr aMs aMi H41.size (0 : Int32) mtd msz mto mfr mso mnu mfa mpl mwo msm mgo mt mno mre msn mis msm_48 msn_48 h48) (cwV 0 hts gX7_copy_X7_snap rfl rfl rfl (by decide +kernel) ⟨(Nat.le_of_ble_eq_true rfl), (Nat.le_of_ble_eq_true rfl)⟩) ⟨PW_blind, va_recv hK hP41 rfl (q0 := 0) rfl, PW_at hP41 hD41 hK hS41 hA hG [0, 1, 2, 3, 4, 5] rfl (by decide)⟩ rfl rfl hl.1 rfl (lv_room (Nat.le_of_ble_eq_true rfl)) dX7_copy_22 ⟨(Nat.le_of_ble_eq_true rfl), (Nat.le_of_ble_eq_true rfl)⟩) hP41 hD41 hS41 hA [0, 1, 2, 3, 4, 5] [] [0, 1, 2, 3, 4, 5] rfl rfl (by decide) (by decide) (by decide) rfl (fun H49 lo49 hP49 hD49 hS49 => ?_)
      clear hP41 hD41 hS41
      refine lv_iconst (v := (0 : Int32)) hx hb dX7_copy_25 (by decide) ?_
      refine lv_istore_n (lv' := [(3, .int (0 : Int32)), (0, .ref aM), (1, .int x1), (2, .int x2)]) hx hb dX7_copy_26 rfl hl (by decide) rfl (fun ls50 hl50 => ?_)
      refine lv_iconst (v := (0 : Int32)) hx hb dX7_copy_27 (by decide) ?_
      refine lv_istore (lv' := [(4, .int (0 : Int32)), (3, .int (0 : Int32)), (0, .ref aM), (1, .int x1), (2, .int x2)]) hx hb dX7_copy_28 hl50 (by decide) rfl (fun ls51 hl51 => ?_)
      exact hk_30 FU (0 : Int32) msm_48 mno msn_48 x1 x2 (0 : Int32) (0 : Int32) hm48 ls51 H49 lo49 (lv_sub hl51 [2, 3, 4, 1, 0] rfl) hP49 hD49 hS49
    · have hm47 := zz_if c45 hm44
      refine lv_iconst (v := (-1 : Int32)) hx hb dX7_copy_19 (by decide) ?_
      obtain ⟨hq1, hq99⟩ := Prod.mk.inj (Option.some.inj hm47)
      obtain ⟨hq2, hq99⟩ := Prod.mk.inj (hq99)
      obtain ⟨hq3, hq99⟩ := Prod.mk.inj (hq99)
      obtain ⟨hq4, hq5⟩ := Prod.mk.inj (hq99)
      subst hq1
      subst hq2
      subst hq3
      subst hq4
      subst hq5
      exact W.iret hx hb hr (fun t ht hW => ⟨⟨_, (), rfl, rfl, by rw [ht]; exact hP41, va_K.moved hW.alike hK, hD41⟩, hS41.F ht⟩) hS41.2.2 dX7_copy_20
theorem iw_X7_move_X7 : ∀ w ∈ wsX70, w ∈ wsX7_move := by decide +kernel
set_option maxHeartbeats 4000000 in
set_option maxRecDepth 100000 in
theorem c_X7_move (l : Launch) (D : va_G) (cI cB cZ : ClassId) (ta : Nat → Nat) (aM : Nat) (aMt : Nat) (aMn : Nat) (aMr : Nat) (aMs : Nat) (aMi : Nat) (sz : Nat) (mth : Int32) (mtd : Int32) (msz : Int32) (mto : Int32) (mfr : Int32) (mso : Int32) (mnu : Int32) (mfa : Int32) (mpl : Int32) (mwo : Int64) (msm : Int32) (mgo : Int32) (mt : (Nat → Int32)) (mno : (Nat → Int32)) (mre : (Nat → Int32)) (msn : (Nat → Int32)) (mis : (Nat → Int32)) (x1 : Int32) (x2 : Int32) (r0 : Int32) (u_mth : Int32) (u_msm : Int32) (u_mno : (Nat → Int32)) (u_msn : (Nat → Int32)) (hm : m_X7_move mth msm mno msn x1 x2 = some (r0, u_mth, u_msm, u_mno, u_msn)) : Met l yX7_move wsX7_move ({ frames := 3, cells := 0, slots := 0, locals := 64 } : Room) (va_Pc [.ref aM, .int x1, .int x2] (PW D cI cB cZ ta (w_Model cI cB cZ aM aMt aMn aMr aMs aMi mth mtd msz mto mfr mso mnu mfa mpl mwo msm mgo mt mno mre msn mis) sz)) (QZ .boolean D cI cB cZ (va_A (w_Model cI cB cZ aM aMt aMn aMr aMs aMi mth mtd msz mto mfr mso mnu mfa mpl mwo msm mgo mt mno mre msn mis) sz) (w_Model cI cB cZ aM aMt aMn aMr aMs aMi u_mth mtd msz mto mfr mso mnu mfa mpl mwo u_msm mgo mt u_mno mre u_msn mis) r0) 0 0 (va_A (w_Model cI cB cZ aM aMt aMn aMr aMs aMi mth mtd msz mto mfr mso mnu mfa mpl mwo msm mgo mt mno mre msn mis) sz) := by
  refine Met.ofW (cc := cX7_move) (maxL := 3) (ret := (some .boolean)) (by decide) rfl ?_
  intro p e s m args below meth c s₁ B hml hv
  obtain ⟨rfl, hsz, hP, hK, hD0, hG⟩ := hv
  have hx := B.exec
  have hb := B.bytes
  have hr := B.returns
  have hts := atoms_spec (ws := wsX7_move) B.pre
  have hown : s.vm.findClass RX7 = some m.cls := findClass_of_methodNamed B.named
  have hlocks := B.notSynchronized
  subst hsz
  have hD := hD0.self (sz := s.heap.size)
  clear hD0
  have hA0 : ∀ q : Nat, s.heap.size ≤ q → va_A (w_Model cI cB cZ aM aMt aMn aMr aMs aMi mth mtd msz mto mfr mso mnu mfa mpl mwo msm mgo mt mno mre msn mis) s.heap.size q := fun q h => Or.inr h
  generalize hAe : va_A (w_Model cI cB cZ aM aMt aMn aMr aMs aMi mth mtd msz mto mfr mso mnu mfa mpl mwo msm mgo mt mno mre msn mis) s.heap.size = A at hD hG hA0 ⊢
  have hA : ∀ q : Nat, s.heap.size ≤ q → A q := hA0
  clear hA0
  have hS : va_S A s.heap s.heap [] := va_S.rf
  have iw_X7 := iw_X7_move_X7
  have hl := lv_entry ([.ref aM, .int x1, .int x2]) (n := 3) (Nat.le_of_ble_eq_true rfl)
  rw [lg_entry_eq]
  generalize (lg_sl ([.ref aM, .int x1, .int x2]) ++ List.replicate (3 - (lg_sl ([.ref aM, .int x1, .int x2])).length) Slot.unset).toArray = ls at hl ⊢
  have hl : lv_has ls 3 [(0, .ref aM), (1, .int x1), (2, .int x2)] := hl
  replace hm : (ob1 (m_X7_isNode mno x1) (fun r2 => (if r2 = 0 then some ((0 : Int32), (0 : Int32), msm, mno, msn) else (if x1 = 0 then some ((0 : Int32), (0 : Int32), msm, mno, msn) else (ob1 (m_X7_isGroup mno x2) (fun r10 => (if r10 = 0 then some ((0 : Int32), (0 : Int32), msm, mno, msn) else (ob1 (m_X7_parentOf mno x1) (fun r15 => (if r15 = x2 then some ((0 : Int32), (0 : Int32), msm, mno, msn) else (ob1 (m_X7_isBelow mno x2 x1) (fun r20 => (if r20 = 0 then (ob2 (m_X7_snap msm mno msn) (fun msm_25 msn_25 => (if ((2 : Int32) + x1) < 0 ∨ 442 ≤ ((2 : Int32) + x1).toNatClampNeg then none else some ((1 : Int32), (0 : Int32), msm_25, (upd mno ((2 : Int32) + x1).toNatClampNeg x2), msn_25)))) else some ((0 : Int32), (0 : Int32), msm, mno, msn)))))))))))))) = some (r0, u_mth, u_msm, u_mno, u_msn) := hm
  refine lv_aload_n hx hb dX7_move_0 rfl (lv_at hl 0 rfl) ?_
  refine lv_iconst (v := (0 : Int32)) hx hb dX7_move_1 (by decide) ?_
  refine va_put (D := D) (ci := 7) (v := .int (0 : Int32)) (ty := .int) (C := RX7) (T := TX7) (N := 17) hx hb hts iw_X7 tyX7 tyX7_ok nmX7 hown hK hP hD hS 0 rfl rfl 0 (by decide) (hts (.fieldLink RX7 1 "VarianceBridgeModel" "thrown" "I") (by decide +kernel)) (fun _ h9 => h9) rfl (by decide +kernel) rfl rfl (Nat.le_of_ble_eq_true rfl) dX7_move_2 (fun H1 lo1 hP1 hD1 hS1 => ?_)
  replace hP1 : va_P D vwCl (w_Model cI cB cZ aM aMt aMn aMr aMs aMi (0 : Int32) mtd msz mto mfr mso mnu mfa mpl mwo msm mgo mt mno mre msn mis) H1 := hP1
  replace hD1 : va_D A (w_Model cI cB cZ aM aMt aMn aMr aMs aMi (0 : Int32) mtd msz mto mfr mso mnu mfa mpl mwo msm mgo mt mno mre msn mis) := hD1
  clear hP hD hS
  refine lv_aload_n hx hb dX7_move_5 rfl (lv_at hl 0 rfl) ?_
  refine lv_iload_n hx hb dX7_move_6 rfl (lv_at hl 1 rfl) ?_
  obtain ⟨r2, h2, hm2⟩ := ob1_e hm
  refine gcall_b (ws' := (w_Model cI cB cZ aM aMt aMn aMr aMs aMi (0 : Int32) mtd msz mto mfr mso mnu mfa mpl mwo msm mgo mt mno mre msn mis)) (va_runV (As := [.int x1]) (rest := []) ⟨hx, hb, hml, hown, hts⟩ (c_X7_isNode l D cI cB cZ ta aM aMt aMn aMr aMs aMi H1.size (0 : Int32) mtd msz mto mfr mso mnu mfa mpl mwo msm mgo mt mno mre msn mis x1 r2 h2) (cwV 1 hts gX7_move_X7_isNode rfl rfl rfl (by decide +kernel) ⟨(Nat.le_of_ble_eq_true rfl), (Nat.le_of_ble_eq_true rfl)⟩) ⟨PW_blind, va_recv hK hP1 rfl (q0 := 0) rfl, PW_at hP1 hD1 hK hS1 hA hG [0, 1, 2, 3, 4, 5] rfl (by decide)⟩ rfl rfl hl.1 rfl (lv_room (Nat.le_of_ble_eq_true rfl)) dX7_move_7 ⟨(Nat.le_of_ble_eq_true rfl), (Nat.le_of_ble_eq_true rfl)⟩) hP1 hD1 hS1 hA [0, 1, 2, 3, 4, 5] [] [0, 1, 2, 3, 4, 5] rfl rfl (by decide) (by decide) (by decide) rfl (fun H3 lo3 hz2 hP3 hD3 hS3 => ?_)
  clear hP1 hD1 hS1
  refine lv_if_eq (tgt := 43) hx hb dX7_move_10 (by decide) (fun c4 => ?_) (fun c4 => ?_)
  · have hm5 := zz_if c4 hm2
    refine lv_iconst (v := (0 : Int32)) hx hb dX7_move_43 (by decide) ?_
    obtain ⟨hq1, hq99⟩ := Prod.mk.inj (Option.some.inj hm5)
    obtain ⟨hq2, hq99⟩ := Prod.mk.inj (hq99)
    obtain ⟨hq3, hq99⟩ := Prod.mk.inj (hq99)
    obtain ⟨hq4, hq5⟩ := Prod.mk.inj (hq99)
    subst hq1
    subst hq2
    subst hq3
    subst hq4
    subst hq5
    exact W.zret (ty := .boolean) hx hb hr (by decide) (fun t ht hW => ⟨⟨_, (), rfl, ⟨rfl, (by decide)⟩, by rw [ht]; exact hP3, va_K.moved hW.alike hK, hD3⟩, hS3.F ht⟩) hS3.2.2 dX7_move_44
  · have hm6 := zz_nf c4 hm2
    refine lv_iload_n hx hb dX7_move_13 rfl (lv_at hl 1 rfl) ?_
    refine lv_if_eq (tgt := 43) hx hb dX7_move_14 (by decide) (fun c7 => ?_) (fun c7 => ?_)
    · have hm8 := zz_if c7 hm6
      refine lv_iconst (v := (0 : Int32)) hx hb dX7_move_43 (by decide) ?_
      obtain ⟨hq1, hq99⟩ := Prod.mk.inj (Option.some.inj hm8)
      obtain ⟨hq2, hq99⟩ := Prod.mk.inj (hq99)
      obtain ⟨hq3, hq99⟩ := Prod.mk.inj (hq99)
      obtain ⟨hq4, hq5⟩ := Prod.mk.inj (hq99)
      subst hq1
      subst hq2
      subst hq3
      subst hq4
      subst hq5
      exact W.zret (ty := .boolean) hx hb hr (by decide) (fun t ht hW => ⟨⟨_, (), rfl, ⟨rfl, (by decide)⟩, by rw [ht]; exact hP3, va_K.moved hW.alike hK, hD3⟩, hS3.F ht⟩) hS3.2.2 dX7_move_44
    · have hm9 := zz_nf c7 hm6
      refine lv_aload_n hx hb dX7_move_17 rfl (lv_at hl 0 rfl) ?_
      refine lv_iload_n hx hb dX7_move_18 rfl (lv_at hl 2 rfl) ?_
      obtain ⟨r10, h10, hm10⟩ := ob1_e hm9
      refine gcall_b (ws' := (w_Model cI cB cZ aM aMt aMn aMr aMs aMi (0 : Int32) mtd msz mto mfr mso mnu mfa mpl mwo msm mgo mt mno mre msn mis)) (va_runV (As := [.int x2]) (rest := []) ⟨hx, hb, hml, hown, hts⟩ (c_X7_isGroup l D cI cB cZ ta aM aMt aMn aMr aMs aMi H3.size (0 : Int32) mtd msz mto mfr mso mnu mfa mpl mwo msm mgo mt mno mre msn mis x2 r10 h10) (cwV 1 hts gX7_move_X7_isGroup rfl rfl rfl (by decide +kernel) ⟨(Nat.le_of_ble_eq_true rfl), (Nat.le_of_ble_eq_true rfl)⟩) ⟨PW_blind, va_recv hK hP3 rfl (q0 := 0) rfl, PW_at hP3 hD3 hK hS3 hA hG [0, 1, 2, 3, 4, 5] rfl (by decide)⟩ rfl rfl hl.1 rfl (lv_room (Nat.le_of_ble_eq_true rfl)) dX7_move_19 ⟨(Nat.le_of_ble_eq_true rfl), (Nat.le_of_ble_eq_true rfl)⟩) hP3 hD3 hS3 hA [0, 1, 2, 3, 4, 5] [] [0, 1, 2, 3, 4, 5] rfl rfl (by decide) (by decide) (by decide) rfl (fun H11 lo11 hz10 hP11 hD11 hS11 => ?_)
      clear hP3 hD3 hS3
      refine lv_if_eq (tgt := 43) hx hb dX7_move_22 (by decide) (fun c12 => ?_) (fun c12 => ?_)
      · have hm13 := zz_if c12 hm10
        refine lv_iconst (v := (0 : Int32)) hx hb dX7_move_43 (by decide) ?_
        obtain ⟨hq1, hq99⟩ := Prod.mk.inj (Option.some.inj hm13)
        obtain ⟨hq2, hq99⟩ := Prod.mk.inj (hq99)
        obtain ⟨hq3, hq99⟩ := Prod.mk.inj (hq99)
        obtain ⟨hq4, hq5⟩ := Prod.mk.inj (hq99)
        subst hq1
        subst hq2
        subst hq3
        subst hq4
        subst hq5
        exact W.zret (ty := .boolean) hx hb hr (by decide) (fun t ht hW => ⟨⟨_, (), rfl, ⟨rfl, (by decide)⟩, by rw [ht]; exact hP11, va_K.moved hW.alike hK, hD11⟩, hS11.F ht⟩) hS11.2.2 dX7_move_44
      · have hm14 := zz_nf c12 hm10
        refine lv_aload_n hx hb dX7_move_25 rfl (lv_at hl 0 rfl) ?_
        refine lv_iload_n hx hb dX7_move_26 rfl (lv_at hl 1 rfl) ?_
        obtain ⟨r15, h15, hm15⟩ := ob1_e hm14
        refine gcall_i (ws' := (w_Model cI cB cZ aM aMt aMn aMr aMs aMi (0 : Int32) mtd msz mto mfr mso mnu mfa mpl mwo msm mgo mt mno mre msn mis)) (va_runV (As := [.int x1]) (rest := []) ⟨hx, hb, hml, hown, hts⟩ (c_X7_parentOf l D cI cB cZ ta aM aMt aMn aMr aMs aMi H11.size (0 : Int32) mtd msz mto mfr mso mnu mfa mpl mwo msm mgo mt mno mre msn mis x1 r15 h15) (cwV 1 hts gX7_move_X7_parentOf rfl rfl rfl (by decide +kernel) ⟨(Nat.le_of_ble_eq_true rfl), (Nat.le_of_ble_eq_true rfl)⟩) ⟨PW_blind, va_recv hK hP11 rfl (q0 := 0) rfl, PW_at hP11 hD11 hK hS11 hA hG [0, 1, 2, 3, 4, 5] rfl (by decide)⟩ rfl rfl hl.1 rfl (lv_room (Nat.le_of_ble_eq_true rfl)) dX7_move_27 ⟨(Nat.le_of_ble_eq_true rfl), (Nat.le_of_ble_eq_true rfl)⟩) hP11 hD11 hS11 hA [0, 1, 2, 3, 4, 5] [] [0, 1, 2, 3, 4, 5] rfl rfl (by decide) (by decide) (by decide) rfl (fun H16 lo16 hP16 hD16 hS16 => ?_)
        clear hP11 hD11 hS11
        refine lv_iload_n hx hb dX7_move_30 rfl (lv_at hl 2 rfl) ?_
        refine lv_icmp_eq (tgt := 43) hx hb dX7_move_31 (by decide) (fun c17 => ?_) (fun c17 => ?_)
        · have hm18 := zz_if c17 hm15
          refine lv_iconst (v := (0 : Int32)) hx hb dX7_move_43 (by decide) ?_
          obtain ⟨hq1, hq99⟩ := Prod.mk.inj (Option.some.inj hm18)
          obtain ⟨hq2, hq99⟩ := Prod.mk.inj (hq99)
          obtain ⟨hq3, hq99⟩ := Prod.mk.inj (hq99)
          obtain ⟨hq4, hq5⟩ := Prod.mk.inj (hq99)
          subst hq1
          subst hq2
          subst hq3
          subst hq4
          subst hq5
          exact W.zret (ty := .boolean) hx hb hr (by decide) (fun t ht hW => ⟨⟨_, (), rfl, ⟨rfl, (by decide)⟩, by rw [ht]; exact hP16, va_K.moved hW.alike hK, hD16⟩, hS16.F ht⟩) hS16.2.2 dX7_move_44
        · have hm19 := zz_nf c17 hm15
          refine lv_aload_n hx hb dX7_move_34 rfl (lv_at hl 0 rfl) ?_
          refine lv_iload_n hx hb dX7_move_35 rfl (lv_at hl 2 rfl) ?_
          refine lv_iload_n hx hb dX7_move_36 rfl (lv_at hl 1 rfl) ?_
          obtain ⟨r20, h20, hm20⟩ := ob1_e hm19
          refine gcall_b (ws' := (w_Model cI cB cZ aM aMt aMn aMr aMs aMi (0 : Int32) mtd msz mto mfr mso mnu mfa mpl mwo msm mgo mt mno mre msn mis)) (va_runV (As := [.int x2, .int x1]) (rest := []) ⟨hx, hb, hml, hown, hts⟩ (c_X7_isBelow l D cI cB cZ ta aM aMt aMn aMr aMs aMi H16.size (0 : Int32) mtd msz mto mfr mso mnu mfa mpl mwo msm mgo mt mno mre msn mis x2 x1 r20 h20) (cwV 2 hts gX7_move_X7_isBelow rfl rfl rfl (by decide +kernel) ⟨(Nat.le_of_ble_eq_true rfl), (Nat.le_of_ble_eq_true rfl)⟩) ⟨PW_blind, va_recv hK hP16 rfl (q0 := 0) rfl, PW_at hP16 hD16 hK hS16 hA hG [0, 1, 2, 3, 4, 5] rfl (by decide)⟩ rfl rfl hl.1 rfl (lv_room (Nat.le_of_ble_eq_true rfl)) dX7_move_37 ⟨(Nat.le_of_ble_eq_true rfl), (Nat.le_of_ble_eq_true rfl)⟩) hP16 hD16 hS16 hA [0, 1, 2, 3, 4, 5] [] [0, 1, 2, 3, 4, 5] rfl rfl (by decide) (by decide) (by decide) rfl (fun H21 lo21 hz20 hP21 hD21 hS21 => ?_)
          clear hP16 hD16 hS16
          refine lv_if_eq (tgt := 45) hx hb dX7_move_40 (by decide) (fun c22 => ?_) (fun c22 => ?_)
          · have hm23 := zz_if c22 hm20
            refine lv_aload_n hx hb dX7_move_45 rfl (lv_at hl 0 rfl) ?_
            obtain ⟨msm_25, msn_25, h25, hm25⟩ := ob2_e hm23
            refine gcall_v (ws' := (w_Model cI cB cZ aM aMt aMn aMr aMs aMi (0 : Int32) mtd msz mto mfr mso mnu mfa mpl mwo msm_25 mgo mt mno mre msn_25 mis)) (va_runV (As := []) (rest := []) ⟨hx, hb, hml, hown, hts⟩ (c_X7_snap l D cI cB cZ ta aM aMt aMn aMr aMs aMi H21.size (0 : Int32) mtd msz mto mfr mso mnu mfa mpl mwo msm mgo mt mno mre msn mis msm_25 msn_25 h25) (cwV 0 hts gX7_move_X7_snap rfl rfl rfl (by decide +kernel) ⟨(Nat.le_of_ble_eq_true rfl), (Nat.le_of_ble_eq_true rfl)⟩) ⟨PW_blind, va_recv hK hP21 rfl (q0 := 0) rfl, PW_at hP21 hD21 hK hS21 hA hG [0, 1, 2, 3, 4, 5] rfl (by decide)⟩ rfl rfl hl.1 rfl (lv_room (Nat.le_of_ble_eq_true rfl)) dX7_move_46 ⟨(Nat.le_of_ble_eq_true rfl), (Nat.le_of_ble_eq_true rfl)⟩) hP21 hD21 hS21 hA [0, 1, 2, 3, 4, 5] [] [0, 1, 2, 3, 4, 5] rfl rfl (by decide) (by decide) (by decide) rfl (fun H26 lo26 hP26 hD26 hS26 => ?_)
            clear hP21 hD21 hS21
            refine lv_aload_n hx hb dX7_move_49 rfl (lv_at hl 0 rfl) ?_
            refine va_get (D := D) (ci := 7) (v := .ref aMn) (C := RX7) (T := TX7) (N := 17) hx hb hts iw_X7 hown hK hP26 0 rfl rfl 11 (by decide) (hts (.fieldLink RX7 64 "VarianceBridgeModel" "now" "[I") (by decide +kernel)) (fun _ h9 => h9) rfl dX7_move_50 ?_
            refine lv_iconst (v := (2 : Int32)) hx hb dX7_move_53 (by decide) ?_
            refine lv_iload_n hx hb dX7_move_54 rfl (lv_at hl 1 rfl) ?_
            refine lv_iadd hx hb dX7_move_55 ?_
            refine lv_iload_n hx hb dX7_move_56 rfl (lv_at hl 2 rfl) ?_
            obtain ⟨c27, hm28⟩ := zz_no hm25
            refine va_iast hx hb hK hP26 hD26 hS26 2 0 rfl rfl c27 dX7_move_57 (fun H29 lo29 hP29 hD29 hS29 => ?_)
            replace hP29 : va_P D vwCl (w_Model cI cB cZ aM aMt aMn aMr aMs aMi (0 : Int32) mtd msz mto mfr mso mnu mfa mpl mwo msm_25 mgo mt (upd mno ((2 : Int32) + x1).toNatClampNeg x2) mre msn_25 mis) H29 := hP29
            replace hD29 : va_D A (w_Model cI cB cZ aM aMt aMn aMr aMs aMi (0 : Int32) mtd msz mto mfr mso mnu mfa mpl mwo msm_25 mgo mt (upd mno ((2 : Int32) + x1).toNatClampNeg x2) mre msn_25 mis) := hD29
            clear hP26 hD26 hS26
            refine lv_iconst (v := (1 : Int32)) hx hb dX7_move_58 (by decide) ?_
            obtain ⟨hq1, hq99⟩ := Prod.mk.inj (Option.some.inj hm28)
            obtain ⟨hq2, hq99⟩ := Prod.mk.inj (hq99)
            obtain ⟨hq3, hq99⟩ := Prod.mk.inj (hq99)
            obtain ⟨hq4, hq5⟩ := Prod.mk.inj (hq99)
            subst hq1
            subst hq2
            subst hq3
            subst hq4
            subst hq5
            exact W.zret (ty := .boolean) hx hb hr (by decide) (fun t ht hW => ⟨⟨_, (), rfl, ⟨rfl, (by decide)⟩, by rw [ht]; exact hP29, va_K.moved hW.alike hK, hD29⟩, hS29.F ht⟩) hS29.2.2 dX7_move_59
          · have hm24 := zz_nf c22 hm20
            refine lv_iconst (v := (0 : Int32)) hx hb dX7_move_43 (by decide) ?_
            obtain ⟨hq1, hq99⟩ := Prod.mk.inj (Option.some.inj hm24)
            obtain ⟨hq2, hq99⟩ := Prod.mk.inj (hq99)
            obtain ⟨hq3, hq99⟩ := Prod.mk.inj (hq99)
            obtain ⟨hq4, hq5⟩ := Prod.mk.inj (hq99)
            subst hq1
            subst hq2
            subst hq3
            subst hq4
            subst hq5
            exact W.zret (ty := .boolean) hx hb hr (by decide) (fun t ht hW => ⟨⟨_, (), rfl, ⟨rfl, (by decide)⟩, by rw [ht]; exact hP21, va_K.moved hW.alike hK, hD21⟩, hS21.F ht⟩) hS21.2.2 dX7_move_44
theorem iw_X7_grow_X7 : ∀ w ∈ wsX70, w ∈ wsX7_grow := by decide +kernel
set_option maxHeartbeats 4000000 in
set_option maxRecDepth 100000 in
theorem c_X7_grow (l : Launch) (D : va_G) (cI cB cZ : ClassId) (ta : Nat → Nat) (aM : Nat) (aMt : Nat) (aMn : Nat) (aMr : Nat) (aMs : Nat) (aMi : Nat) (sz : Nat) (mth : Int32) (mtd : Int32) (msz : Int32) (mto : Int32) (mfr : Int32) (mso : Int32) (mnu : Int32) (mfa : Int32) (mpl : Int32) (mwo : Int64) (msm : Int32) (mgo : Int32) (mt : (Nat → Int32)) (mno : (Nat → Int32)) (mre : (Nat → Int32)) (msn : (Nat → Int32)) (mis : (Nat → Int32)) (x1 : Int32) (r0 : Int32) (u_mth : Int32) (u_msm : Int32) (u_mno : (Nat → Int32)) (u_msn : (Nat → Int32)) (hm : m_X7_grow mth msm mno msn x1 = some (r0, u_mth, u_msm, u_mno, u_msn)) : Met l yX7_grow wsX7_grow ({ frames := 3, cells := 0, slots := 0, locals := 64 } : Room) (va_Pc [.ref aM, .int x1] (PW D cI cB cZ ta (w_Model cI cB cZ aM aMt aMn aMr aMs aMi mth mtd msz mto mfr mso mnu mfa mpl mwo msm mgo mt mno mre msn mis) sz)) (QI D cI cB cZ (va_A (w_Model cI cB cZ aM aMt aMn aMr aMs aMi mth mtd msz mto mfr mso mnu mfa mpl mwo msm mgo mt mno mre msn mis) sz) (w_Model cI cB cZ aM aMt aMn aMr aMs aMi u_mth mtd msz mto mfr mso mnu mfa mpl mwo u_msm mgo mt u_mno mre u_msn mis) r0) 0 0 (va_A (w_Model cI cB cZ aM aMt aMn aMr aMs aMi mth mtd msz mto mfr mso mnu mfa mpl mwo msm mgo mt mno mre msn mis) sz) := by
  refine Met.ofW (cc := cX7_grow) (maxL := 2) (ret := (some .int)) (by decide) rfl ?_
  intro p e s m args below meth c s₁ B hml hv
  obtain ⟨rfl, hsz, hP, hK, hD0, hG⟩ := hv
  have hx := B.exec
  have hb := B.bytes
  have hr := B.returns
  have hts := atoms_spec (ws := wsX7_grow) B.pre
  have hown : s.vm.findClass RX7 = some m.cls := findClass_of_methodNamed B.named
  have hlocks := B.notSynchronized
  subst hsz
  have hD := hD0.self (sz := s.heap.size)
  clear hD0
  have hA0 : ∀ q : Nat, s.heap.size ≤ q → va_A (w_Model cI cB cZ aM aMt aMn aMr aMs aMi mth mtd msz mto mfr mso mnu mfa mpl mwo msm mgo mt mno mre msn mis) s.heap.size q := fun q h => Or.inr h
  generalize hAe : va_A (w_Model cI cB cZ aM aMt aMn aMr aMs aMi mth mtd msz mto mfr mso mnu mfa mpl mwo msm mgo mt mno mre msn mis) s.heap.size = A at hD hG hA0 ⊢
  have hA : ∀ q : Nat, s.heap.size ≤ q → A q := hA0
  clear hA0
  have hS : va_S A s.heap s.heap [] := va_S.rf
  have iw_X7 := iw_X7_grow_X7
  have hl := lv_entry ([.ref aM, .int x1]) (n := 2) (Nat.le_of_ble_eq_true rfl)
  rw [lg_entry_eq]
  generalize (lg_sl ([.ref aM, .int x1]) ++ List.replicate (2 - (lg_sl ([.ref aM, .int x1])).length) Slot.unset).toArray = ls at hl ⊢
  have hl : lv_has ls 2 [(0, .ref aM), (1, .int x1)] := hl
  replace hm : (ob1 (m_X7_isGroup mno x1) (fun r2 => (if r2 = 0 then some ((-1 : Int32), (0 : Int32), msm, mno, msn) else (if (1 : Int32) < 0 ∨ 442 ≤ (1 : Int32).toNatClampNeg then none else (if (mno (1 : Int32).toNatClampNeg) = (20 : Int32) then some ((-2 : Int32), (0 : Int32), msm, mno, msn) else (ob2 (m_X7_snap msm mno msn) (fun msm_12 msn_12 => (ob1 (m_X7_adds mno x1 (0 : Int32)) (fun mno_14 => (if (1 : Int32) < 0 ∨ 442 ≤ (1 : Int32).toNatClampNeg then none else some (((mno_14 (1 : Int32).toNatClampNeg) - (1 : Int32)), (0 : Int32), msm_12, mno_14, msn_12))))))))))) = some (r0, u_mth, u_msm, u_mno, u_msn) := hm
  refine lv_aload_n hx hb dX7_grow_0 rfl (lv_at hl 0 rfl) ?_
  refine lv_iconst (v := (0 : Int32)) hx hb dX7_grow_1 (by decide) ?_
  refine va_put (D := D) (ci := 7) (v := .int (0 : Int32)) (ty := .int) (C := RX7) (T := TX7) (N := 17) hx hb hts iw_X7 tyX7 tyX7_ok nmX7 hown hK hP hD hS 0 rfl rfl 0 (by decide) (hts (.fieldLink RX7 1 "VarianceBridgeModel" "thrown" "I") (by decide +kernel)) (fun _ h9 => h9) rfl (by decide +kernel) rfl rfl (Nat.le_of_ble_eq_true rfl) dX7_grow_2 (fun H1 lo1 hP1 hD1 hS1 => ?_)
  replace hP1 : va_P D vwCl (w_Model cI cB cZ aM aMt aMn aMr aMs aMi (0 : Int32) mtd msz mto mfr mso mnu mfa mpl mwo msm mgo mt mno mre msn mis) H1 := hP1
  replace hD1 : va_D A (w_Model cI cB cZ aM aMt aMn aMr aMs aMi (0 : Int32) mtd msz mto mfr mso mnu mfa mpl mwo msm mgo mt mno mre msn mis) := hD1
  clear hP hD hS
  refine lv_aload_n hx hb dX7_grow_5 rfl (lv_at hl 0 rfl) ?_
  refine lv_iload_n hx hb dX7_grow_6 rfl (lv_at hl 1 rfl) ?_
  obtain ⟨r2, h2, hm2⟩ := ob1_e hm
  refine gcall_b (ws' := (w_Model cI cB cZ aM aMt aMn aMr aMs aMi (0 : Int32) mtd msz mto mfr mso mnu mfa mpl mwo msm mgo mt mno mre msn mis)) (va_runV (As := [.int x1]) (rest := []) ⟨hx, hb, hml, hown, hts⟩ (c_X7_isGroup l D cI cB cZ ta aM aMt aMn aMr aMs aMi H1.size (0 : Int32) mtd msz mto mfr mso mnu mfa mpl mwo msm mgo mt mno mre msn mis x1 r2 h2) (cwV 1 hts gX7_grow_X7_isGroup rfl rfl rfl (by decide +kernel) ⟨(Nat.le_of_ble_eq_true rfl), (Nat.le_of_ble_eq_true rfl)⟩) ⟨PW_blind, va_recv hK hP1 rfl (q0 := 0) rfl, PW_at hP1 hD1 hK hS1 hA hG [0, 1, 2, 3, 4, 5] rfl (by decide)⟩ rfl rfl hl.1 rfl (lv_room (Nat.le_of_ble_eq_true rfl)) dX7_grow_7 ⟨(Nat.le_of_ble_eq_true rfl), (Nat.le_of_ble_eq_true rfl)⟩) hP1 hD1 hS1 hA [0, 1, 2, 3, 4, 5] [] [0, 1, 2, 3, 4, 5] rfl rfl (by decide) (by decide) (by decide) rfl (fun H3 lo3 hz2 hP3 hD3 hS3 => ?_)
  clear hP1 hD1 hS1
  refine lv_if_ne (tgt := 15) hx hb dX7_grow_10 (by decide) (fun c4 => ?_) (fun c4 => ?_)
  · have hm5 := zz_nf c4 hm2
    refine lv_aload_n hx hb dX7_grow_15 rfl (lv_at hl 0 rfl) ?_
    refine va_get (D := D) (ci := 7) (v := .ref aMn) (C := RX7) (T := TX7) (N := 17) hx hb hts iw_X7 hown hK hP3 0 rfl rfl 11 (by decide) (hts (.fieldLink RX7 64 "VarianceBridgeModel" "now" "[I") (by decide +kernel)) (fun _ h9 => h9) rfl dX7_grow_16 ?_
    refine lv_iconst (v := (1 : Int32)) hx hb dX7_grow_19 (by decide) ?_
    obtain ⟨c7, hm8⟩ := zz_no hm5
    refine va_iald hx hb hK hP3 2 0 rfl rfl c7 dX7_grow_20 ?_
    refine lv_bipush (v := (20 : Int32)) hx hb dX7_grow_21 (by decide) ?_
    refine lv_icmp_ne (tgt := 29) hx hb dX7_grow_23 (by decide) (fun c9 => ?_) (fun c9 => ?_)
    · have hm10 := zz_nf c9 hm8
      refine lv_aload_n hx hb dX7_grow_29 rfl (lv_at hl 0 rfl) ?_
      obtain ⟨msm_12, msn_12, h12, hm12⟩ := ob2_e hm10
      refine gcall_v (ws' := (w_Model cI cB cZ aM aMt aMn aMr aMs aMi (0 : Int32) mtd msz mto mfr mso mnu mfa mpl mwo msm_12 mgo mt mno mre msn_12 mis)) (va_runV (As := []) (rest := []) ⟨hx, hb, hml, hown, hts⟩ (c_X7_snap l D cI cB cZ ta aM aMt aMn aMr aMs aMi H3.size (0 : Int32) mtd msz mto mfr mso mnu mfa mpl mwo msm mgo mt mno mre msn mis msm_12 msn_12 h12) (cwV 0 hts gX7_grow_X7_snap rfl rfl rfl (by decide +kernel) ⟨(Nat.le_of_ble_eq_true rfl), (Nat.le_of_ble_eq_true rfl)⟩) ⟨PW_blind, va_recv hK hP3 rfl (q0 := 0) rfl, PW_at hP3 hD3 hK hS3 hA hG [0, 1, 2, 3, 4, 5] rfl (by decide)⟩ rfl rfl hl.1 rfl (lv_room (Nat.le_of_ble_eq_true rfl)) dX7_grow_30 ⟨(Nat.le_of_ble_eq_true rfl), (Nat.le_of_ble_eq_true rfl)⟩) hP3 hD3 hS3 hA [0, 1, 2, 3, 4, 5] [] [0, 1, 2, 3, 4, 5] rfl rfl (by decide) (by decide) (by decide) rfl (fun H13 lo13 hP13 hD13 hS13 => ?_)
      clear hP3 hD3 hS3
      refine lv_aload_n hx hb dX7_grow_33 rfl (lv_at hl 0 rfl) ?_
      refine va_get (D := D) (ci := 7) (v := .ref aMn) (C := RX7) (T := TX7) (N := 17) hx hb hts iw_X7 hown hK hP13 0 rfl rfl 11 (by decide) (hts (.fieldLink RX7 64 "VarianceBridgeModel" "now" "[I") (by decide +kernel)) (fun _ h9 => h9) rfl dX7_grow_34 ?_
      refine lv_iload_n hx hb dX7_grow_37 rfl (lv_at hl 1 rfl) ?_
      refine lv_iconst (v := (0 : Int32)) hx hb dX7_grow_38 (by decide) ?_
      obtain ⟨mno_14, h14, hm14⟩ := ob1_e hm12
      refine gcall_v (ws' := (w_Model cI cB cZ aM aMt aMn aMr aMs aMi (0 : Int32) mtd msz mto mfr mso mnu mfa mpl mwo msm_12 mgo mt mno_14 mre msn_12 mis)) (va_runS (As := [.ref aMn, .int x1, .int (0 : Int32)]) (rest := []) ⟨hx, hb, hml, hown, hts⟩ (c_X7_adds l D cI cB cZ ta aMn H13.size mno x1 (0 : Int32) mno_14 h14) (va_cwS 3 hts gX7_grow_X7_adds rfl rfl rfl (by decide +kernel) ⟨(Nat.le_of_ble_eq_true rfl), (Nat.le_of_ble_eq_true rfl)⟩) ⟨PW_blind, PW_at hP13 hD13 hK hS13 hA hG [2] rfl (by decide)⟩ rfl rfl hl.1 rfl (lv_room (Nat.le_of_ble_eq_true rfl)) dX7_grow_39 ⟨(Nat.le_of_ble_eq_true rfl), (Nat.le_of_ble_eq_true rfl)⟩) hP13 hD13 hS13 hA [2] [0, 1, 3, 4, 5] [0, 1, 5, 2, 3, 4] rfl rfl (by decide) (by decide) (by decide) rfl (fun H15 lo15 hP15 hD15 hS15 => ?_)
      clear hP13 hD13 hS13
      refine lv_aload_n hx hb dX7_grow_42 rfl (lv_at hl 0 rfl) ?_
      refine va_get (D := D) (ci := 7) (v := .ref aMn) (C := RX7) (T := TX7) (N := 17) hx hb hts iw_X7 hown hK hP15 0 rfl rfl 11 (by decide) (hts (.fieldLink RX7 64 "VarianceBridgeModel" "now" "[I") (by decide +kernel)) (fun _ h9 => h9) rfl dX7_grow_43 ?_
      refine lv_iconst (v := (1 : Int32)) hx hb dX7_grow_46 (by decide) ?_
      obtain ⟨c16, hm17⟩ := zz_no hm14
      refine va_iald hx hb hK hP15 2 0 rfl rfl c16 dX7_grow_47 ?_
      refine lv_iconst (v := (1 : Int32)) hx hb dX7_grow_48 (by decide) ?_
      refine lv_isub hx hb dX7_grow_49 ?_
      obtain ⟨hq1, hq99⟩ := Prod.mk.inj (Option.some.inj hm17)
      obtain ⟨hq2, hq99⟩ := Prod.mk.inj (hq99)
      obtain ⟨hq3, hq99⟩ := Prod.mk.inj (hq99)
      obtain ⟨hq4, hq5⟩ := Prod.mk.inj (hq99)
      subst hq1
      subst hq2
      subst hq3
      subst hq4
      subst hq5
      exact W.iret hx hb hr (fun t ht hW => ⟨⟨_, (), rfl, rfl, by rw [ht]; exact hP15, va_K.moved hW.alike hK, hD15⟩, hS15.F ht⟩) hS15.2.2 dX7_grow_50
    · have hm11 := zz_if c9 hm8
      refine lv_bipush (v := (-2 : Int32)) hx hb dX7_grow_26 (by decide) ?_
      obtain ⟨hq1, hq99⟩ := Prod.mk.inj (Option.some.inj hm11)
      obtain ⟨hq2, hq99⟩ := Prod.mk.inj (hq99)
      obtain ⟨hq3, hq99⟩ := Prod.mk.inj (hq99)
      obtain ⟨hq4, hq5⟩ := Prod.mk.inj (hq99)
      subst hq1
      subst hq2
      subst hq3
      subst hq4
      subst hq5
      exact W.iret hx hb hr (fun t ht hW => ⟨⟨_, (), rfl, rfl, by rw [ht]; exact hP3, va_K.moved hW.alike hK, hD3⟩, hS3.F ht⟩) hS3.2.2 dX7_grow_28
  · have hm6 := zz_if c4 hm2
    refine lv_iconst (v := (-1 : Int32)) hx hb dX7_grow_13 (by decide) ?_
    obtain ⟨hq1, hq99⟩ := Prod.mk.inj (Option.some.inj hm6)
    obtain ⟨hq2, hq99⟩ := Prod.mk.inj (hq99)
    obtain ⟨hq3, hq99⟩ := Prod.mk.inj (hq99)
    obtain ⟨hq4, hq5⟩ := Prod.mk.inj (hq99)
    subst hq1
    subst hq2
    subst hq3
    subst hq4
    subst hq5
    exact W.iret hx hb hr (fun t ht hW => ⟨⟨_, (), rfl, rfl, by rw [ht]; exact hP3, va_K.moved hW.alike hK, hD3⟩, hS3.F ht⟩) hS3.2.2 dX7_grow_14
