theorem iw_X3_readNumber_X3 : ∀ w ∈ wsX30, w ∈ wsX3_readNumber := by decide +kernel
theorem iw_X3_readNumber_X5 : ∀ w ∈ wsX50, w ∈ wsX3_readNumber := by decide +kernel
set_option maxHeartbeats 4000000 in
set_option maxRecDepth 100000 in
theorem c_X3_readNumber (l : Launch) (D : va_G) (cI cB cZ : ClassId) (ta : Nat → Nat) (aR : Nat) (aRt : Nat) (aK : Nat) (aT : Nat) (aTb : Nat) (aD : Nat) (aDp : Nat) (aDf : Nat) (sz : Nat) (rl : Int32) (rk : Int32) (rp : Int32) (rt : (Nat → Int32)) (kp : Int32) (kb : Int32) (kk : Int32) (kn : Int32) (tl : Int32) (tb : (Nat → Int32)) (dg : Int32) (ds : Int32) (dn : Int32) (dp : (Nat → Int32)) (df : (Nat → Int32)) (x1 : Int32) (x2 : Int32) (r0 : Int32) (u_rk : Int32) (u_rp : Int32) (u_kp : Int32) (u_kb : Int32) (u_kk : Int32) (u_kn : Int32) (hm : m_X3_readNumber rk rp kp kb kk kn tl tb x1 x2 = some (r0, u_rk, u_rp, u_kp, u_kb, u_kk, u_kn)) : Met l yX3_readNumber wsX3_readNumber ({ frames := 2, cells := 0, slots := 0, locals := 43 } : Room) (va_Pc [.ref aR, .int x1, .int x2] (PW D cI cB cZ ta (w_Reader cI cB cZ aR aRt aK aT aTb aD aDp aDf rl rk rp rt kp kb kk kn tl tb dg ds dn dp df) sz)) (QZ .boolean D cI cB cZ (va_A (w_Reader cI cB cZ aR aRt aK aT aTb aD aDp aDf rl rk rp rt kp kb kk kn tl tb dg ds dn dp df) sz) (w_Reader cI cB cZ aR aRt aK aT aTb aD aDp aDf rl u_rk u_rp rt u_kp u_kb u_kk u_kn tl tb dg ds dn dp df) r0) 0 0 (va_A (w_Reader cI cB cZ aR aRt aK aT aTb aD aDp aDf rl rk rp rt kp kb kk kn tl tb dg ds dn dp df) sz) := by
  refine Met.ofW (cc := cX3_readNumber) (maxL := 3) (ret := (some .boolean)) (by decide) rfl ?_
  intro p e s m args below meth c s₁ B hml hv
  obtain ⟨rfl, hsz, hP, hK, hD0, hG⟩ := hv
  have hx := B.exec
  have hb := B.bytes
  have hr := B.returns
  have hts := atoms_spec (ws := wsX3_readNumber) B.pre
  have hown : s.vm.findClass RX3 = some m.cls := findClass_of_methodNamed B.named
  have hlocks := B.notSynchronized
  subst hsz
  have hD := hD0.self (sz := s.heap.size)
  clear hD0
  have hA0 : ∀ q : Nat, s.heap.size ≤ q → va_A (w_Reader cI cB cZ aR aRt aK aT aTb aD aDp aDf rl rk rp rt kp kb kk kn tl tb dg ds dn dp df) s.heap.size q := fun q h => Or.inr h
  generalize hAe : va_A (w_Reader cI cB cZ aR aRt aK aT aTb aD aDp aDf rl rk rp rt kp kb kk kn tl tb dg ds dn dp df) s.heap.size = A at hD hG hA0 ⊢
  have hA : ∀ q : Nat, s.heap.size ≤ q → A q := hA0
  clear hA0
  have hS : va_S A s.heap s.heap [] := va_S.rf
  have iw_X3 := iw_X3_readNumber_X3
  have iw_X5 := iw_X3_readNumber_X5
  have hk_46 : ∀ (rk : Int32) (rp : Int32) (kp : Int32) (kb : Int32) (kk : Int32) (kn : Int32), k_X3_readNumber_46 tl tb rk rp kp kb kk kn = some (r0, u_rk, u_rp, u_kp, u_kb, u_kk, u_kn) → ∀ (ls : Array Slot) (H : Heap) (lo : List Loc), lv_has ls 3 [(0, .ref aR)] → va_P D vwCl (w_Reader cI cB cZ aR aRt aK aT aTb aD aDp aDf rl rk rp rt kp kb kk kn tl tb dg ds dn dp df) H → va_D A (w_Reader cI cB cZ aR aRt aK aT aTb aD aDp aDf rl rk rp rt kp kb kk kn tl tb dg ds dn dp df) → va_S A s.heap H lo → W p l e (headSpec wsX3_readNumber ({ frames := 2, cells := 0, slots := 0, locals := 43 } : Room)).room s m (([.ref aR, .int x1, .int x2] : List Value).toArray) below meth c H lo 0 0 (MQ below (QZ .boolean D cI cB cZ A (w_Reader cI cB cZ aR aRt aK aT aTb aD aDp aDf rl u_rk u_rp rt u_kp u_kb u_kk u_kn tl tb dg ds dn dp df) r0) (([.ref aR, .int x1, .int x2] : List Value).toArray) s 0 0 A) (F0 m 46 ls []) := by
    intro rk rp kp kb kk kn hm ls H lo hl hP hD hS
    replace hm : (ob3 (m_X3_refuse rk rp kb (2 : Int32)) (fun r1 rk_1 rp_1 => some (r1, rk_1, rp_1, kp, kb, kk, kn))) = some (r0, u_rk, u_rp, u_kp, u_kb, u_kk, u_kn) := hm
    refine lv_aload_n hx hb dX3_readNumber_46 rfl (lv_at hl 0 rfl) ?_
    refine lv_iconst (v := (2 : Int32)) hx hb dX3_readNumber_47 (by decide) ?_
    obtain ⟨r1, rk_1, rp_1, h1, hm1⟩ := ob3_e hm
    refine gcall_b (ws' := (w_Reader cI cB cZ aR aRt aK aT aTb aD aDp aDf rl rk_1 rp_1 rt kp kb kk kn tl tb dg ds dn dp df)) (va_runV (As := [.int (2 : Int32)]) (rest := []) ⟨hx, hb, hml, hown, hts⟩ (c_X3_refuse l D cI cB cZ ta aR aRt aK aT aTb aD aDp aDf H.size rl rk rp rt kp kb kk kn tl tb dg ds dn dp df (2 : Int32) r1 rk_1 rp_1 h1) (cwV 1 hts gX3_readNumber_X3_refuse rfl rfl rfl (by decide +kernel) ⟨(Nat.le_of_ble_eq_true rfl), (Nat.le_of_ble_eq_true rfl)⟩) ⟨PW_blind, va_recv hK hP rfl (q0 := 0) rfl, PW_at hP hD hK hS hA hG [0, 1, 2, 3, 4, 5, 6, 7] rfl (by decide)⟩ rfl rfl hl.1 rfl (lv_room (Nat.le_of_ble_eq_true rfl)) dX3_readNumber_48 ⟨(Nat.le_of_ble_eq_true rfl), (Nat.le_of_ble_eq_true rfl)⟩) hP hD hS hA [0, 1, 2, 3, 4, 5, 6, 7] [] [0, 1, 2, 3, 4, 5, 6, 7] rfl rfl (by decide) (by decide) (by decide) rfl (fun H2 lo2 hz1 hP2 hD2 hS2 => ?_)
    clear hP hD hS
    obtain ⟨hq1, hq99⟩ := Prod.mk.inj (Option.some.inj hm1)
    obtain ⟨hq2, hq99⟩ := Prod.mk.inj (hq99)
    obtain ⟨hq3, hq99⟩ := Prod.mk.inj (hq99)
    obtain ⟨hq4, hq99⟩ := Prod.mk.inj (hq99)
    obtain ⟨hq5, hq99⟩ := Prod.mk.inj (hq99)
    obtain ⟨hq6, hq7⟩ := Prod.mk.inj (hq99)
    subst hq1
    subst hq2
    subst hq3
    subst hq4
    subst hq5
    subst hq6
    subst hq7
    exact W.zret (ty := .boolean) hx hb hr hz1 (fun t ht hW => ⟨⟨_, (), rfl, ⟨rfl, hz1⟩, by rw [ht]; exact hP2, va_K.moved hW.alike hK, hD2⟩, hS2.F ht⟩) hS2.2.2 dX3_readNumber_51
  have hl := lv_entry ([.ref aR, .int x1, .int x2]) (n := 3) (Nat.le_of_ble_eq_true rfl)
  rw [lg_entry_eq]
  generalize (lg_sl ([.ref aR, .int x1, .int x2]) ++ List.replicate (3 - (lg_sl ([.ref aR, .int x1, .int x2])).length) Slot.unset).toArray = ls at hl ⊢
  have hl : lv_has ls 3 [(0, .ref aR), (1, .int x1), (2, .int x2)] := hl
  replace hm : (ob4 (m_X5_advance kp kb kk kn tl tb) (fun kp_3 kb_3 kk_3 kn_3 => (if kk_3 = (2 : Int32) then (if kn_3 < x1 then (k_X3_readNumber_46 tl tb rk rp kp_3 kb_3 kk_3 kn_3) else (if kn_3 ≤ x2 then some ((1 : Int32), rk, rp, kp_3, kb_3, kk_3, kn_3) else (k_X3_readNumber_46 tl tb rk rp kp_3 kb_3 kk_3 kn_3))) else (ob3 (m_X3_refuse rk rp kb_3 (1 : Int32)) (fun r14 rk_14 rp_14 => some (r14, rk_14, rp_14, kp_3, kb_3, kk_3, kn_3)))))) = some (r0, u_rk, u_rp, u_kp, u_kb, u_kk, u_kn) := hm
  refine lv_aload_n hx hb dX3_readNumber_0 rfl (lv_at hl 0 rfl) ?_
  refine va_get (D := D) (ci := 3) (v := .ref aK) (C := RX3) (T := TX3) (N := 6) hx hb hts iw_X3 hown hK hP 0 rfl rfl 0 (by decide) (hts (.fieldLink RX3 30 "VarianceBridge$Reader" "tokens" "LVarianceBridge$Tokens;") (by decide +kernel)) (fun _ h9 => h9) rfl dX3_readNumber_1 ?_
  obtain ⟨kp_3, kb_3, kk_3, kn_3, h3, hm3⟩ := ob4_e hm
  refine gcall_v (ws' := (w_Reader cI cB cZ aR aRt aK aT aTb aD aDp aDf rl rk rp rt kp_3 kb_3 kk_3 kn_3 tl tb dg ds dn dp df)) (va_runVN (As := []) (rest := []) ⟨hx, hb, hml, hown, hts⟩ (c_X5_advance l D cI cB cZ ta aK aT aTb s.heap.size kp kb kk kn tl tb kp_3 kb_3 kk_3 kn_3 h3) ⟨va_cnB 0 hts gX3_readNumber_X5_advance_n47 rfl rfl rfl (hG.1 (.methodLinkNest RX3 47 yX5_advance RX6) (by decide +kernel)) (hts (.initialized RX5) (by decide +kernel)) (by decide +kernel) ⟨(Nat.le_of_ble_eq_true rfl), (Nat.le_of_ble_eq_true rfl)⟩, hts (.instanceMethod yX5_advance) (by decide +kernel), hts (.selects RX5 yX5_advance yX5_advance) (by decide +kernel)⟩ ⟨PW_blind, va_recv hK hP rfl (q0 := 2) rfl, PW_at hP hD hK hS hA hG [2, 3, 4] rfl (by decide)⟩ rfl rfl hl.1 rfl (lv_room (Nat.le_of_ble_eq_true rfl)) dX3_readNumber_4 ⟨(Nat.le_of_ble_eq_true rfl), (Nat.le_of_ble_eq_true rfl)⟩) hP hD hS hA [2, 3, 4] [0, 1, 5, 6, 7] [0, 1, 5, 6, 7, 2, 3, 4] rfl rfl (by decide) (by decide) (by decide) rfl (fun H4 lo4 hP4 hD4 hS4 => ?_)
  clear hP hD hS
  refine lv_aload_n hx hb dX3_readNumber_7 rfl (lv_at hl 0 rfl) ?_
  refine va_get (D := D) (ci := 3) (v := .ref aK) (C := RX3) (T := TX3) (N := 6) hx hb hts iw_X3 hown hK hP4 0 rfl rfl 0 (by decide) (hts (.fieldLink RX3 30 "VarianceBridge$Reader" "tokens" "LVarianceBridge$Tokens;") (by decide +kernel)) (fun _ h9 => h9) rfl dX3_readNumber_8 ?_
  refine va_getN (D := D) (ci := 5) (v := .int kk_3) (C := RX5) (T := TX5) (N := 5) hx hb hts iw_X5 hown hK hP4 2 rfl rfl 3 (by decide) (va_Nw.use rfl (hG.1 (.fieldLinkNest RX3 54 RX5 "kind" "I" RX6) (by decide +kernel))) (fun _ h9 => h9) rfl dX3_readNumber_11 ?_
  refine lv_iconst (v := (2 : Int32)) hx hb dX3_readNumber_14 (by decide) ?_
  refine lv_icmp_eq (tgt := 24) hx hb dX3_readNumber_15 (by decide) (fun c5 => ?_) (fun c5 => ?_)
  · have hm6 := zz_if c5 hm3
    refine lv_aload_n hx hb dX3_readNumber_24 rfl (lv_at hl 0 rfl) ?_
    refine va_get (D := D) (ci := 3) (v := .ref aK) (C := RX3) (T := TX3) (N := 6) hx hb hts iw_X3 hown hK hP4 0 rfl rfl 0 (by decide) (hts (.fieldLink RX3 30 "VarianceBridge$Reader" "tokens" "LVarianceBridge$Tokens;") (by decide +kernel)) (fun _ h9 => h9) rfl dX3_readNumber_25 ?_
    refine va_getN (D := D) (ci := 5) (v := .int kn_3) (C := RX5) (T := TX5) (N := 5) hx hb hts iw_X5 hown hK hP4 2 rfl rfl 4 (by decide) (va_Nw.use rfl (hG.1 (.fieldLinkNest RX3 74 RX5 "number" "I" RX6) (by decide +kernel))) (fun _ h9 => h9) rfl dX3_readNumber_28 ?_
    refine lv_iload_n hx hb dX3_readNumber_31 rfl (lv_at hl 1 rfl) ?_
    refine lv_icmp_lt (tgt := 46) hx hb dX3_readNumber_32 (by decide) (fun c8 => ?_) (fun c8 => ?_)
    · have hm9 := zz_if c8 hm6
      exact hk_46 rk rp kp_3 kb_3 kk_3 kn_3 hm9 ls H4 lo4 (lv_sub hl [0] rfl) hP4 hD4 hS4
    · have hm10 := zz_nf c8 hm6
      refine lv_aload_n hx hb dX3_readNumber_35 rfl (lv_at hl 0 rfl) ?_
      refine va_get (D := D) (ci := 3) (v := .ref aK) (C := RX3) (T := TX3) (N := 6) hx hb hts iw_X3 hown hK hP4 0 rfl rfl 0 (by decide) (hts (.fieldLink RX3 30 "VarianceBridge$Reader" "tokens" "LVarianceBridge$Tokens;") (by decide +kernel)) (fun _ h9 => h9) rfl dX3_readNumber_36 ?_
      refine va_getN (D := D) (ci := 5) (v := .int kn_3) (C := RX5) (T := TX5) (N := 5) hx hb hts iw_X5 hown hK hP4 2 rfl rfl 4 (by decide) (va_Nw.use rfl (hG.1 (.fieldLinkNest RX3 74 RX5 "number" "I" RX6) (by decide +kernel))) (fun _ h9 => h9) rfl dX3_readNumber_39 ?_
      refine lv_iload_n hx hb dX3_readNumber_42 rfl (lv_at hl 2 rfl) ?_
      refine lv_icmp_le (tgt := 52) hx hb dX3_readNumber_43 (by decide) (fun c11 => ?_) (fun c11 => ?_)
      · have hm12 := zz_if c11 hm10
        refine lv_iconst (v := (1 : Int32)) hx hb dX3_readNumber_52 (by decide) ?_
        obtain ⟨hq1, hq99⟩ := Prod.mk.inj (Option.some.inj hm12)
        obtain ⟨hq2, hq99⟩ := Prod.mk.inj (hq99)
        obtain ⟨hq3, hq99⟩ := Prod.mk.inj (hq99)
        obtain ⟨hq4, hq99⟩ := Prod.mk.inj (hq99)
        obtain ⟨hq5, hq99⟩ := Prod.mk.inj (hq99)
        obtain ⟨hq6, hq7⟩ := Prod.mk.inj (hq99)
        subst hq1
        subst hq2
        subst hq3
        subst hq4
        subst hq5
        subst hq6
        subst hq7
        exact W.zret (ty := .boolean) hx hb hr (by decide) (fun t ht hW => ⟨⟨_, (), rfl, ⟨rfl, (by decide)⟩, by rw [ht]; exact hP4, va_K.moved hW.alike hK, hD4⟩, hS4.F ht⟩) hS4.2.2 dX3_readNumber_53
      · have hm13 := zz_nf c11 hm10
        exact hk_46 rk rp kp_3 kb_3 kk_3 kn_3 hm13 ls H4 lo4 (lv_sub hl [0] rfl) hP4 hD4 hS4
  · have hm7 := zz_nf c5 hm3
    refine lv_aload_n hx hb dX3_readNumber_18 rfl (lv_at hl 0 rfl) ?_
    refine lv_iconst (v := (1 : Int32)) hx hb dX3_readNumber_19 (by decide) ?_
    obtain ⟨r14, rk_14, rp_14, h14, hm14⟩ := ob3_e hm7
    refine gcall_b (ws' := (w_Reader cI cB cZ aR aRt aK aT aTb aD aDp aDf rl rk_14 rp_14 rt kp_3 kb_3 kk_3 kn_3 tl tb dg ds dn dp df)) (va_runV (As := [.int (1 : Int32)]) (rest := []) ⟨hx, hb, hml, hown, hts⟩ (c_X3_refuse l D cI cB cZ ta aR aRt aK aT aTb aD aDp aDf H4.size rl rk rp rt kp_3 kb_3 kk_3 kn_3 tl tb dg ds dn dp df (1 : Int32) r14 rk_14 rp_14 h14) (cwV 1 hts gX3_readNumber_X3_refuse rfl rfl rfl (by decide +kernel) ⟨(Nat.le_of_ble_eq_true rfl), (Nat.le_of_ble_eq_true rfl)⟩) ⟨PW_blind, va_recv hK hP4 rfl (q0 := 0) rfl, PW_at hP4 hD4 hK hS4 hA hG [0, 1, 2, 3, 4, 5, 6, 7] rfl (by decide)⟩ rfl rfl hl.1 rfl (lv_room (Nat.le_of_ble_eq_true rfl)) dX3_readNumber_20 ⟨(Nat.le_of_ble_eq_true rfl), (Nat.le_of_ble_eq_true rfl)⟩) hP4 hD4 hS4 hA [0, 1, 2, 3, 4, 5, 6, 7] [] [0, 1, 2, 3, 4, 5, 6, 7] rfl rfl (by decide) (by decide) (by decide) rfl (fun H15 lo15 hz14 hP15 hD15 hS15 => ?_)
    clear hP4 hD4 hS4
    obtain ⟨hq1, hq99⟩ := Prod.mk.inj (Option.some.inj hm14)
    obtain ⟨hq2, hq99⟩ := Prod.mk.inj (hq99)
    obtain ⟨hq3, hq99⟩ := Prod.mk.inj (hq99)
    obtain ⟨hq4, hq99⟩ := Prod.mk.inj (hq99)
    obtain ⟨hq5, hq99⟩ := Prod.mk.inj (hq99)
    obtain ⟨hq6, hq7⟩ := Prod.mk.inj (hq99)
    subst hq1
    subst hq2
    subst hq3
    subst hq4
    subst hq5
    subst hq6
    subst hq7
    exact W.zret (ty := .boolean) hx hb hr hz14 (fun t ht hW => ⟨⟨_, (), rfl, ⟨rfl, hz14⟩, by rw [ht]; exact hP15, va_K.moved hW.alike hK, hD15⟩, hS15.F ht⟩) hS15.2.2 dX3_readNumber_23
theorem iw_X3_readSemicolon_X3 : ∀ w ∈ wsX30, w ∈ wsX3_readSemicolon := by decide +kernel
theorem iw_X3_readSemicolon_X5 : ∀ w ∈ wsX50, w ∈ wsX3_readSemicolon := by decide +kernel
set_option maxHeartbeats 4000000 in
set_option maxRecDepth 100000 in
theorem c_X3_readSemicolon (l : Launch) (D : va_G) (cI cB cZ : ClassId) (ta : Nat → Nat) (aR : Nat) (aRt : Nat) (aK : Nat) (aT : Nat) (aTb : Nat) (aD : Nat) (aDp : Nat) (aDf : Nat) (sz : Nat) (rl : Int32) (rk : Int32) (rp : Int32) (rt : (Nat → Int32)) (kp : Int32) (kb : Int32) (kk : Int32) (kn : Int32) (tl : Int32) (tb : (Nat → Int32)) (dg : Int32) (ds : Int32) (dn : Int32) (dp : (Nat → Int32)) (df : (Nat → Int32)) (r0 : Int32) (u_rk : Int32) (u_rp : Int32) (u_kp : Int32) (u_kb : Int32) (u_kk : Int32) (u_kn : Int32) (hm : m_X3_readSemicolon rk rp kp kb kk kn tl tb = some (r0, u_rk, u_rp, u_kp, u_kb, u_kk, u_kn)) : Met l yX3_readSemicolon wsX3_readSemicolon ({ frames := 2, cells := 0, slots := 0, locals := 43 } : Room) (va_Pc [.ref aR] (PW D cI cB cZ ta (w_Reader cI cB cZ aR aRt aK aT aTb aD aDp aDf rl rk rp rt kp kb kk kn tl tb dg ds dn dp df) sz)) (QZ .boolean D cI cB cZ (va_A (w_Reader cI cB cZ aR aRt aK aT aTb aD aDp aDf rl rk rp rt kp kb kk kn tl tb dg ds dn dp df) sz) (w_Reader cI cB cZ aR aRt aK aT aTb aD aDp aDf rl u_rk u_rp rt u_kp u_kb u_kk u_kn tl tb dg ds dn dp df) r0) 0 0 (va_A (w_Reader cI cB cZ aR aRt aK aT aTb aD aDp aDf rl rk rp rt kp kb kk kn tl tb dg ds dn dp df) sz) := by
  refine Met.ofW (cc := cX3_readSemicolon) (maxL := 1) (ret := (some .boolean)) (by decide) rfl ?_
  intro p e s m args below meth c s₁ B hml hv
  obtain ⟨rfl, hsz, hP, hK, hD0, hG⟩ := hv
  have hx := B.exec
  have hb := B.bytes
  have hr := B.returns
  have hts := atoms_spec (ws := wsX3_readSemicolon) B.pre
  have hown : s.vm.findClass RX3 = some m.cls := findClass_of_methodNamed B.named
  have hlocks := B.notSynchronized
  subst hsz
  have hD := hD0.self (sz := s.heap.size)
  clear hD0
  have hA0 : ∀ q : Nat, s.heap.size ≤ q → va_A (w_Reader cI cB cZ aR aRt aK aT aTb aD aDp aDf rl rk rp rt kp kb kk kn tl tb dg ds dn dp df) s.heap.size q := fun q h => Or.inr h
  generalize hAe : va_A (w_Reader cI cB cZ aR aRt aK aT aTb aD aDp aDf rl rk rp rt kp kb kk kn tl tb dg ds dn dp df) s.heap.size = A at hD hG hA0 ⊢
  have hA : ∀ q : Nat, s.heap.size ≤ q → A q := hA0
  clear hA0
  have hS : va_S A s.heap s.heap [] := va_S.rf
  have iw_X3 := iw_X3_readSemicolon_X3
  have iw_X5 := iw_X3_readSemicolon_X5
  have hl := lv_entry ([.ref aR]) (n := 1) (Nat.le_of_ble_eq_true rfl)
  rw [lg_entry_eq]
  generalize (lg_sl ([.ref aR]) ++ List.replicate (1 - (lg_sl ([.ref aR])).length) Slot.unset).toArray = ls at hl ⊢
  have hl : lv_has ls 1 [(0, .ref aR)] := hl
  replace hm : (ob4 (m_X5_advance kp kb kk kn tl tb) (fun kp_1 kb_1 kk_1 kn_1 => (if kk_1 = (3 : Int32) then some ((1 : Int32), rk, rp, kp_1, kb_1, kk_1, kn_1) else (ob3 (m_X3_refuse rk rp kb_1 (1 : Int32)) (fun r6 rk_6 rp_6 => (if r6 = 0 then some ((0 : Int32), rk_6, rp_6, kp_1, kb_1, kk_1, kn_1) else some ((1 : Int32), rk_6, rp_6, kp_1, kb_1, kk_1, kn_1))))))) = some (r0, u_rk, u_rp, u_kp, u_kb, u_kk, u_kn) := hm
  refine lv_aload_n hx hb dX3_readSemicolon_0 rfl (lv_at hl 0 rfl) ?_
  refine va_get (D := D) (ci := 3) (v := .ref aK) (C := RX3) (T := TX3) (N := 6) hx hb hts iw_X3 hown hK hP 0 rfl rfl 0 (by decide) (hts (.fieldLink RX3 30 "VarianceBridge$Reader" "tokens" "LVarianceBridge$Tokens;") (by decide +kernel)) (fun _ h9 => h9) rfl dX3_readSemicolon_1 ?_
  obtain ⟨kp_1, kb_1, kk_1, kn_1, h1, hm1⟩ := ob4_e hm
  refine gcall_v (ws' := (w_Reader cI cB cZ aR aRt aK aT aTb aD aDp aDf rl rk rp rt kp_1 kb_1 kk_1 kn_1 tl tb dg ds dn dp df)) (va_runVN (As := []) (rest := []) ⟨hx, hb, hml, hown, hts⟩ (c_X5_advance l D cI cB cZ ta aK aT aTb s.heap.size kp kb kk kn tl tb kp_1 kb_1 kk_1 kn_1 h1) ⟨va_cnB 0 hts gX3_readSemicolon_X5_advance_n47 rfl rfl rfl (hG.1 (.methodLinkNest RX3 47 yX5_advance RX6) (by decide +kernel)) (hts (.initialized RX5) (by decide +kernel)) (by decide +kernel) ⟨(Nat.le_of_ble_eq_true rfl), (Nat.le_of_ble_eq_true rfl)⟩, hts (.instanceMethod yX5_advance) (by decide +kernel), hts (.selects RX5 yX5_advance yX5_advance) (by decide +kernel)⟩ ⟨PW_blind, va_recv hK hP rfl (q0 := 2) rfl, PW_at hP hD hK hS hA hG [2, 3, 4] rfl (by decide)⟩ rfl rfl hl.1 rfl (lv_room (Nat.le_of_ble_eq_true rfl)) dX3_readSemicolon_4 ⟨(Nat.le_of_ble_eq_true rfl), (Nat.le_of_ble_eq_true rfl)⟩) hP hD hS hA [2, 3, 4] [0, 1, 5, 6, 7] [0, 1, 5, 6, 7, 2, 3, 4] rfl rfl (by decide) (by decide) (by decide) rfl (fun H2 lo2 hP2 hD2 hS2 => ?_)
  clear hP hD hS
  refine lv_aload_n hx hb dX3_readSemicolon_7 rfl (lv_at hl 0 rfl) ?_
  refine va_get (D := D) (ci := 3) (v := .ref aK) (C := RX3) (T := TX3) (N := 6) hx hb hts iw_X3 hown hK hP2 0 rfl rfl 0 (by decide) (hts (.fieldLink RX3 30 "VarianceBridge$Reader" "tokens" "LVarianceBridge$Tokens;") (by decide +kernel)) (fun _ h9 => h9) rfl dX3_readSemicolon_8 ?_
  refine va_getN (D := D) (ci := 5) (v := .int kk_1) (C := RX5) (T := TX5) (N := 5) hx hb hts iw_X5 hown hK hP2 2 rfl rfl 3 (by decide) (va_Nw.use rfl (hG.1 (.fieldLinkNest RX3 54 RX5 "kind" "I" RX6) (by decide +kernel))) (fun _ h9 => h9) rfl dX3_readSemicolon_11 ?_
  refine lv_iconst (v := (3 : Int32)) hx hb dX3_readSemicolon_14 (by decide) ?_
  refine lv_icmp_eq (tgt := 26) hx hb dX3_readSemicolon_15 (by decide) (fun c3 => ?_) (fun c3 => ?_)
  · have hm4 := zz_if c3 hm1
    refine lv_iconst (v := (1 : Int32)) hx hb dX3_readSemicolon_26 (by decide) ?_
    refine lv_goto (tgt := 31) hx hb dX3_readSemicolon_27 (by decide) ?_
    obtain ⟨hq1, hq99⟩ := Prod.mk.inj (Option.some.inj hm4)
    obtain ⟨hq2, hq99⟩ := Prod.mk.inj (hq99)
    obtain ⟨hq3, hq99⟩ := Prod.mk.inj (hq99)
    obtain ⟨hq4, hq99⟩ := Prod.mk.inj (hq99)
    obtain ⟨hq5, hq99⟩ := Prod.mk.inj (hq99)
    obtain ⟨hq6, hq7⟩ := Prod.mk.inj (hq99)
    subst hq1
    subst hq2
    subst hq3
    subst hq4
    subst hq5
    subst hq6
    subst hq7
    exact W.zret (ty := .boolean) hx hb hr (by decide) (fun t ht hW => ⟨⟨_, (), rfl, ⟨rfl, (by decide)⟩, by rw [ht]; exact hP2, va_K.moved hW.alike hK, hD2⟩, hS2.F ht⟩) hS2.2.2 dX3_readSemicolon_31
  · have hm5 := zz_nf c3 hm1
    refine lv_aload_n hx hb dX3_readSemicolon_18 rfl (lv_at hl 0 rfl) ?_
    refine lv_iconst (v := (1 : Int32)) hx hb dX3_readSemicolon_19 (by decide) ?_
    obtain ⟨r6, rk_6, rp_6, h6, hm6⟩ := ob3_e hm5
    refine gcall_b (ws' := (w_Reader cI cB cZ aR aRt aK aT aTb aD aDp aDf rl rk_6 rp_6 rt kp_1 kb_1 kk_1 kn_1 tl tb dg ds dn dp df)) (va_runV (As := [.int (1 : Int32)]) (rest := []) ⟨hx, hb, hml, hown, hts⟩ (c_X3_refuse l D cI cB cZ ta aR aRt aK aT aTb aD aDp aDf H2.size rl rk rp rt kp_1 kb_1 kk_1 kn_1 tl tb dg ds dn dp df (1 : Int32) r6 rk_6 rp_6 h6) (cwV 1 hts gX3_readSemicolon_X3_refuse rfl rfl rfl (by decide +kernel) ⟨(Nat.le_of_ble_eq_true rfl), (Nat.le_of_ble_eq_true rfl)⟩) ⟨PW_blind, va_recv hK hP2 rfl (q0 := 0) rfl, PW_at hP2 hD2 hK hS2 hA hG [0, 1, 2, 3, 4, 5, 6, 7] rfl (by decide)⟩ rfl rfl hl.1 rfl (lv_room (Nat.le_of_ble_eq_true rfl)) dX3_readSemicolon_20 ⟨(Nat.le_of_ble_eq_true rfl), (Nat.le_of_ble_eq_true rfl)⟩) hP2 hD2 hS2 hA [0, 1, 2, 3, 4, 5, 6, 7] [] [0, 1, 2, 3, 4, 5, 6, 7] rfl rfl (by decide) (by decide) (by decide) rfl (fun H7 lo7 hz6 hP7 hD7 hS7 => ?_)
    clear hP2 hD2 hS2
    refine lv_if_eq (tgt := 30) hx hb dX3_readSemicolon_23 (by decide) (fun c8 => ?_) (fun c8 => ?_)
    · have hm9 := zz_if c8 hm6
      refine lv_iconst (v := (0 : Int32)) hx hb dX3_readSemicolon_30 (by decide) ?_
      obtain ⟨hq1, hq99⟩ := Prod.mk.inj (Option.some.inj hm9)
      obtain ⟨hq2, hq99⟩ := Prod.mk.inj (hq99)
      obtain ⟨hq3, hq99⟩ := Prod.mk.inj (hq99)
      obtain ⟨hq4, hq99⟩ := Prod.mk.inj (hq99)
      obtain ⟨hq5, hq99⟩ := Prod.mk.inj (hq99)
      obtain ⟨hq6, hq7⟩ := Prod.mk.inj (hq99)
      subst hq1
      subst hq2
      subst hq3
      subst hq4
      subst hq5
      subst hq6
      subst hq7
      exact W.zret (ty := .boolean) hx hb hr (by decide) (fun t ht hW => ⟨⟨_, (), rfl, ⟨rfl, (by decide)⟩, by rw [ht]; exact hP7, va_K.moved hW.alike hK, hD7⟩, hS7.F ht⟩) hS7.2.2 dX3_readSemicolon_31
    · have hm10 := zz_nf c8 hm6
      refine lv_iconst (v := (1 : Int32)) hx hb dX3_readSemicolon_26 (by decide) ?_
      refine lv_goto (tgt := 31) hx hb dX3_readSemicolon_27 (by decide) ?_
      obtain ⟨hq1, hq99⟩ := Prod.mk.inj (Option.some.inj hm10)
      obtain ⟨hq2, hq99⟩ := Prod.mk.inj (hq99)
      obtain ⟨hq3, hq99⟩ := Prod.mk.inj (hq99)
      obtain ⟨hq4, hq99⟩ := Prod.mk.inj (hq99)
      obtain ⟨hq5, hq99⟩ := Prod.mk.inj (hq99)
      obtain ⟨hq6, hq7⟩ := Prod.mk.inj (hq99)
      subst hq1
      subst hq2
      subst hq3
      subst hq4
      subst hq5
      subst hq6
      subst hq7
      exact W.zret (ty := .boolean) hx hb hr (by decide) (fun t ht hW => ⟨⟨_, (), rfl, ⟨rfl, (by decide)⟩, by rw [ht]; exact hP7, va_K.moved hW.alike hK, hD7⟩, hS7.F ht⟩) hS7.2.2 dX3_readSemicolon_31
theorem iw_X3_readScenes_X3 : ∀ w ∈ wsX30, w ∈ wsX3_readScenes := by decide +kernel
theorem iw_X3_readScenes_X5 : ∀ w ∈ wsX50, w ∈ wsX3_readScenes := by decide +kernel
set_option maxHeartbeats 4000000 in
set_option maxRecDepth 100000 in
theorem c_X3_readScenes (l : Launch) (D : va_G) (cI cB cZ : ClassId) (ta : Nat → Nat) (aR : Nat) (aRt : Nat) (aK : Nat) (aT : Nat) (aTb : Nat) (aD : Nat) (aDp : Nat) (aDf : Nat) (sz : Nat) (rl : Int32) (rk : Int32) (rp : Int32) (rt : (Nat → Int32)) (kp : Int32) (kb : Int32) (kk : Int32) (kn : Int32) (tl : Int32) (tb : (Nat → Int32)) (dg : Int32) (ds : Int32) (dn : Int32) (dp : (Nat → Int32)) (df : (Nat → Int32)) (r0 : Int32) (u_rk : Int32) (u_rp : Int32) (u_kp : Int32) (u_kb : Int32) (u_kk : Int32) (u_kn : Int32) (u_dg : Int32) (u_ds : Int32) (u_dn : Int32) (u_dp : (Nat → Int32)) (hm : m_X3_readScenes rk rp kp kb kk kn tl tb dg ds dn dp = some (r0, u_rk, u_rp, u_kp, u_kb, u_kk, u_kn, u_dg, u_ds, u_dn, u_dp)) : Met l yX3_readScenes wsX3_readScenes ({ frames := 5, cells := 0, slots := 0, locals := 107 } : Room) (va_Pc [.ref aR] (PW D cI cB cZ ta (w_Reader cI cB cZ aR aRt aK aT aTb aD aDp aDf rl rk rp rt kp kb kk kn tl tb dg ds dn dp df) sz)) (QZ .boolean D cI cB cZ (va_A (w_Reader cI cB cZ aR aRt aK aT aTb aD aDp aDf rl rk rp rt kp kb kk kn tl tb dg ds dn dp df) sz) (w_Reader cI cB cZ aR aRt aK aT aTb aD aDp aDf rl u_rk u_rp rt u_kp u_kb u_kk u_kn tl tb u_dg u_ds u_dn u_dp df) r0) 0 0 (va_A (w_Reader cI cB cZ aR aRt aK aT aTb aD aDp aDf rl rk rp rt kp kb kk kn tl tb dg ds dn dp df) sz) := by
  refine Met.ofW (cc := cX3_readScenes) (maxL := 1) (ret := (some .boolean)) (by decide) rfl ?_
  intro p e s m args below meth c s₁ B hml hv
  obtain ⟨rfl, hsz, hP, hK, hD0, hG⟩ := hv
  have hx := B.exec
  have hb := B.bytes
  have hr := B.returns
  have hts := atoms_spec (ws := wsX3_readScenes) B.pre
  have hown : s.vm.findClass RX3 = some m.cls := findClass_of_methodNamed B.named
  have hlocks := B.notSynchronized
  subst hsz
  have hD := hD0.self (sz := s.heap.size)
  clear hD0
  have hA0 : ∀ q : Nat, s.heap.size ≤ q → va_A (w_Reader cI cB cZ aR aRt aK aT aTb aD aDp aDf rl rk rp rt kp kb kk kn tl tb dg ds dn dp df) s.heap.size q := fun q h => Or.inr h
  generalize hAe : va_A (w_Reader cI cB cZ aR aRt aK aT aTb aD aDp aDf rl rk rp rt kp kb kk kn tl tb dg ds dn dp df) s.heap.size = A at hD hG hA0 ⊢
  have hA : ∀ q : Nat, s.heap.size ≤ q → A q := hA0
  clear hA0
  have hS : va_S A s.heap s.heap [] := va_S.rf
  have iw_X3 := iw_X3_readScenes_X3
  have iw_X5 := iw_X3_readScenes_X5
  have hl := lv_entry ([.ref aR]) (n := 1) (Nat.le_of_ble_eq_true rfl)
  rw [lg_entry_eq]
  generalize (lg_sl ([.ref aR]) ++ List.replicate (1 - (lg_sl ([.ref aR])).length) Slot.unset).toArray = ls at hl ⊢
  have hl : lv_has ls 1 [(0, .ref aR)] := hl
  replace hm : (ob1 (m_X5_isWord kp kb kk tb 0) (fun r1 => (if r1 = 0 then (ob3 (m_X3_refuse rk rp kb (1 : Int32)) (fun r15 rk_15 rp_15 => some (r15, rk_15, rp_15, kp, kb, kk, kn, dg, ds, dn, dp))) else (ob7 (m_X3_readNumber rk rp kp kb kk kn tl tb (1 : Int32) (4 : Int32)) (fun r6 rk_6 rp_6 kp_6 kb_6 kk_6 kn_6 => (if r6 = 0 then some ((0 : Int32), rk_6, rp_6, kp_6, kb_6, kk_6, kn_6, dg, ds, dn, dp) else (ob4 (m_X2_clear dg ds dn dp kn_6) (fun dg_11 ds_11 dn_11 dp_11 => (ob7 (m_X3_readSemicolon rk_6 rp_6 kp_6 kb_6 kk_6 kn_6 tl tb) (fun r13 rk_13 rp_13 kp_13 kb_13 kk_13 kn_13 => some (r13, rk_13, rp_13, kp_13, kb_13, kk_13, kn_13, dg_11, ds_11, dn_11, dp_11))))))))))) = some (r0, u_rk, u_rp, u_kp, u_kb, u_kk, u_kn, u_dg, u_ds, u_dn, u_dp) := hm
  refine lv_aload_n hx hb dX3_readScenes_0 rfl (lv_at hl 0 rfl) ?_
  refine va_get (D := D) (ci := 3) (v := .ref aK) (C := RX3) (T := TX3) (N := 6) hx hb hts iw_X3 hown hK hP 0 rfl rfl 0 (by decide) (hts (.fieldLink RX3 30 "VarianceBridge$Reader" "tokens" "LVarianceBridge$Tokens;") (by decide +kernel)) (fun _ h9 => h9) rfl dX3_readScenes_1 ?_
  refine va_ldcS (tx := "scenes") hx hb hown hG.2.2.2.2.2.2.2.1.1 dX3_readScenes_4 ?_
  obtain ⟨r1, h1, hm1⟩ := ob1_e hm
  refine gcall_b (ws' := (w_Reader cI cB cZ aR aRt aK aT aTb aD aDp aDf rl rk rp rt kp kb kk kn tl tb dg ds dn dp df)) (va_runVN (As := [.ref (ta (10 + 0))]) (rest := []) ⟨hx, hb, hml, hown, hts⟩ (c_X5_isWord l D cI cB cZ ta aK aT aTb s.heap.size kp kb kk kn tl tb 0 r1 (by decide) h1) ⟨va_cnB 1 hts gX3_readScenes_X5_isWord_n66 rfl rfl rfl (hG.1 (.methodLinkNest RX3 66 yX5_isWord RX6) (by decide +kernel)) (hts (.initialized RX5) (by decide +kernel)) (by decide +kernel) ⟨(Nat.le_of_ble_eq_true rfl), (Nat.le_of_ble_eq_true rfl)⟩, hts (.instanceMethod yX5_isWord) (by decide +kernel), hts (.selects RX5 yX5_isWord yX5_isWord) (by decide +kernel)⟩ ⟨PW_blind, va_recv hK hP rfl (q0 := 2) rfl, PW_at hP hD hK hS hA hG [2, 3, 4] rfl (by decide)⟩ rfl rfl hl.1 rfl (lv_room (Nat.le_of_ble_eq_true rfl)) dX3_readScenes_6 ⟨(Nat.le_of_ble_eq_true rfl), (Nat.le_of_ble_eq_true rfl)⟩) hP hD hS hA [2, 3, 4] [0, 1, 5, 6, 7] [0, 1, 5, 6, 7, 2, 3, 4] rfl rfl (by decide) (by decide) (by decide) rfl (fun H2 lo2 hz1 hP2 hD2 hS2 => ?_)
  clear hP hD hS
  refine lv_if_ne (tgt := 18) hx hb dX3_readScenes_9 (by decide) (fun c3 => ?_) (fun c3 => ?_)
  · have hm4 := zz_nf c3 hm1
    refine lv_aload_n hx hb dX3_readScenes_18 rfl (lv_at hl 0 rfl) ?_
    refine lv_iconst (v := (1 : Int32)) hx hb dX3_readScenes_19 (by decide) ?_
    refine lv_iconst (v := (4 : Int32)) hx hb dX3_readScenes_20 (by decide) ?_
    obtain ⟨r6, rk_6, rp_6, kp_6, kb_6, kk_6, kn_6, h6, hm6⟩ := ob7_e hm4
    refine gcall_b (ws' := (w_Reader cI cB cZ aR aRt aK aT aTb aD aDp aDf rl rk_6 rp_6 rt kp_6 kb_6 kk_6 kn_6 tl tb dg ds dn dp df)) (va_runV (As := [.int (1 : Int32), .int (4 : Int32)]) (rest := []) ⟨hx, hb, hml, hown, hts⟩ (c_X3_readNumber l D cI cB cZ ta aR aRt aK aT aTb aD aDp aDf H2.size rl rk rp rt kp kb kk kn tl tb dg ds dn dp df (1 : Int32) (4 : Int32) r6 rk_6 rp_6 kp_6 kb_6 kk_6 kn_6 h6) (cwV 2 hts gX3_readScenes_X3_readNumber rfl rfl rfl (by decide +kernel) ⟨(Nat.le_of_ble_eq_true rfl), (Nat.le_of_ble_eq_true rfl)⟩) ⟨PW_blind, va_recv hK hP2 rfl (q0 := 0) rfl, PW_at hP2 hD2 hK hS2 hA hG [0, 1, 2, 3, 4, 5, 6, 7] rfl (by decide)⟩ rfl rfl hl.1 rfl (lv_room (Nat.le_of_ble_eq_true rfl)) dX3_readScenes_21 ⟨(Nat.le_of_ble_eq_true rfl), (Nat.le_of_ble_eq_true rfl)⟩) hP2 hD2 hS2 hA [0, 1, 2, 3, 4, 5, 6, 7] [] [0, 1, 2, 3, 4, 5, 6, 7] rfl rfl (by decide) (by decide) (by decide) rfl (fun H7 lo7 hz6 hP7 hD7 hS7 => ?_)
    clear hP2 hD2 hS2
    refine lv_if_ne (tgt := 29) hx hb dX3_readScenes_24 (by decide) (fun c8 => ?_) (fun c8 => ?_)
    · have hm9 := zz_nf c8 hm6
      refine lv_aload_n hx hb dX3_readScenes_29 rfl (lv_at hl 0 rfl) ?_
      refine va_get (D := D) (ci := 3) (v := .ref aD) (C := RX3) (T := TX3) (N := 6) hx hb hts iw_X3 hown hK hP7 0 rfl rfl 1 (by decide) (hts (.fieldLink RX3 34 "VarianceBridge$Reader" "draft" "LVarianceBridge$Plan;") (by decide +kernel)) (fun _ h9 => h9) rfl dX3_readScenes_30 ?_
      refine lv_aload_n hx hb dX3_readScenes_33 rfl (lv_at hl 0 rfl) ?_
      refine va_get (D := D) (ci := 3) (v := .ref aK) (C := RX3) (T := TX3) (N := 6) hx hb hts iw_X3 hown hK hP7 0 rfl rfl 0 (by decide) (hts (.fieldLink RX3 30 "VarianceBridge$Reader" "tokens" "LVarianceBridge$Tokens;") (by decide +kernel)) (fun _ h9 => h9) rfl dX3_readScenes_34 ?_
      refine va_getN (D := D) (ci := 5) (v := .int kn_6) (C := RX5) (T := TX5) (N := 5) hx hb hts iw_X5 hown hK hP7 2 rfl rfl 4 (by decide) (va_Nw.use rfl (hG.1 (.fieldLinkNest RX3 74 RX5 "number" "I" RX6) (by decide +kernel))) (fun _ h9 => h9) rfl dX3_readScenes_37 ?_
      obtain ⟨dg_11, ds_11, dn_11, dp_11, h11, hm11⟩ := ob4_e hm9
      refine gcall_v (ws' := (w_Reader cI cB cZ aR aRt aK aT aTb aD aDp aDf rl rk_6 rp_6 rt kp_6 kb_6 kk_6 kn_6 tl tb dg_11 ds_11 dn_11 dp_11 df)) (va_runVN (As := [.int kn_6]) (rest := []) ⟨hx, hb, hml, hown, hts⟩ (c_X2_clear l D cI cB cZ ta aD aDp aDf H7.size dg ds dn dp df kn_6 dg_11 ds_11 dn_11 dp_11 h11) ⟨va_cnB 1 hts gX3_readScenes_X2_clear_n77 rfl rfl rfl (hG.1 (.methodLinkNest RX3 77 yX2_clear RX6) (by decide +kernel)) (hts (.initialized RX2) (by decide +kernel)) (by decide +kernel) ⟨(Nat.le_of_ble_eq_true rfl), (Nat.le_of_ble_eq_true rfl)⟩, hts (.instanceMethod yX2_clear) (by decide +kernel), hts (.selects RX2 yX2_clear yX2_clear) (by decide +kernel)⟩ ⟨PW_blind, va_recv hK hP7 rfl (q0 := 5) rfl, PW_at hP7 hD7 hK hS7 hA hG [5, 6, 7] rfl (by decide)⟩ rfl rfl hl.1 rfl (lv_room (Nat.le_of_ble_eq_true rfl)) dX3_readScenes_40 ⟨(Nat.le_of_ble_eq_true rfl), (Nat.le_of_ble_eq_true rfl)⟩) hP7 hD7 hS7 hA [5, 6, 7] [0, 1, 2, 3, 4] [0, 1, 2, 3, 4, 5, 6, 7] rfl rfl (by decide) (by decide) (by decide) rfl (fun H12 lo12 hP12 hD12 hS12 => ?_)
      clear hP7 hD7 hS7
      refine lv_aload_n hx hb dX3_readScenes_43 rfl (lv_at hl 0 rfl) ?_
      obtain ⟨r13, rk_13, rp_13, kp_13, kb_13, kk_13, kn_13, h13, hm13⟩ := ob7_e hm11
      refine gcall_b (ws' := (w_Reader cI cB cZ aR aRt aK aT aTb aD aDp aDf rl rk_13 rp_13 rt kp_13 kb_13 kk_13 kn_13 tl tb dg_11 ds_11 dn_11 dp_11 df)) (va_runV (As := []) (rest := []) ⟨hx, hb, hml, hown, hts⟩ (c_X3_readSemicolon l D cI cB cZ ta aR aRt aK aT aTb aD aDp aDf H12.size rl rk_6 rp_6 rt kp_6 kb_6 kk_6 kn_6 tl tb dg_11 ds_11 dn_11 dp_11 df r13 rk_13 rp_13 kp_13 kb_13 kk_13 kn_13 h13) (cwV 0 hts gX3_readScenes_X3_readSemicolon rfl rfl rfl (by decide +kernel) ⟨(Nat.le_of_ble_eq_true rfl), (Nat.le_of_ble_eq_true rfl)⟩) ⟨PW_blind, va_recv hK hP12 rfl (q0 := 0) rfl, PW_at hP12 hD12 hK hS12 hA hG [0, 1, 2, 3, 4, 5, 6, 7] rfl (by decide)⟩ rfl rfl hl.1 rfl (lv_room (Nat.le_of_ble_eq_true rfl)) dX3_readScenes_44 ⟨(Nat.le_of_ble_eq_true rfl), (Nat.le_of_ble_eq_true rfl)⟩) hP12 hD12 hS12 hA [0, 1, 2, 3, 4, 5, 6, 7] [] [0, 1, 2, 3, 4, 5, 6, 7] rfl rfl (by decide) (by decide) (by decide) rfl (fun H14 lo14 hz13 hP14 hD14 hS14 => ?_)
      clear hP12 hD12 hS12
      obtain ⟨hq1, hq99⟩ := Prod.mk.inj (Option.some.inj hm13)
      obtain ⟨hq2, hq99⟩ := Prod.mk.inj (hq99)
      obtain ⟨hq3, hq99⟩ := Prod.mk.inj (hq99)
      obtain ⟨hq4, hq99⟩ := Prod.mk.inj (hq99)
      obtain ⟨hq5, hq99⟩ := Prod.mk.inj (hq99)
      obtain ⟨hq6, hq99⟩ := Prod.mk.inj (hq99)
      obtain ⟨hq7, hq99⟩ := Prod.mk.inj (hq99)
      obtain ⟨hq8, hq99⟩ := Prod.mk.inj (hq99)
      obtain ⟨hq9, hq99⟩ := Prod.mk.inj (hq99)
      obtain ⟨hq10, hq11⟩ := Prod.mk.inj (hq99)
      subst hq1
      subst hq2
      subst hq3
      subst hq4
      subst hq5
      subst hq6
      subst hq7
      subst hq8
      subst hq9
      subst hq10
      subst hq11
      exact W.zret (ty := .boolean) hx hb hr hz13 (fun t ht hW => ⟨⟨_, (), rfl, ⟨rfl, hz13⟩, by rw [ht]; exact hP14, va_K.moved hW.alike hK, hD14⟩, hS14.F ht⟩) hS14.2.2 dX3_readScenes_47
    · have hm10 := zz_if c8 hm6
      refine lv_iconst (v := (0 : Int32)) hx hb dX3_readScenes_27 (by decide) ?_
      obtain ⟨hq1, hq99⟩ := Prod.mk.inj (Option.some.inj hm10)
      obtain ⟨hq2, hq99⟩ := Prod.mk.inj (hq99)
      obtain ⟨hq3, hq99⟩ := Prod.mk.inj (hq99)
      obtain ⟨hq4, hq99⟩ := Prod.mk.inj (hq99)
      obtain ⟨hq5, hq99⟩ := Prod.mk.inj (hq99)
      obtain ⟨hq6, hq99⟩ := Prod.mk.inj (hq99)
      obtain ⟨hq7, hq99⟩ := Prod.mk.inj (hq99)
      obtain ⟨hq8, hq99⟩ := Prod.mk.inj (hq99)
      obtain ⟨hq9, hq99⟩ := Prod.mk.inj (hq99)
      obtain ⟨hq10, hq11⟩ := Prod.mk.inj (hq99)
      subst hq1
      subst hq2
      subst hq3
      subst hq4
      subst hq5
      subst hq6
      subst hq7
      subst hq8
      subst hq9
      subst hq10
      subst hq11
      exact W.zret (ty := .boolean) hx hb hr (by decide) (fun t ht hW => ⟨⟨_, (), rfl, ⟨rfl, (by decide)⟩, by rw [ht]; exact hP7, va_K.moved hW.alike hK, hD7⟩, hS7.F ht⟩) hS7.2.2 dX3_readScenes_28
  · have hm5 := zz_if c3 hm1
    refine lv_aload_n hx hb dX3_readScenes_12 rfl (lv_at hl 0 rfl) ?_
    refine lv_iconst (v := (1 : Int32)) hx hb dX3_readScenes_13 (by decide) ?_
    obtain ⟨r15, rk_15, rp_15, h15, hm15⟩ := ob3_e hm5
    refine gcall_b (ws' := (w_Reader cI cB cZ aR aRt aK aT aTb aD aDp aDf rl rk_15 rp_15 rt kp kb kk kn tl tb dg ds dn dp df)) (va_runV (As := [.int (1 : Int32)]) (rest := []) ⟨hx, hb, hml, hown, hts⟩ (c_X3_refuse l D cI cB cZ ta aR aRt aK aT aTb aD aDp aDf H2.size rl rk rp rt kp kb kk kn tl tb dg ds dn dp df (1 : Int32) r15 rk_15 rp_15 h15) (cwV 1 hts gX3_readScenes_X3_refuse rfl rfl rfl (by decide +kernel) ⟨(Nat.le_of_ble_eq_true rfl), (Nat.le_of_ble_eq_true rfl)⟩) ⟨PW_blind, va_recv hK hP2 rfl (q0 := 0) rfl, PW_at hP2 hD2 hK hS2 hA hG [0, 1, 2, 3, 4, 5, 6, 7] rfl (by decide)⟩ rfl rfl hl.1 rfl (lv_room (Nat.le_of_ble_eq_true rfl)) dX3_readScenes_14 ⟨(Nat.le_of_ble_eq_true rfl), (Nat.le_of_ble_eq_true rfl)⟩) hP2 hD2 hS2 hA [0, 1, 2, 3, 4, 5, 6, 7] [] [0, 1, 2, 3, 4, 5, 6, 7] rfl rfl (by decide) (by decide) (by decide) rfl (fun H16 lo16 hz15 hP16 hD16 hS16 => ?_)
    clear hP2 hD2 hS2
    obtain ⟨hq1, hq99⟩ := Prod.mk.inj (Option.some.inj hm15)
    obtain ⟨hq2, hq99⟩ := Prod.mk.inj (hq99)
    obtain ⟨hq3, hq99⟩ := Prod.mk.inj (hq99)
    obtain ⟨hq4, hq99⟩ := Prod.mk.inj (hq99)
    obtain ⟨hq5, hq99⟩ := Prod.mk.inj (hq99)
    obtain ⟨hq6, hq99⟩ := Prod.mk.inj (hq99)
    obtain ⟨hq7, hq99⟩ := Prod.mk.inj (hq99)
    obtain ⟨hq8, hq99⟩ := Prod.mk.inj (hq99)
    obtain ⟨hq9, hq99⟩ := Prod.mk.inj (hq99)
    obtain ⟨hq10, hq11⟩ := Prod.mk.inj (hq99)
    subst hq1
    subst hq2
    subst hq3
    subst hq4
    subst hq5
    subst hq6
    subst hq7
    subst hq8
    subst hq9
    subst hq10
    subst hq11
    exact W.zret (ty := .boolean) hx hb hr hz15 (fun t ht hW => ⟨⟨_, (), rfl, ⟨rfl, hz15⟩, by rw [ht]; exact hP16, va_K.moved hW.alike hK, hD16⟩, hS16.F ht⟩) hS16.2.2 dX3_readScenes_17
theorem iw_X3_readNode_X2 : ∀ w ∈ wsX20, w ∈ wsX3_readNode := by decide +kernel
theorem iw_X3_readNode_X3 : ∀ w ∈ wsX30, w ∈ wsX3_readNode := by decide +kernel
theorem iw_X3_readNode_X5 : ∀ w ∈ wsX50, w ∈ wsX3_readNode := by decide +kernel
set_option maxHeartbeats 4000000 in
set_option maxRecDepth 100000 in
theorem c_X3_readNode (l : Launch) (D : va_G) (cI cB cZ : ClassId) (ta : Nat → Nat) (aR : Nat) (aRt : Nat) (aK : Nat) (aT : Nat) (aTb : Nat) (aD : Nat) (aDp : Nat) (aDf : Nat) (sz : Nat) (rl : Int32) (rk : Int32) (rp : Int32) (rt : (Nat → Int32)) (kp : Int32) (kb : Int32) (kk : Int32) (kn : Int32) (tl : Int32) (tb : (Nat → Int32)) (dg : Int32) (ds : Int32) (dn : Int32) (dp : (Nat → Int32)) (df : (Nat → Int32)) (x1 : Int32) (r0 : Int32) (u_rk : Int32) (u_rp : Int32) (u_kp : Int32) (u_kb : Int32) (u_kk : Int32) (u_kn : Int32) (u_dg : Int32) (u_dn : Int32) (u_dp : (Nat → Int32)) (u_df : (Nat → Int32)) (hm : m_X3_readNode rk rp kp kb kk kn tl tb dg dn dp df x1 = some (r0, u_rk, u_rp, u_kp, u_kb, u_kk, u_kn, u_dg, u_dn, u_dp, u_df)) : Met l yX3_readNode wsX3_readNode ({ frames := 3, cells := 0, slots := 0, locals := 65 } : Room) (va_Pc [.ref aR, .int x1] (PW D cI cB cZ ta (w_Reader cI cB cZ aR aRt aK aT aTb aD aDp aDf rl rk rp rt kp kb kk kn tl tb dg ds dn dp df) sz)) (QZ .boolean D cI cB cZ (va_A (w_Reader cI cB cZ aR aRt aK aT aTb aD aDp aDf rl rk rp rt kp kb kk kn tl tb dg ds dn dp df) sz) (w_Reader cI cB cZ aR aRt aK aT aTb aD aDp aDf rl u_rk u_rp rt u_kp u_kb u_kk u_kn tl tb u_dg ds u_dn u_dp u_df) r0) 0 0 (va_A (w_Reader cI cB cZ aR aRt aK aT aTb aD aDp aDf rl rk rp rt kp kb kk kn tl tb dg ds dn dp df) sz) := by
  refine Met.ofW (cc := cX3_readNode) (maxL := 2) (ret := (some .boolean)) (by decide) rfl ?_
  intro p e s m args below meth c s₁ B hml hv
  obtain ⟨rfl, hsz, hP, hK, hD0, hG⟩ := hv
  have hx := B.exec
  have hb := B.bytes
  have hr := B.returns
  have hts := atoms_spec (ws := wsX3_readNode) B.pre
  have hown : s.vm.findClass RX3 = some m.cls := findClass_of_methodNamed B.named
  have hlocks := B.notSynchronized
  subst hsz
  have hD := hD0.self (sz := s.heap.size)
  clear hD0
  have hA0 : ∀ q : Nat, s.heap.size ≤ q → va_A (w_Reader cI cB cZ aR aRt aK aT aTb aD aDp aDf rl rk rp rt kp kb kk kn tl tb dg ds dn dp df) s.heap.size q := fun q h => Or.inr h
  generalize hAe : va_A (w_Reader cI cB cZ aR aRt aK aT aTb aD aDp aDf rl rk rp rt kp kb kk kn tl tb dg ds dn dp df) s.heap.size = A at hD hG hA0 ⊢
  have hA : ∀ q : Nat, s.heap.size ≤ q → A q := hA0
  clear hA0
  have hS : va_S A s.heap s.heap [] := va_S.rf
  have iw_X2 := iw_X3_readNode_X2
  have iw_X3 := iw_X3_readNode_X3
  have iw_X5 := iw_X3_readNode_X5
  have hk_89 : ∀ (rk : Int32) (rp : Int32) (kp : Int32) (kb : Int32) (kk : Int32) (kn : Int32) (dg : Int32) (dn : Int32) (dp : (Nat → Int32)) (df : (Nat → Int32)), k_X3_readNode_89 tl tb rk rp kp kb kk kn dg dn dp df = some (r0, u_rk, u_rp, u_kp, u_kb, u_kk, u_kn, u_dg, u_dn, u_dp, u_df) → ∀ (ls : Array Slot) (H : Heap) (lo : List Loc), lv_has ls 2 [(0, .ref aR)] → va_P D vwCl (w_Reader cI cB cZ aR aRt aK aT aTb aD aDp aDf rl rk rp rt kp kb kk kn tl tb dg ds dn dp df) H → va_D A (w_Reader cI cB cZ aR aRt aK aT aTb aD aDp aDf rl rk rp rt kp kb kk kn tl tb dg ds dn dp df) → va_S A s.heap H lo → W p l e (headSpec wsX3_readNode ({ frames := 3, cells := 0, slots := 0, locals := 65 } : Room)).room s m (([.ref aR, .int x1] : List Value).toArray) below meth c H lo 0 0 (MQ below (QZ .boolean D cI cB cZ A (w_Reader cI cB cZ aR aRt aK aT aTb aD aDp aDf rl u_rk u_rp rt u_kp u_kb u_kk u_kn tl tb u_dg ds u_dn u_dp u_df) r0) (([.ref aR, .int x1] : List Value).toArray) s 0 0 A) (F0 m 89 ls []) := by
    intro rk rp kp kb kk kn dg dn dp df hm ls H lo hl hP hD hS
    replace hm : (ob7 (m_X3_readSemicolon rk rp kp kb kk kn tl tb) (fun r1 rk_1 rp_1 kp_1 kb_1 kk_1 kn_1 => some (r1, rk_1, rp_1, kp_1, kb_1, kk_1, kn_1, dg, dn, dp, df))) = some (r0, u_rk, u_rp, u_kp, u_kb, u_kk, u_kn, u_dg, u_dn, u_dp, u_df) := hm
    refine lv_aload_n hx hb dX3_readNode_89 rfl (lv_at hl 0 rfl) ?_
    obtain ⟨r1, rk_1, rp_1, kp_1, kb_1, kk_1, kn_1, h1, hm1⟩ := ob7_e hm
    refine gcall_b (ws' := (w_Reader cI cB cZ aR aRt aK aT aTb aD aDp aDf rl rk_1 rp_1 rt kp_1 kb_1 kk_1 kn_1 tl tb dg ds dn dp df)) (va_runV (As := []) (rest := []) ⟨hx, hb, hml, hown, hts⟩ (c_X3_readSemicolon l D cI cB cZ ta aR aRt aK aT aTb aD aDp aDf H.size rl rk rp rt kp kb kk kn tl tb dg ds dn dp df r1 rk_1 rp_1 kp_1 kb_1 kk_1 kn_1 h1) (cwV 0 hts gX3_readNode_X3_readSemicolon rfl rfl rfl (by decide +kernel) ⟨(Nat.le_of_ble_eq_true rfl), (Nat.le_of_ble_eq_true rfl)⟩) ⟨PW_blind, va_recv hK hP rfl (q0 := 0) rfl, PW_at hP hD hK hS hA hG [0, 1, 2, 3, 4, 5, 6, 7] rfl (by decide)⟩ rfl rfl hl.1 rfl (lv_room (Nat.le_of_ble_eq_true rfl)) dX3_readNode_90 ⟨(Nat.le_of_ble_eq_true rfl), (Nat.le_of_ble_eq_true rfl)⟩) hP hD hS hA [0, 1, 2, 3, 4, 5, 6, 7] [] [0, 1, 2, 3, 4, 5, 6, 7] rfl rfl (by decide) (by decide) (by decide) rfl (fun H2 lo2 hz1 hP2 hD2 hS2 => ?_)
    clear hP hD hS
    obtain ⟨hq1, hq99⟩ := Prod.mk.inj (Option.some.inj hm1)
    obtain ⟨hq2, hq99⟩ := Prod.mk.inj (hq99)
    obtain ⟨hq3, hq99⟩ := Prod.mk.inj (hq99)
    obtain ⟨hq4, hq99⟩ := Prod.mk.inj (hq99)
    obtain ⟨hq5, hq99⟩ := Prod.mk.inj (hq99)
    obtain ⟨hq6, hq99⟩ := Prod.mk.inj (hq99)
    obtain ⟨hq7, hq99⟩ := Prod.mk.inj (hq99)
    obtain ⟨hq8, hq99⟩ := Prod.mk.inj (hq99)
    obtain ⟨hq9, hq99⟩ := Prod.mk.inj (hq99)
    obtain ⟨hq10, hq11⟩ := Prod.mk.inj (hq99)
    subst hq1
    subst hq2
    subst hq3
    subst hq4
    subst hq5
    subst hq6
    subst hq7
    subst hq8
    subst hq9
    subst hq10
    subst hq11
    exact W.zret (ty := .boolean) hx hb hr hz1 (fun t ht hW => ⟨⟨_, (), rfl, ⟨rfl, hz1⟩, by rw [ht]; exact hP2, va_K.moved hW.alike hK, hD2⟩, hS2.F ht⟩) hS2.2.2 dX3_readNode_93
  have hl := lv_entry ([.ref aR, .int x1]) (n := 2) (Nat.le_of_ble_eq_true rfl)
  rw [lg_entry_eq]
  generalize (lg_sl ([.ref aR, .int x1]) ++ List.replicate (2 - (lg_sl ([.ref aR, .int x1])).length) Slot.unset).toArray = ls at hl ⊢
  have hl : lv_has ls 2 [(0, .ref aR), (1, .int x1)] := hl
  replace hm : (if dn < (16 : Int32) then (ob7 (m_X3_readNumber rk rp kp kb kk kn tl tb (0 : Int32) (20 : Int32)) (fun r6 rk_6 rp_6 kp_6 kb_6 kk_6 kn_6 => (if r6 = 0 then some ((0 : Int32), rk_6, rp_6, kp_6, kb_6, kk_6, kn_6, dg, dn, dp, df) else (ob1 (m_X2_isGroup dg dn kn_6) (fun r11 => (if r11 = 0 then (ob3 (m_X3_refuse rk_6 rp_6 kb_6 (2 : Int32)) (fun r23 rk_23 rp_23 => some (r23, rk_23, rp_23, kp_6, kb_6, kk_6, kn_6, dg, dn, dp, df))) else (if x1 = 0 then (ob4 (m_X2_addLeaf dn dp df kn_6) (fun r19 dn_19 dp_19 df_19 => (k_X3_readNode_89 tl tb rk_6 rp_6 kp_6 kb_6 kk_6 kn_6 dg dn_19 dp_19 df_19))) else (ob3 (m_X2_addGroup dg dn dp kn_6) (fun dg_21 dn_21 dp_21 => (k_X3_readNode_89 tl tb rk_6 rp_6 kp_6 kb_6 kk_6 kn_6 dg_21 dn_21 dp_21 df)))))))))) else (ob3 (m_X3_refuse rk rp kb (3 : Int32)) (fun r25 rk_25 rp_25 => some (r25, rk_25, rp_25, kp, kb, kk, kn, dg, dn, dp, df)))) = some (r0, u_rk, u_rp, u_kp, u_kb, u_kk, u_kn, u_dg, u_dn, u_dp, u_df) := hm
  refine lv_aload_n hx hb dX3_readNode_0 rfl (lv_at hl 0 rfl) ?_
  refine va_get (D := D) (ci := 3) (v := .ref aD) (C := RX3) (T := TX3) (N := 6) hx hb hts iw_X3 hown hK hP 0 rfl rfl 1 (by decide) (hts (.fieldLink RX3 34 "VarianceBridge$Reader" "draft" "LVarianceBridge$Plan;") (by decide +kernel)) (fun _ h9 => h9) rfl dX3_readNode_1 ?_
  refine va_getN (D := D) (ci := 2) (v := .int dn) (C := RX2) (T := TX2) (N := 5) hx hb hts iw_X2 hown hK hP 5 rfl rfl 4 (by decide) (va_Nw.use rfl (hG.1 (.fieldLinkNest RX3 99 RX2 "nodes" "I" RX6) (by decide +kernel))) (fun _ h9 => h9) rfl dX3_readNode_4 ?_
  refine lv_bipush (v := (16 : Int32)) hx hb dX3_readNode_7 (by decide) ?_
  refine lv_icmp_lt (tgt := 18) hx hb dX3_readNode_9 (by decide) (fun c3 => ?_) (fun c3 => ?_)
  · have hm4 := zz_if c3 hm
    refine lv_aload_n hx hb dX3_readNode_18 rfl (lv_at hl 0 rfl) ?_
    refine lv_iconst (v := (0 : Int32)) hx hb dX3_readNode_19 (by decide) ?_
    refine lv_bipush (v := (20 : Int32)) hx hb dX3_readNode_20 (by decide) ?_
    obtain ⟨r6, rk_6, rp_6, kp_6, kb_6, kk_6, kn_6, h6, hm6⟩ := ob7_e hm4
    refine gcall_b (ws' := (w_Reader cI cB cZ aR aRt aK aT aTb aD aDp aDf rl rk_6 rp_6 rt kp_6 kb_6 kk_6 kn_6 tl tb dg ds dn dp df)) (va_runV (As := [.int (0 : Int32), .int (20 : Int32)]) (rest := []) ⟨hx, hb, hml, hown, hts⟩ (c_X3_readNumber l D cI cB cZ ta aR aRt aK aT aTb aD aDp aDf s.heap.size rl rk rp rt kp kb kk kn tl tb dg ds dn dp df (0 : Int32) (20 : Int32) r6 rk_6 rp_6 kp_6 kb_6 kk_6 kn_6 h6) (cwV 2 hts gX3_readNode_X3_readNumber rfl rfl rfl (by decide +kernel) ⟨(Nat.le_of_ble_eq_true rfl), (Nat.le_of_ble_eq_true rfl)⟩) ⟨PW_blind, va_recv hK hP rfl (q0 := 0) rfl, PW_at hP hD hK hS hA hG [0, 1, 2, 3, 4, 5, 6, 7] rfl (by decide)⟩ rfl rfl hl.1 rfl (lv_room (Nat.le_of_ble_eq_true rfl)) dX3_readNode_22 ⟨(Nat.le_of_ble_eq_true rfl), (Nat.le_of_ble_eq_true rfl)⟩) hP hD hS hA [0, 1, 2, 3, 4, 5, 6, 7] [] [0, 1, 2, 3, 4, 5, 6, 7] rfl rfl (by decide) (by decide) (by decide) rfl (fun H7 lo7 hz6 hP7 hD7 hS7 => ?_)
    clear hP hD hS
    refine lv_if_ne (tgt := 30) hx hb dX3_readNode_25 (by decide) (fun c8 => ?_) (fun c8 => ?_)
    · have hm9 := zz_nf c8 hm6
      refine lv_aload_n hx hb dX3_readNode_30 rfl (lv_at hl 0 rfl) ?_
      refine va_get (D := D) (ci := 3) (v := .ref aD) (C := RX3) (T := TX3) (N := 6) hx hb hts iw_X3 hown hK hP7 0 rfl rfl 1 (by decide) (hts (.fieldLink RX3 34 "VarianceBridge$Reader" "draft" "LVarianceBridge$Plan;") (by decide +kernel)) (fun _ h9 => h9) rfl dX3_readNode_31 ?_
      refine lv_aload_n hx hb dX3_readNode_34 rfl (lv_at hl 0 rfl) ?_
      refine va_get (D := D) (ci := 3) (v := .ref aK) (C := RX3) (T := TX3) (N := 6) hx hb hts iw_X3 hown hK hP7 0 rfl rfl 0 (by decide) (hts (.fieldLink RX3 30 "VarianceBridge$Reader" "tokens" "LVarianceBridge$Tokens;") (by decide +kernel)) (fun _ h9 => h9) rfl dX3_readNode_35 ?_
      refine va_getN (D := D) (ci := 5) (v := .int kn_6) (C := RX5) (T := TX5) (N := 5) hx hb hts iw_X5 hown hK hP7 2 rfl rfl 4 (by decide) (va_Nw.use rfl (hG.1 (.fieldLinkNest RX3 74 RX5 "number" "I" RX6) (by decide +kernel))) (fun _ h9 => h9) rfl dX3_readNode_38 ?_
      obtain ⟨r11, h11, hm11⟩ := ob1_e hm9
      refine gcall_b (ws' := (w_Reader cI cB cZ aR aRt aK aT aTb aD aDp aDf rl rk_6 rp_6 rt kp_6 kb_6 kk_6 kn_6 tl tb dg ds dn dp df)) (va_runVN (As := [.int kn_6]) (rest := []) ⟨hx, hb, hml, hown, hts⟩ (c_X2_isGroup l D cI cB cZ ta aD aDp aDf H7.size dg ds dn dp df kn_6 r11 h11) ⟨va_cnB 1 hts gX3_readNode_X2_isGroup_n102 rfl rfl rfl (hG.1 (.methodLinkNest RX3 102 yX2_isGroup RX6) (by decide +kernel)) (hts (.initialized RX2) (by decide +kernel)) (by decide +kernel) ⟨(Nat.le_of_ble_eq_true rfl), (Nat.le_of_ble_eq_true rfl)⟩, hts (.instanceMethod yX2_isGroup) (by decide +kernel), hts (.selects RX2 yX2_isGroup yX2_isGroup) (by decide +kernel)⟩ ⟨PW_blind, va_recv hK hP7 rfl (q0 := 5) rfl, PW_at hP7 hD7 hK hS7 hA hG [5, 6, 7] rfl (by decide)⟩ rfl rfl hl.1 rfl (lv_room (Nat.le_of_ble_eq_true rfl)) dX3_readNode_41 ⟨(Nat.le_of_ble_eq_true rfl), (Nat.le_of_ble_eq_true rfl)⟩) hP7 hD7 hS7 hA [5, 6, 7] [0, 1, 2, 3, 4] [0, 1, 2, 3, 4, 5, 6, 7] rfl rfl (by decide) (by decide) (by decide) rfl (fun H12 lo12 hz11 hP12 hD12 hS12 => ?_)
      clear hP7 hD7 hS7
      refine lv_if_ne (tgt := 53) hx hb dX3_readNode_44 (by decide) (fun c13 => ?_) (fun c13 => ?_)
      · have hm14 := zz_nf c13 hm11
        refine lv_iload_n hx hb dX3_readNode_53 rfl (lv_at hl 1 rfl) ?_
        refine lv_if_eq (tgt := 74) hx hb dX3_readNode_54 (by decide) (fun c16 => ?_) (fun c16 => ?_)
        · have hm17 := zz_if c16 hm14
          refine lv_aload_n hx hb dX3_readNode_74 rfl (lv_at hl 0 rfl) ?_
          refine va_get (D := D) (ci := 3) (v := .ref aD) (C := RX3) (T := TX3) (N := 6) hx hb hts iw_X3 hown hK hP12 0 rfl rfl 1 (by decide) (hts (.fieldLink RX3 34 "VarianceBridge$Reader" "draft" "LVarianceBridge$Plan;") (by decide +kernel)) (fun _ h9 => h9) rfl dX3_readNode_75 ?_
          refine lv_aload_n hx hb dX3_readNode_78 rfl (lv_at hl 0 rfl) ?_
          refine va_get (D := D) (ci := 3) (v := .ref aK) (C := RX3) (T := TX3) (N := 6) hx hb hts iw_X3 hown hK hP12 0 rfl rfl 0 (by decide) (hts (.fieldLink RX3 30 "VarianceBridge$Reader" "tokens" "LVarianceBridge$Tokens;") (by decide +kernel)) (fun _ h9 => h9) rfl dX3_readNode_79 ?_
          refine va_getN (D := D) (ci := 5) (v := .int kn_6) (C := RX5) (T := TX5) (N := 5) hx hb hts iw_X5 hown hK hP12 2 rfl rfl 4 (by decide) (va_Nw.use rfl (hG.1 (.fieldLinkNest RX3 74 RX5 "number" "I" RX6) (by decide +kernel))) (fun _ h9 => h9) rfl dX3_readNode_82 ?_
          obtain ⟨r19, dn_19, dp_19, df_19, h19, hm19⟩ := ob4_e hm17
          refine gcall_i (ws' := (w_Reader cI cB cZ aR aRt aK aT aTb aD aDp aDf rl rk_6 rp_6 rt kp_6 kb_6 kk_6 kn_6 tl tb dg ds dn_19 dp_19 df_19)) (va_runVN (As := [.int kn_6]) (rest := []) ⟨hx, hb, hml, hown, hts⟩ (c_X2_addLeaf l D cI cB cZ ta aD aDp aDf H12.size dg ds dn dp df kn_6 r19 dn_19 dp_19 df_19 h19) ⟨va_cnB 1 hts gX3_readNode_X2_addLeaf_n108 rfl rfl rfl (hG.1 (.methodLinkNest RX3 108 yX2_addLeaf RX6) (by decide +kernel)) (hts (.initialized RX2) (by decide +kernel)) (by decide +kernel) ⟨(Nat.le_of_ble_eq_true rfl), (Nat.le_of_ble_eq_true rfl)⟩, hts (.instanceMethod yX2_addLeaf) (by decide +kernel), hts (.selects RX2 yX2_addLeaf yX2_addLeaf) (by decide +kernel)⟩ ⟨PW_blind, va_recv hK hP12 rfl (q0 := 5) rfl, PW_at hP12 hD12 hK hS12 hA hG [5, 6, 7] rfl (by decide)⟩ rfl rfl hl.1 rfl (lv_room (Nat.le_of_ble_eq_true rfl)) dX3_readNode_85 ⟨(Nat.le_of_ble_eq_true rfl), (Nat.le_of_ble_eq_true rfl)⟩) hP12 hD12 hS12 hA [5, 6, 7] [0, 1, 2, 3, 4] [0, 1, 2, 3, 4, 5, 6, 7] rfl rfl (by decide) (by decide) (by decide) rfl (fun H20 lo20 hP20 hD20 hS20 => ?_)
          clear hP12 hD12 hS12
          refine lv_pop hx hb dX3_readNode_88 rfl ?_
          exact hk_89 rk_6 rp_6 kp_6 kb_6 kk_6 kn_6 dg dn_19 dp_19 df_19 hm19 ls H20 lo20 (lv_sub hl [0] rfl) hP20 hD20 hS20
        · have hm18 := zz_nf c16 hm14
          refine lv_aload_n hx hb dX3_readNode_57 rfl (lv_at hl 0 rfl) ?_
          refine va_get (D := D) (ci := 3) (v := .ref aD) (C := RX3) (T := TX3) (N := 6) hx hb hts iw_X3 hown hK hP12 0 rfl rfl 1 (by decide) (hts (.fieldLink RX3 34 "VarianceBridge$Reader" "draft" "LVarianceBridge$Plan;") (by decide +kernel)) (fun _ h9 => h9) rfl dX3_readNode_58 ?_
          refine lv_aload_n hx hb dX3_readNode_61 rfl (lv_at hl 0 rfl) ?_
          refine va_get (D := D) (ci := 3) (v := .ref aK) (C := RX3) (T := TX3) (N := 6) hx hb hts iw_X3 hown hK hP12 0 rfl rfl 0 (by decide) (hts (.fieldLink RX3 30 "VarianceBridge$Reader" "tokens" "LVarianceBridge$Tokens;") (by decide +kernel)) (fun _ h9 => h9) rfl dX3_readNode_62 ?_
          refine va_getN (D := D) (ci := 5) (v := .int kn_6) (C := RX5) (T := TX5) (N := 5) hx hb hts iw_X5 hown hK hP12 2 rfl rfl 4 (by decide) (va_Nw.use rfl (hG.1 (.fieldLinkNest RX3 74 RX5 "number" "I" RX6) (by decide +kernel))) (fun _ h9 => h9) rfl dX3_readNode_65 ?_
          obtain ⟨dg_21, dn_21, dp_21, h21, hm21⟩ := ob3_e hm18
          refine gcall_v (ws' := (w_Reader cI cB cZ aR aRt aK aT aTb aD aDp aDf rl rk_6 rp_6 rt kp_6 kb_6 kk_6 kn_6 tl tb dg_21 ds dn_21 dp_21 df)) (va_runVN (As := [.int kn_6]) (rest := []) ⟨hx, hb, hml, hown, hts⟩ (c_X2_addGroup l D cI cB cZ ta aD aDp aDf H12.size dg ds dn dp df kn_6 dg_21 dn_21 dp_21 h21) ⟨va_cnB 1 hts gX3_readNode_X2_addGroup_n105 rfl rfl rfl (hG.1 (.methodLinkNest RX3 105 yX2_addGroup RX6) (by decide +kernel)) (hts (.initialized RX2) (by decide +kernel)) (by decide +kernel) ⟨(Nat.le_of_ble_eq_true rfl), (Nat.le_of_ble_eq_true rfl)⟩, hts (.instanceMethod yX2_addGroup) (by decide +kernel), hts (.selects RX2 yX2_addGroup yX2_addGroup) (by decide +kernel)⟩ ⟨PW_blind, va_recv hK hP12 rfl (q0 := 5) rfl, PW_at hP12 hD12 hK hS12 hA hG [5, 6, 7] rfl (by decide)⟩ rfl rfl hl.1 rfl (lv_room (Nat.le_of_ble_eq_true rfl)) dX3_readNode_68 ⟨(Nat.le_of_ble_eq_true rfl), (Nat.le_of_ble_eq_true rfl)⟩) hP12 hD12 hS12 hA [5, 6, 7] [0, 1, 2, 3, 4] [0, 1, 2, 3, 4, 5, 6, 7] rfl rfl (by decide) (by decide) (by decide) rfl (fun H22 lo22 hP22 hD22 hS22 => ?_)
          clear hP12 hD12 hS12
          refine lv_goto (tgt := 89) hx hb dX3_readNode_71 (by decide) ?_
          exact hk_89 rk_6 rp_6 kp_6 kb_6 kk_6 kn_6 dg_21 dn_21 dp_21 df hm21 ls H22 lo22 (lv_sub hl [0] rfl) hP22 hD22 hS22
      · have hm15 := zz_if c13 hm11
        refine lv_aload_n hx hb dX3_readNode_47 rfl (lv_at hl 0 rfl) ?_
        refine lv_iconst (v := (2 : Int32)) hx hb dX3_readNode_48 (by decide) ?_
        obtain ⟨r23, rk_23, rp_23, h23, hm23⟩ := ob3_e hm15
        refine gcall_b (ws' := (w_Reader cI cB cZ aR aRt aK aT aTb aD aDp aDf rl rk_23 rp_23 rt kp_6 kb_6 kk_6 kn_6 tl tb dg ds dn dp df)) (va_runV (As := [.int (2 : Int32)]) (rest := []) ⟨hx, hb, hml, hown, hts⟩ (c_X3_refuse l D cI cB cZ ta aR aRt aK aT aTb aD aDp aDf H12.size rl rk_6 rp_6 rt kp_6 kb_6 kk_6 kn_6 tl tb dg ds dn dp df (2 : Int32) r23 rk_23 rp_23 h23) (cwV 1 hts gX3_readNode_X3_refuse rfl rfl rfl (by decide +kernel) ⟨(Nat.le_of_ble_eq_true rfl), (Nat.le_of_ble_eq_true rfl)⟩) ⟨PW_blind, va_recv hK hP12 rfl (q0 := 0) rfl, PW_at hP12 hD12 hK hS12 hA hG [0, 1, 2, 3, 4, 5, 6, 7] rfl (by decide)⟩ rfl rfl hl.1 rfl (lv_room (Nat.le_of_ble_eq_true rfl)) dX3_readNode_49 ⟨(Nat.le_of_ble_eq_true rfl), (Nat.le_of_ble_eq_true rfl)⟩) hP12 hD12 hS12 hA [0, 1, 2, 3, 4, 5, 6, 7] [] [0, 1, 2, 3, 4, 5, 6, 7] rfl rfl (by decide) (by decide) (by decide) rfl (fun H24 lo24 hz23 hP24 hD24 hS24 => ?_)
        clear hP12 hD12 hS12
        obtain ⟨hq1, hq99⟩ := Prod.mk.inj (Option.some.inj hm23)
        obtain ⟨hq2, hq99⟩ := Prod.mk.inj (hq99)
        obtain ⟨hq3, hq99⟩ := Prod.mk.inj (hq99)
        obtain ⟨hq4, hq99⟩ := Prod.mk.inj (hq99)
        obtain ⟨hq5, hq99⟩ := Prod.mk.inj (hq99)
        obtain ⟨hq6, hq99⟩ := Prod.mk.inj (hq99)
        obtain ⟨hq7, hq99⟩ := Prod.mk.inj (hq99)
        obtain ⟨hq8, hq99⟩ := Prod.mk.inj (hq99)
        obtain ⟨hq9, hq99⟩ := Prod.mk.inj (hq99)
        obtain ⟨hq10, hq11⟩ := Prod.mk.inj (hq99)
        subst hq1
        subst hq2
        subst hq3
        subst hq4
        subst hq5
        subst hq6
        subst hq7
        subst hq8
        subst hq9
        subst hq10
        subst hq11
        exact W.zret (ty := .boolean) hx hb hr hz23 (fun t ht hW => ⟨⟨_, (), rfl, ⟨rfl, hz23⟩, by rw [ht]; exact hP24, va_K.moved hW.alike hK, hD24⟩, hS24.F ht⟩) hS24.2.2 dX3_readNode_52
    · have hm10 := zz_if c8 hm6
      refine lv_iconst (v := (0 : Int32)) hx hb dX3_readNode_28 (by decide) ?_
      obtain ⟨hq1, hq99⟩ := Prod.mk.inj (Option.some.inj hm10)
      obtain ⟨hq2, hq99⟩ := Prod.mk.inj (hq99)
      obtain ⟨hq3, hq99⟩ := Prod.mk.inj (hq99)
      obtain ⟨hq4, hq99⟩ := Prod.mk.inj (hq99)
      obtain ⟨hq5, hq99⟩ := Prod.mk.inj (hq99)
      obtain ⟨hq6, hq99⟩ := Prod.mk.inj (hq99)
      obtain ⟨hq7, hq99⟩ := Prod.mk.inj (hq99)
      obtain ⟨hq8, hq99⟩ := Prod.mk.inj (hq99)
      obtain ⟨hq9, hq99⟩ := Prod.mk.inj (hq99)
      obtain ⟨hq10, hq11⟩ := Prod.mk.inj (hq99)
      subst hq1
      subst hq2
      subst hq3
      subst hq4
      subst hq5
      subst hq6
      subst hq7
      subst hq8
      subst hq9
      subst hq10
      subst hq11
      exact W.zret (ty := .boolean) hx hb hr (by decide) (fun t ht hW => ⟨⟨_, (), rfl, ⟨rfl, (by decide)⟩, by rw [ht]; exact hP7, va_K.moved hW.alike hK, hD7⟩, hS7.F ht⟩) hS7.2.2 dX3_readNode_29
  · have hm5 := zz_nf c3 hm
    refine lv_aload_n hx hb dX3_readNode_12 rfl (lv_at hl 0 rfl) ?_
    refine lv_iconst (v := (3 : Int32)) hx hb dX3_readNode_13 (by decide) ?_
    obtain ⟨r25, rk_25, rp_25, h25, hm25⟩ := ob3_e hm5
    refine gcall_b (ws' := (w_Reader cI cB cZ aR aRt aK aT aTb aD aDp aDf rl rk_25 rp_25 rt kp kb kk kn tl tb dg ds dn dp df)) (va_runV (As := [.int (3 : Int32)]) (rest := []) ⟨hx, hb, hml, hown, hts⟩ (c_X3_refuse l D cI cB cZ ta aR aRt aK aT aTb aD aDp aDf s.heap.size rl rk rp rt kp kb kk kn tl tb dg ds dn dp df (3 : Int32) r25 rk_25 rp_25 h25) (cwV 1 hts gX3_readNode_X3_refuse rfl rfl rfl (by decide +kernel) ⟨(Nat.le_of_ble_eq_true rfl), (Nat.le_of_ble_eq_true rfl)⟩) ⟨PW_blind, va_recv hK hP rfl (q0 := 0) rfl, PW_at hP hD hK hS hA hG [0, 1, 2, 3, 4, 5, 6, 7] rfl (by decide)⟩ rfl rfl hl.1 rfl (lv_room (Nat.le_of_ble_eq_true rfl)) dX3_readNode_14 ⟨(Nat.le_of_ble_eq_true rfl), (Nat.le_of_ble_eq_true rfl)⟩) hP hD hS hA [0, 1, 2, 3, 4, 5, 6, 7] [] [0, 1, 2, 3, 4, 5, 6, 7] rfl rfl (by decide) (by decide) (by decide) rfl (fun H26 lo26 hz25 hP26 hD26 hS26 => ?_)
    clear hP hD hS
    obtain ⟨hq1, hq99⟩ := Prod.mk.inj (Option.some.inj hm25)
    obtain ⟨hq2, hq99⟩ := Prod.mk.inj (hq99)
    obtain ⟨hq3, hq99⟩ := Prod.mk.inj (hq99)
    obtain ⟨hq4, hq99⟩ := Prod.mk.inj (hq99)
    obtain ⟨hq5, hq99⟩ := Prod.mk.inj (hq99)
    obtain ⟨hq6, hq99⟩ := Prod.mk.inj (hq99)
    obtain ⟨hq7, hq99⟩ := Prod.mk.inj (hq99)
    obtain ⟨hq8, hq99⟩ := Prod.mk.inj (hq99)
    obtain ⟨hq9, hq99⟩ := Prod.mk.inj (hq99)
    obtain ⟨hq10, hq11⟩ := Prod.mk.inj (hq99)
    subst hq1
    subst hq2
    subst hq3
    subst hq4
    subst hq5
    subst hq6
    subst hq7
    subst hq8
    subst hq9
    subst hq10
    subst hq11
    exact W.zret (ty := .boolean) hx hb hr hz25 (fun t ht hW => ⟨⟨_, (), rfl, ⟨rfl, hz25⟩, by rw [ht]; exact hP26, va_K.moved hW.alike hK, hD26⟩, hS26.F ht⟩) hS26.2.2 dX3_readNode_17
theorem iw_X3_readSet_X2 : ∀ w ∈ wsX20, w ∈ wsX3_readSet := by decide +kernel
theorem iw_X3_readSet_X3 : ∀ w ∈ wsX30, w ∈ wsX3_readSet := by decide +kernel
theorem iw_X3_readSet_X5 : ∀ w ∈ wsX50, w ∈ wsX3_readSet := by decide +kernel
set_option maxHeartbeats 4000000 in
set_option maxRecDepth 100000 in
theorem c_X3_readSet (l : Launch) (D : va_G) (cI cB cZ : ClassId) (ta : Nat → Nat) (aR : Nat) (aRt : Nat) (aK : Nat) (aT : Nat) (aTb : Nat) (aD : Nat) (aDp : Nat) (aDf : Nat) (sz : Nat) (rl : Int32) (rk : Int32) (rp : Int32) (rt : (Nat → Int32)) (kp : Int32) (kb : Int32) (kk : Int32) (kn : Int32) (tl : Int32) (tb : (Nat → Int32)) (dg : Int32) (ds : Int32) (dn : Int32) (dp : (Nat → Int32)) (df : (Nat → Int32)) (r0 : Int32) (u_rk : Int32) (u_rp : Int32) (u_rt : (Nat → Int32)) (u_kp : Int32) (u_kb : Int32) (u_kk : Int32) (u_kn : Int32) (u_df : (Nat → Int32)) (hm : m_X3_readSet rk rp rt kp kb kk kn tl tb dg ds dn df = some (r0, u_rk, u_rp, u_rt, u_kp, u_kb, u_kk, u_kn, u_df)) : Met l yX3_readSet wsX3_readSet ({ frames := 3, cells := 0, slots := 0, locals := 65 } : Room) (va_Pc [.ref aR] (PW D cI cB cZ ta (w_Reader cI cB cZ aR aRt aK aT aTb aD aDp aDf rl rk rp rt kp kb kk kn tl tb dg ds dn dp df) sz)) (QZ .boolean D cI cB cZ (va_A (w_Reader cI cB cZ aR aRt aK aT aTb aD aDp aDf rl rk rp rt kp kb kk kn tl tb dg ds dn dp df) sz) (w_Reader cI cB cZ aR aRt aK aT aTb aD aDp aDf rl u_rk u_rp u_rt u_kp u_kb u_kk u_kn tl tb dg ds dn dp u_df) r0) 0 0 (va_A (w_Reader cI cB cZ aR aRt aK aT aTb aD aDp aDf rl rk rp rt kp kb kk kn tl tb dg ds dn dp df) sz) := by
  refine Met.ofW (cc := cX3_readSet) (maxL := 4) (ret := (some .boolean)) (by decide) rfl ?_
  intro p e s m args below meth c s₁ B hml hv
  obtain ⟨rfl, hsz, hP, hK, hD0, hG⟩ := hv
  have hx := B.exec
  have hb := B.bytes
  have hr := B.returns
  have hts := atoms_spec (ws := wsX3_readSet) B.pre
  have hown : s.vm.findClass RX3 = some m.cls := findClass_of_methodNamed B.named
  have hlocks := B.notSynchronized
  subst hsz
  have hD := hD0.self (sz := s.heap.size)
  clear hD0
  have hA0 : ∀ q : Nat, s.heap.size ≤ q → va_A (w_Reader cI cB cZ aR aRt aK aT aTb aD aDp aDf rl rk rp rt kp kb kk kn tl tb dg ds dn dp df) s.heap.size q := fun q h => Or.inr h
  generalize hAe : va_A (w_Reader cI cB cZ aR aRt aK aT aTb aD aDp aDf rl rk rp rt kp kb kk kn tl tb dg ds dn dp df) s.heap.size = A at hD hG hA0 ⊢
  have hA : ∀ q : Nat, s.heap.size ≤ q → A q := hA0
  clear hA0
  have hS : va_S A s.heap s.heap [] := va_S.rf
  have iw_X2 := iw_X3_readSet_X2
  have iw_X3 := iw_X3_readSet_X3
  have iw_X5 := iw_X3_readSet_X5
  have hk_97 : ∀ (n : Nat) (rk : Int32) (rp : Int32) (rt : (Nat → Int32)) (kp : Int32) (kb : Int32) (kk : Int32) (kn : Int32) (df : (Nat → Int32)) (y1 : Int32) (y2 : Int32) (y3 : Int32), k_X3_readSet_97 tl tb dg ds dn n rk rp rt kp kb kk kn df y1 y2 y3 = some (r0, u_rk, u_rp, u_rt, u_kp, u_kb, u_kk, u_kn, u_df) → ∀ (ls : Array Slot) (H : Heap) (lo : List Loc), lv_has ls 4 [(0, .ref aR), (1, .int y1), (2, .int y2), (3, .int y3)] → va_P D vwCl (w_Reader cI cB cZ aR aRt aK aT aTb aD aDp aDf rl rk rp rt kp kb kk kn tl tb dg ds dn dp df) H → va_D A (w_Reader cI cB cZ aR aRt aK aT aTb aD aDp aDf rl rk rp rt kp kb kk kn tl tb dg ds dn dp df) → va_S A s.heap H lo → W p l e (headSpec wsX3_readSet ({ frames := 3, cells := 0, slots := 0, locals := 65 } : Room)).room s m (([.ref aR] : List Value).toArray) below meth c H lo 0 0 (MQ below (QZ .boolean D cI cB cZ A (w_Reader cI cB cZ aR aRt aK aT aTb aD aDp aDf rl u_rk u_rp u_rt u_kp u_kb u_kk u_kn tl tb dg ds dn dp u_df) r0) (([.ref aR] : List Value).toArray) s 0 0 A) (F0 m 97 ls []) := by
    intro n
    induction n with
    | zero => intro rk rp rt kp kb kk kn df y1 y2 y3 hm; exact zz_nn hm
    | succ n ih =>
      intro rk rp rt kp kb kk kn df y1 y2 y3 hm ls H lo hl hP hD hS
      replace hm := (k_X3_readSet_97_s tl tb dg ds dn n rk rp rt kp kb kk kn df y1 y2 y3).symm.trans hm
      refine lv_iload_n hx hb dX3_readSet_97 rfl (lv_at hl 3 rfl) ?_
      refine lv_iconst (v := (5 : Int32)) hx hb dX3_readSet_98 (by decide) ?_
      refine lv_icmp_ge (tgt := 144) hx hb dX3_readSet_99 (by decide) (fun c1 => ?_) (fun c1 => ?_)
      · have hm2 := zz_if c1 hm
        refine lv_aload_n hx hb dX3_readSet_144 rfl (lv_at hl 0 rfl) ?_
        obtain ⟨r4, rk_4, rp_4, kp_4, kb_4, kk_4, kn_4, h4, hm4⟩ := ob7_e hm2
        refine gcall_b (ws' := (w_Reader cI cB cZ aR aRt aK aT aTb aD aDp aDf rl rk_4 rp_4 rt kp_4 kb_4 kk_4 kn_4 tl tb dg ds dn dp df)) (va_runV (As := []) (rest := []) ⟨hx, hb, hml, hown, hts⟩ (c_X3_readSemicolon l D cI cB cZ ta aR aRt aK aT aTb aD aDp aDf H.size rl rk rp rt kp kb kk kn tl tb dg ds dn dp df r4 rk_4 rp_4 kp_4 kb_4 kk_4 kn_4 h4) (cwV 0 hts gX3_readSet_X3_readSemicolon rfl rfl rfl (by decide +kernel) ⟨(Nat.le_of_ble_eq_true rfl), (Nat.le_of_ble_eq_true rfl)⟩) ⟨PW_blind, va_recv hK hP rfl (q0 := 0) rfl, PW_at hP hD hK hS hA hG [0, 1, 2, 3, 4, 5, 6, 7] rfl (by decide)⟩ rfl rfl hl.1 rfl (lv_room (Nat.le_of_ble_eq_true rfl)) dX3_readSet_145 ⟨(Nat.le_of_ble_eq_true rfl), (Nat.le_of_ble_eq_true rfl)⟩) hP hD hS hA [0, 1, 2, 3, 4, 5, 6, 7] [] [0, 1, 2, 3, 4, 5, 6, 7] rfl rfl (by decide) (by decide) (by decide) rfl (fun H5 lo5 hz4 hP5 hD5 hS5 => ?_)
        clear hP hD hS
        obtain ⟨hq1, hq99⟩ := Prod.mk.inj (Option.some.inj hm4)
        obtain ⟨hq2, hq99⟩ := Prod.mk.inj (hq99)
        obtain ⟨hq3, hq99⟩ := Prod.mk.inj (hq99)
        obtain ⟨hq4, hq99⟩ := Prod.mk.inj (hq99)
        obtain ⟨hq5, hq99⟩ := Prod.mk.inj (hq99)
        obtain ⟨hq6, hq99⟩ := Prod.mk.inj (hq99)
        obtain ⟨hq7, hq99⟩ := Prod.mk.inj (hq99)
        obtain ⟨hq8, hq9⟩ := Prod.mk.inj (hq99)
        subst hq1
        subst hq2
        subst hq3
        subst hq4
        subst hq5
        subst hq6
        subst hq7
        subst hq8
        subst hq9
        exact W.zret (ty := .boolean) hx hb hr hz4 (fun t ht hW => ⟨⟨_, (), rfl, ⟨rfl, hz4⟩, by rw [ht]; exact hP5, va_K.moved hW.alike hK, hD5⟩, hS5.F ht⟩) hS5.2.2 dX3_readSet_148
      · have hm3 := zz_nf c1 hm
        refine lv_aload_n hx hb dX3_readSet_102 rfl (lv_at hl 0 rfl) ?_
        refine va_getsN hx hb hG.2.1.1 hS hown (va_Nw.use rfl (hG.1 (.fieldLinkNest RX3 117 RX6 "LEAST" "[I" RX6) (by decide +kernel))) (fun _ h9 => h9) dX3_readSet_103 ?_
        refine lv_iload_n hx hb dX3_readSet_106 rfl (lv_at hl 3 rfl) ?_
        obtain ⟨c6, hm7⟩ := zz_no hm3
        refine va_ti hx hb hG.2.1.2 hS c6 rfl dX3_readSet_107 ?_
        refine va_getsN hx hb hG.2.2.1.1 hS hown (va_Nw.use rfl (hG.1 (.fieldLinkNest RX3 120 RX6 "MOST" "[I" RX6) (by decide +kernel))) (fun _ h9 => h9) dX3_readSet_108 ?_
        refine lv_iload_n hx hb dX3_readSet_111 rfl (lv_at hl 3 rfl) ?_
        obtain ⟨c8, hm9⟩ := zz_no hm7
        refine va_ti hx hb hG.2.2.1.2 hS c8 rfl dX3_readSet_112 ?_
        obtain ⟨r10, rk_10, rp_10, kp_10, kb_10, kk_10, kn_10, h10, hm10⟩ := ob7_e hm9
        refine gcall_b (ws' := (w_Reader cI cB cZ aR aRt aK aT aTb aD aDp aDf rl rk_10 rp_10 rt kp_10 kb_10 kk_10 kn_10 tl tb dg ds dn dp df)) (va_runV (As := [.int (T_LEAST y3.toNatClampNeg), .int (T_MOST y3.toNatClampNeg)]) (rest := []) ⟨hx, hb, hml, hown, hts⟩ (c_X3_readNumber l D cI cB cZ ta aR aRt aK aT aTb aD aDp aDf H.size rl rk rp rt kp kb kk kn tl tb dg ds dn dp df (T_LEAST y3.toNatClampNeg) (T_MOST y3.toNatClampNeg) r10 rk_10 rp_10 kp_10 kb_10 kk_10 kn_10 h10) (cwV 2 hts gX3_readSet_X3_readNumber rfl rfl rfl (by decide +kernel) ⟨(Nat.le_of_ble_eq_true rfl), (Nat.le_of_ble_eq_true rfl)⟩) ⟨PW_blind, va_recv hK hP rfl (q0 := 0) rfl, PW_at hP hD hK hS hA hG [0, 1, 2, 3, 4, 5, 6, 7] rfl (by decide)⟩ rfl rfl hl.1 rfl (lv_room (Nat.le_of_ble_eq_true rfl)) dX3_readSet_113 ⟨(Nat.le_of_ble_eq_true rfl), (Nat.le_of_ble_eq_true rfl)⟩) hP hD hS hA [0, 1, 2, 3, 4, 5, 6, 7] [] [0, 1, 2, 3, 4, 5, 6, 7] rfl rfl (by decide) (by decide) (by decide) rfl (fun H11 lo11 hz10 hP11 hD11 hS11 => ?_)
        clear hP hD hS
        refine lv_if_ne (tgt := 121) hx hb dX3_readSet_116 (by decide) (fun c12 => ?_) (fun c12 => ?_)
        · have hm13 := zz_nf c12 hm10
          refine lv_aload_n hx hb dX3_readSet_121 rfl (lv_at hl 0 rfl) ?_
          refine va_get (D := D) (ci := 3) (v := .ref aD) (C := RX3) (T := TX3) (N := 6) hx hb hts iw_X3 hown hK hP11 0 rfl rfl 1 (by decide) (hts (.fieldLink RX3 34 "VarianceBridge$Reader" "draft" "LVarianceBridge$Plan;") (by decide +kernel)) (fun _ h9 => h9) rfl dX3_readSet_122 ?_
          refine lv_iload_n hx hb dX3_readSet_125 rfl (lv_at hl 1 rfl) ?_
          refine lv_iload_n hx hb dX3_readSet_126 rfl (lv_at hl 2 rfl) ?_
          refine lv_iload_n hx hb dX3_readSet_127 rfl (lv_at hl 3 rfl) ?_
          refine lv_aload_n hx hb dX3_readSet_128 rfl (lv_at hl 0 rfl) ?_
          refine va_get (D := D) (ci := 3) (v := .ref aK) (C := RX3) (T := TX3) (N := 6) hx hb hts iw_X3 hown hK hP11 0 rfl rfl 0 (by decide) (hts (.fieldLink RX3 30 "VarianceBridge$Reader" "tokens" "LVarianceBridge$Tokens;") (by decide +kernel)) (fun _ h9 => h9) rfl dX3_readSet_129 ?_
          refine va_getN (D := D) (ci := 5) (v := .int kn_10) (C := RX5) (T := TX5) (N := 5) hx hb hts iw_X5 hown hK hP11 2 rfl rfl 4 (by decide) (va_Nw.use rfl (hG.1 (.fieldLinkNest RX3 74 RX5 "number" "I" RX6) (by decide +kernel))) (fun _ h9 => h9) rfl dX3_readSet_132 ?_
          obtain ⟨df_15, h15, hm15⟩ := ob1_e hm13
          refine gcall_v (ws' := (w_Reader cI cB cZ aR aRt aK aT aTb aD aDp aDf rl rk_10 rp_10 rt kp_10 kb_10 kk_10 kn_10 tl tb dg ds dn dp df_15)) (va_runVN (As := [.int y1, .int y2, .int y3, .int kn_10]) (rest := []) ⟨hx, hb, hml, hown, hts⟩ (c_X2_putFactor l D cI cB cZ ta aD aDp aDf H11.size dg ds dn dp df y1 y2 y3 kn_10 df_15 h15) ⟨va_cnB 4 hts gX3_readSet_X2_putFactor_n123 rfl rfl rfl (hG.1 (.methodLinkNest RX3 123 yX2_putFactor RX6) (by decide +kernel)) (hts (.initialized RX2) (by decide +kernel)) (by decide +kernel) ⟨(Nat.le_of_ble_eq_true rfl), (Nat.le_of_ble_eq_true rfl)⟩, hts (.instanceMethod yX2_putFactor) (by decide +kernel), hts (.selects RX2 yX2_putFactor yX2_putFactor) (by decide +kernel)⟩ ⟨PW_blind, va_recv hK hP11 rfl (q0 := 5) rfl, PW_at hP11 hD11 hK hS11 hA hG [5, 6, 7] rfl (by decide)⟩ rfl rfl hl.1 rfl (lv_room (Nat.le_of_ble_eq_true rfl)) dX3_readSet_135 ⟨(Nat.le_of_ble_eq_true rfl), (Nat.le_of_ble_eq_true rfl)⟩) hP11 hD11 hS11 hA [5, 6, 7] [0, 1, 2, 3, 4] [0, 1, 2, 3, 4, 5, 6, 7] rfl rfl (by decide) (by decide) (by decide) rfl (fun H16 lo16 hP16 hD16 hS16 => ?_)
          clear hP11 hD11 hS11
          refine lv_iinc (v := (y3 + (1 : Int32))) (lv' := [(3, .int (y3 + (1 : Int32))), (0, .ref aR), (1, .int y1), (2, .int y2)]) hx hb dX3_readSet_138 hl (k := 3) rfl (by rfl) (by decide) rfl (fun ls17 hl17 => ?_)
          refine lv_goto (tgt := 97) hx hb dX3_readSet_141 (by decide) ?_
          exact ih rk_10 rp_10 rt kp_10 kb_10 kk_10 kn_10 df_15 y1 y2 (y3 + (1 : Int32)) hm15 ls17 H16 lo16 (lv_sub hl17 [1, 2, 3, 0] rfl) hP16 hD16 hS16
        · have hm14 := zz_if c12 hm10
          refine lv_iconst (v := (0 : Int32)) hx hb dX3_readSet_119 (by decide) ?_
          obtain ⟨hq1, hq99⟩ := Prod.mk.inj (Option.some.inj hm14)
          obtain ⟨hq2, hq99⟩ := Prod.mk.inj (hq99)
          obtain ⟨hq3, hq99⟩ := Prod.mk.inj (hq99)
          obtain ⟨hq4, hq99⟩ := Prod.mk.inj (hq99)
          obtain ⟨hq5, hq99⟩ := Prod.mk.inj (hq99)
          obtain ⟨hq6, hq99⟩ := Prod.mk.inj (hq99)
          obtain ⟨hq7, hq99⟩ := Prod.mk.inj (hq99)
          obtain ⟨hq8, hq9⟩ := Prod.mk.inj (hq99)
          subst hq1
          subst hq2
          subst hq3
          subst hq4
          subst hq5
          subst hq6
          subst hq7
          subst hq8
          subst hq9
          exact W.zret (ty := .boolean) hx hb hr (by decide) (fun t ht hW => ⟨⟨_, (), rfl, ⟨rfl, (by decide)⟩, by rw [ht]; exact hP11, va_K.moved hW.alike hK, hD11⟩, hS11.F ht⟩) hS11.2.2 dX3_readSet_120
  have hl := lv_entry ([.ref aR]) (n := 4) (Nat.le_of_ble_eq_true rfl)
  rw [lg_entry_eq]
  generalize (lg_sl ([.ref aR]) ++ List.replicate (4 - (lg_sl ([.ref aR])).length) Slot.unset).toArray = ls at hl ⊢
  have hl : lv_has ls 4 [(0, .ref aR)] := hl
  replace hm : (ob7 (m_X3_readNumber rk rp kp kb kk kn tl tb (0 : Int32) (20 : Int32)) (fun r18 rk_18 rp_18 kp_18 kb_18 kk_18 kn_18 => (if r18 = 0 then some ((0 : Int32), rk_18, rp_18, rt, kp_18, kb_18, kk_18, kn_18, df) else (ob1 (m_X2_isLeaf dg dn kn_18) (fun r24 => (if r24 = 0 then (ob3 (m_X3_refuse rk_18 rp_18 kb_18 (2 : Int32)) (fun r48 rk_48 rp_48 => some (r48, rk_48, rp_48, rt, kp_18, kb_18, kk_18, kn_18, df))) else (ob7 (m_X3_readNumber rk_18 rp_18 kp_18 kb_18 kk_18 kn_18 tl tb (0 : Int32) (ds - (1 : Int32))) (fun r29 rk_29 rp_29 kp_29 kb_29 kk_29 kn_29 => (if r29 = 0 then some ((0 : Int32), rk_29, rp_29, rt, kp_29, kb_29, kk_29, kn_29, df) else (if kn_18 < 0 ∨ 20 ≤ kn_18.toNatClampNeg then none else (if (((rt kn_18.toNatClampNeg) >>> (kn_29 &&& 31)) &&& (1 : Int32)) = 0 then (if kn_18 < 0 ∨ 20 ≤ kn_18.toNatClampNeg then none else (if kn_18 < 0 ∨ 20 ≤ kn_18.toNatClampNeg then none else (k_X3_readSet_97 tl tb dg ds dn FU rk_29 rp_29 (upd rt kn_18.toNatClampNeg ((rt kn_18.toNatClampNeg) ||| ((1 : Int32) <<< (kn_29 &&& 31)))) kp_29 kb_29 kk_29 kn_29 df kn_18 kn_29 (0 : Int32)))) else (ob3 (m_X3_refuse rk_29 rp_29 kb_29 (2 : Int32)) (fun r46 rk_46 rp_46 => some (r46, rk_46, rp_46, rt, kp_29, kb_29, kk_29, kn_29, df)))))))))))))) = some (r0, u_rk, u_rp, u_rt, u_kp, u_kb, u_kk, u_kn, u_df) := hm
  refine lv_aload_n hx hb dX3_readSet_0 rfl (lv_at hl 0 rfl) ?_
  refine lv_iconst (v := (0 : Int32)) hx hb dX3_readSet_1 (by decide) ?_
  refine lv_bipush (v := (20 : Int32)) hx hb dX3_readSet_2 (by decide) ?_
  obtain ⟨r18, rk_18, rp_18, kp_18, kb_18, kk_18, kn_18, h18, hm18⟩ := ob7_e hm
  refine gcall_b (ws' := (w_Reader cI cB cZ aR aRt aK aT aTb aD aDp aDf rl rk_18 rp_18 rt kp_18 kb_18 kk_18 kn_18 tl tb dg ds dn dp df)) (va_runV (As := [.int (0 : Int32), .int (20 : Int32)]) (rest := []) ⟨hx, hb, hml, hown, hts⟩ (c_X3_readNumber l D cI cB cZ ta aR aRt aK aT aTb aD aDp aDf s.heap.size rl rk rp rt kp kb kk kn tl tb dg ds dn dp df (0 : Int32) (20 : Int32) r18 rk_18 rp_18 kp_18 kb_18 kk_18 kn_18 h18) (cwV 2 hts gX3_readSet_X3_readNumber rfl rfl rfl (by decide +kernel) ⟨(Nat.le_of_ble_eq_true rfl), (Nat.le_of_ble_eq_true rfl)⟩) ⟨PW_blind, va_recv hK hP rfl (q0 := 0) rfl, PW_at hP hD hK hS hA hG [0, 1, 2, 3, 4, 5, 6, 7] rfl (by decide)⟩ rfl rfl hl.1 rfl (lv_room (Nat.le_of_ble_eq_true rfl)) dX3_readSet_4 ⟨(Nat.le_of_ble_eq_true rfl), (Nat.le_of_ble_eq_true rfl)⟩) hP hD hS hA [0, 1, 2, 3, 4, 5, 6, 7] [] [0, 1, 2, 3, 4, 5, 6, 7] rfl rfl (by decide) (by decide) (by decide) rfl (fun H19 lo19 hz18 hP19 hD19 hS19 => ?_)
  clear hP hD hS
  refine lv_if_ne (tgt := 12) hx hb dX3_readSet_7 (by decide) (fun c20 => ?_) (fun c20 => ?_)
  · have hm21 := zz_nf c20 hm18
    refine lv_aload_n hx hb dX3_readSet_12 rfl (lv_at hl 0 rfl) ?_
    refine va_get (D := D) (ci := 3) (v := .ref aK) (C := RX3) (T := TX3) (N := 6) hx hb hts iw_X3 hown hK hP19 0 rfl rfl 0 (by decide) (hts (.fieldLink RX3 30 "VarianceBridge$Reader" "tokens" "LVarianceBridge$Tokens;") (by decide +kernel)) (fun _ h9 => h9) rfl dX3_readSet_13 ?_
    refine va_getN (D := D) (ci := 5) (v := .int kn_18) (C := RX5) (T := TX5) (N := 5) hx hb hts iw_X5 hown hK hP19 2 rfl rfl 4 (by decide) (va_Nw.use rfl (hG.1 (.fieldLinkNest RX3 74 RX5 "number" "I" RX6) (by decide +kernel))) (fun _ h9 => h9) rfl dX3_readSet_16 ?_
    refine lv_istore_n (lv' := [(1, .int kn_18), (0, .ref aR)]) hx hb dX3_readSet_19 rfl hl (by decide) rfl (fun ls23 hl23 => ?_)
    refine lv_aload_n hx hb dX3_readSet_20 rfl (lv_at hl23 1 rfl) ?_
    refine va_get (D := D) (ci := 3) (v := .ref aD) (C := RX3) (T := TX3) (N := 6) hx hb hts iw_X3 hown hK hP19 0 rfl rfl 1 (by decide) (hts (.fieldLink RX3 34 "VarianceBridge$Reader" "draft" "LVarianceBridge$Plan;") (by decide +kernel)) (fun _ h9 => h9) rfl dX3_readSet_21 ?_
    refine lv_iload_n hx hb dX3_readSet_24 rfl (lv_at hl23 0 rfl) ?_
    obtain ⟨r24, h24, hm24⟩ := ob1_e hm21
    refine gcall_b (ws' := (w_Reader cI cB cZ aR aRt aK aT aTb aD aDp aDf rl rk_18 rp_18 rt kp_18 kb_18 kk_18 kn_18 tl tb dg ds dn dp df)) (va_runVN (As := [.int kn_18]) (rest := []) ⟨hx, hb, hml, hown, hts⟩ (c_X2_isLeaf l D cI cB cZ ta aD aDp aDf H19.size dg ds dn dp df kn_18 r24 h24) ⟨va_cnB 1 hts gX3_readSet_X2_isLeaf_n112 rfl rfl rfl (hG.1 (.methodLinkNest RX3 112 yX2_isLeaf RX6) (by decide +kernel)) (hts (.initialized RX2) (by decide +kernel)) (by decide +kernel) ⟨(Nat.le_of_ble_eq_true rfl), (Nat.le_of_ble_eq_true rfl)⟩, hts (.instanceMethod yX2_isLeaf) (by decide +kernel), hts (.selects RX2 yX2_isLeaf yX2_isLeaf) (by decide +kernel)⟩ ⟨PW_blind, va_recv hK hP19 rfl (q0 := 5) rfl, PW_at hP19 hD19 hK hS19 hA hG [5, 6, 7] rfl (by decide)⟩ rfl rfl hl23.1 rfl (lv_room (Nat.le_of_ble_eq_true rfl)) dX3_readSet_25 ⟨(Nat.le_of_ble_eq_true rfl), (Nat.le_of_ble_eq_true rfl)⟩) hP19 hD19 hS19 hA [5, 6, 7] [0, 1, 2, 3, 4] [0, 1, 2, 3, 4, 5, 6, 7] rfl rfl (by decide) (by decide) (by decide) rfl (fun H25 lo25 hz24 hP25 hD25 hS25 => ?_)
    clear hP19 hD19 hS19
    refine lv_if_ne (tgt := 37) hx hb dX3_readSet_28 (by decide) (fun c26 => ?_) (fun c26 => ?_)
    · have hm27 := zz_nf c26 hm24
      refine lv_aload_n hx hb dX3_readSet_37 rfl (lv_at hl23 1 rfl) ?_
      refine lv_iconst (v := (0 : Int32)) hx hb dX3_readSet_38 (by decide) ?_
      refine lv_aload_n hx hb dX3_readSet_39 rfl (lv_at hl23 1 rfl) ?_
      refine va_get (D := D) (ci := 3) (v := .ref aD) (C := RX3) (T := TX3) (N := 6) hx hb hts iw_X3 hown hK hP25 0 rfl rfl 1 (by decide) (hts (.fieldLink RX3 34 "VarianceBridge$Reader" "draft" "LVarianceBridge$Plan;") (by decide +kernel)) (fun _ h9 => h9) rfl dX3_readSet_40 ?_
      refine va_getN (D := D) (ci := 2) (v := .int ds) (C := RX2) (T := TX2) (N := 5) hx hb hts iw_X2 hown hK hP25 5 rfl rfl 3 (by decide) (va_Nw.use rfl (hG.1 (.fieldLinkNest RX3 115 RX2 "scenes" "I" RX6) (by decide +kernel))) (fun _ h9 => h9) rfl dX3_readSet_43 ?_
      refine lv_iconst (v := (1 : Int32)) hx hb dX3_readSet_46 (by decide) ?_
      refine lv_isub hx hb dX3_readSet_47 ?_
      obtain ⟨r29, rk_29, rp_29, kp_29, kb_29, kk_29, kn_29, h29, hm29⟩ := ob7_e hm27
      refine gcall_b (ws' := (w_Reader cI cB cZ aR aRt aK aT aTb aD aDp aDf rl rk_29 rp_29 rt kp_29 kb_29 kk_29 kn_29 tl tb dg ds dn dp df)) (va_runV (As := [.int (0 : Int32), .int (ds - (1 : Int32))]) (rest := []) ⟨hx, hb, hml, hown, hts⟩ (c_X3_readNumber l D cI cB cZ ta aR aRt aK aT aTb aD aDp aDf H25.size rl rk_18 rp_18 rt kp_18 kb_18 kk_18 kn_18 tl tb dg ds dn dp df (0 : Int32) (ds - (1 : Int32)) r29 rk_29 rp_29 kp_29 kb_29 kk_29 kn_29 h29) (cwV 2 hts gX3_readSet_X3_readNumber rfl rfl rfl (by decide +kernel) ⟨(Nat.le_of_ble_eq_true rfl), (Nat.le_of_ble_eq_true rfl)⟩) ⟨PW_blind, va_recv hK hP25 rfl (q0 := 0) rfl, PW_at hP25 hD25 hK hS25 hA hG [0, 1, 2, 3, 4, 5, 6, 7] rfl (by decide)⟩ rfl rfl hl23.1 rfl (lv_room (Nat.le_of_ble_eq_true rfl)) dX3_readSet_48 ⟨(Nat.le_of_ble_eq_true rfl), (Nat.le_of_ble_eq_true rfl)⟩) hP25 hD25 hS25 hA [0, 1, 2, 3, 4, 5, 6, 7] [] [0, 1, 2, 3, 4, 5, 6, 7] rfl rfl (by decide) (by decide) (by decide) rfl (fun H30 lo30 hz29 hP30 hD30 hS30 => ?_)
      clear hP25 hD25 hS25
      refine lv_if_ne (tgt := 56) hx hb dX3_readSet_51 (by decide) (fun c31 => ?_) (fun c31 => ?_)
      · have hm32 := zz_nf c31 hm29
        refine lv_aload_n hx hb dX3_readSet_56 rfl (lv_at hl23 1 rfl) ?_
        refine va_get (D := D) (ci := 3) (v := .ref aK) (C := RX3) (T := TX3) (N := 6) hx hb hts iw_X3 hown hK hP30 0 rfl rfl 0 (by decide) (hts (.fieldLink RX3 30 "VarianceBridge$Reader" "tokens" "LVarianceBridge$Tokens;") (by decide +kernel)) (fun _ h9 => h9) rfl dX3_readSet_57 ?_
        refine va_getN (D := D) (ci := 5) (v := .int kn_29) (C := RX5) (T := TX5) (N := 5) hx hb hts iw_X5 hown hK hP30 2 rfl rfl 4 (by decide) (va_Nw.use rfl (hG.1 (.fieldLinkNest RX3 74 RX5 "number" "I" RX6) (by decide +kernel))) (fun _ h9 => h9) rfl dX3_readSet_60 ?_
        refine lv_istore_n (lv' := [(2, .int kn_29), (1, .int kn_18), (0, .ref aR)]) hx hb dX3_readSet_63 rfl hl23 (by decide) rfl (fun ls34 hl34 => ?_)
        refine lv_aload_n hx hb dX3_readSet_64 rfl (lv_at hl34 2 rfl) ?_
        refine va_get (D := D) (ci := 3) (v := .ref aRt) (C := RX3) (T := TX3) (N := 6) hx hb hts iw_X3 hown hK hP30 0 rfl rfl 2 (by decide) (hts (.fieldLink RX3 9 "VarianceBridge$Reader" "scenesTold" "[I") (by decide +kernel)) (fun _ h9 => h9) rfl dX3_readSet_65 ?_
        refine lv_iload_n hx hb dX3_readSet_68 rfl (lv_at hl34 1 rfl) ?_
        obtain ⟨c35, hm36⟩ := zz_no hm32
        refine va_iald hx hb hK hP30 1 0 rfl rfl c35 dX3_readSet_69 ?_
        refine lv_iload_n hx hb dX3_readSet_70 rfl (lv_at hl34 0 rfl) ?_
        refine lv_ishr hx hb dX3_readSet_71 ?_
        refine lv_iconst (v := (1 : Int32)) hx hb dX3_readSet_72 (by decide) ?_
        refine lv_iand hx hb dX3_readSet_73 ?_
        refine lv_if_eq (tgt := 83) hx hb dX3_readSet_74 (by decide) (fun c37 => ?_) (fun c37 => ?_)
        · have hm38 := zz_if c37 hm36
          refine lv_aload_n hx hb dX3_readSet_83 rfl (lv_at hl34 2 rfl) ?_
          refine va_get (D := D) (ci := 3) (v := .ref aRt) (C := RX3) (T := TX3) (N := 6) hx hb hts iw_X3 hown hK hP30 0 rfl rfl 2 (by decide) (hts (.fieldLink RX3 9 "VarianceBridge$Reader" "scenesTold" "[I") (by decide +kernel)) (fun _ h9 => h9) rfl dX3_readSet_84 ?_
          refine lv_iload_n hx hb dX3_readSet_87 rfl (lv_at hl34 1 rfl) ?_
          refine lv_dup2_11 hx hb dX3_readSet_88 rfl rfl ?_
          obtain ⟨c40, hm41⟩ := zz_no hm38
          refine va_iald hx hb hK hP30 1 0 rfl rfl c40 dX3_readSet_89 ?_
          refine lv_iconst (v := (1 : Int32)) hx hb dX3_readSet_90 (by decide) ?_
          refine lv_iload_n hx hb dX3_readSet_91 rfl (lv_at hl34 0 rfl) ?_
          refine lv_ishl hx hb dX3_readSet_92 ?_
          refine lv_ior hx hb dX3_readSet_93 ?_
          obtain ⟨c42, hm43⟩ := zz_no hm41
          refine va_iast hx hb hK hP30 hD30 hS30 1 0 rfl rfl c42 dX3_readSet_94 (fun H44 lo44 hP44 hD44 hS44 => ?_)
          replace hP44 : va_P D vwCl (w_Reader cI cB cZ aR aRt aK aT aTb aD aDp aDf rl rk_29 rp_29 (upd rt kn_18.toNatClampNeg ((rt kn_18.toNatClampNeg) ||| ((1 : Int32) <<< (kn_29 &&& 31)))) kp_29 kb_29 kk_29 kn_29 tl tb dg ds dn dp df) H44 := hP44
          replace hD44 : va_D A (w_Reader cI cB cZ aR aRt aK aT aTb aD aDp aDf rl rk_29 rp_29 (upd rt kn_18.toNatClampNeg ((rt kn_18.toNatClampNeg) ||| ((1 : Int32) <<< (kn_29 &&& 31)))) kp_29 kb_29 kk_29 kn_29 tl tb dg ds dn dp df) := hD44
          clear hP30 hD30 hS30
          refine lv_iconst (v := (0 : Int32)) hx hb dX3_readSet_95 (by decide) ?_
          refine lv_istore_n (lv' := [(3, .int (0 : Int32)), (2, .int kn_29), (1, .int kn_18), (0, .ref aR)]) hx hb dX3_readSet_96 rfl hl34 (by decide) rfl (fun ls45 hl45 => ?_)
          exact hk_97 FU rk_29 rp_29 (upd rt kn_18.toNatClampNeg ((rt kn_18.toNatClampNeg) ||| ((1 : Int32) <<< (kn_29 &&& 31)))) kp_29 kb_29 kk_29 kn_29 df kn_18 kn_29 (0 : Int32) hm43 ls45 H44 lo44 (lv_sub hl45 [3, 2, 1, 0] rfl) hP44 hD44 hS44
        · have hm39 := zz_nf c37 hm36
          refine lv_aload_n hx hb dX3_readSet_77 rfl (lv_at hl34 2 rfl) ?_
          refine lv_iconst (v := (2 : Int32)) hx hb dX3_readSet_78 (by decide) ?_
          obtain ⟨r46, rk_46, rp_46, h46, hm46⟩ := ob3_e hm39
          refine gcall_b (ws' := (w_Reader cI cB cZ aR aRt aK aT aTb aD aDp aDf rl rk_46 rp_46 rt kp_29 kb_29 kk_29 kn_29 tl tb dg ds dn dp df)) (va_runV (As := [.int (2 : Int32)]) (rest := []) ⟨hx, hb, hml, hown, hts⟩ (c_X3_refuse l D cI cB cZ ta aR aRt aK aT aTb aD aDp aDf H30.size rl rk_29 rp_29 rt kp_29 kb_29 kk_29 kn_29 tl tb dg ds dn dp df (2 : Int32) r46 rk_46 rp_46 h46) (cwV 1 hts gX3_readSet_X3_refuse rfl rfl rfl (by decide +kernel) ⟨(Nat.le_of_ble_eq_true rfl), (Nat.le_of_ble_eq_true rfl)⟩) ⟨PW_blind, va_recv hK hP30 rfl (q0 := 0) rfl, PW_at hP30 hD30 hK hS30 hA hG [0, 1, 2, 3, 4, 5, 6, 7] rfl (by decide)⟩ rfl rfl hl34.1 rfl (lv_room (Nat.le_of_ble_eq_true rfl)) dX3_readSet_79 ⟨(Nat.le_of_ble_eq_true rfl), (Nat.le_of_ble_eq_true rfl)⟩) hP30 hD30 hS30 hA [0, 1, 2, 3, 4, 5, 6, 7] [] [0, 1, 2, 3, 4, 5, 6, 7] rfl rfl (by decide) (by decide) (by decide) rfl (fun H47 lo47 hz46 hP47 hD47 hS47 => ?_)
          clear hP30 hD30 hS30
          obtain ⟨hq1, hq99⟩ := Prod.mk.inj (Option.some.inj hm46)
          obtain ⟨hq2, hq99⟩ := Prod.mk.inj (hq99)
          obtain ⟨hq3, hq99⟩ := Prod.mk.inj (hq99)
          obtain ⟨hq4, hq99⟩ := Prod.mk.inj (hq99)
          obtain ⟨hq5, hq99⟩ := Prod.mk.inj (hq99)
          obtain ⟨hq6, hq99⟩ := Prod.mk.inj (hq99)
          obtain ⟨hq7, hq99⟩ := Prod.mk.inj (hq99)
          obtain ⟨hq8, hq9⟩ := Prod.mk.inj (hq99)
          subst hq1
          subst hq2
          subst hq3
          subst hq4
          subst hq5
          subst hq6
          subst hq7
          subst hq8
          subst hq9
          exact W.zret (ty := .boolean) hx hb hr hz46 (fun t ht hW => ⟨⟨_, (), rfl, ⟨rfl, hz46⟩, by rw [ht]; exact hP47, va_K.moved hW.alike hK, hD47⟩, hS47.F ht⟩) hS47.2.2 dX3_readSet_82
      · have hm33 := zz_if c31 hm29
        refine lv_iconst (v := (0 : Int32)) hx hb dX3_readSet_54 (by decide) ?_
        obtain ⟨hq1, hq99⟩ := Prod.mk.inj (Option.some.inj hm33)
        obtain ⟨hq2, hq99⟩ := Prod.mk.inj (hq99)
        obtain ⟨hq3, hq99⟩ := Prod.mk.inj (hq99)
        obtain ⟨hq4, hq99⟩ := Prod.mk.inj (hq99)
        obtain ⟨hq5, hq99⟩ := Prod.mk.inj (hq99)
        obtain ⟨hq6, hq99⟩ := Prod.mk.inj (hq99)
        obtain ⟨hq7, hq99⟩ := Prod.mk.inj (hq99)
        obtain ⟨hq8, hq9⟩ := Prod.mk.inj (hq99)
        subst hq1
        subst hq2
        subst hq3
        subst hq4
        subst hq5
        subst hq6
        subst hq7
        subst hq8
        subst hq9
        exact W.zret (ty := .boolean) hx hb hr (by decide) (fun t ht hW => ⟨⟨_, (), rfl, ⟨rfl, (by decide)⟩, by rw [ht]; exact hP30, va_K.moved hW.alike hK, hD30⟩, hS30.F ht⟩) hS30.2.2 dX3_readSet_55
    · have hm28 := zz_if c26 hm24
      refine lv_aload_n hx hb dX3_readSet_31 rfl (lv_at hl23 1 rfl) ?_
      refine lv_iconst (v := (2 : Int32)) hx hb dX3_readSet_32 (by decide) ?_
      obtain ⟨r48, rk_48, rp_48, h48, hm48⟩ := ob3_e hm28
      refine gcall_b (ws' := (w_Reader cI cB cZ aR aRt aK aT aTb aD aDp aDf rl rk_48 rp_48 rt kp_18 kb_18 kk_18 kn_18 tl tb dg ds dn dp df)) (va_runV (As := [.int (2 : Int32)]) (rest := []) ⟨hx, hb, hml, hown, hts⟩ (c_X3_refuse l D cI cB cZ ta aR aRt aK aT aTb aD aDp aDf H25.size rl rk_18 rp_18 rt kp_18 kb_18 kk_18 kn_18 tl tb dg ds dn dp df (2 : Int32) r48 rk_48 rp_48 h48) (cwV 1 hts gX3_readSet_X3_refuse rfl rfl rfl (by decide +kernel) ⟨(Nat.le_of_ble_eq_true rfl), (Nat.le_of_ble_eq_true rfl)⟩) ⟨PW_blind, va_recv hK hP25 rfl (q0 := 0) rfl, PW_at hP25 hD25 hK hS25 hA hG [0, 1, 2, 3, 4, 5, 6, 7] rfl (by decide)⟩ rfl rfl hl23.1 rfl (lv_room (Nat.le_of_ble_eq_true rfl)) dX3_readSet_33 ⟨(Nat.le_of_ble_eq_true rfl), (Nat.le_of_ble_eq_true rfl)⟩) hP25 hD25 hS25 hA [0, 1, 2, 3, 4, 5, 6, 7] [] [0, 1, 2, 3, 4, 5, 6, 7] rfl rfl (by decide) (by decide) (by decide) rfl (fun H49 lo49 hz48 hP49 hD49 hS49 => ?_)
      clear hP25 hD25 hS25
      obtain ⟨hq1, hq99⟩ := Prod.mk.inj (Option.some.inj hm48)
      obtain ⟨hq2, hq99⟩ := Prod.mk.inj (hq99)
      obtain ⟨hq3, hq99⟩ := Prod.mk.inj (hq99)
      obtain ⟨hq4, hq99⟩ := Prod.mk.inj (hq99)
      obtain ⟨hq5, hq99⟩ := Prod.mk.inj (hq99)
      obtain ⟨hq6, hq99⟩ := Prod.mk.inj (hq99)
      obtain ⟨hq7, hq99⟩ := Prod.mk.inj (hq99)
      obtain ⟨hq8, hq9⟩ := Prod.mk.inj (hq99)
      subst hq1
      subst hq2
      subst hq3
      subst hq4
      subst hq5
      subst hq6
      subst hq7
      subst hq8
      subst hq9
      exact W.zret (ty := .boolean) hx hb hr hz48 (fun t ht hW => ⟨⟨_, (), rfl, ⟨rfl, hz48⟩, by rw [ht]; exact hP49, va_K.moved hW.alike hK, hD49⟩, hS49.F ht⟩) hS49.2.2 dX3_readSet_36
  · have hm22 := zz_if c20 hm18
    refine lv_iconst (v := (0 : Int32)) hx hb dX3_readSet_10 (by decide) ?_
    obtain ⟨hq1, hq99⟩ := Prod.mk.inj (Option.some.inj hm22)
    obtain ⟨hq2, hq99⟩ := Prod.mk.inj (hq99)
    obtain ⟨hq3, hq99⟩ := Prod.mk.inj (hq99)
    obtain ⟨hq4, hq99⟩ := Prod.mk.inj (hq99)
    obtain ⟨hq5, hq99⟩ := Prod.mk.inj (hq99)
    obtain ⟨hq6, hq99⟩ := Prod.mk.inj (hq99)
    obtain ⟨hq7, hq99⟩ := Prod.mk.inj (hq99)
    obtain ⟨hq8, hq9⟩ := Prod.mk.inj (hq99)
    subst hq1
    subst hq2
    subst hq3
    subst hq4
    subst hq5
    subst hq6
    subst hq7
    subst hq8
    subst hq9
    exact W.zret (ty := .boolean) hx hb hr (by decide) (fun t ht hW => ⟨⟨_, (), rfl, ⟨rfl, (by decide)⟩, by rw [ht]; exact hP19, va_K.moved hW.alike hK, hD19⟩, hS19.F ht⟩) hS19.2.2 dX3_readSet_11
theorem iw_X3_readLine_X3 : ∀ w ∈ wsX30, w ∈ wsX3_readLine := by decide +kernel
set_option maxHeartbeats 4000000 in
set_option maxRecDepth 100000 in
theorem c_X3_readLine (l : Launch) (D : va_G) (cI cB cZ : ClassId) (ta : Nat → Nat) (aR : Nat) (aRt : Nat) (aK : Nat) (aT : Nat) (aTb : Nat) (aD : Nat) (aDp : Nat) (aDf : Nat) (sz : Nat) (rl : Int32) (rk : Int32) (rp : Int32) (rt : (Nat → Int32)) (kp : Int32) (kb : Int32) (kk : Int32) (kn : Int32) (tl : Int32) (tb : (Nat → Int32)) (dg : Int32) (ds : Int32) (dn : Int32) (dp : (Nat → Int32)) (df : (Nat → Int32)) (r0 : Int32) (u_rk : Int32) (u_rp : Int32) (u_rt : (Nat → Int32)) (u_kp : Int32) (u_kb : Int32) (u_kk : Int32) (u_kn : Int32) (u_dg : Int32) (u_dn : Int32) (u_dp : (Nat → Int32)) (u_df : (Nat → Int32)) (hm : m_X3_readLine rk rp rt kp kb kk kn tl tb dg ds dn dp df = some (r0, u_rk, u_rp, u_rt, u_kp, u_kb, u_kk, u_kn, u_dg, u_dn, u_dp, u_df)) : Met l yX3_readLine wsX3_readLine ({ frames := 5, cells := 0, slots := 0, locals := 107 } : Room) (va_Pc [.ref aR] (PW D cI cB cZ ta (w_Reader cI cB cZ aR aRt aK aT aTb aD aDp aDf rl rk rp rt kp kb kk kn tl tb dg ds dn dp df) sz)) (QZ .boolean D cI cB cZ (va_A (w_Reader cI cB cZ aR aRt aK aT aTb aD aDp aDf rl rk rp rt kp kb kk kn tl tb dg ds dn dp df) sz) (w_Reader cI cB cZ aR aRt aK aT aTb aD aDp aDf rl u_rk u_rp u_rt u_kp u_kb u_kk u_kn tl tb u_dg ds u_dn u_dp u_df) r0) 0 0 (va_A (w_Reader cI cB cZ aR aRt aK aT aTb aD aDp aDf rl rk rp rt kp kb kk kn tl tb dg ds dn dp df) sz) := by
  refine Met.ofW (cc := cX3_readLine) (maxL := 1) (ret := (some .boolean)) (by decide) rfl ?_
  intro p e s m args below meth c s₁ B hml hv
  obtain ⟨rfl, hsz, hP, hK, hD0, hG⟩ := hv
  have hx := B.exec
  have hb := B.bytes
  have hr := B.returns
  have hts := atoms_spec (ws := wsX3_readLine) B.pre
  have hown : s.vm.findClass RX3 = some m.cls := findClass_of_methodNamed B.named
  have hlocks := B.notSynchronized
  subst hsz
  have hD := hD0.self (sz := s.heap.size)
  clear hD0
  have hA0 : ∀ q : Nat, s.heap.size ≤ q → va_A (w_Reader cI cB cZ aR aRt aK aT aTb aD aDp aDf rl rk rp rt kp kb kk kn tl tb dg ds dn dp df) s.heap.size q := fun q h => Or.inr h
  generalize hAe : va_A (w_Reader cI cB cZ aR aRt aK aT aTb aD aDp aDf rl rk rp rt kp kb kk kn tl tb dg ds dn dp df) s.heap.size = A at hD hG hA0 ⊢
  have hA : ∀ q : Nat, s.heap.size ≤ q → A q := hA0
  clear hA0
  have hS : va_S A s.heap s.heap [] := va_S.rf
  have iw_X3 := iw_X3_readLine_X3
  have hl := lv_entry ([.ref aR]) (n := 1) (Nat.le_of_ble_eq_true rfl)
  rw [lg_entry_eq]
  generalize (lg_sl ([.ref aR]) ++ List.replicate (1 - (lg_sl ([.ref aR])).length) Slot.unset).toArray = ls at hl ⊢
  have hl : lv_has ls 1 [(0, .ref aR)] := hl
  replace hm : (ob1 (m_X5_isWord kp kb kk tb 1) (fun r1 => (if r1 = 0 then (ob1 (m_X5_isWord kp kb kk tb 2) (fun r6 => (if r6 = 0 then (ob1 (m_X5_isWord kp kb kk tb 3) (fun r11 => (if r11 = 0 then (ob3 (m_X3_refuse rk rp kb (1 : Int32)) (fun r16 rk_16 rp_16 => some (r16, rk_16, rp_16, rt, kp, kb, kk, kn, dg, dn, dp, df))) else (ob9 (m_X3_readSet rk rp rt kp kb kk kn tl tb dg ds dn df) (fun r18 rk_18 rp_18 rt_18 kp_18 kb_18 kk_18 kn_18 df_18 => some (r18, rk_18, rp_18, rt_18, kp_18, kb_18, kk_18, kn_18, dg, dn, dp, df_18)))))) else (ob11 (m_X3_readNode rk rp kp kb kk kn tl tb dg dn dp df (0 : Int32)) (fun r20 rk_20 rp_20 kp_20 kb_20 kk_20 kn_20 dg_20 dn_20 dp_20 df_20 => some (r20, rk_20, rp_20, rt, kp_20, kb_20, kk_20, kn_20, dg_20, dn_20, dp_20, df_20)))))) else (ob11 (m_X3_readNode rk rp kp kb kk kn tl tb dg dn dp df (1 : Int32)) (fun r22 rk_22 rp_22 kp_22 kb_22 kk_22 kn_22 dg_22 dn_22 dp_22 df_22 => some (r22, rk_22, rp_22, rt, kp_22, kb_22, kk_22, kn_22, dg_22, dn_22, dp_22, df_22)))))) = some (r0, u_rk, u_rp, u_rt, u_kp, u_kb, u_kk, u_kn, u_dg, u_dn, u_dp, u_df) := hm
  refine lv_aload_n hx hb dX3_readLine_0 rfl (lv_at hl 0 rfl) ?_
  refine va_get (D := D) (ci := 3) (v := .ref aK) (C := RX3) (T := TX3) (N := 6) hx hb hts iw_X3 hown hK hP 0 rfl rfl 0 (by decide) (hts (.fieldLink RX3 30 "VarianceBridge$Reader" "tokens" "LVarianceBridge$Tokens;") (by decide +kernel)) (fun _ h9 => h9) rfl dX3_readLine_1 ?_
  refine va_ldcS (tx := "group") hx hb hown hG.2.2.2.2.2.2.2.1.2.1 dX3_readLine_4 ?_
  obtain ⟨r1, h1, hm1⟩ := ob1_e hm
  refine gcall_b (ws' := (w_Reader cI cB cZ aR aRt aK aT aTb aD aDp aDf rl rk rp rt kp kb kk kn tl tb dg ds dn dp df)) (va_runVN (As := [.ref (ta (10 + 1))]) (rest := []) ⟨hx, hb, hml, hown, hts⟩ (c_X5_isWord l D cI cB cZ ta aK aT aTb s.heap.size kp kb kk kn tl tb 1 r1 (by decide) h1) ⟨va_cnB 1 hts gX3_readLine_X5_isWord_n66 rfl rfl rfl (hG.1 (.methodLinkNest RX3 66 yX5_isWord RX6) (by decide +kernel)) (hts (.initialized RX5) (by decide +kernel)) (by decide +kernel) ⟨(Nat.le_of_ble_eq_true rfl), (Nat.le_of_ble_eq_true rfl)⟩, hts (.instanceMethod yX5_isWord) (by decide +kernel), hts (.selects RX5 yX5_isWord yX5_isWord) (by decide +kernel)⟩ ⟨PW_blind, va_recv hK hP rfl (q0 := 2) rfl, PW_at hP hD hK hS hA hG [2, 3, 4] rfl (by decide)⟩ rfl rfl hl.1 rfl (lv_room (Nat.le_of_ble_eq_true rfl)) dX3_readLine_6 ⟨(Nat.le_of_ble_eq_true rfl), (Nat.le_of_ble_eq_true rfl)⟩) hP hD hS hA [2, 3, 4] [0, 1, 5, 6, 7] [0, 1, 5, 6, 7, 2, 3, 4] rfl rfl (by decide) (by decide) (by decide) rfl (fun H2 lo2 hz1 hP2 hD2 hS2 => ?_)
  clear hP hD hS
  refine lv_if_eq (tgt := 18) hx hb dX3_readLine_9 (by decide) (fun c3 => ?_) (fun c3 => ?_)
  · have hm4 := zz_if c3 hm1
    refine lv_aload_n hx hb dX3_readLine_18 rfl (lv_at hl 0 rfl) ?_
    refine va_get (D := D) (ci := 3) (v := .ref aK) (C := RX3) (T := TX3) (N := 6) hx hb hts iw_X3 hown hK hP2 0 rfl rfl 0 (by decide) (hts (.fieldLink RX3 30 "VarianceBridge$Reader" "tokens" "LVarianceBridge$Tokens;") (by decide +kernel)) (fun _ h9 => h9) rfl dX3_readLine_19 ?_
    refine va_ldcS (tx := "line") hx hb hown hG.2.2.2.2.2.2.2.1.2.2.1 dX3_readLine_22 ?_
    obtain ⟨r6, h6, hm6⟩ := ob1_e hm4
    refine gcall_b (ws' := (w_Reader cI cB cZ aR aRt aK aT aTb aD aDp aDf rl rk rp rt kp kb kk kn tl tb dg ds dn dp df)) (va_runVN (As := [.ref (ta (10 + 2))]) (rest := []) ⟨hx, hb, hml, hown, hts⟩ (c_X5_isWord l D cI cB cZ ta aK aT aTb H2.size kp kb kk kn tl tb 2 r6 (by decide) h6) ⟨va_cnB 1 hts gX3_readLine_X5_isWord_n66 rfl rfl rfl (hG.1 (.methodLinkNest RX3 66 yX5_isWord RX6) (by decide +kernel)) (hts (.initialized RX5) (by decide +kernel)) (by decide +kernel) ⟨(Nat.le_of_ble_eq_true rfl), (Nat.le_of_ble_eq_true rfl)⟩, hts (.instanceMethod yX5_isWord) (by decide +kernel), hts (.selects RX5 yX5_isWord yX5_isWord) (by decide +kernel)⟩ ⟨PW_blind, va_recv hK hP2 rfl (q0 := 2) rfl, PW_at hP2 hD2 hK hS2 hA hG [2, 3, 4] rfl (by decide)⟩ rfl rfl hl.1 rfl (lv_room (Nat.le_of_ble_eq_true rfl)) dX3_readLine_24 ⟨(Nat.le_of_ble_eq_true rfl), (Nat.le_of_ble_eq_true rfl)⟩) hP2 hD2 hS2 hA [2, 3, 4] [0, 1, 5, 6, 7] [0, 1, 5, 6, 7, 2, 3, 4] rfl rfl (by decide) (by decide) (by decide) rfl (fun H7 lo7 hz6 hP7 hD7 hS7 => ?_)
    clear hP2 hD2 hS2
    refine lv_if_eq (tgt := 36) hx hb dX3_readLine_27 (by decide) (fun c8 => ?_) (fun c8 => ?_)
    · have hm9 := zz_if c8 hm6
      refine lv_aload_n hx hb dX3_readLine_36 rfl (lv_at hl 0 rfl) ?_
      refine va_get (D := D) (ci := 3) (v := .ref aK) (C := RX3) (T := TX3) (N := 6) hx hb hts iw_X3 hown hK hP7 0 rfl rfl 0 (by decide) (hts (.fieldLink RX3 30 "VarianceBridge$Reader" "tokens" "LVarianceBridge$Tokens;") (by decide +kernel)) (fun _ h9 => h9) rfl dX3_readLine_37 ?_
      refine va_ldcS (tx := "set") hx hb hown hG.2.2.2.2.2.2.2.1.2.2.2 dX3_readLine_40 ?_
      obtain ⟨r11, h11, hm11⟩ := ob1_e hm9
      refine gcall_b (ws' := (w_Reader cI cB cZ aR aRt aK aT aTb aD aDp aDf rl rk rp rt kp kb kk kn tl tb dg ds dn dp df)) (va_runVN (As := [.ref (ta (10 + 3))]) (rest := []) ⟨hx, hb, hml, hown, hts⟩ (c_X5_isWord l D cI cB cZ ta aK aT aTb H7.size kp kb kk kn tl tb 3 r11 (by decide) h11) ⟨va_cnB 1 hts gX3_readLine_X5_isWord_n66 rfl rfl rfl (hG.1 (.methodLinkNest RX3 66 yX5_isWord RX6) (by decide +kernel)) (hts (.initialized RX5) (by decide +kernel)) (by decide +kernel) ⟨(Nat.le_of_ble_eq_true rfl), (Nat.le_of_ble_eq_true rfl)⟩, hts (.instanceMethod yX5_isWord) (by decide +kernel), hts (.selects RX5 yX5_isWord yX5_isWord) (by decide +kernel)⟩ ⟨PW_blind, va_recv hK hP7 rfl (q0 := 2) rfl, PW_at hP7 hD7 hK hS7 hA hG [2, 3, 4] rfl (by decide)⟩ rfl rfl hl.1 rfl (lv_room (Nat.le_of_ble_eq_true rfl)) dX3_readLine_42 ⟨(Nat.le_of_ble_eq_true rfl), (Nat.le_of_ble_eq_true rfl)⟩) hP7 hD7 hS7 hA [2, 3, 4] [0, 1, 5, 6, 7] [0, 1, 5, 6, 7, 2, 3, 4] rfl rfl (by decide) (by decide) (by decide) rfl (fun H12 lo12 hz11 hP12 hD12 hS12 => ?_)
      clear hP7 hD7 hS7
      refine lv_if_eq (tgt := 53) hx hb dX3_readLine_45 (by decide) (fun c13 => ?_) (fun c13 => ?_)
      · have hm14 := zz_if c13 hm11
        refine lv_aload_n hx hb dX3_readLine_53 rfl (lv_at hl 0 rfl) ?_
        refine lv_iconst (v := (1 : Int32)) hx hb dX3_readLine_54 (by decide) ?_
        obtain ⟨r16, rk_16, rp_16, h16, hm16⟩ := ob3_e hm14
        refine gcall_b (ws' := (w_Reader cI cB cZ aR aRt aK aT aTb aD aDp aDf rl rk_16 rp_16 rt kp kb kk kn tl tb dg ds dn dp df)) (va_runV (As := [.int (1 : Int32)]) (rest := []) ⟨hx, hb, hml, hown, hts⟩ (c_X3_refuse l D cI cB cZ ta aR aRt aK aT aTb aD aDp aDf H12.size rl rk rp rt kp kb kk kn tl tb dg ds dn dp df (1 : Int32) r16 rk_16 rp_16 h16) (cwV 1 hts gX3_readLine_X3_refuse rfl rfl rfl (by decide +kernel) ⟨(Nat.le_of_ble_eq_true rfl), (Nat.le_of_ble_eq_true rfl)⟩) ⟨PW_blind, va_recv hK hP12 rfl (q0 := 0) rfl, PW_at hP12 hD12 hK hS12 hA hG [0, 1, 2, 3, 4, 5, 6, 7] rfl (by decide)⟩ rfl rfl hl.1 rfl (lv_room (Nat.le_of_ble_eq_true rfl)) dX3_readLine_55 ⟨(Nat.le_of_ble_eq_true rfl), (Nat.le_of_ble_eq_true rfl)⟩) hP12 hD12 hS12 hA [0, 1, 2, 3, 4, 5, 6, 7] [] [0, 1, 2, 3, 4, 5, 6, 7] rfl rfl (by decide) (by decide) (by decide) rfl (fun H17 lo17 hz16 hP17 hD17 hS17 => ?_)
        clear hP12 hD12 hS12
        obtain ⟨hq1, hq99⟩ := Prod.mk.inj (Option.some.inj hm16)
        obtain ⟨hq2, hq99⟩ := Prod.mk.inj (hq99)
        obtain ⟨hq3, hq99⟩ := Prod.mk.inj (hq99)
        obtain ⟨hq4, hq99⟩ := Prod.mk.inj (hq99)
        obtain ⟨hq5, hq99⟩ := Prod.mk.inj (hq99)
        obtain ⟨hq6, hq99⟩ := Prod.mk.inj (hq99)
        obtain ⟨hq7, hq99⟩ := Prod.mk.inj (hq99)
        obtain ⟨hq8, hq99⟩ := Prod.mk.inj (hq99)
        obtain ⟨hq9, hq99⟩ := Prod.mk.inj (hq99)
        obtain ⟨hq10, hq99⟩ := Prod.mk.inj (hq99)
        obtain ⟨hq11, hq12⟩ := Prod.mk.inj (hq99)
        subst hq1
        subst hq2
        subst hq3
        subst hq4
        subst hq5
        subst hq6
        subst hq7
        subst hq8
        subst hq9
        subst hq10
        subst hq11
        subst hq12
        exact W.zret (ty := .boolean) hx hb hr hz16 (fun t ht hW => ⟨⟨_, (), rfl, ⟨rfl, hz16⟩, by rw [ht]; exact hP17, va_K.moved hW.alike hK, hD17⟩, hS17.F ht⟩) hS17.2.2 dX3_readLine_58
      · have hm15 := zz_nf c13 hm11
        refine lv_aload_n hx hb dX3_readLine_48 rfl (lv_at hl 0 rfl) ?_
        obtain ⟨r18, rk_18, rp_18, rt_18, kp_18, kb_18, kk_18, kn_18, df_18, h18, hm18⟩ := ob9_e hm15
        refine gcall_b (ws' := (w_Reader cI cB cZ aR aRt aK aT aTb aD aDp aDf rl rk_18 rp_18 rt_18 kp_18 kb_18 kk_18 kn_18 tl tb dg ds dn dp df_18)) (va_runV (As := []) (rest := []) ⟨hx, hb, hml, hown, hts⟩ (c_X3_readSet l D cI cB cZ ta aR aRt aK aT aTb aD aDp aDf H12.size rl rk rp rt kp kb kk kn tl tb dg ds dn dp df r18 rk_18 rp_18 rt_18 kp_18 kb_18 kk_18 kn_18 df_18 h18) (cwV 0 hts gX3_readLine_X3_readSet rfl rfl rfl (by decide +kernel) ⟨(Nat.le_of_ble_eq_true rfl), (Nat.le_of_ble_eq_true rfl)⟩) ⟨PW_blind, va_recv hK hP12 rfl (q0 := 0) rfl, PW_at hP12 hD12 hK hS12 hA hG [0, 1, 2, 3, 4, 5, 6, 7] rfl (by decide)⟩ rfl rfl hl.1 rfl (lv_room (Nat.le_of_ble_eq_true rfl)) dX3_readLine_49 ⟨(Nat.le_of_ble_eq_true rfl), (Nat.le_of_ble_eq_true rfl)⟩) hP12 hD12 hS12 hA [0, 1, 2, 3, 4, 5, 6, 7] [] [0, 1, 2, 3, 4, 5, 6, 7] rfl rfl (by decide) (by decide) (by decide) rfl (fun H19 lo19 hz18 hP19 hD19 hS19 => ?_)
        clear hP12 hD12 hS12
        obtain ⟨hq1, hq99⟩ := Prod.mk.inj (Option.some.inj hm18)
        obtain ⟨hq2, hq99⟩ := Prod.mk.inj (hq99)
        obtain ⟨hq3, hq99⟩ := Prod.mk.inj (hq99)
        obtain ⟨hq4, hq99⟩ := Prod.mk.inj (hq99)
        obtain ⟨hq5, hq99⟩ := Prod.mk.inj (hq99)
        obtain ⟨hq6, hq99⟩ := Prod.mk.inj (hq99)
        obtain ⟨hq7, hq99⟩ := Prod.mk.inj (hq99)
        obtain ⟨hq8, hq99⟩ := Prod.mk.inj (hq99)
        obtain ⟨hq9, hq99⟩ := Prod.mk.inj (hq99)
        obtain ⟨hq10, hq99⟩ := Prod.mk.inj (hq99)
        obtain ⟨hq11, hq12⟩ := Prod.mk.inj (hq99)
        subst hq1
        subst hq2
        subst hq3
        subst hq4
        subst hq5
        subst hq6
        subst hq7
        subst hq8
        subst hq9
        subst hq10
        subst hq11
        subst hq12
        exact W.zret (ty := .boolean) hx hb hr hz18 (fun t ht hW => ⟨⟨_, (), rfl, ⟨rfl, hz18⟩, by rw [ht]; exact hP19, va_K.moved hW.alike hK, hD19⟩, hS19.F ht⟩) hS19.2.2 dX3_readLine_52
    · have hm10 := zz_nf c8 hm6
      refine lv_aload_n hx hb dX3_readLine_30 rfl (lv_at hl 0 rfl) ?_
      refine lv_iconst (v := (0 : Int32)) hx hb dX3_readLine_31 (by decide) ?_
      obtain ⟨r20, rk_20, rp_20, kp_20, kb_20, kk_20, kn_20, dg_20, dn_20, dp_20, df_20, h20, hm20⟩ := ob11_e hm10
      refine gcall_b (ws' := (w_Reader cI cB cZ aR aRt aK aT aTb aD aDp aDf rl rk_20 rp_20 rt kp_20 kb_20 kk_20 kn_20 tl tb dg_20 ds dn_20 dp_20 df_20)) (va_runV (As := [.int (0 : Int32)]) (rest := []) ⟨hx, hb, hml, hown, hts⟩ (c_X3_readNode l D cI cB cZ ta aR aRt aK aT aTb aD aDp aDf H7.size rl rk rp rt kp kb kk kn tl tb dg ds dn dp df (0 : Int32) r20 rk_20 rp_20 kp_20 kb_20 kk_20 kn_20 dg_20 dn_20 dp_20 df_20 h20) (cwV 1 hts gX3_readLine_X3_readNode rfl rfl rfl (by decide +kernel) ⟨(Nat.le_of_ble_eq_true rfl), (Nat.le_of_ble_eq_true rfl)⟩) ⟨PW_blind, va_recv hK hP7 rfl (q0 := 0) rfl, PW_at hP7 hD7 hK hS7 hA hG [0, 1, 2, 3, 4, 5, 6, 7] rfl (by decide)⟩ rfl rfl hl.1 rfl (lv_room (Nat.le_of_ble_eq_true rfl)) dX3_readLine_32 ⟨(Nat.le_of_ble_eq_true rfl), (Nat.le_of_ble_eq_true rfl)⟩) hP7 hD7 hS7 hA [0, 1, 2, 3, 4, 5, 6, 7] [] [0, 1, 2, 3, 4, 5, 6, 7] rfl rfl (by decide) (by decide) (by decide) rfl (fun H21 lo21 hz20 hP21 hD21 hS21 => ?_)
      clear hP7 hD7 hS7
      obtain ⟨hq1, hq99⟩ := Prod.mk.inj (Option.some.inj hm20)
      obtain ⟨hq2, hq99⟩ := Prod.mk.inj (hq99)
      obtain ⟨hq3, hq99⟩ := Prod.mk.inj (hq99)
      obtain ⟨hq4, hq99⟩ := Prod.mk.inj (hq99)
      obtain ⟨hq5, hq99⟩ := Prod.mk.inj (hq99)
      obtain ⟨hq6, hq99⟩ := Prod.mk.inj (hq99)
      obtain ⟨hq7, hq99⟩ := Prod.mk.inj (hq99)
      obtain ⟨hq8, hq99⟩ := Prod.mk.inj (hq99)
      obtain ⟨hq9, hq99⟩ := Prod.mk.inj (hq99)
      obtain ⟨hq10, hq99⟩ := Prod.mk.inj (hq99)
      obtain ⟨hq11, hq12⟩ := Prod.mk.inj (hq99)
      subst hq1
      subst hq2
      subst hq3
      subst hq4
      subst hq5
      subst hq6
      subst hq7
      subst hq8
      subst hq9
      subst hq10
      subst hq11
      subst hq12
      exact W.zret (ty := .boolean) hx hb hr hz20 (fun t ht hW => ⟨⟨_, (), rfl, ⟨rfl, hz20⟩, by rw [ht]; exact hP21, va_K.moved hW.alike hK, hD21⟩, hS21.F ht⟩) hS21.2.2 dX3_readLine_35
  · have hm5 := zz_nf c3 hm1
    refine lv_aload_n hx hb dX3_readLine_12 rfl (lv_at hl 0 rfl) ?_
    refine lv_iconst (v := (1 : Int32)) hx hb dX3_readLine_13 (by decide) ?_
    obtain ⟨r22, rk_22, rp_22, kp_22, kb_22, kk_22, kn_22, dg_22, dn_22, dp_22, df_22, h22, hm22⟩ := ob11_e hm5
    refine gcall_b (ws' := (w_Reader cI cB cZ aR aRt aK aT aTb aD aDp aDf rl rk_22 rp_22 rt kp_22 kb_22 kk_22 kn_22 tl tb dg_22 ds dn_22 dp_22 df_22)) (va_runV (As := [.int (1 : Int32)]) (rest := []) ⟨hx, hb, hml, hown, hts⟩ (c_X3_readNode l D cI cB cZ ta aR aRt aK aT aTb aD aDp aDf H2.size rl rk rp rt kp kb kk kn tl tb dg ds dn dp df (1 : Int32) r22 rk_22 rp_22 kp_22 kb_22 kk_22 kn_22 dg_22 dn_22 dp_22 df_22 h22) (cwV 1 hts gX3_readLine_X3_readNode rfl rfl rfl (by decide +kernel) ⟨(Nat.le_of_ble_eq_true rfl), (Nat.le_of_ble_eq_true rfl)⟩) ⟨PW_blind, va_recv hK hP2 rfl (q0 := 0) rfl, PW_at hP2 hD2 hK hS2 hA hG [0, 1, 2, 3, 4, 5, 6, 7] rfl (by decide)⟩ rfl rfl hl.1 rfl (lv_room (Nat.le_of_ble_eq_true rfl)) dX3_readLine_14 ⟨(Nat.le_of_ble_eq_true rfl), (Nat.le_of_ble_eq_true rfl)⟩) hP2 hD2 hS2 hA [0, 1, 2, 3, 4, 5, 6, 7] [] [0, 1, 2, 3, 4, 5, 6, 7] rfl rfl (by decide) (by decide) (by decide) rfl (fun H23 lo23 hz22 hP23 hD23 hS23 => ?_)
    clear hP2 hD2 hS2
    obtain ⟨hq1, hq99⟩ := Prod.mk.inj (Option.some.inj hm22)
    obtain ⟨hq2, hq99⟩ := Prod.mk.inj (hq99)
    obtain ⟨hq3, hq99⟩ := Prod.mk.inj (hq99)
    obtain ⟨hq4, hq99⟩ := Prod.mk.inj (hq99)
    obtain ⟨hq5, hq99⟩ := Prod.mk.inj (hq99)
    obtain ⟨hq6, hq99⟩ := Prod.mk.inj (hq99)
    obtain ⟨hq7, hq99⟩ := Prod.mk.inj (hq99)
    obtain ⟨hq8, hq99⟩ := Prod.mk.inj (hq99)
    obtain ⟨hq9, hq99⟩ := Prod.mk.inj (hq99)
    obtain ⟨hq10, hq99⟩ := Prod.mk.inj (hq99)
    obtain ⟨hq11, hq12⟩ := Prod.mk.inj (hq99)
    subst hq1
    subst hq2
    subst hq3
    subst hq4
    subst hq5
    subst hq6
    subst hq7
    subst hq8
    subst hq9
    subst hq10
    subst hq11
    subst hq12
    exact W.zret (ty := .boolean) hx hb hr hz22 (fun t ht hW => ⟨⟨_, (), rfl, ⟨rfl, hz22⟩, by rw [ht]; exact hP23, va_K.moved hW.alike hK, hD23⟩, hS23.F ht⟩) hS23.2.2 dX3_readLine_17
