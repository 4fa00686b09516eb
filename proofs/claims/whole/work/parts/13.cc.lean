theorem iw_X1_keepAct_X1 : ∀ w ∈ wsX10, w ∈ wsX1_keepAct := by decide +kernel
set_option maxHeartbeats 4000000 in
set_option maxRecDepth 100000 in
theorem c_X1_keepAct (l : Launch) (D : va_G) (cI cB cZ : ClassId) (ta : Nat → Nat) (aH : Nat) (aHk : Nat) (aHp : Nat) (aHb : Nat) (aHr : Nat) (aP : Nat) (aPp : Nat) (aPf : Nat) (sz : Nat) (jl : Int32) (jn : Int32) (jk : (Nat → Int32)) (jp : (Nat → Int32)) (jb : (Nat → Int32)) (jr : (Nat → Int32)) (pg : Int32) (ps : Int32) (pn : Int32) (pp : (Nat → Int32)) (pf : (Nat → Int32)) (x1 : Int32) (x2 : Int32) (u_jl : Int32) (u_jn : Int32) (u_jk : (Nat → Int32)) (u_jp : (Nat → Int32)) (hm : m_X1_keepAct jl jn jk jp x1 x2 = some (u_jl, u_jn, u_jk, u_jp)) : Met l yX1_keepAct wsX1_keepAct ({ frames := 1, cells := 0, slots := 0, locals := 21 } : Room) (va_Pc [.ref aH, .int x1, .int x2] (PW D cI cB cZ ta (w_Hist cI cB cZ aH aHk aHp aHb aHr aP aPp aPf jl jn jk jp jb jr pg ps pn pp pf) sz)) (QV D cI cB cZ (va_A (w_Hist cI cB cZ aH aHk aHp aHb aHr aP aPp aPf jl jn jk jp jb jr pg ps pn pp pf) sz) (w_Hist cI cB cZ aH aHk aHp aHb aHr aP aPp aPf u_jl u_jn u_jk u_jp jb jr pg ps pn pp pf)) 0 0 (va_A (w_Hist cI cB cZ aH aHk aHp aHb aHr aP aPp aPf jl jn jk jp jb jr pg ps pn pp pf) sz) := by
  refine Met.ofW (cc := cX1_keepAct) (maxL := 3) (ret := none) (by decide) rfl ?_
  intro p e s m args below meth c s₁ B hml hv
  obtain ⟨rfl, hsz, hP, hK, hD0, hG⟩ := hv
  have hx := B.exec
  have hb := B.bytes
  have hr := B.returns
  have hts := atoms_spec (ws := wsX1_keepAct) B.pre
  have hown : s.vm.findClass RX1 = some m.cls := findClass_of_methodNamed B.named
  have hlocks := B.notSynchronized
  subst hsz
  have hD := hD0.self (sz := s.heap.size)
  clear hD0
  have hA0 : ∀ q : Nat, s.heap.size ≤ q → va_A (w_Hist cI cB cZ aH aHk aHp aHb aHr aP aPp aPf jl jn jk jp jb jr pg ps pn pp pf) s.heap.size q := fun q h => Or.inr h
  generalize hAe : va_A (w_Hist cI cB cZ aH aHk aHp aHb aHr aP aPp aPf jl jn jk jp jb jr pg ps pn pp pf) s.heap.size = A at hD hG hA0 ⊢
  have hA : ∀ q : Nat, s.heap.size ≤ q → A q := hA0
  clear hA0
  have hS : va_S A s.heap s.heap [] := va_S.rf
  have iw_X1 := iw_X1_keepAct_X1
  have hl := lv_entry ([.ref aH, .int x1, .int x2]) (n := 3) (Nat.le_of_ble_eq_true rfl)
  rw [lg_entry_eq]
  generalize (lg_sl ([.ref aH, .int x1, .int x2]) ++ List.replicate (3 - (lg_sl ([.ref aH, .int x1, .int x2])).length) Slot.unset).toArray = ls at hl ⊢
  have hl : lv_has ls 3 [(0, .ref aH), (1, .int x1), (2, .int x2)] := hl
  replace hm : (if ((jl + (1 : Int32)) - (jl + (1 : Int32)) / (10 : Int32) * (10 : Int32)) < 0 ∨ 10 ≤ ((jl + (1 : Int32)) - (jl + (1 : Int32)) / (10 : Int32) * (10 : Int32)).toNatClampNeg then none else (if ((jl + (1 : Int32)) - (jl + (1 : Int32)) / (10 : Int32) * (10 : Int32)) < 0 ∨ 10 ≤ ((jl + (1 : Int32)) - (jl + (1 : Int32)) / (10 : Int32) * (10 : Int32)).toNatClampNeg then none else some (((jl + (1 : Int32)) - (jl + (1 : Int32)) / (10 : Int32) * (10 : Int32)), (if (10 : Int32) < (jn + (1 : Int32)) then (10 : Int32) else (jn + (1 : Int32))), (upd jk ((jl + (1 : Int32)) - (jl + (1 : Int32)) / (10 : Int32) * (10 : Int32)).toNatClampNeg x1), (upd jp ((jl + (1 : Int32)) - (jl + (1 : Int32)) / (10 : Int32) * (10 : Int32)).toNatClampNeg x2)))) = some (u_jl, u_jn, u_jk, u_jp) := hm
  refine lv_aload_n hx hb dX1_keepAct_0 rfl (lv_at hl 0 rfl) ?_
  refine lv_aload_n hx hb dX1_keepAct_1 rfl (lv_at hl 0 rfl) ?_
  refine va_get (D := D) (ci := 1) (v := .int jl) (C := RX1) (T := TX1) (N := 7) hx hb hts iw_X1 hown hK hP 0 rfl rfl 5 (by decide) (hts (.fieldLink RX1 26 "VarianceBridge$History" "latest" "I") (by decide +kernel)) (fun _ h9 => h9) rfl dX1_keepAct_2 ?_
  refine lv_iconst (v := (1 : Int32)) hx hb dX1_keepAct_5 (by decide) ?_
  refine lv_iadd hx hb dX1_keepAct_6 ?_
  refine lv_bipush (v := (10 : Int32)) hx hb dX1_keepAct_7 (by decide) ?_
  refine lv_irem hx hb dX1_keepAct_9 (by decide) ?_
  refine va_put (D := D) (ci := 1) (v := .int ((jl + (1 : Int32)) - (jl + (1 : Int32)) / (10 : Int32) * (10 : Int32))) (ty := .int) (C := RX1) (T := TX1) (N := 7) hx hb hts iw_X1 tyX1 tyX1_ok nmX1 hown hK hP hD hS 0 rfl rfl 5 (by decide) (hts (.fieldLink RX1 26 "VarianceBridge$History" "latest" "I") (by decide +kernel)) (fun _ h9 => h9) rfl (by decide +kernel) rfl rfl (Nat.le_of_ble_eq_true rfl) dX1_keepAct_10 (fun H1 lo1 hP1 hD1 hS1 => ?_)
  replace hP1 : va_P D vwCl (w_Hist cI cB cZ aH aHk aHp aHb aHr aP aPp aPf ((jl + (1 : Int32)) - (jl + (1 : Int32)) / (10 : Int32) * (10 : Int32)) jn jk jp jb jr pg ps pn pp pf) H1 := hP1
  replace hD1 : va_D A (w_Hist cI cB cZ aH aHk aHp aHb aHr aP aPp aPf ((jl + (1 : Int32)) - (jl + (1 : Int32)) / (10 : Int32) * (10 : Int32)) jn jk jp jb jr pg ps pn pp pf) := hD1
  clear hP hD hS
  refine lv_aload_n hx hb dX1_keepAct_13 rfl (lv_at hl 0 rfl) ?_
  refine lv_aload_n hx hb dX1_keepAct_14 rfl (lv_at hl 0 rfl) ?_
  refine va_get (D := D) (ci := 1) (v := .int jn) (C := RX1) (T := TX1) (N := 7) hx hb hts iw_X1 hown hK hP1 0 rfl rfl 6 (by decide) (hts (.fieldLink RX1 30 "VarianceBridge$History" "kept" "I") (by decide +kernel)) (fun _ h9 => h9) rfl dX1_keepAct_15 ?_
  refine lv_iconst (v := (1 : Int32)) hx hb dX1_keepAct_18 (by decide) ?_
  refine lv_iadd hx hb dX1_keepAct_19 ?_
  refine lv_bipush (v := (10 : Int32)) hx hb dX1_keepAct_20 (by decide) ?_
  refine va_mmin hx hb (by rw [hml]; exact hl.1.symm) hown (hts (.methodLink RX1 53 Lib.Math.min.name) (by decide +kernel)) (hts (.static Lib.Math.min.name) (by decide +kernel)) (hts (.initialized "java/lang/Math") (by decide +kernel)) (hts (.code Lib.Math.min.name Lib.Math.min.code 2 (some .int)) (by decide +kernel)) (Nat.le_of_ble_eq_true rfl) (Nat.le_of_ble_eq_true rfl) (Nat.le_of_ble_eq_true rfl) (Nat.le_of_ble_eq_true rfl) dX1_keepAct_22 ?_
  refine va_put (D := D) (ci := 1) (v := .int (if (10 : Int32) < (jn + (1 : Int32)) then (10 : Int32) else (jn + (1 : Int32)))) (ty := .int) (C := RX1) (T := TX1) (N := 7) hx hb hts iw_X1 tyX1 tyX1_ok nmX1 hown hK hP1 hD1 hS1 0 rfl rfl 6 (by decide) (hts (.fieldLink RX1 30 "VarianceBridge$History" "kept" "I") (by decide +kernel)) (fun _ h9 => h9) rfl (by decide +kernel) rfl rfl (Nat.le_of_ble_eq_true rfl) dX1_keepAct_25 (fun H2 lo2 hP2 hD2 hS2 => ?_)
  replace hP2 : va_P D vwCl (w_Hist cI cB cZ aH aHk aHp aHb aHr aP aPp aPf ((jl + (1 : Int32)) - (jl + (1 : Int32)) / (10 : Int32) * (10 : Int32)) (if (10 : Int32) < (jn + (1 : Int32)) then (10 : Int32) else (jn + (1 : Int32))) jk jp jb jr pg ps pn pp pf) H2 := hP2
  replace hD2 : va_D A (w_Hist cI cB cZ aH aHk aHp aHb aHr aP aPp aPf ((jl + (1 : Int32)) - (jl + (1 : Int32)) / (10 : Int32) * (10 : Int32)) (if (10 : Int32) < (jn + (1 : Int32)) then (10 : Int32) else (jn + (1 : Int32))) jk jp jb jr pg ps pn pp pf) := hD2
  clear hP1 hD1 hS1
  refine lv_aload_n hx hb dX1_keepAct_28 rfl (lv_at hl 0 rfl) ?_
  refine va_get (D := D) (ci := 1) (v := .ref aHk) (C := RX1) (T := TX1) (N := 7) hx hb hts iw_X1 hown hK hP2 0 rfl rfl 1 (by decide) (hts (.fieldLink RX1 9 "VarianceBridge$History" "kinds" "[I") (by decide +kernel)) (fun _ h9 => h9) rfl dX1_keepAct_29 ?_
  refine lv_aload_n hx hb dX1_keepAct_32 rfl (lv_at hl 0 rfl) ?_
  refine va_get (D := D) (ci := 1) (v := .int ((jl + (1 : Int32)) - (jl + (1 : Int32)) / (10 : Int32) * (10 : Int32))) (C := RX1) (T := TX1) (N := 7) hx hb hts iw_X1 hown hK hP2 0 rfl rfl 5 (by decide) (hts (.fieldLink RX1 26 "VarianceBridge$History" "latest" "I") (by decide +kernel)) (fun _ h9 => h9) rfl dX1_keepAct_33 ?_
  refine lv_iload_n hx hb dX1_keepAct_36 rfl (lv_at hl 1 rfl) ?_
  obtain ⟨c3, hm4⟩ := zz_no hm
  refine va_iast hx hb hK hP2 hD2 hS2 1 0 rfl rfl c3 dX1_keepAct_37 (fun H5 lo5 hP5 hD5 hS5 => ?_)
  replace hP5 : va_P D vwCl (w_Hist cI cB cZ aH aHk aHp aHb aHr aP aPp aPf ((jl + (1 : Int32)) - (jl + (1 : Int32)) / (10 : Int32) * (10 : Int32)) (if (10 : Int32) < (jn + (1 : Int32)) then (10 : Int32) else (jn + (1 : Int32))) (upd jk ((jl + (1 : Int32)) - (jl + (1 : Int32)) / (10 : Int32) * (10 : Int32)).toNatClampNeg x1) jp jb jr pg ps pn pp pf) H5 := hP5
  replace hD5 : va_D A (w_Hist cI cB cZ aH aHk aHp aHb aHr aP aPp aPf ((jl + (1 : Int32)) - (jl + (1 : Int32)) / (10 : Int32) * (10 : Int32)) (if (10 : Int32) < (jn + (1 : Int32)) then (10 : Int32) else (jn + (1 : Int32))) (upd jk ((jl + (1 : Int32)) - (jl + (1 : Int32)) / (10 : Int32) * (10 : Int32)).toNatClampNeg x1) jp jb jr pg ps pn pp pf) := hD5
  clear hP2 hD2 hS2
  refine lv_aload_n hx hb dX1_keepAct_38 rfl (lv_at hl 0 rfl) ?_
  refine va_get (D := D) (ci := 1) (v := .ref aHp) (C := RX1) (T := TX1) (N := 7) hx hb hts iw_X1 hown hK hP5 0 rfl rfl 2 (by decide) (hts (.fieldLink RX1 15 "VarianceBridge$History" "places" "[I") (by decide +kernel)) (fun _ h9 => h9) rfl dX1_keepAct_39 ?_
  refine lv_aload_n hx hb dX1_keepAct_42 rfl (lv_at hl 0 rfl) ?_
  refine va_get (D := D) (ci := 1) (v := .int ((jl + (1 : Int32)) - (jl + (1 : Int32)) / (10 : Int32) * (10 : Int32))) (C := RX1) (T := TX1) (N := 7) hx hb hts iw_X1 hown hK hP5 0 rfl rfl 5 (by decide) (hts (.fieldLink RX1 26 "VarianceBridge$History" "latest" "I") (by decide +kernel)) (fun _ h9 => h9) rfl dX1_keepAct_43 ?_
  refine lv_iload_n hx hb dX1_keepAct_46 rfl (lv_at hl 2 rfl) ?_
  obtain ⟨c6, hm7⟩ := zz_no hm4
  refine va_iast hx hb hK hP5 hD5 hS5 2 0 rfl rfl c6 dX1_keepAct_47 (fun H8 lo8 hP8 hD8 hS8 => ?_)
  replace hP8 : va_P D vwCl (w_Hist cI cB cZ aH aHk aHp aHb aHr aP aPp aPf ((jl + (1 : Int32)) - (jl + (1 : Int32)) / (10 : Int32) * (10 : Int32)) (if (10 : Int32) < (jn + (1 : Int32)) then (10 : Int32) else (jn + (1 : Int32))) (upd jk ((jl + (1 : Int32)) - (jl + (1 : Int32)) / (10 : Int32) * (10 : Int32)).toNatClampNeg x1) (upd jp ((jl + (1 : Int32)) - (jl + (1 : Int32)) / (10 : Int32) * (10 : Int32)).toNatClampNeg x2) jb jr pg ps pn pp pf) H8 := hP8
  replace hD8 : va_D A (w_Hist cI cB cZ aH aHk aHp aHb aHr aP aPp aPf ((jl + (1 : Int32)) - (jl + (1 : Int32)) / (10 : Int32) * (10 : Int32)) (if (10 : Int32) < (jn + (1 : Int32)) then (10 : Int32) else (jn + (1 : Int32))) (upd jk ((jl + (1 : Int32)) - (jl + (1 : Int32)) / (10 : Int32) * (10 : Int32)).toNatClampNeg x1) (upd jp ((jl + (1 : Int32)) - (jl + (1 : Int32)) / (10 : Int32) * (10 : Int32)).toNatClampNeg x2) jb jr pg ps pn pp pf) := hD8
  clear hP5 hD5 hS5
  obtain ⟨hq1, hq99⟩ := Prod.mk.inj (Option.some.inj hm7)
  obtain ⟨hq2, hq99⟩ := Prod.mk.inj (hq99)
  obtain ⟨hq3, hq4⟩ := Prod.mk.inj (hq99)
  subst hq1
  subst hq2
  subst hq3
  subst hq4
  exact W.vret hx hb hr (fun t ht hW => ⟨⟨(), rfl, trivial, by rw [ht]; exact hP8, va_K.moved hW.alike hK, hD8⟩, hS8.F ht⟩) hS8.2.2 dX1_keepAct_48
theorem iw_X1_keepScene_X1 : ∀ w ∈ wsX10, w ∈ wsX1_keepScene := by decide +kernel
theorem iw_X1_keepScene_X2 : ∀ w ∈ wsX20, w ∈ wsX1_keepScene := by decide +kernel
set_option maxHeartbeats 4000000 in
set_option maxRecDepth 100000 in
theorem c_X1_keepScene (l : Launch) (D : va_G) (cI cB cZ : ClassId) (ta : Nat → Nat) (aH : Nat) (aHk : Nat) (aHp : Nat) (aHb : Nat) (aHr : Nat) (aP : Nat) (aPp : Nat) (aPf : Nat) (sz : Nat) (jl : Int32) (jn : Int32) (jk : (Nat → Int32)) (jp : (Nat → Int32)) (jb : (Nat → Int32)) (jr : (Nat → Int32)) (pg : Int32) (ps : Int32) (pn : Int32) (pp : (Nat → Int32)) (pf : (Nat → Int32)) (x1 : Int32) (u_jl : Int32) (u_jn : Int32) (u_jk : (Nat → Int32)) (u_jp : (Nat → Int32)) (u_jr : (Nat → Int32)) (hm : m_X1_keepScene jl jn jk jp jr pf x1 = some (u_jl, u_jn, u_jk, u_jp, u_jr)) : Met l yX1_keepScene wsX1_keepScene ({ frames := 2, cells := 0, slots := 0, locals := 48 } : Room) (va_Pc [.ref aH, .int x1] (PW D cI cB cZ ta (w_Hist cI cB cZ aH aHk aHp aHb aHr aP aPp aPf jl jn jk jp jb jr pg ps pn pp pf) sz)) (QV D cI cB cZ (va_A (w_Hist cI cB cZ aH aHk aHp aHb aHr aP aPp aPf jl jn jk jp jb jr pg ps pn pp pf) sz) (w_Hist cI cB cZ aH aHk aHp aHb aHr aP aPp aPf u_jl u_jn u_jk u_jp jb u_jr pg ps pn pp pf)) 0 0 (va_A (w_Hist cI cB cZ aH aHk aHp aHb aHr aP aPp aPf jl jn jk jp jb jr pg ps pn pp pf) sz) := by
  refine Met.ofW (cc := cX1_keepScene) (maxL := 2) (ret := none) (by decide) rfl ?_
  intro p e s m args below meth c s₁ B hml hv
  obtain ⟨rfl, hsz, hP, hK, hD0, hG⟩ := hv
  have hx := B.exec
  have hb := B.bytes
  have hr := B.returns
  have hts := atoms_spec (ws := wsX1_keepScene) B.pre
  have hown : s.vm.findClass RX1 = some m.cls := findClass_of_methodNamed B.named
  have hlocks := B.notSynchronized
  subst hsz
  have hD := hD0.self (sz := s.heap.size)
  clear hD0
  have hA0 : ∀ q : Nat, s.heap.size ≤ q → va_A (w_Hist cI cB cZ aH aHk aHp aHb aHr aP aPp aPf jl jn jk jp jb jr pg ps pn pp pf) s.heap.size q := fun q h => Or.inr h
  generalize hAe : va_A (w_Hist cI cB cZ aH aHk aHp aHb aHr aP aPp aPf jl jn jk jp jb jr pg ps pn pp pf) s.heap.size = A at hD hG hA0 ⊢
  have hA : ∀ q : Nat, s.heap.size ≤ q → A q := hA0
  clear hA0
  have hS : va_S A s.heap s.heap [] := va_S.rf
  have iw_X1 := iw_X1_keepScene_X1
  have iw_X2 := iw_X1_keepScene_X2
  have hl := lv_entry ([.ref aH, .int x1]) (n := 2) (Nat.le_of_ble_eq_true rfl)
  rw [lg_entry_eq]
  generalize (lg_sl ([.ref aH, .int x1]) ++ List.replicate (2 - (lg_sl ([.ref aH, .int x1])).length) Slot.unset).toArray = ls at hl ⊢
  have hl : lv_has ls 2 [(0, .ref aH), (1, .int x1)] := hl
  replace hm : (ob4 (m_X1_keepAct jl jn jk jp (0 : Int32) x1) (fun jl_1 jn_1 jk_1 jp_1 => (if ¬ (x1 * (100 : Int32)) < 0 ∧ ¬ (jl_1 * (100 : Int32)) < 0 ∧ ¬ (100 : Int32) < 0 ∧ (x1 * (100 : Int32)).toNatClampNeg + (100 : Int32).toNatClampNeg ≤ 400 ∧ (jl_1 * (100 : Int32)).toNatClampNeg + (100 : Int32).toNatClampNeg ≤ 1000 then some (jl_1, jn_1, jk_1, jp_1, (va_cpy pf jr (x1 * (100 : Int32)).toNatClampNeg (jl_1 * (100 : Int32)).toNatClampNeg (100 : Int32).toNatClampNeg)) else none))) = some (u_jl, u_jn, u_jk, u_jp, u_jr) := hm
  refine lv_aload_n hx hb dX1_keepScene_0 rfl (lv_at hl 0 rfl) ?_
  refine lv_iconst (v := (0 : Int32)) hx hb dX1_keepScene_1 (by decide) ?_
  refine lv_iload_n hx hb dX1_keepScene_2 rfl (lv_at hl 1 rfl) ?_
  obtain ⟨jl_1, jn_1, jk_1, jp_1, h1, hm1⟩ := ob4_e hm
  refine gcall_v (ws' := (w_Hist cI cB cZ aH aHk aHp aHb aHr aP aPp aPf jl_1 jn_1 jk_1 jp_1 jb jr pg ps pn pp pf)) (va_runV (As := [.int (0 : Int32), .int x1]) (rest := []) ⟨hx, hb, hml, hown, hts⟩ (c_X1_keepAct l D cI cB cZ ta aH aHk aHp aHb aHr aP aPp aPf s.heap.size jl jn jk jp jb jr pg ps pn pp pf (0 : Int32) x1 jl_1 jn_1 jk_1 jp_1 h1) (cwV 2 hts gX1_keepScene_X1_keepAct rfl rfl rfl (by decide +kernel) ⟨(Nat.le_of_ble_eq_true rfl), (Nat.le_of_ble_eq_true rfl)⟩) ⟨PW_blind, va_recv hK hP rfl (q0 := 0) rfl, PW_at hP hD hK hS hA hG [0, 1, 2, 3, 4, 5, 6, 7] rfl (by decide)⟩ rfl rfl hl.1 rfl (lv_room (Nat.le_of_ble_eq_true rfl)) dX1_keepScene_3 ⟨(Nat.le_of_ble_eq_true rfl), (Nat.le_of_ble_eq_true rfl)⟩) hP hD hS hA [0, 1, 2, 3, 4, 5, 6, 7] [] [0, 1, 2, 3, 4, 5, 6, 7] rfl rfl (by decide) (by decide) (by decide) rfl (fun H2 lo2 hP2 hD2 hS2 => ?_)
  clear hP hD hS
  refine lv_aload_n hx hb dX1_keepScene_6 rfl (lv_at hl 0 rfl) ?_
  refine va_get (D := D) (ci := 1) (v := .ref aP) (C := RX1) (T := TX1) (N := 7) hx hb hts iw_X1 hown hK hP2 0 rfl rfl 0 (by decide) (hts (.fieldLink RX1 33 "VarianceBridge$History" "plan" "LVarianceBridge$Plan;") (by decide +kernel)) (fun _ h9 => h9) rfl dX1_keepScene_7 ?_
  refine va_getN (D := D) (ci := 2) (v := .ref aPf) (C := RX2) (T := TX2) (N := 5) hx hb hts iw_X2 hown hK hP2 5 rfl rfl 1 (by decide) (va_Nw.use rfl (hG.1 (.fieldLinkNest RX1 41 RX2 "factors" "[I" RX6) (by decide +kernel))) (fun _ h9 => h9) rfl dX1_keepScene_10 ?_
  refine lv_iload_n hx hb dX1_keepScene_13 rfl (lv_at hl 1 rfl) ?_
  refine lv_bipush (v := (100 : Int32)) hx hb dX1_keepScene_14 (by decide) ?_
  refine lv_imul hx hb dX1_keepScene_16 ?_
  refine lv_aload_n hx hb dX1_keepScene_17 rfl (lv_at hl 0 rfl) ?_
  refine va_get (D := D) (ci := 1) (v := .ref aHr) (C := RX1) (T := TX1) (N := 7) hx hb hts iw_X1 hown hK hP2 0 rfl rfl 4 (by decide) (hts (.fieldLink RX1 23 "VarianceBridge$History" "rowsBefore" "[I") (by decide +kernel)) (fun _ h9 => h9) rfl dX1_keepScene_18 ?_
  refine lv_aload_n hx hb dX1_keepScene_21 rfl (lv_at hl 0 rfl) ?_
  refine va_get (D := D) (ci := 1) (v := .int jl_1) (C := RX1) (T := TX1) (N := 7) hx hb hts iw_X1 hown hK hP2 0 rfl rfl 5 (by decide) (hts (.fieldLink RX1 26 "VarianceBridge$History" "latest" "I") (by decide +kernel)) (fun _ h9 => h9) rfl dX1_keepScene_22 ?_
  refine lv_bipush (v := (100 : Int32)) hx hb dX1_keepScene_25 (by decide) ?_
  refine lv_imul hx hb dX1_keepScene_27 ?_
  refine lv_bipush (v := (100 : Int32)) hx hb dX1_keepScene_28 (by decide) ?_
  obtain ⟨c3, hm4⟩ := zz_ys hm1
  refine va_copyi hx hb (by rw [hml]; exact hl.1.symm) hown (hts (.methodLink RX1 44 arraycopyName) (by decide +kernel)) (hts (.native arraycopyName) (by decide +kernel)) (hts (.static arraycopyName) (by decide +kernel)) (hts (.initialized "java/lang/System") (by decide +kernel)) hK hP2 hD2 hS2 7 4 0 0 rfl rfl rfl rfl rfl c3.1 c3.2.1 c3.2.2.1 c3.2.2.2.1 c3.2.2.2.2 (fun _ _ => rfl) (Nat.le_of_ble_eq_true rfl) (Nat.le_of_ble_eq_true rfl) dX1_keepScene_30 (fun H5 lo5 hP5 hD5 hS5 => ?_)
  replace hP5 : va_P D vwCl (w_Hist cI cB cZ aH aHk aHp aHb aHr aP aPp aPf jl_1 jn_1 jk_1 jp_1 jb (va_cpy pf jr (x1 * (100 : Int32)).toNatClampNeg (jl_1 * (100 : Int32)).toNatClampNeg (100 : Int32).toNatClampNeg) pg ps pn pp pf) H5 := hP5
  replace hD5 : va_D A (w_Hist cI cB cZ aH aHk aHp aHb aHr aP aPp aPf jl_1 jn_1 jk_1 jp_1 jb (va_cpy pf jr (x1 * (100 : Int32)).toNatClampNeg (jl_1 * (100 : Int32)).toNatClampNeg (100 : Int32).toNatClampNeg) pg ps pn pp pf) := hD5
  clear hP2 hD2 hS2
  obtain ⟨hq1, hq99⟩ := Prod.mk.inj (Option.some.inj hm4)
  obtain ⟨hq2, hq99⟩ := Prod.mk.inj (hq99)
  obtain ⟨hq3, hq99⟩ := Prod.mk.inj (hq99)
  obtain ⟨hq4, hq5⟩ := Prod.mk.inj (hq99)
  subst hq1
  subst hq2
  subst hq3
  subst hq4
  subst hq5
  exact W.vret hx hb hr (fun t ht hW => ⟨⟨(), rfl, trivial, by rw [ht]; exact hP5, va_K.moved hW.alike hK, hD5⟩, hS5.F ht⟩) hS5.2.2 dX1_keepScene_33
theorem iw_X1_keepParent_X1 : ∀ w ∈ wsX10, w ∈ wsX1_keepParent := by decide +kernel
theorem iw_X1_keepParent_X2 : ∀ w ∈ wsX20, w ∈ wsX1_keepParent := by decide +kernel
set_option maxHeartbeats 4000000 in
set_option maxRecDepth 100000 in
theorem c_X1_keepParent (l : Launch) (D : va_G) (cI cB cZ : ClassId) (ta : Nat → Nat) (aH : Nat) (aHk : Nat) (aHp : Nat) (aHb : Nat) (aHr : Nat) (aP : Nat) (aPp : Nat) (aPf : Nat) (sz : Nat) (jl : Int32) (jn : Int32) (jk : (Nat → Int32)) (jp : (Nat → Int32)) (jb : (Nat → Int32)) (jr : (Nat → Int32)) (pg : Int32) (ps : Int32) (pn : Int32) (pp : (Nat → Int32)) (pf : (Nat → Int32)) (x1 : Int32) (u_jl : Int32) (u_jn : Int32) (u_jk : (Nat → Int32)) (u_jp : (Nat → Int32)) (u_jb : (Nat → Int32)) (hm : m_X1_keepParent jl jn jk jp jb pp x1 = some (u_jl, u_jn, u_jk, u_jp, u_jb)) : Met l yX1_keepParent wsX1_keepParent ({ frames := 2, cells := 0, slots := 0, locals := 43 } : Room) (va_Pc [.ref aH, .int x1] (PW D cI cB cZ ta (w_Hist cI cB cZ aH aHk aHp aHb aHr aP aPp aPf jl jn jk jp jb jr pg ps pn pp pf) sz)) (QV D cI cB cZ (va_A (w_Hist cI cB cZ aH aHk aHp aHb aHr aP aPp aPf jl jn jk jp jb jr pg ps pn pp pf) sz) (w_Hist cI cB cZ aH aHk aHp aHb aHr aP aPp aPf u_jl u_jn u_jk u_jp u_jb jr pg ps pn pp pf)) 0 0 (va_A (w_Hist cI cB cZ aH aHk aHp aHb aHr aP aPp aPf jl jn jk jp jb jr pg ps pn pp pf) sz) := by
  refine Met.ofW (cc := cX1_keepParent) (maxL := 2) (ret := none) (by decide) rfl ?_
  intro p e s m args below meth c s₁ B hml hv
  obtain ⟨rfl, hsz, hP, hK, hD0, hG⟩ := hv
  have hx := B.exec
  have hb := B.bytes
  have hr := B.returns
  have hts := atoms_spec (ws := wsX1_keepParent) B.pre
  have hown : s.vm.findClass RX1 = some m.cls := findClass_of_methodNamed B.named
  have hlocks := B.notSynchronized
  subst hsz
  have hD := hD0.self (sz := s.heap.size)
  clear hD0
  have hA0 : ∀ q : Nat, s.heap.size ≤ q → va_A (w_Hist cI cB cZ aH aHk aHp aHb aHr aP aPp aPf jl jn jk jp jb jr pg ps pn pp pf) s.heap.size q := fun q h => Or.inr h
  generalize hAe : va_A (w_Hist cI cB cZ aH aHk aHp aHb aHr aP aPp aPf jl jn jk jp jb jr pg ps pn pp pf) s.heap.size = A at hD hG hA0 ⊢
  have hA : ∀ q : Nat, s.heap.size ≤ q → A q := hA0
  clear hA0
  have hS : va_S A s.heap s.heap [] := va_S.rf
  have iw_X1 := iw_X1_keepParent_X1
  have iw_X2 := iw_X1_keepParent_X2
  have hl := lv_entry ([.ref aH, .int x1]) (n := 2) (Nat.le_of_ble_eq_true rfl)
  rw [lg_entry_eq]
  generalize (lg_sl ([.ref aH, .int x1]) ++ List.replicate (2 - (lg_sl ([.ref aH, .int x1])).length) Slot.unset).toArray = ls at hl ⊢
  have hl : lv_has ls 2 [(0, .ref aH), (1, .int x1)] := hl
  replace hm : (ob4 (m_X1_keepAct jl jn jk jp (1 : Int32) x1) (fun jl_1 jn_1 jk_1 jp_1 => (if x1 < 0 ∨ 20 ≤ x1.toNatClampNeg then none else (if jl_1 < 0 ∨ 10 ≤ jl_1.toNatClampNeg then none else some (jl_1, jn_1, jk_1, jp_1, (upd jb jl_1.toNatClampNeg (pp x1.toNatClampNeg))))))) = some (u_jl, u_jn, u_jk, u_jp, u_jb) := hm
  refine lv_aload_n hx hb dX1_keepParent_0 rfl (lv_at hl 0 rfl) ?_
  refine lv_iconst (v := (1 : Int32)) hx hb dX1_keepParent_1 (by decide) ?_
  refine lv_iload_n hx hb dX1_keepParent_2 rfl (lv_at hl 1 rfl) ?_
  obtain ⟨jl_1, jn_1, jk_1, jp_1, h1, hm1⟩ := ob4_e hm
  refine gcall_v (ws' := (w_Hist cI cB cZ aH aHk aHp aHb aHr aP aPp aPf jl_1 jn_1 jk_1 jp_1 jb jr pg ps pn pp pf)) (va_runV (As := [.int (1 : Int32), .int x1]) (rest := []) ⟨hx, hb, hml, hown, hts⟩ (c_X1_keepAct l D cI cB cZ ta aH aHk aHp aHb aHr aP aPp aPf s.heap.size jl jn jk jp jb jr pg ps pn pp pf (1 : Int32) x1 jl_1 jn_1 jk_1 jp_1 h1) (cwV 2 hts gX1_keepParent_X1_keepAct rfl rfl rfl (by decide +kernel) ⟨(Nat.le_of_ble_eq_true rfl), (Nat.le_of_ble_eq_true rfl)⟩) ⟨PW_blind, va_recv hK hP rfl (q0 := 0) rfl, PW_at hP hD hK hS hA hG [0, 1, 2, 3, 4, 5, 6, 7] rfl (by decide)⟩ rfl rfl hl.1 rfl (lv_room (Nat.le_of_ble_eq_true rfl)) dX1_keepParent_3 ⟨(Nat.le_of_ble_eq_true rfl), (Nat.le_of_ble_eq_true rfl)⟩) hP hD hS hA [0, 1, 2, 3, 4, 5, 6, 7] [] [0, 1, 2, 3, 4, 5, 6, 7] rfl rfl (by decide) (by decide) (by decide) rfl (fun H2 lo2 hP2 hD2 hS2 => ?_)
  clear hP hD hS
  refine lv_aload_n hx hb dX1_keepParent_6 rfl (lv_at hl 0 rfl) ?_
  refine va_get (D := D) (ci := 1) (v := .ref aHb) (C := RX1) (T := TX1) (N := 7) hx hb hts iw_X1 hown hK hP2 0 rfl rfl 3 (by decide) (hts (.fieldLink RX1 18 "VarianceBridge$History" "parentsBefore" "[I") (by decide +kernel)) (fun _ h9 => h9) rfl dX1_keepParent_7 ?_
  refine lv_aload_n hx hb dX1_keepParent_10 rfl (lv_at hl 0 rfl) ?_
  refine va_get (D := D) (ci := 1) (v := .int jl_1) (C := RX1) (T := TX1) (N := 7) hx hb hts iw_X1 hown hK hP2 0 rfl rfl 5 (by decide) (hts (.fieldLink RX1 26 "VarianceBridge$History" "latest" "I") (by decide +kernel)) (fun _ h9 => h9) rfl dX1_keepParent_11 ?_
  refine lv_aload_n hx hb dX1_keepParent_14 rfl (lv_at hl 0 rfl) ?_
  refine va_get (D := D) (ci := 1) (v := .ref aP) (C := RX1) (T := TX1) (N := 7) hx hb hts iw_X1 hown hK hP2 0 rfl rfl 0 (by decide) (hts (.fieldLink RX1 33 "VarianceBridge$History" "plan" "LVarianceBridge$Plan;") (by decide +kernel)) (fun _ h9 => h9) rfl dX1_keepParent_15 ?_
  refine va_getN (D := D) (ci := 2) (v := .ref aPp) (C := RX2) (T := TX2) (N := 5) hx hb hts iw_X2 hown hK hP2 5 rfl rfl 0 (by decide) (va_Nw.use rfl (hG.1 (.fieldLinkNest RX1 50 RX2 "parents" "[I" RX6) (by decide +kernel))) (fun _ h9 => h9) rfl dX1_keepParent_18 ?_
  refine lv_iload_n hx hb dX1_keepParent_21 rfl (lv_at hl 1 rfl) ?_
  obtain ⟨c3, hm4⟩ := zz_no hm1
  refine va_iald hx hb hK hP2 6 0 rfl rfl c3 dX1_keepParent_22 ?_
  obtain ⟨c5, hm6⟩ := zz_no hm4
  refine va_iast hx hb hK hP2 hD2 hS2 3 0 rfl rfl c5 dX1_keepParent_23 (fun H7 lo7 hP7 hD7 hS7 => ?_)
  replace hP7 : va_P D vwCl (w_Hist cI cB cZ aH aHk aHp aHb aHr aP aPp aPf jl_1 jn_1 jk_1 jp_1 (upd jb jl_1.toNatClampNeg (pp x1.toNatClampNeg)) jr pg ps pn pp pf) H7 := hP7
  replace hD7 : va_D A (w_Hist cI cB cZ aH aHk aHp aHb aHr aP aPp aPf jl_1 jn_1 jk_1 jp_1 (upd jb jl_1.toNatClampNeg (pp x1.toNatClampNeg)) jr pg ps pn pp pf) := hD7
  clear hP2 hD2 hS2
  obtain ⟨hq1, hq99⟩ := Prod.mk.inj (Option.some.inj hm6)
  obtain ⟨hq2, hq99⟩ := Prod.mk.inj (hq99)
  obtain ⟨hq3, hq99⟩ := Prod.mk.inj (hq99)
  obtain ⟨hq4, hq5⟩ := Prod.mk.inj (hq99)
  subst hq1
  subst hq2
  subst hq3
  subst hq4
  subst hq5
  exact W.vret hx hb hr (fun t ht hW => ⟨⟨(), rfl, trivial, by rw [ht]; exact hP7, va_K.moved hW.alike hK, hD7⟩, hS7.F ht⟩) hS7.2.2 dX1_keepParent_24
set_option maxHeartbeats 4000000 in
set_option maxRecDepth 100000 in
theorem c_X1_keepGrowth (l : Launch) (D : va_G) (cI cB cZ : ClassId) (ta : Nat → Nat) (aH : Nat) (aHk : Nat) (aHp : Nat) (aHb : Nat) (aHr : Nat) (aP : Nat) (aPp : Nat) (aPf : Nat) (sz : Nat) (jl : Int32) (jn : Int32) (jk : (Nat → Int32)) (jp : (Nat → Int32)) (jb : (Nat → Int32)) (jr : (Nat → Int32)) (pg : Int32) (ps : Int32) (pn : Int32) (pp : (Nat → Int32)) (pf : (Nat → Int32)) (u_jl : Int32) (u_jn : Int32) (u_jk : (Nat → Int32)) (u_jp : (Nat → Int32)) (hm : m_X1_keepGrowth jl jn jk jp = some (u_jl, u_jn, u_jk, u_jp)) : Met l yX1_keepGrowth wsX1_keepGrowth ({ frames := 2, cells := 0, slots := 0, locals := 43 } : Room) (va_Pc [.ref aH] (PW D cI cB cZ ta (w_Hist cI cB cZ aH aHk aHp aHb aHr aP aPp aPf jl jn jk jp jb jr pg ps pn pp pf) sz)) (QV D cI cB cZ (va_A (w_Hist cI cB cZ aH aHk aHp aHb aHr aP aPp aPf jl jn jk jp jb jr pg ps pn pp pf) sz) (w_Hist cI cB cZ aH aHk aHp aHb aHr aP aPp aPf u_jl u_jn u_jk u_jp jb jr pg ps pn pp pf)) 0 0 (va_A (w_Hist cI cB cZ aH aHk aHp aHb aHr aP aPp aPf jl jn jk jp jb jr pg ps pn pp pf) sz) := by
  refine Met.ofW (cc := cX1_keepGrowth) (maxL := 1) (ret := none) (by decide) rfl ?_
  intro p e s m args below meth c s₁ B hml hv
  obtain ⟨rfl, hsz, hP, hK, hD0, hG⟩ := hv
  have hx := B.exec
  have hb := B.bytes
  have hr := B.returns
  have hts := atoms_spec (ws := wsX1_keepGrowth) B.pre
  have hown : s.vm.findClass RX1 = some m.cls := findClass_of_methodNamed B.named
  have hlocks := B.notSynchronized
  subst hsz
  have hD := hD0.self (sz := s.heap.size)
  clear hD0
  have hA0 : ∀ q : Nat, s.heap.size ≤ q → va_A (w_Hist cI cB cZ aH aHk aHp aHb aHr aP aPp aPf jl jn jk jp jb jr pg ps pn pp pf) s.heap.size q := fun q h => Or.inr h
  generalize hAe : va_A (w_Hist cI cB cZ aH aHk aHp aHb aHr aP aPp aPf jl jn jk jp jb jr pg ps pn pp pf) s.heap.size = A at hD hG hA0 ⊢
  have hA : ∀ q : Nat, s.heap.size ≤ q → A q := hA0
  clear hA0
  have hS : va_S A s.heap s.heap [] := va_S.rf
  have hl := lv_entry ([.ref aH]) (n := 1) (Nat.le_of_ble_eq_true rfl)
  rw [lg_entry_eq]
  generalize (lg_sl ([.ref aH]) ++ List.replicate (1 - (lg_sl ([.ref aH])).length) Slot.unset).toArray = ls at hl ⊢
  have hl : lv_has ls 1 [(0, .ref aH)] := hl
  replace hm : (ob4 (m_X1_keepAct jl jn jk jp (2 : Int32) (-1 : Int32)) (fun jl_1 jn_1 jk_1 jp_1 => some (jl_1, jn_1, jk_1, jp_1))) = some (u_jl, u_jn, u_jk, u_jp) := hm
  refine lv_aload_n hx hb dX1_keepGrowth_0 rfl (lv_at hl 0 rfl) ?_
  refine lv_iconst (v := (2 : Int32)) hx hb dX1_keepGrowth_1 (by decide) ?_
  refine lv_iconst (v := (-1 : Int32)) hx hb dX1_keepGrowth_2 (by decide) ?_
  obtain ⟨jl_1, jn_1, jk_1, jp_1, h1, hm1⟩ := ob4_e hm
  refine gcall_v (ws' := (w_Hist cI cB cZ aH aHk aHp aHb aHr aP aPp aPf jl_1 jn_1 jk_1 jp_1 jb jr pg ps pn pp pf)) (va_runV (As := [.int (2 : Int32), .int (-1 : Int32)]) (rest := []) ⟨hx, hb, hml, hown, hts⟩ (c_X1_keepAct l D cI cB cZ ta aH aHk aHp aHb aHr aP aPp aPf s.heap.size jl jn jk jp jb jr pg ps pn pp pf (2 : Int32) (-1 : Int32) jl_1 jn_1 jk_1 jp_1 h1) (cwV 2 hts gX1_keepGrowth_X1_keepAct rfl rfl rfl (by decide +kernel) ⟨(Nat.le_of_ble_eq_true rfl), (Nat.le_of_ble_eq_true rfl)⟩) ⟨PW_blind, va_recv hK hP rfl (q0 := 0) rfl, PW_at hP hD hK hS hA hG [0, 1, 2, 3, 4, 5, 6, 7] rfl (by decide)⟩ rfl rfl hl.1 rfl (lv_room (Nat.le_of_ble_eq_true rfl)) dX1_keepGrowth_3 ⟨(Nat.le_of_ble_eq_true rfl), (Nat.le_of_ble_eq_true rfl)⟩) hP hD hS hA [0, 1, 2, 3, 4, 5, 6, 7] [] [0, 1, 2, 3, 4, 5, 6, 7] rfl rfl (by decide) (by decide) (by decide) rfl (fun H2 lo2 hP2 hD2 hS2 => ?_)
  clear hP hD hS
  obtain ⟨hq1, hq99⟩ := Prod.mk.inj (Option.some.inj hm1)
  obtain ⟨hq2, hq99⟩ := Prod.mk.inj (hq99)
  obtain ⟨hq3, hq4⟩ := Prod.mk.inj (hq99)
  subst hq1
  subst hq2
  subst hq3
  subst hq4
  exact W.vret hx hb hr (fun t ht hW => ⟨⟨(), rfl, trivial, by rw [ht]; exact hP2, va_K.moved hW.alike hK, hD2⟩, hS2.F ht⟩) hS2.2.2 dX1_keepGrowth_6
theorem iw_X2_dropLastLeaf_X2 : ∀ w ∈ wsX20, w ∈ wsX2_dropLastLeaf := by decide +kernel
set_option maxHeartbeats 4000000 in
set_option maxRecDepth 100000 in
theorem c_X2_dropLastLeaf (l : Launch) (D : va_G) (cI cB cZ : ClassId) (ta : Nat → Nat) (aP : Nat) (aPp : Nat) (aPf : Nat) (sz : Nat) (pg : Int32) (ps : Int32) (pn : Int32) (pp : (Nat → Int32)) (pf : (Nat → Int32)) (u_pn : Int32) (hm : m_X2_dropLastLeaf pn = some u_pn) : Met l yX2_dropLastLeaf wsX2_dropLastLeaf ({ frames := 0, cells := 0, slots := 0, locals := 0 } : Room) (va_Pc [.ref aP] (PW D cI cB cZ ta (w_Plan cI cB cZ aP aPp aPf pg ps pn pp pf) sz)) (QV D cI cB cZ (va_A (w_Plan cI cB cZ aP aPp aPf pg ps pn pp pf) sz) (w_Plan cI cB cZ aP aPp aPf pg ps u_pn pp pf)) 0 0 (va_A (w_Plan cI cB cZ aP aPp aPf pg ps pn pp pf) sz) := by
  refine Met.ofW (cc := cX2_dropLastLeaf) (maxL := 1) (ret := none) (by decide) rfl ?_
  intro p e s m args below meth c s₁ B hml hv
  obtain ⟨rfl, hsz, hP, hK, hD0, hG⟩ := hv
  have hx := B.exec
  have hb := B.bytes
  have hr := B.returns
  have hts := atoms_spec (ws := wsX2_dropLastLeaf) B.pre
  have hown : s.vm.findClass RX2 = some m.cls := findClass_of_methodNamed B.named
  have hlocks := B.notSynchronized
  subst hsz
  have hD := hD0.self (sz := s.heap.size)
  clear hD0
  have hA0 : ∀ q : Nat, s.heap.size ≤ q → va_A (w_Plan cI cB cZ aP aPp aPf pg ps pn pp pf) s.heap.size q := fun q h => Or.inr h
  generalize hAe : va_A (w_Plan cI cB cZ aP aPp aPf pg ps pn pp pf) s.heap.size = A at hD hG hA0 ⊢
  have hA : ∀ q : Nat, s.heap.size ≤ q → A q := hA0
  clear hA0
  have hS : va_S A s.heap s.heap [] := va_S.rf
  have iw_X2 := iw_X2_dropLastLeaf_X2
  have hl := lv_entry ([.ref aP]) (n := 1) (Nat.le_of_ble_eq_true rfl)
  rw [lg_entry_eq]
  generalize (lg_sl ([.ref aP]) ++ List.replicate (1 - (lg_sl ([.ref aP])).length) Slot.unset).toArray = ls at hl ⊢
  have hl : lv_has ls 1 [(0, .ref aP)] := hl
  replace hm : (if pn ≤ (1 : Int32) then some pn else some (pn - (1 : Int32))) = some u_pn := hm
  refine lv_aload_n hx hb dX2_dropLastLeaf_0 rfl (lv_at hl 0 rfl) ?_
  refine va_get (D := D) (ci := 2) (v := .int pn) (C := RX2) (T := TX2) (N := 5) hx hb hts iw_X2 hown hK hP 0 rfl rfl 4 (by decide) (hts (.fieldLink RX2 26 "VarianceBridge$Plan" "nodes" "I") (by decide +kernel)) (fun _ h9 => h9) rfl dX2_dropLastLeaf_1 ?_
  refine lv_iconst (v := (1 : Int32)) hx hb dX2_dropLastLeaf_4 (by decide) ?_
  refine lv_icmp_le (tgt := 18) hx hb dX2_dropLastLeaf_5 (by decide) (fun c1 => ?_) (fun c1 => ?_)
  · have hm2 := zz_if c1 hm
    have hq1 := Option.some.inj hm2
    subst hq1
    exact W.vret hx hb hr (fun t ht hW => ⟨⟨(), rfl, trivial, by rw [ht]; exact hP, va_K.moved hW.alike hK, hD⟩, hS.F ht⟩) hS.2.2 dX2_dropLastLeaf_18
  · have hm3 := zz_nf c1 hm
    refine lv_aload_n hx hb dX2_dropLastLeaf_8 rfl (lv_at hl 0 rfl) ?_
    refine lv_dup hx hb dX2_dropLastLeaf_9 rfl ?_
    refine va_get (D := D) (ci := 2) (v := .int pn) (C := RX2) (T := TX2) (N := 5) hx hb hts iw_X2 hown hK hP 0 rfl rfl 4 (by decide) (hts (.fieldLink RX2 26 "VarianceBridge$Plan" "nodes" "I") (by decide +kernel)) (fun _ h9 => h9) rfl dX2_dropLastLeaf_10 ?_
    refine lv_iconst (v := (1 : Int32)) hx hb dX2_dropLastLeaf_13 (by decide) ?_
    refine lv_isub hx hb dX2_dropLastLeaf_14 ?_
    refine va_put (D := D) (ci := 2) (v := .int (pn - (1 : Int32))) (ty := .int) (C := RX2) (T := TX2) (N := 5) hx hb hts iw_X2 tyX2 tyX2_ok nmX2 hown hK hP hD hS 0 rfl rfl 4 (by decide) (hts (.fieldLink RX2 26 "VarianceBridge$Plan" "nodes" "I") (by decide +kernel)) (fun _ h9 => h9) rfl (by decide +kernel) rfl rfl (Nat.le_of_ble_eq_true rfl) dX2_dropLastLeaf_15 (fun H4 lo4 hP4 hD4 hS4 => ?_)
    replace hP4 : va_P D vwCl (w_Plan cI cB cZ aP aPp aPf pg ps (pn - (1 : Int32)) pp pf) H4 := hP4
    replace hD4 : va_D A (w_Plan cI cB cZ aP aPp aPf pg ps (pn - (1 : Int32)) pp pf) := hD4
    clear hP hD hS
    have hq1 := Option.some.inj hm3
    subst hq1
    exact W.vret hx hb hr (fun t ht hW => ⟨⟨(), rfl, trivial, by rw [ht]; exact hP4, va_K.moved hW.alike hK, hD4⟩, hS4.F ht⟩) hS4.2.2 dX2_dropLastLeaf_18
theorem iw_X1_takeBack_X1 : ∀ w ∈ wsX10, w ∈ wsX1_takeBack := by decide +kernel
theorem iw_X1_takeBack_X2 : ∀ w ∈ wsX20, w ∈ wsX1_takeBack := by decide +kernel
set_option maxHeartbeats 4000000 in
set_option maxRecDepth 100000 in
theorem c_X1_takeBack (l : Launch) (D : va_G) (cI cB cZ : ClassId) (ta : Nat → Nat) (aH : Nat) (aHk : Nat) (aHp : Nat) (aHb : Nat) (aHr : Nat) (aP : Nat) (aPp : Nat) (aPf : Nat) (sz : Nat) (jl : Int32) (jn : Int32) (jk : (Nat → Int32)) (jp : (Nat → Int32)) (jb : (Nat → Int32)) (jr : (Nat → Int32)) (pg : Int32) (ps : Int32) (pn : Int32) (pp : (Nat → Int32)) (pf : (Nat → Int32)) (u_jl : Int32) (u_jn : Int32) (u_pn : Int32) (u_pp : (Nat → Int32)) (u_pf : (Nat → Int32)) (hm : m_X1_takeBack jl jn jk jp jb jr pn pp pf = some (u_jl, u_jn, u_pn, u_pp, u_pf)) : Met l yX1_takeBack wsX1_takeBack ({ frames := 1, cells := 0, slots := 0, locals := 48 } : Room) (va_Pc [.ref aH] (PW D cI cB cZ ta (w_Hist cI cB cZ aH aHk aHp aHb aHr aP aPp aPf jl jn jk jp jb jr pg ps pn pp pf) sz)) (QV D cI cB cZ (va_A (w_Hist cI cB cZ aH aHk aHp aHb aHr aP aPp aPf jl jn jk jp jb jr pg ps pn pp pf) sz) (w_Hist cI cB cZ aH aHk aHp aHb aHr aP aPp aPf u_jl u_jn jk jp jb jr pg ps u_pn u_pp u_pf)) 0 0 (va_A (w_Hist cI cB cZ aH aHk aHp aHb aHr aP aPp aPf jl jn jk jp jb jr pg ps pn pp pf) sz) := by
  refine Met.ofW (cc := cX1_takeBack) (maxL := 2) (ret := none) (by decide) rfl ?_
  intro p e s m args below meth c s₁ B hml hv
  obtain ⟨rfl, hsz, hP, hK, hD0, hG⟩ := hv
  have hx := B.exec
  have hb := B.bytes
  have hr := B.returns
  have hts := atoms_spec (ws := wsX1_takeBack) B.pre
  have hown : s.vm.findClass RX1 = some m.cls := findClass_of_methodNamed B.named
  have hlocks := B.notSynchronized
  subst hsz
  have hD := hD0.self (sz := s.heap.size)
  clear hD0
  have hA0 : ∀ q : Nat, s.heap.size ≤ q → va_A (w_Hist cI cB cZ aH aHk aHp aHb aHr aP aPp aPf jl jn jk jp jb jr pg ps pn pp pf) s.heap.size q := fun q h => Or.inr h
  generalize hAe : va_A (w_Hist cI cB cZ aH aHk aHp aHb aHr aP aPp aPf jl jn jk jp jb jr pg ps pn pp pf) s.heap.size = A at hD hG hA0 ⊢
  have hA : ∀ q : Nat, s.heap.size ≤ q → A q := hA0
  clear hA0
  have hS : va_S A s.heap s.heap [] := va_S.rf
  have iw_X1 := iw_X1_takeBack_X1
  have iw_X2 := iw_X1_takeBack_X2
  have hk_93 : ∀ (jl : Int32) (jn : Int32) (pn : Int32) (pp : (Nat → Int32)) (pf : (Nat → Int32)), k_X1_takeBack_93 jk jp jb jr jl jn pn pp pf = some (u_jl, u_jn, u_pn, u_pp, u_pf) → ∀ (ls : Array Slot) (H : Heap) (lo : List Loc), lv_has ls 2 [(0, .ref aH)] → va_P D vwCl (w_Hist cI cB cZ aH aHk aHp aHb aHr aP aPp aPf jl jn jk jp jb jr pg ps pn pp pf) H → va_D A (w_Hist cI cB cZ aH aHk aHp aHb aHr aP aPp aPf jl jn jk jp jb jr pg ps pn pp pf) → va_S A s.heap H lo → W p l e (headSpec wsX1_takeBack ({ frames := 1, cells := 0, slots := 0, locals := 48 } : Room)).room s m (([.ref aH] : List Value).toArray) below meth c H lo 0 0 (MQ below (QV D cI cB cZ A (w_Hist cI cB cZ aH aHk aHp aHb aHr aP aPp aPf u_jl u_jn jk jp jb jr pg ps u_pn u_pp u_pf)) (([.ref aH] : List Value).toArray) s 0 0 A) (F0 m 93 ls []) := by
    intro jl jn pn pp pf hm ls H lo hl hP hD hS
    replace hm : some ((((jl + (10 : Int32)) - (1 : Int32)) - ((jl + (10 : Int32)) - (1 : Int32)) / (10 : Int32) * (10 : Int32)), (jn - (1 : Int32)), pn, pp, pf) = some (u_jl, u_jn, u_pn, u_pp, u_pf) := hm
    refine lv_aload_n hx hb dX1_takeBack_93 rfl (lv_at hl 0 rfl) ?_
    refine lv_aload_n hx hb dX1_takeBack_94 rfl (lv_at hl 0 rfl) ?_
    refine va_get (D := D) (ci := 1) (v := .int jl) (C := RX1) (T := TX1) (N := 7) hx hb hts iw_X1 hown hK hP 0 rfl rfl 5 (by decide) (hts (.fieldLink RX1 26 "VarianceBridge$History" "latest" "I") (by decide +kernel)) (fun _ h9 => h9) rfl dX1_takeBack_95 ?_
    refine lv_bipush (v := (10 : Int32)) hx hb dX1_takeBack_98 (by decide) ?_
    refine lv_iadd hx hb dX1_takeBack_100 ?_
    refine lv_iconst (v := (1 : Int32)) hx hb dX1_takeBack_101 (by decide) ?_
    refine lv_isub hx hb dX1_takeBack_102 ?_
    refine lv_bipush (v := (10 : Int32)) hx hb dX1_takeBack_103 (by decide) ?_
    refine lv_irem hx hb dX1_takeBack_105 (by decide) ?_
    refine va_put (D := D) (ci := 1) (v := .int (((jl + (10 : Int32)) - (1 : Int32)) - ((jl + (10 : Int32)) - (1 : Int32)) / (10 : Int32) * (10 : Int32))) (ty := .int) (C := RX1) (T := TX1) (N := 7) hx hb hts iw_X1 tyX1 tyX1_ok nmX1 hown hK hP hD hS 0 rfl rfl 5 (by decide) (hts (.fieldLink RX1 26 "VarianceBridge$History" "latest" "I") (by decide +kernel)) (fun _ h9 => h9) rfl (by decide +kernel) rfl rfl (Nat.le_of_ble_eq_true rfl) dX1_takeBack_106 (fun H1 lo1 hP1 hD1 hS1 => ?_)
    replace hP1 : va_P D vwCl (w_Hist cI cB cZ aH aHk aHp aHb aHr aP aPp aPf (((jl + (10 : Int32)) - (1 : Int32)) - ((jl + (10 : Int32)) - (1 : Int32)) / (10 : Int32) * (10 : Int32)) jn jk jp jb jr pg ps pn pp pf) H1 := hP1
    replace hD1 : va_D A (w_Hist cI cB cZ aH aHk aHp aHb aHr aP aPp aPf (((jl + (10 : Int32)) - (1 : Int32)) - ((jl + (10 : Int32)) - (1 : Int32)) / (10 : Int32) * (10 : Int32)) jn jk jp jb jr pg ps pn pp pf) := hD1
    clear hP hD hS
    refine lv_aload_n hx hb dX1_takeBack_109 rfl (lv_at hl 0 rfl) ?_
    refine lv_dup hx hb dX1_takeBack_110 rfl ?_
    refine va_get (D := D) (ci := 1) (v := .int jn) (C := RX1) (T := TX1) (N := 7) hx hb hts iw_X1 hown hK hP1 0 rfl rfl 6 (by decide) (hts (.fieldLink RX1 30 "VarianceBridge$History" "kept" "I") (by decide +kernel)) (fun _ h9 => h9) rfl dX1_takeBack_111 ?_
    refine lv_iconst (v := (1 : Int32)) hx hb dX1_takeBack_114 (by decide) ?_
    refine lv_isub hx hb dX1_takeBack_115 ?_
    refine va_put (D := D) (ci := 1) (v := .int (jn - (1 : Int32))) (ty := .int) (C := RX1) (T := TX1) (N := 7) hx hb hts iw_X1 tyX1 tyX1_ok nmX1 hown hK hP1 hD1 hS1 0 rfl rfl 6 (by decide) (hts (.fieldLink RX1 30 "VarianceBridge$History" "kept" "I") (by decide +kernel)) (fun _ h9 => h9) rfl (by decide +kernel) rfl rfl (Nat.le_of_ble_eq_true rfl) dX1_takeBack_116 (fun H2 lo2 hP2 hD2 hS2 => ?_)
    replace hP2 : va_P D vwCl (w_Hist cI cB cZ aH aHk aHp aHb aHr aP aPp aPf (((jl + (10 : Int32)) - (1 : Int32)) - ((jl + (10 : Int32)) - (1 : Int32)) / (10 : Int32) * (10 : Int32)) (jn - (1 : Int32)) jk jp jb jr pg ps pn pp pf) H2 := hP2
    replace hD2 : va_D A (w_Hist cI cB cZ aH aHk aHp aHb aHr aP aPp aPf (((jl + (10 : Int32)) - (1 : Int32)) - ((jl + (10 : Int32)) - (1 : Int32)) / (10 : Int32) * (10 : Int32)) (jn - (1 : Int32)) jk jp jb jr pg ps pn pp pf) := hD2
    clear hP1 hD1 hS1
    obtain ⟨hq1, hq99⟩ := Prod.mk.inj (Option.some.inj hm)
    obtain ⟨hq2, hq99⟩ := Prod.mk.inj (hq99)
    obtain ⟨hq3, hq99⟩ := Prod.mk.inj (hq99)
    obtain ⟨hq4, hq5⟩ := Prod.mk.inj (hq99)
    subst hq1
    subst hq2
    subst hq3
    subst hq4
    subst hq5
    exact W.vret hx hb hr (fun t ht hW => ⟨⟨(), rfl, trivial, by rw [ht]; exact hP2, va_K.moved hW.alike hK, hD2⟩, hS2.F ht⟩) hS2.2.2 dX1_takeBack_119
  have hl := lv_entry ([.ref aH]) (n := 2) (Nat.le_of_ble_eq_true rfl)
  rw [lg_entry_eq]
  generalize (lg_sl ([.ref aH]) ++ List.replicate (2 - (lg_sl ([.ref aH])).length) Slot.unset).toArray = ls at hl ⊢
  have hl : lv_has ls 2 [(0, .ref aH)] := hl
  replace hm : (if jl < 0 ∨ 10 ≤ jl.toNatClampNeg then none else (if jl < 0 ∨ 10 ≤ jl.toNatClampNeg then none else (if (jk jl.toNatClampNeg) = 0 then (if ¬ (jl * (100 : Int32)) < 0 ∧ ¬ ((jp jl.toNatClampNeg) * (100 : Int32)) < 0 ∧ ¬ (100 : Int32) < 0 ∧ (jl * (100 : Int32)).toNatClampNeg + (100 : Int32).toNatClampNeg ≤ 1000 ∧ ((jp jl.toNatClampNeg) * (100 : Int32)).toNatClampNeg + (100 : Int32).toNatClampNeg ≤ 400 then (k_X1_takeBack_93 jk jp jb jr jl jn pn pp (va_cpy jr pf (jl * (100 : Int32)).toNatClampNeg ((jp jl.toNatClampNeg) * (100 : Int32)).toNatClampNeg (100 : Int32).toNatClampNeg)) else none) else (if jl < 0 ∨ 10 ≤ jl.toNatClampNeg then none else (if (jk jl.toNatClampNeg) = (1 : Int32) then (if jl < 0 ∨ 10 ≤ jl.toNatClampNeg then none else (if (jp jl.toNatClampNeg) < 0 ∨ 20 ≤ (jp jl.toNatClampNeg).toNatClampNeg then none else (k_X1_takeBack_93 jk jp jb jr jl jn pn (upd pp (jp jl.toNatClampNeg).toNatClampNeg (jb jl.toNatClampNeg)) pf))) else (ob1 (m_X2_dropLastLeaf pn) (fun pn_16 => (k_X1_takeBack_93 jk jp jb jr jl jn pn_16 pp pf)))))))) = some (u_jl, u_jn, u_pn, u_pp, u_pf) := hm
  refine lv_aload_n hx hb dX1_takeBack_0 rfl (lv_at hl 0 rfl) ?_
  refine va_get (D := D) (ci := 1) (v := .ref aHp) (C := RX1) (T := TX1) (N := 7) hx hb hts iw_X1 hown hK hP 0 rfl rfl 2 (by decide) (hts (.fieldLink RX1 15 "VarianceBridge$History" "places" "[I") (by decide +kernel)) (fun _ h9 => h9) rfl dX1_takeBack_1 ?_
  refine lv_aload_n hx hb dX1_takeBack_4 rfl (lv_at hl 0 rfl) ?_
  refine va_get (D := D) (ci := 1) (v := .int jl) (C := RX1) (T := TX1) (N := 7) hx hb hts iw_X1 hown hK hP 0 rfl rfl 5 (by decide) (hts (.fieldLink RX1 26 "VarianceBridge$History" "latest" "I") (by decide +kernel)) (fun _ h9 => h9) rfl dX1_takeBack_5 ?_
  obtain ⟨c3, hm4⟩ := zz_no hm
  refine va_iald hx hb hK hP 2 0 rfl rfl c3 dX1_takeBack_8 ?_
  refine lv_istore_n (lv' := [(1, .int (jp jl.toNatClampNeg)), (0, .ref aH)]) hx hb dX1_takeBack_9 rfl hl (by decide) rfl (fun ls5 hl5 => ?_)
  refine lv_aload_n hx hb dX1_takeBack_10 rfl (lv_at hl5 1 rfl) ?_
  refine va_get (D := D) (ci := 1) (v := .ref aHk) (C := RX1) (T := TX1) (N := 7) hx hb hts iw_X1 hown hK hP 0 rfl rfl 1 (by decide) (hts (.fieldLink RX1 9 "VarianceBridge$History" "kinds" "[I") (by decide +kernel)) (fun _ h9 => h9) rfl dX1_takeBack_11 ?_
  refine lv_aload_n hx hb dX1_takeBack_14 rfl (lv_at hl5 1 rfl) ?_
  refine va_get (D := D) (ci := 1) (v := .int jl) (C := RX1) (T := TX1) (N := 7) hx hb hts iw_X1 hown hK hP 0 rfl rfl 5 (by decide) (hts (.fieldLink RX1 26 "VarianceBridge$History" "latest" "I") (by decide +kernel)) (fun _ h9 => h9) rfl dX1_takeBack_15 ?_
  obtain ⟨c6, hm7⟩ := zz_no hm4
  refine va_iald hx hb hK hP 1 0 rfl rfl c6 dX1_takeBack_18 ?_
  refine lv_if_ne (tgt := 52) hx hb dX1_takeBack_19 (by decide) (fun c8 => ?_) (fun c8 => ?_)
  · have hm9 := zz_nf c8 hm7
    refine lv_aload_n hx hb dX1_takeBack_52 rfl (lv_at hl5 1 rfl) ?_
    refine va_get (D := D) (ci := 1) (v := .ref aHk) (C := RX1) (T := TX1) (N := 7) hx hb hts iw_X1 hown hK hP 0 rfl rfl 1 (by decide) (hts (.fieldLink RX1 9 "VarianceBridge$History" "kinds" "[I") (by decide +kernel)) (fun _ h9 => h9) rfl dX1_takeBack_53 ?_
    refine lv_aload_n hx hb dX1_takeBack_56 rfl (lv_at hl5 1 rfl) ?_
    refine va_get (D := D) (ci := 1) (v := .int jl) (C := RX1) (T := TX1) (N := 7) hx hb hts iw_X1 hown hK hP 0 rfl rfl 5 (by decide) (hts (.fieldLink RX1 26 "VarianceBridge$History" "latest" "I") (by decide +kernel)) (fun _ h9 => h9) rfl dX1_takeBack_57 ?_
    obtain ⟨c11, hm12⟩ := zz_no hm9
    refine va_iald hx hb hK hP 1 0 rfl rfl c11 dX1_takeBack_60 ?_
    refine lv_iconst (v := (1 : Int32)) hx hb dX1_takeBack_61 (by decide) ?_
    refine lv_icmp_ne (tgt := 86) hx hb dX1_takeBack_62 (by decide) (fun c13 => ?_) (fun c13 => ?_)
    · have hm14 := zz_nf c13 hm12
      refine lv_aload_n hx hb dX1_takeBack_86 rfl (lv_at hl5 1 rfl) ?_
      refine va_get (D := D) (ci := 1) (v := .ref aP) (C := RX1) (T := TX1) (N := 7) hx hb hts iw_X1 hown hK hP 0 rfl rfl 0 (by decide) (hts (.fieldLink RX1 33 "VarianceBridge$History" "plan" "LVarianceBridge$Plan;") (by decide +kernel)) (fun _ h9 => h9) rfl dX1_takeBack_87 ?_
      obtain ⟨pn_16, h16, hm16⟩ := ob1_e hm14
      refine gcall_v (ws' := (w_Hist cI cB cZ aH aHk aHp aHb aHr aP aPp aPf jl jn jk jp jb jr pg ps pn_16 pp pf)) (va_runVN (As := []) (rest := []) ⟨hx, hb, hml, hown, hts⟩ (c_X2_dropLastLeaf l D cI cB cZ ta aP aPp aPf s.heap.size pg ps pn pp pf pn_16 h16) ⟨va_cnB 0 hts gX1_takeBack_X2_dropLastLeaf_n59 rfl rfl rfl (hG.1 (.methodLinkNest RX1 59 yX2_dropLastLeaf RX6) (by decide +kernel)) (hts (.initialized RX2) (by decide +kernel)) (by decide +kernel) ⟨(Nat.le_of_ble_eq_true rfl), (Nat.le_of_ble_eq_true rfl)⟩, hts (.instanceMethod yX2_dropLastLeaf) (by decide +kernel), hts (.selects RX2 yX2_dropLastLeaf yX2_dropLastLeaf) (by decide +kernel)⟩ ⟨PW_blind, va_recv hK hP rfl (q0 := 5) rfl, PW_at hP hD hK hS hA hG [5, 6, 7] rfl (by decide)⟩ rfl rfl hl5.1 rfl (lv_room (Nat.le_of_ble_eq_true rfl)) dX1_takeBack_90 ⟨(Nat.le_of_ble_eq_true rfl), (Nat.le_of_ble_eq_true rfl)⟩) hP hD hS hA [5, 6, 7] [0, 1, 2, 3, 4] [0, 1, 2, 3, 4, 5, 6, 7] rfl rfl (by decide) (by decide) (by decide) rfl (fun H17 lo17 hP17 hD17 hS17 => ?_)
      clear hP hD hS
      exact hk_93 jl jn pn_16 pp pf hm16 ls5 H17 lo17 (lv_sub hl5 [1] rfl) hP17 hD17 hS17
    · have hm15 := zz_if c13 hm12
      refine lv_aload_n hx hb dX1_takeBack_65 rfl (lv_at hl5 1 rfl) ?_
      refine va_get (D := D) (ci := 1) (v := .ref aP) (C := RX1) (T := TX1) (N := 7) hx hb hts iw_X1 hown hK hP 0 rfl rfl 0 (by decide) (hts (.fieldLink RX1 33 "VarianceBridge$History" "plan" "LVarianceBridge$Plan;") (by decide +kernel)) (fun _ h9 => h9) rfl dX1_takeBack_66 ?_
      refine va_getN (D := D) (ci := 2) (v := .ref aPp) (C := RX2) (T := TX2) (N := 5) hx hb hts iw_X2 hown hK hP 5 rfl rfl 0 (by decide) (va_Nw.use rfl (hG.1 (.fieldLinkNest RX1 50 RX2 "parents" "[I" RX6) (by decide +kernel))) (fun _ h9 => h9) rfl dX1_takeBack_69 ?_
      refine lv_iload_n hx hb dX1_takeBack_72 rfl (lv_at hl5 0 rfl) ?_
      refine lv_aload_n hx hb dX1_takeBack_73 rfl (lv_at hl5 1 rfl) ?_
      refine va_get (D := D) (ci := 1) (v := .ref aHb) (C := RX1) (T := TX1) (N := 7) hx hb hts iw_X1 hown hK hP 0 rfl rfl 3 (by decide) (hts (.fieldLink RX1 18 "VarianceBridge$History" "parentsBefore" "[I") (by decide +kernel)) (fun _ h9 => h9) rfl dX1_takeBack_74 ?_
      refine lv_aload_n hx hb dX1_takeBack_77 rfl (lv_at hl5 1 rfl) ?_
      refine va_get (D := D) (ci := 1) (v := .int jl) (C := RX1) (T := TX1) (N := 7) hx hb hts iw_X1 hown hK hP 0 rfl rfl 5 (by decide) (hts (.fieldLink RX1 26 "VarianceBridge$History" "latest" "I") (by decide +kernel)) (fun _ h9 => h9) rfl dX1_takeBack_78 ?_
      obtain ⟨c18, hm19⟩ := zz_no hm15
      refine va_iald hx hb hK hP 3 0 rfl rfl c18 dX1_takeBack_81 ?_
      obtain ⟨c20, hm21⟩ := zz_no hm19
      refine va_iast hx hb hK hP hD hS 6 0 rfl rfl c20 dX1_takeBack_82 (fun H22 lo22 hP22 hD22 hS22 => ?_)
      replace hP22 : va_P D vwCl (w_Hist cI cB cZ aH aHk aHp aHb aHr aP aPp aPf jl jn jk jp jb jr pg ps pn (upd pp (jp jl.toNatClampNeg).toNatClampNeg (jb jl.toNatClampNeg)) pf) H22 := hP22
      replace hD22 : va_D A (w_Hist cI cB cZ aH aHk aHp aHb aHr aP aPp aPf jl jn jk jp jb jr pg ps pn (upd pp (jp jl.toNatClampNeg).toNatClampNeg (jb jl.toNatClampNeg)) pf) := hD22
      clear hP hD hS
      refine lv_goto (tgt := 93) hx hb dX1_takeBack_83 (by decide) ?_
      exact hk_93 jl jn pn (upd pp (jp jl.toNatClampNeg).toNatClampNeg (jb jl.toNatClampNeg)) pf hm21 ls5 H22 lo22 (lv_sub hl5 [1] rfl) hP22 hD22 hS22
  · have hm10 := zz_if c8 hm7
    refine lv_aload_n hx hb dX1_takeBack_22 rfl (lv_at hl5 1 rfl) ?_
    refine va_get (D := D) (ci := 1) (v := .ref aHr) (C := RX1) (T := TX1) (N := 7) hx hb hts iw_X1 hown hK hP 0 rfl rfl 4 (by decide) (hts (.fieldLink RX1 23 "VarianceBridge$History" "rowsBefore" "[I") (by decide +kernel)) (fun _ h9 => h9) rfl dX1_takeBack_23 ?_
    refine lv_aload_n hx hb dX1_takeBack_26 rfl (lv_at hl5 1 rfl) ?_
    refine va_get (D := D) (ci := 1) (v := .int jl) (C := RX1) (T := TX1) (N := 7) hx hb hts iw_X1 hown hK hP 0 rfl rfl 5 (by decide) (hts (.fieldLink RX1 26 "VarianceBridge$History" "latest" "I") (by decide +kernel)) (fun _ h9 => h9) rfl dX1_takeBack_27 ?_
    refine lv_bipush (v := (100 : Int32)) hx hb dX1_takeBack_30 (by decide) ?_
    refine lv_imul hx hb dX1_takeBack_32 ?_
    refine lv_aload_n hx hb dX1_takeBack_33 rfl (lv_at hl5 1 rfl) ?_
    refine va_get (D := D) (ci := 1) (v := .ref aP) (C := RX1) (T := TX1) (N := 7) hx hb hts iw_X1 hown hK hP 0 rfl rfl 0 (by decide) (hts (.fieldLink RX1 33 "VarianceBridge$History" "plan" "LVarianceBridge$Plan;") (by decide +kernel)) (fun _ h9 => h9) rfl dX1_takeBack_34 ?_
    refine va_getN (D := D) (ci := 2) (v := .ref aPf) (C := RX2) (T := TX2) (N := 5) hx hb hts iw_X2 hown hK hP 5 rfl rfl 1 (by decide) (va_Nw.use rfl (hG.1 (.fieldLinkNest RX1 41 RX2 "factors" "[I" RX6) (by decide +kernel))) (fun _ h9 => h9) rfl dX1_takeBack_37 ?_
    refine lv_iload_n hx hb dX1_takeBack_40 rfl (lv_at hl5 0 rfl) ?_
    refine lv_bipush (v := (100 : Int32)) hx hb dX1_takeBack_41 (by decide) ?_
    refine lv_imul hx hb dX1_takeBack_43 ?_
    refine lv_bipush (v := (100 : Int32)) hx hb dX1_takeBack_44 (by decide) ?_
    obtain ⟨c23, hm24⟩ := zz_ys hm10
    refine va_copyi hx hb (by rw [hml]; exact hl5.1.symm) hown (hts (.methodLink RX1 44 arraycopyName) (by decide +kernel)) (hts (.native arraycopyName) (by decide +kernel)) (hts (.static arraycopyName) (by decide +kernel)) (hts (.initialized "java/lang/System") (by decide +kernel)) hK hP hD hS 4 7 0 0 rfl rfl rfl rfl rfl c23.1 c23.2.1 c23.2.2.1 c23.2.2.2.1 c23.2.2.2.2 (fun _ _ => rfl) (Nat.le_of_ble_eq_true rfl) (Nat.le_of_ble_eq_true rfl) dX1_takeBack_46 (fun H25 lo25 hP25 hD25 hS25 => ?_)
    replace hP25 : va_P D vwCl (w_Hist cI cB cZ aH aHk aHp aHb aHr aP aPp aPf jl jn jk jp jb jr pg ps pn pp (va_cpy jr pf (jl * (100 : Int32)).toNatClampNeg ((jp jl.toNatClampNeg) * (100 : Int32)).toNatClampNeg (100 : Int32).toNatClampNeg)) H25 := hP25
    replace hD25 : va_D A (w_Hist cI cB cZ aH aHk aHp aHb aHr aP aPp aPf jl jn jk jp jb jr pg ps pn pp (va_cpy jr pf (jl * (100 : Int32)).toNatClampNeg ((jp jl.toNatClampNeg) * (100 : Int32)).toNatClampNeg (100 : Int32).toNatClampNeg)) := hD25
    clear hP hD hS
    refine lv_goto (tgt := 93) hx hb dX1_takeBack_49 (by decide) ?_
    exact hk_93 jl jn pn pp (va_cpy jr pf (jl * (100 : Int32)).toNatClampNeg ((jp jl.toNatClampNeg) * (100 : Int32)).toNatClampNeg (100 : Int32).toNatClampNeg) hm24 ls5 H25 lo25 (lv_sub hl5 [1] rfl) hP25 hD25 hS25
theorem iw_X2_clear_X2 : ∀ w ∈ wsX20, w ∈ wsX2_clear := by decide +kernel
set_option maxHeartbeats 4000000 in
set_option maxRecDepth 100000 in
theorem c_X2_clear (l : Launch) (D : va_G) (cI cB cZ : ClassId) (ta : Nat → Nat) (aP : Nat) (aPp : Nat) (aPf : Nat) (sz : Nat) (pg : Int32) (ps : Int32) (pn : Int32) (pp : (Nat → Int32)) (pf : (Nat → Int32)) (x1 : Int32) (u_pg : Int32) (u_ps : Int32) (u_pn : Int32) (u_pp : (Nat → Int32)) (hm : m_X2_clear pg ps pn pp x1 = some (u_pg, u_ps, u_pn, u_pp)) : Met l yX2_clear wsX2_clear ({ frames := 0, cells := 0, slots := 0, locals := 0 } : Room) (va_Pc [.ref aP, .int x1] (PW D cI cB cZ ta (w_Plan cI cB cZ aP aPp aPf pg ps pn pp pf) sz)) (QV D cI cB cZ (va_A (w_Plan cI cB cZ aP aPp aPf pg ps pn pp pf) sz) (w_Plan cI cB cZ aP aPp aPf u_pg u_ps u_pn u_pp pf)) 0 0 (va_A (w_Plan cI cB cZ aP aPp aPf pg ps pn pp pf) sz) := by
  refine Met.ofW (cc := cX2_clear) (maxL := 2) (ret := none) (by decide) rfl ?_
  intro p e s m args below meth c s₁ B hml hv
  obtain ⟨rfl, hsz, hP, hK, hD0, hG⟩ := hv
  have hx := B.exec
  have hb := B.bytes
  have hr := B.returns
  have hts := atoms_spec (ws := wsX2_clear) B.pre
  have hown : s.vm.findClass RX2 = some m.cls := findClass_of_methodNamed B.named
  have hlocks := B.notSynchronized
  subst hsz
  have hD := hD0.self (sz := s.heap.size)
  clear hD0
  have hA0 : ∀ q : Nat, s.heap.size ≤ q → va_A (w_Plan cI cB cZ aP aPp aPf pg ps pn pp pf) s.heap.size q := fun q h => Or.inr h
  generalize hAe : va_A (w_Plan cI cB cZ aP aPp aPf pg ps pn pp pf) s.heap.size = A at hD hG hA0 ⊢
  have hA : ∀ q : Nat, s.heap.size ≤ q → A q := hA0
  clear hA0
  have hS : va_S A s.heap s.heap [] := va_S.rf
  have iw_X2 := iw_X2_clear_X2
  have hl := lv_entry ([.ref aP, .int x1]) (n := 2) (Nat.le_of_ble_eq_true rfl)
  rw [lg_entry_eq]
  generalize (lg_sl ([.ref aP, .int x1]) ++ List.replicate (2 - (lg_sl ([.ref aP, .int x1])).length) Slot.unset).toArray = ls at hl ⊢
  have hl : lv_has ls 2 [(0, .ref aP), (1, .int x1)] := hl
  replace hm : (if (0 : Int32) < 0 ∨ 20 ≤ (0 : Int32).toNatClampNeg then none else some ((1 : Int32), x1, (1 : Int32), (upd pp (0 : Int32).toNatClampNeg (-1 : Int32)))) = some (u_pg, u_ps, u_pn, u_pp) := hm
  refine lv_aload_n hx hb dX2_clear_0 rfl (lv_at hl 0 rfl) ?_
  refine lv_iload_n hx hb dX2_clear_1 rfl (lv_at hl 1 rfl) ?_
  refine va_put (D := D) (ci := 2) (v := .int x1) (ty := .int) (C := RX2) (T := TX2) (N := 5) hx hb hts iw_X2 tyX2 tyX2_ok nmX2 hown hK hP hD hS 0 rfl rfl 3 (by decide) (hts (.fieldLink RX2 22 "VarianceBridge$Plan" "scenes" "I") (by decide +kernel)) (fun _ h9 => h9) rfl (by decide +kernel) rfl rfl (Nat.le_of_ble_eq_true rfl) dX2_clear_2 (fun H1 lo1 hP1 hD1 hS1 => ?_)
  replace hP1 : va_P D vwCl (w_Plan cI cB cZ aP aPp aPf pg x1 pn pp pf) H1 := hP1
  replace hD1 : va_D A (w_Plan cI cB cZ aP aPp aPf pg x1 pn pp pf) := hD1
  clear hP hD hS
  refine lv_aload_n hx hb dX2_clear_5 rfl (lv_at hl 0 rfl) ?_
  refine lv_iconst (v := (1 : Int32)) hx hb dX2_clear_6 (by decide) ?_
  refine va_put (D := D) (ci := 2) (v := .int (1 : Int32)) (ty := .int) (C := RX2) (T := TX2) (N := 5) hx hb hts iw_X2 tyX2 tyX2_ok nmX2 hown hK hP1 hD1 hS1 0 rfl rfl 4 (by decide) (hts (.fieldLink RX2 26 "VarianceBridge$Plan" "nodes" "I") (by decide +kernel)) (fun _ h9 => h9) rfl (by decide +kernel) rfl rfl (Nat.le_of_ble_eq_true rfl) dX2_clear_7 (fun H2 lo2 hP2 hD2 hS2 => ?_)
  replace hP2 : va_P D vwCl (w_Plan cI cB cZ aP aPp aPf pg x1 (1 : Int32) pp pf) H2 := hP2
  replace hD2 : va_D A (w_Plan cI cB cZ aP aPp aPf pg x1 (1 : Int32) pp pf) := hD2
  clear hP1 hD1 hS1
  refine lv_aload_n hx hb dX2_clear_10 rfl (lv_at hl 0 rfl) ?_
  refine lv_iconst (v := (1 : Int32)) hx hb dX2_clear_11 (by decide) ?_
  refine va_put (D := D) (ci := 2) (v := .int (1 : Int32)) (ty := .int) (C := RX2) (T := TX2) (N := 5) hx hb hts iw_X2 tyX2 tyX2_ok nmX2 hown hK hP2 hD2 hS2 0 rfl rfl 2 (by decide) (hts (.fieldLink RX2 29 "VarianceBridge$Plan" "groupBits" "I") (by decide +kernel)) (fun _ h9 => h9) rfl (by decide +kernel) rfl rfl (Nat.le_of_ble_eq_true rfl) dX2_clear_12 (fun H3 lo3 hP3 hD3 hS3 => ?_)
  replace hP3 : va_P D vwCl (w_Plan cI cB cZ aP aPp aPf (1 : Int32) x1 (1 : Int32) pp pf) H3 := hP3
  replace hD3 : va_D A (w_Plan cI cB cZ aP aPp aPf (1 : Int32) x1 (1 : Int32) pp pf) := hD3
  clear hP2 hD2 hS2
  refine lv_aload_n hx hb dX2_clear_15 rfl (lv_at hl 0 rfl) ?_
  refine va_get (D := D) (ci := 2) (v := .ref aPp) (C := RX2) (T := TX2) (N := 5) hx hb hts iw_X2 hown hK hP3 0 rfl rfl 0 (by decide) (hts (.fieldLink RX2 9 "VarianceBridge$Plan" "parents" "[I") (by decide +kernel)) (fun _ h9 => h9) rfl dX2_clear_16 ?_
  refine lv_iconst (v := (0 : Int32)) hx hb dX2_clear_19 (by decide) ?_
  refine lv_iconst (v := (-1 : Int32)) hx hb dX2_clear_20 (by decide) ?_
  obtain ⟨c4, hm5⟩ := zz_no hm
  refine va_iast hx hb hK hP3 hD3 hS3 1 0 rfl rfl c4 dX2_clear_21 (fun H6 lo6 hP6 hD6 hS6 => ?_)
  replace hP6 : va_P D vwCl (w_Plan cI cB cZ aP aPp aPf (1 : Int32) x1 (1 : Int32) (upd pp (0 : Int32).toNatClampNeg (-1 : Int32)) pf) H6 := hP6
  replace hD6 : va_D A (w_Plan cI cB cZ aP aPp aPf (1 : Int32) x1 (1 : Int32) (upd pp (0 : Int32).toNatClampNeg (-1 : Int32)) pf) := hD6
  clear hP3 hD3 hS3
  obtain ⟨hq1, hq99⟩ := Prod.mk.inj (Option.some.inj hm5)
  obtain ⟨hq2, hq99⟩ := Prod.mk.inj (hq99)
  obtain ⟨hq3, hq4⟩ := Prod.mk.inj (hq99)
  subst hq1
  subst hq2
  subst hq3
  subst hq4
  exact W.vret hx hb hr (fun t ht hW => ⟨⟨(), rfl, trivial, by rw [ht]; exact hP6, va_K.moved hW.alike hK, hD6⟩, hS6.F ht⟩) hS6.2.2 dX2_clear_22
theorem iw_X2_takeFrom_X2 : ∀ w ∈ wsX20, w ∈ wsX2_takeFrom := by decide +kernel
set_option maxHeartbeats 4000000 in
set_option maxRecDepth 100000 in
theorem c_X2_takeFrom (l : Launch) (D : va_G) (cI cB cZ : ClassId) (ta : Nat → Nat) (aP : Nat) (aPp : Nat) (aPf : Nat) (aD : Nat) (aDp : Nat) (aDf : Nat) (sz : Nat) (pg : Int32) (ps : Int32) (pn : Int32) (pp : (Nat → Int32)) (pf : (Nat → Int32)) (dg : Int32) (ds : Int32) (dn : Int32) (dp : (Nat → Int32)) (df : (Nat → Int32)) (u_pg : Int32) (u_ps : Int32) (u_pn : Int32) (u_pp : (Nat → Int32)) (u_pf : (Nat → Int32)) (hm : m_X2_takeFrom pg ps pn pp pf dg ds dn dp df = some (u_pg, u_ps, u_pn, u_pp, u_pf)) : Met l yX2_takeFrom wsX2_takeFrom ({ frames := 1, cells := 0, slots := 0, locals := 48 } : Room) (va_Pc [.ref aP, .ref aD] (PW D cI cB cZ ta (w_Plan2 cI cB cZ aP aPp aPf aD aDp aDf pg ps pn pp pf dg ds dn dp df) sz)) (QV D cI cB cZ (va_A (w_Plan2 cI cB cZ aP aPp aPf aD aDp aDf pg ps pn pp pf dg ds dn dp df) sz) (w_Plan2 cI cB cZ aP aPp aPf aD aDp aDf u_pg u_ps u_pn u_pp u_pf dg ds dn dp df)) 0 0 (va_A (w_Plan2 cI cB cZ aP aPp aPf aD aDp aDf pg ps pn pp pf dg ds dn dp df) sz) := by
  refine Met.ofW (cc := cX2_takeFrom) (maxL := 2) (ret := none) (by decide) rfl ?_
  intro p e s m args below meth c s₁ B hml hv
  obtain ⟨rfl, hsz, hP, hK, hD0, hG⟩ := hv
  have hx := B.exec
  have hb := B.bytes
  have hr := B.returns
  have hts := atoms_spec (ws := wsX2_takeFrom) B.pre
  have hown : s.vm.findClass RX2 = some m.cls := findClass_of_methodNamed B.named
  have hlocks := B.notSynchronized
  subst hsz
  have hD := hD0.self (sz := s.heap.size)
  clear hD0
  have hA0 : ∀ q : Nat, s.heap.size ≤ q → va_A (w_Plan2 cI cB cZ aP aPp aPf aD aDp aDf pg ps pn pp pf dg ds dn dp df) s.heap.size q := fun q h => Or.inr h
  generalize hAe : va_A (w_Plan2 cI cB cZ aP aPp aPf aD aDp aDf pg ps pn pp pf dg ds dn dp df) s.heap.size = A at hD hG hA0 ⊢
  have hA : ∀ q : Nat, s.heap.size ≤ q → A q := hA0
  clear hA0
  have hS : va_S A s.heap s.heap [] := va_S.rf
  have iw_X2 := iw_X2_takeFrom_X2
  have hl := lv_entry ([.ref aP, .ref aD]) (n := 2) (Nat.le_of_ble_eq_true rfl)
  rw [lg_entry_eq]
  generalize (lg_sl ([.ref aP, .ref aD]) ++ List.replicate (2 - (lg_sl ([.ref aP, .ref aD])).length) Slot.unset).toArray = ls at hl ⊢
  have hl : lv_has ls 2 [(0, .ref aP), (1, .ref aD)] := hl
  replace hm : (if ¬ (0 : Int32) < 0 ∧ ¬ (0 : Int32) < 0 ∧ ¬ (20 : Int32) < 0 ∧ (0 : Int32).toNatClampNeg + (20 : Int32).toNatClampNeg ≤ 20 ∧ (0 : Int32).toNatClampNeg + (20 : Int32).toNatClampNeg ≤ 20 then (if ¬ (0 : Int32) < 0 ∧ ¬ (0 : Int32) < 0 ∧ ¬ (400 : Int32) < 0 ∧ (0 : Int32).toNatClampNeg + (400 : Int32).toNatClampNeg ≤ 400 ∧ (0 : Int32).toNatClampNeg + (400 : Int32).toNatClampNeg ≤ 400 then some (dg, ds, dn, (va_cpy dp pp (0 : Int32).toNatClampNeg (0 : Int32).toNatClampNeg (20 : Int32).toNatClampNeg), (va_cpy df pf (0 : Int32).toNatClampNeg (0 : Int32).toNatClampNeg (400 : Int32).toNatClampNeg)) else none) else none) = some (u_pg, u_ps, u_pn, u_pp, u_pf) := hm
  refine lv_aload_n hx hb dX2_takeFrom_0 rfl (lv_at hl 1 rfl) ?_
  refine va_get (D := D) (ci := 2) (v := .ref aDp) (C := RX2) (T := TX2) (N := 5) hx hb hts iw_X2 hown hK hP 3 rfl rfl 0 (by decide) (hts (.fieldLink RX2 9 "VarianceBridge$Plan" "parents" "[I") (by decide +kernel)) (fun _ h9 => h9) rfl dX2_takeFrom_1 ?_
  refine lv_iconst (v := (0 : Int32)) hx hb dX2_takeFrom_4 (by decide) ?_
  refine lv_aload_n hx hb dX2_takeFrom_5 rfl (lv_at hl 0 rfl) ?_
  refine va_get (D := D) (ci := 2) (v := .ref aPp) (C := RX2) (T := TX2) (N := 5) hx hb hts iw_X2 hown hK hP 0 rfl rfl 0 (by decide) (hts (.fieldLink RX2 9 "VarianceBridge$Plan" "parents" "[I") (by decide +kernel)) (fun _ h9 => h9) rfl dX2_takeFrom_6 ?_
  refine lv_iconst (v := (0 : Int32)) hx hb dX2_takeFrom_9 (by decide) ?_
  refine lv_bipush (v := (20 : Int32)) hx hb dX2_takeFrom_10 (by decide) ?_
  obtain ⟨c1, hm2⟩ := zz_ys hm
  refine va_copyi hx hb (by rw [hml]; exact hl.1.symm) hown (hts (.methodLink RX2 32 arraycopyName) (by decide +kernel)) (hts (.native arraycopyName) (by decide +kernel)) (hts (.static arraycopyName) (by decide +kernel)) (hts (.initialized "java/lang/System") (by decide +kernel)) hK hP hD hS 4 1 0 0 rfl rfl rfl rfl rfl c1.1 c1.2.1 c1.2.2.1 c1.2.2.2.1 c1.2.2.2.2 (fun _ _ => rfl) (Nat.le_of_ble_eq_true rfl) (Nat.le_of_ble_eq_true rfl) dX2_takeFrom_12 (fun H3 lo3 hP3 hD3 hS3 => ?_)
  replace hP3 : va_P D vwCl (w_Plan2 cI cB cZ aP aPp aPf aD aDp aDf pg ps pn (va_cpy dp pp (0 : Int32).toNatClampNeg (0 : Int32).toNatClampNeg (20 : Int32).toNatClampNeg) pf dg ds dn dp df) H3 := hP3
  replace hD3 : va_D A (w_Plan2 cI cB cZ aP aPp aPf aD aDp aDf pg ps pn (va_cpy dp pp (0 : Int32).toNatClampNeg (0 : Int32).toNatClampNeg (20 : Int32).toNatClampNeg) pf dg ds dn dp df) := hD3
  clear hP hD hS
  refine lv_aload_n hx hb dX2_takeFrom_15 rfl (lv_at hl 1 rfl) ?_
  refine va_get (D := D) (ci := 2) (v := .ref aDf) (C := RX2) (T := TX2) (N := 5) hx hb hts iw_X2 hown hK hP3 3 rfl rfl 1 (by decide) (hts (.fieldLink RX2 15 "VarianceBridge$Plan" "factors" "[I") (by decide +kernel)) (fun _ h9 => h9) rfl dX2_takeFrom_16 ?_
  refine lv_iconst (v := (0 : Int32)) hx hb dX2_takeFrom_19 (by decide) ?_
  refine lv_aload_n hx hb dX2_takeFrom_20 rfl (lv_at hl 0 rfl) ?_
  refine va_get (D := D) (ci := 2) (v := .ref aPf) (C := RX2) (T := TX2) (N := 5) hx hb hts iw_X2 hown hK hP3 0 rfl rfl 1 (by decide) (hts (.fieldLink RX2 15 "VarianceBridge$Plan" "factors" "[I") (by decide +kernel)) (fun _ h9 => h9) rfl dX2_takeFrom_21 ?_
  refine lv_iconst (v := (0 : Int32)) hx hb dX2_takeFrom_24 (by decide) ?_
  refine lv_sipush (v := (400 : Int32)) hx hb dX2_takeFrom_25 (by decide) ?_
  obtain ⟨c4, hm5⟩ := zz_ys hm2
  refine va_copyi hx hb (by rw [hml]; exact hl.1.symm) hown (hts (.methodLink RX2 32 arraycopyName) (by decide +kernel)) (hts (.native arraycopyName) (by decide +kernel)) (hts (.static arraycopyName) (by decide +kernel)) (hts (.initialized "java/lang/System") (by decide +kernel)) hK hP3 hD3 hS3 5 2 0 0 rfl rfl rfl rfl rfl c4.1 c4.2.1 c4.2.2.1 c4.2.2.2.1 c4.2.2.2.2 (fun _ _ => rfl) (Nat.le_of_ble_eq_true rfl) (Nat.le_of_ble_eq_true rfl) dX2_takeFrom_28 (fun H6 lo6 hP6 hD6 hS6 => ?_)
  replace hP6 : va_P D vwCl (w_Plan2 cI cB cZ aP aPp aPf aD aDp aDf pg ps pn (va_cpy dp pp (0 : Int32).toNatClampNeg (0 : Int32).toNatClampNeg (20 : Int32).toNatClampNeg) (va_cpy df pf (0 : Int32).toNatClampNeg (0 : Int32).toNatClampNeg (400 : Int32).toNatClampNeg) dg ds dn dp df) H6 := hP6
  replace hD6 : va_D A (w_Plan2 cI cB cZ aP aPp aPf aD aDp aDf pg ps pn (va_cpy dp pp (0 : Int32).toNatClampNeg (0 : Int32).toNatClampNeg (20 : Int32).toNatClampNeg) (va_cpy df pf (0 : Int32).toNatClampNeg (0 : Int32).toNatClampNeg (400 : Int32).toNatClampNeg) dg ds dn dp df) := hD6
  clear hP3 hD3 hS3
  refine lv_aload_n hx hb dX2_takeFrom_31 rfl (lv_at hl 0 rfl) ?_
  refine lv_aload_n hx hb dX2_takeFrom_32 rfl (lv_at hl 1 rfl) ?_
  refine va_get (D := D) (ci := 2) (v := .int dg) (C := RX2) (T := TX2) (N := 5) hx hb hts iw_X2 hown hK hP6 3 rfl rfl 2 (by decide) (hts (.fieldLink RX2 29 "VarianceBridge$Plan" "groupBits" "I") (by decide +kernel)) (fun _ h9 => h9) rfl dX2_takeFrom_33 ?_
  refine va_put (D := D) (ci := 2) (v := .int dg) (ty := .int) (C := RX2) (T := TX2) (N := 5) hx hb hts iw_X2 tyX2 tyX2_ok nmX2 hown hK hP6 hD6 hS6 0 rfl rfl 2 (by decide) (hts (.fieldLink RX2 29 "VarianceBridge$Plan" "groupBits" "I") (by decide +kernel)) (fun _ h9 => h9) rfl (by decide +kernel) rfl rfl (Nat.le_of_ble_eq_true rfl) dX2_takeFrom_36 (fun H7 lo7 hP7 hD7 hS7 => ?_)
  replace hP7 : va_P D vwCl (w_Plan2 cI cB cZ aP aPp aPf aD aDp aDf dg ps pn (va_cpy dp pp (0 : Int32).toNatClampNeg (0 : Int32).toNatClampNeg (20 : Int32).toNatClampNeg) (va_cpy df pf (0 : Int32).toNatClampNeg (0 : Int32).toNatClampNeg (400 : Int32).toNatClampNeg) dg ds dn dp df) H7 := hP7
  replace hD7 : va_D A (w_Plan2 cI cB cZ aP aPp aPf aD aDp aDf dg ps pn (va_cpy dp pp (0 : Int32).toNatClampNeg (0 : Int32).toNatClampNeg (20 : Int32).toNatClampNeg) (va_cpy df pf (0 : Int32).toNatClampNeg (0 : Int32).toNatClampNeg (400 : Int32).toNatClampNeg) dg ds dn dp df) := hD7
  clear hP6 hD6 hS6
  refine lv_aload_n hx hb dX2_takeFrom_39 rfl (lv_at hl 0 rfl) ?_
  refine lv_aload_n hx hb dX2_takeFrom_40 rfl (lv_at hl 1 rfl) ?_
  refine va_get (D := D) (ci := 2) (v := .int ds) (C := RX2) (T := TX2) (N := 5) hx hb hts iw_X2 hown hK hP7 3 rfl rfl 3 (by decide) (hts (.fieldLink RX2 22 "VarianceBridge$Plan" "scenes" "I") (by decide +kernel)) (fun _ h9 => h9) rfl dX2_takeFrom_41 ?_
  refine va_put (D := D) (ci := 2) (v := .int ds) (ty := .int) (C := RX2) (T := TX2) (N := 5) hx hb hts iw_X2 tyX2 tyX2_ok nmX2 hown hK hP7 hD7 hS7 0 rfl rfl 3 (by decide) (hts (.fieldLink RX2 22 "VarianceBridge$Plan" "scenes" "I") (by decide +kernel)) (fun _ h9 => h9) rfl (by decide +kernel) rfl rfl (Nat.le_of_ble_eq_true rfl) dX2_takeFrom_44 (fun H8 lo8 hP8 hD8 hS8 => ?_)
  replace hP8 : va_P D vwCl (w_Plan2 cI cB cZ aP aPp aPf aD aDp aDf dg ds pn (va_cpy dp pp (0 : Int32).toNatClampNeg (0 : Int32).toNatClampNeg (20 : Int32).toNatClampNeg) (va_cpy df pf (0 : Int32).toNatClampNeg (0 : Int32).toNatClampNeg (400 : Int32).toNatClampNeg) dg ds dn dp df) H8 := hP8
  replace hD8 : va_D A (w_Plan2 cI cB cZ aP aPp aPf aD aDp aDf dg ds pn (va_cpy dp pp (0 : Int32).toNatClampNeg (0 : Int32).toNatClampNeg (20 : Int32).toNatClampNeg) (va_cpy df pf (0 : Int32).toNatClampNeg (0 : Int32).toNatClampNeg (400 : Int32).toNatClampNeg) dg ds dn dp df) := hD8
  clear hP7 hD7 hS7
  refine lv_aload_n hx hb dX2_takeFrom_47 rfl (lv_at hl 0 rfl) ?_
  refine lv_aload_n hx hb dX2_takeFrom_48 rfl (lv_at hl 1 rfl) ?_
  refine va_get (D := D) (ci := 2) (v := .int dn) (C := RX2) (T := TX2) (N := 5) hx hb hts iw_X2 hown hK hP8 3 rfl rfl 4 (by decide) (hts (.fieldLink RX2 26 "VarianceBridge$Plan" "nodes" "I") (by decide +kernel)) (fun _ h9 => h9) rfl dX2_takeFrom_49 ?_
  refine va_put (D := D) (ci := 2) (v := .int dn) (ty := .int) (C := RX2) (T := TX2) (N := 5) hx hb hts iw_X2 tyX2 tyX2_ok nmX2 hown hK hP8 hD8 hS8 0 rfl rfl 4 (by decide) (hts (.fieldLink RX2 26 "VarianceBridge$Plan" "nodes" "I") (by decide +kernel)) (fun _ h9 => h9) rfl (by decide +kernel) rfl rfl (Nat.le_of_ble_eq_true rfl) dX2_takeFrom_52 (fun H9 lo9 hP9 hD9 hS9 => ?_)
  replace hP9 : va_P D vwCl (w_Plan2 cI cB cZ aP aPp aPf aD aDp aDf dg ds dn (va_cpy dp pp (0 : Int32).toNatClampNeg (0 : Int32).toNatClampNeg (20 : Int32).toNatClampNeg) (va_cpy df pf (0 : Int32).toNatClampNeg (0 : Int32).toNatClampNeg (400 : Int32).toNatClampNeg) dg ds dn dp df) H9 := hP9
  replace hD9 : va_D A (w_Plan2 cI cB cZ aP aPp aPf aD aDp aDf dg ds dn (va_cpy dp pp (0 : Int32).toNatClampNeg (0 : Int32).toNatClampNeg (20 : Int32).toNatClampNeg) (va_cpy df pf (0 : Int32).toNatClampNeg (0 : Int32).toNatClampNeg (400 : Int32).toNatClampNeg) dg ds dn dp df) := hD9
  clear hP8 hD8 hS8
  obtain ⟨hq1, hq99⟩ := Prod.mk.inj (Option.some.inj hm5)
  obtain ⟨hq2, hq99⟩ := Prod.mk.inj (hq99)
  obtain ⟨hq3, hq99⟩ := Prod.mk.inj (hq99)
  obtain ⟨hq4, hq5⟩ := Prod.mk.inj (hq99)
  subst hq1
  subst hq2
  subst hq3
  subst hq4
  subst hq5
  exact W.vret hx hb hr (fun t ht hW => ⟨⟨(), rfl, trivial, by rw [ht]; exact hP9, va_K.moved hW.alike hK, hD9⟩, hS9.F ht⟩) hS9.2.2 dX2_takeFrom_55
theorem iw_X2_isScene_X2 : ∀ w ∈ wsX20, w ∈ wsX2_isScene := by decide +kernel
set_option maxHeartbeats 4000000 in
set_option maxRecDepth 100000 in
theorem c_X2_isScene (l : Launch) (D : va_G) (cI cB cZ : ClassId) (ta : Nat → Nat) (aP : Nat) (aPp : Nat) (aPf : Nat) (sz : Nat) (pg : Int32) (ps : Int32) (pn : Int32) (pp : (Nat → Int32)) (pf : (Nat → Int32)) (x1 : Int32) (r0 : Int32) (hm : m_X2_isScene ps x1 = some r0) : Met l yX2_isScene wsX2_isScene ({ frames := 0, cells := 0, slots := 0, locals := 0 } : Room) (va_Pc [.ref aP, .int x1] (PW D cI cB cZ ta (w_Plan cI cB cZ aP aPp aPf pg ps pn pp pf) sz)) (QZ .boolean D cI cB cZ (va_A (w_Plan cI cB cZ aP aPp aPf pg ps pn pp pf) sz) (w_Plan cI cB cZ aP aPp aPf pg ps pn pp pf) r0) 0 0 (va_A (w_Plan cI cB cZ aP aPp aPf pg ps pn pp pf) sz) := by
  refine Met.ofW (cc := cX2_isScene) (maxL := 2) (ret := (some .boolean)) (by decide) rfl ?_
  intro p e s m args below meth c s₁ B hml hv
  obtain ⟨rfl, hsz, hP, hK, hD0, hG⟩ := hv
  have hx := B.exec
  have hb := B.bytes
  have hr := B.returns
  have hts := atoms_spec (ws := wsX2_isScene) B.pre
  have hown : s.vm.findClass RX2 = some m.cls := findClass_of_methodNamed B.named
  have hlocks := B.notSynchronized
  subst hsz
  have hD := hD0.self (sz := s.heap.size)
  clear hD0
  have hA0 : ∀ q : Nat, s.heap.size ≤ q → va_A (w_Plan cI cB cZ aP aPp aPf pg ps pn pp pf) s.heap.size q := fun q h => Or.inr h
  generalize hAe : va_A (w_Plan cI cB cZ aP aPp aPf pg ps pn pp pf) s.heap.size = A at hD hG hA0 ⊢
  have hA : ∀ q : Nat, s.heap.size ≤ q → A q := hA0
  clear hA0
  have hS : va_S A s.heap s.heap [] := va_S.rf
  have iw_X2 := iw_X2_isScene_X2
  have hl := lv_entry ([.ref aP, .int x1]) (n := 2) (Nat.le_of_ble_eq_true rfl)
  rw [lg_entry_eq]
  generalize (lg_sl ([.ref aP, .int x1]) ++ List.replicate (2 - (lg_sl ([.ref aP, .int x1])).length) Slot.unset).toArray = ls at hl ⊢
  have hl : lv_has ls 2 [(0, .ref aP), (1, .int x1)] := hl
  replace hm : (if x1 < 0 then some (0 : Int32) else (if ps ≤ x1 then some (0 : Int32) else some (1 : Int32))) = some r0 := hm
  refine lv_iload_n hx hb dX2_isScene_0 rfl (lv_at hl 1 rfl) ?_
  refine lv_if_lt (tgt := 16) hx hb dX2_isScene_1 (by decide) (fun c1 => ?_) (fun c1 => ?_)
  · have hm2 := zz_if c1 hm
    refine lv_iconst (v := (0 : Int32)) hx hb dX2_isScene_16 (by decide) ?_
    have hq1 := Option.some.inj hm2
    subst hq1
    exact W.zret (ty := .boolean) hx hb hr (by decide) (fun t ht hW => ⟨⟨_, (), rfl, ⟨rfl, (by decide)⟩, by rw [ht]; exact hP, va_K.moved hW.alike hK, hD⟩, hS.F ht⟩) hS.2.2 dX2_isScene_17
  · have hm3 := zz_nf c1 hm
    refine lv_iload_n hx hb dX2_isScene_4 rfl (lv_at hl 1 rfl) ?_
    refine lv_aload_n hx hb dX2_isScene_5 rfl (lv_at hl 0 rfl) ?_
    refine va_get (D := D) (ci := 2) (v := .int ps) (C := RX2) (T := TX2) (N := 5) hx hb hts iw_X2 hown hK hP 0 rfl rfl 3 (by decide) (hts (.fieldLink RX2 22 "VarianceBridge$Plan" "scenes" "I") (by decide +kernel)) (fun _ h9 => h9) rfl dX2_isScene_6 ?_
    refine lv_icmp_ge (tgt := 16) hx hb dX2_isScene_9 (by decide) (fun c4 => ?_) (fun c4 => ?_)
    · have hm5 := zz_if c4 hm3
      refine lv_iconst (v := (0 : Int32)) hx hb dX2_isScene_16 (by decide) ?_
      have hq1 := Option.some.inj hm5
      subst hq1
      exact W.zret (ty := .boolean) hx hb hr (by decide) (fun t ht hW => ⟨⟨_, (), rfl, ⟨rfl, (by decide)⟩, by rw [ht]; exact hP, va_K.moved hW.alike hK, hD⟩, hS.F ht⟩) hS.2.2 dX2_isScene_17
    · have hm6 := zz_nf c4 hm3
      refine lv_iconst (v := (1 : Int32)) hx hb dX2_isScene_12 (by decide) ?_
      refine lv_goto (tgt := 17) hx hb dX2_isScene_13 (by decide) ?_
      have hq1 := Option.some.inj hm6
      subst hq1
      exact W.zret (ty := .boolean) hx hb hr (by decide) (fun t ht hW => ⟨⟨_, (), rfl, ⟨rfl, (by decide)⟩, by rw [ht]; exact hP, va_K.moved hW.alike hK, hD⟩, hS.F ht⟩) hS.2.2 dX2_isScene_17
theorem iw_X2_addGroup_X2 : ∀ w ∈ wsX20, w ∈ wsX2_addGroup := by decide +kernel
set_option maxHeartbeats 4000000 in
set_option maxRecDepth 100000 in
theorem c_X2_addGroup (l : Launch) (D : va_G) (cI cB cZ : ClassId) (ta : Nat → Nat) (aP : Nat) (aPp : Nat) (aPf : Nat) (sz : Nat) (pg : Int32) (ps : Int32) (pn : Int32) (pp : (Nat → Int32)) (pf : (Nat → Int32)) (x1 : Int32) (u_pg : Int32) (u_pn : Int32) (u_pp : (Nat → Int32)) (hm : m_X2_addGroup pg pn pp x1 = some (u_pg, u_pn, u_pp)) : Met l yX2_addGroup wsX2_addGroup ({ frames := 0, cells := 0, slots := 0, locals := 0 } : Room) (va_Pc [.ref aP, .int x1] (PW D cI cB cZ ta (w_Plan cI cB cZ aP aPp aPf pg ps pn pp pf) sz)) (QV D cI cB cZ (va_A (w_Plan cI cB cZ aP aPp aPf pg ps pn pp pf) sz) (w_Plan cI cB cZ aP aPp aPf u_pg ps u_pn u_pp pf)) 0 0 (va_A (w_Plan cI cB cZ aP aPp aPf pg ps pn pp pf) sz) := by
  refine Met.ofW (cc := cX2_addGroup) (maxL := 2) (ret := none) (by decide) rfl ?_
  intro p e s m args below meth c s₁ B hml hv
  obtain ⟨rfl, hsz, hP, hK, hD0, hG⟩ := hv
  have hx := B.exec
  have hb := B.bytes
  have hr := B.returns
  have hts := atoms_spec (ws := wsX2_addGroup) B.pre
  have hown : s.vm.findClass RX2 = some m.cls := findClass_of_methodNamed B.named
  have hlocks := B.notSynchronized
  subst hsz
  have hD := hD0.self (sz := s.heap.size)
  clear hD0
  have hA0 : ∀ q : Nat, s.heap.size ≤ q → va_A (w_Plan cI cB cZ aP aPp aPf pg ps pn pp pf) s.heap.size q := fun q h => Or.inr h
  generalize hAe : va_A (w_Plan cI cB cZ aP aPp aPf pg ps pn pp pf) s.heap.size = A at hD hG hA0 ⊢
  have hA : ∀ q : Nat, s.heap.size ≤ q → A q := hA0
  clear hA0
  have hS : va_S A s.heap s.heap [] := va_S.rf
  have iw_X2 := iw_X2_addGroup_X2
  have hl := lv_entry ([.ref aP, .int x1]) (n := 2) (Nat.le_of_ble_eq_true rfl)
  rw [lg_entry_eq]
  generalize (lg_sl ([.ref aP, .int x1]) ++ List.replicate (2 - (lg_sl ([.ref aP, .int x1])).length) Slot.unset).toArray = ls at hl ⊢
  have hl : lv_has ls 2 [(0, .ref aP), (1, .int x1)] := hl
  replace hm : (if (20 : Int32) ≤ pn then some (pg, pn, pp) else (if pn < 0 ∨ 20 ≤ pn.toNatClampNeg then none else some ((pg ||| ((1 : Int32) <<< (pn &&& 31))), (pn + (1 : Int32)), (upd pp pn.toNatClampNeg x1)))) = some (u_pg, u_pn, u_pp) := hm
  refine lv_aload_n hx hb dX2_addGroup_0 rfl (lv_at hl 0 rfl) ?_
  refine va_get (D := D) (ci := 2) (v := .int pn) (C := RX2) (T := TX2) (N := 5) hx hb hts iw_X2 hown hK hP 0 rfl rfl 4 (by decide) (hts (.fieldLink RX2 26 "VarianceBridge$Plan" "nodes" "I") (by decide +kernel)) (fun _ h9 => h9) rfl dX2_addGroup_1 ?_
  refine lv_bipush (v := (20 : Int32)) hx hb dX2_addGroup_4 (by decide) ?_
  refine lv_icmp_ge (tgt := 44) hx hb dX2_addGroup_6 (by decide) (fun c1 => ?_) (fun c1 => ?_)
  · have hm2 := zz_if c1 hm
    obtain ⟨hq1, hq99⟩ := Prod.mk.inj (Option.some.inj hm2)
    obtain ⟨hq2, hq3⟩ := Prod.mk.inj (hq99)
    subst hq1
    subst hq2
    subst hq3
    exact W.vret hx hb hr (fun t ht hW => ⟨⟨(), rfl, trivial, by rw [ht]; exact hP, va_K.moved hW.alike hK, hD⟩, hS.F ht⟩) hS.2.2 dX2_addGroup_44
  · have hm3 := zz_nf c1 hm
    refine lv_aload_n hx hb dX2_addGroup_9 rfl (lv_at hl 0 rfl) ?_
    refine va_get (D := D) (ci := 2) (v := .ref aPp) (C := RX2) (T := TX2) (N := 5) hx hb hts iw_X2 hown hK hP 0 rfl rfl 0 (by decide) (hts (.fieldLink RX2 9 "VarianceBridge$Plan" "parents" "[I") (by decide +kernel)) (fun _ h9 => h9) rfl dX2_addGroup_10 ?_
    refine lv_aload_n hx hb dX2_addGroup_13 rfl (lv_at hl 0 rfl) ?_
    refine va_get (D := D) (ci := 2) (v := .int pn) (C := RX2) (T := TX2) (N := 5) hx hb hts iw_X2 hown hK hP 0 rfl rfl 4 (by decide) (hts (.fieldLink RX2 26 "VarianceBridge$Plan" "nodes" "I") (by decide +kernel)) (fun _ h9 => h9) rfl dX2_addGroup_14 ?_
    refine lv_iload_n hx hb dX2_addGroup_17 rfl (lv_at hl 1 rfl) ?_
    obtain ⟨c4, hm5⟩ := zz_no hm3
    refine va_iast hx hb hK hP hD hS 1 0 rfl rfl c4 dX2_addGroup_18 (fun H6 lo6 hP6 hD6 hS6 => ?_)
    replace hP6 : va_P D vwCl (w_Plan cI cB cZ aP aPp aPf pg ps pn (upd pp pn.toNatClampNeg x1) pf) H6 := hP6
    replace hD6 : va_D A (w_Plan cI cB cZ aP aPp aPf pg ps pn (upd pp pn.toNatClampNeg x1) pf) := hD6
    clear hP hD hS
    refine lv_aload_n hx hb dX2_addGroup_19 rfl (lv_at hl 0 rfl) ?_
    refine lv_dup hx hb dX2_addGroup_20 rfl ?_
    refine va_get (D := D) (ci := 2) (v := .int pg) (C := RX2) (T := TX2) (N := 5) hx hb hts iw_X2 hown hK hP6 0 rfl rfl 2 (by decide) (hts (.fieldLink RX2 29 "VarianceBridge$Plan" "groupBits" "I") (by decide +kernel)) (fun _ h9 => h9) rfl dX2_addGroup_21 ?_
    refine lv_iconst (v := (1 : Int32)) hx hb dX2_addGroup_24 (by decide) ?_
    refine lv_aload_n hx hb dX2_addGroup_25 rfl (lv_at hl 0 rfl) ?_
    refine va_get (D := D) (ci := 2) (v := .int pn) (C := RX2) (T := TX2) (N := 5) hx hb hts iw_X2 hown hK hP6 0 rfl rfl 4 (by decide) (hts (.fieldLink RX2 26 "VarianceBridge$Plan" "nodes" "I") (by decide +kernel)) (fun _ h9 => h9) rfl dX2_addGroup_26 ?_
    refine lv_ishl hx hb dX2_addGroup_29 ?_
    refine lv_ior hx hb dX2_addGroup_30 ?_
    refine va_put (D := D) (ci := 2) (v := .int (pg ||| ((1 : Int32) <<< (pn &&& 31)))) (ty := .int) (C := RX2) (T := TX2) (N := 5) hx hb hts iw_X2 tyX2 tyX2_ok nmX2 hown hK hP6 hD6 hS6 0 rfl rfl 2 (by decide) (hts (.fieldLink RX2 29 "VarianceBridge$Plan" "groupBits" "I") (by decide +kernel)) (fun _ h9 => h9) rfl (by decide +kernel) rfl rfl (Nat.le_of_ble_eq_true rfl) dX2_addGroup_31 (fun H7 lo7 hP7 hD7 hS7 => ?_)
    replace hP7 : va_P D vwCl (w_Plan cI cB cZ aP aPp aPf (pg ||| ((1 : Int32) <<< (pn &&& 31))) ps pn (upd pp pn.toNatClampNeg x1) pf) H7 := hP7
    replace hD7 : va_D A (w_Plan cI cB cZ aP aPp aPf (pg ||| ((1 : Int32) <<< (pn &&& 31))) ps pn (upd pp pn.toNatClampNeg x1) pf) := hD7
    clear hP6 hD6 hS6
    refine lv_aload_n hx hb dX2_addGroup_34 rfl (lv_at hl 0 rfl) ?_
    refine lv_dup hx hb dX2_addGroup_35 rfl ?_
    refine va_get (D := D) (ci := 2) (v := .int pn) (C := RX2) (T := TX2) (N := 5) hx hb hts iw_X2 hown hK hP7 0 rfl rfl 4 (by decide) (hts (.fieldLink RX2 26 "VarianceBridge$Plan" "nodes" "I") (by decide +kernel)) (fun _ h9 => h9) rfl dX2_addGroup_36 ?_
    refine lv_iconst (v := (1 : Int32)) hx hb dX2_addGroup_39 (by decide) ?_
    refine lv_iadd hx hb dX2_addGroup_40 ?_
    refine va_put (D := D) (ci := 2) (v := .int (pn + (1 : Int32))) (ty := .int) (C := RX2) (T := TX2) (N := 5) hx hb hts iw_X2 tyX2 tyX2_ok nmX2 hown hK hP7 hD7 hS7 0 rfl rfl 4 (by decide) (hts (.fieldLink RX2 26 "VarianceBridge$Plan" "nodes" "I") (by decide +kernel)) (fun _ h9 => h9) rfl (by decide +kernel) rfl rfl (Nat.le_of_ble_eq_true rfl) dX2_addGroup_41 (fun H8 lo8 hP8 hD8 hS8 => ?_)
    replace hP8 : va_P D vwCl (w_Plan cI cB cZ aP aPp aPf (pg ||| ((1 : Int32) <<< (pn &&& 31))) ps (pn + (1 : Int32)) (upd pp pn.toNatClampNeg x1) pf) H8 := hP8
    replace hD8 : va_D A (w_Plan cI cB cZ aP aPp aPf (pg ||| ((1 : Int32) <<< (pn &&& 31))) ps (pn + (1 : Int32)) (upd pp pn.toNatClampNeg x1) pf) := hD8
    clear hP7 hD7 hS7
    obtain ⟨hq1, hq99⟩ := Prod.mk.inj (Option.some.inj hm5)
    obtain ⟨hq2, hq3⟩ := Prod.mk.inj (hq99)
    subst hq1
    subst hq2
    subst hq3
    exact W.vret hx hb hr (fun t ht hW => ⟨⟨(), rfl, trivial, by rw [ht]; exact hP8, va_K.moved hW.alike hK, hD8⟩, hS8.F ht⟩) hS8.2.2 dX2_addGroup_44
theorem iw_X2_putFactor_X2 : ∀ w ∈ wsX20, w ∈ wsX2_putFactor := by decide +kernel
set_option maxHeartbeats 4000000 in
set_option maxRecDepth 100000 in
theorem c_X2_putFactor (l : Launch) (D : va_G) (cI cB cZ : ClassId) (ta : Nat → Nat) (aP : Nat) (aPp : Nat) (aPf : Nat) (sz : Nat) (pg : Int32) (ps : Int32) (pn : Int32) (pp : (Nat → Int32)) (pf : (Nat → Int32)) (x1 : Int32) (x2 : Int32) (x3 : Int32) (x4 : Int32) (u_pf : (Nat → Int32)) (hm : m_X2_putFactor pf x1 x2 x3 x4 = some u_pf) : Met l yX2_putFactor wsX2_putFactor ({ frames := 0, cells := 0, slots := 0, locals := 0 } : Room) (va_Pc [.ref aP, .int x1, .int x2, .int x3, .int x4] (PW D cI cB cZ ta (w_Plan cI cB cZ aP aPp aPf pg ps pn pp pf) sz)) (QV D cI cB cZ (va_A (w_Plan cI cB cZ aP aPp aPf pg ps pn pp pf) sz) (w_Plan cI cB cZ aP aPp aPf pg ps pn pp u_pf)) 0 0 (va_A (w_Plan cI cB cZ aP aPp aPf pg ps pn pp pf) sz) := by
  refine Met.ofW (cc := cX2_putFactor) (maxL := 5) (ret := none) (by decide) rfl ?_
  intro p e s m args below meth c s₁ B hml hv
  obtain ⟨rfl, hsz, hP, hK, hD0, hG⟩ := hv
  have hx := B.exec
  have hb := B.bytes
  have hr := B.returns
  have hts := atoms_spec (ws := wsX2_putFactor) B.pre
  have hown : s.vm.findClass RX2 = some m.cls := findClass_of_methodNamed B.named
  have hlocks := B.notSynchronized
  subst hsz
  have hD := hD0.self (sz := s.heap.size)
  clear hD0
  have hA0 : ∀ q : Nat, s.heap.size ≤ q → va_A (w_Plan cI cB cZ aP aPp aPf pg ps pn pp pf) s.heap.size q := fun q h => Or.inr h
  generalize hAe : va_A (w_Plan cI cB cZ aP aPp aPf pg ps pn pp pf) s.heap.size = A at hD hG hA0 ⊢
  have hA : ∀ q : Nat, s.heap.size ≤ q → A q := hA0
  clear hA0
  have hS : va_S A s.heap s.heap [] := va_S.rf
  have iw_X2 := iw_X2_putFactor_X2
  have hl := lv_entry ([.ref aP, .int x1, .int x2, .int x3, .int x4]) (n := 5) (Nat.le_of_ble_eq_true rfl)
  rw [lg_entry_eq]
  generalize (lg_sl ([.ref aP, .int x1, .int x2, .int x3, .int x4]) ++ List.replicate (5 - (lg_sl ([.ref aP, .int x1, .int x2, .int x3, .int x4])).length) Slot.unset).toArray = ls at hl ⊢
  have hl : lv_has ls 5 [(0, .ref aP), (1, .int x1), (2, .int x2), (3, .int x3), (4, .int x4)] := hl
  replace hm : (if (((x2 * (100 : Int32)) + (x1 * (5 : Int32))) + x3) < 0 ∨ 400 ≤ (((x2 * (100 : Int32)) + (x1 * (5 : Int32))) + x3).toNatClampNeg then none else some (upd pf (((x2 * (100 : Int32)) + (x1 * (5 : Int32))) + x3).toNatClampNeg x4)) = some u_pf := hm
  refine lv_aload_n hx hb dX2_putFactor_0 rfl (lv_at hl 0 rfl) ?_
  refine va_get (D := D) (ci := 2) (v := .ref aPf) (C := RX2) (T := TX2) (N := 5) hx hb hts iw_X2 hown hK hP 0 rfl rfl 1 (by decide) (hts (.fieldLink RX2 15 "VarianceBridge$Plan" "factors" "[I") (by decide +kernel)) (fun _ h9 => h9) rfl dX2_putFactor_1 ?_
  refine lv_iload_n hx hb dX2_putFactor_4 rfl (lv_at hl 2 rfl) ?_
  refine lv_bipush (v := (100 : Int32)) hx hb dX2_putFactor_5 (by decide) ?_
  refine lv_imul hx hb dX2_putFactor_7 ?_
  refine lv_iload_n hx hb dX2_putFactor_8 rfl (lv_at hl 1 rfl) ?_
  refine lv_iconst (v := (5 : Int32)) hx hb dX2_putFactor_9 (by decide) ?_
  refine lv_imul hx hb dX2_putFactor_10 ?_
  refine lv_iadd hx hb dX2_putFactor_11 ?_
  refine lv_iload_n hx hb dX2_putFactor_12 rfl (lv_at hl 3 rfl) ?_
  refine lv_iadd hx hb dX2_putFactor_13 ?_
  refine lv_iload hx hb dX2_putFactor_14 (lv_at hl 4 rfl) ?_
  obtain ⟨c1, hm2⟩ := zz_no hm
  refine va_iast hx hb hK hP hD hS 2 0 rfl rfl c1 dX2_putFactor_16 (fun H3 lo3 hP3 hD3 hS3 => ?_)
  replace hP3 : va_P D vwCl (w_Plan cI cB cZ aP aPp aPf pg ps pn pp (upd pf (((x2 * (100 : Int32)) + (x1 * (5 : Int32))) + x3).toNatClampNeg x4)) H3 := hP3
  replace hD3 : va_D A (w_Plan cI cB cZ aP aPp aPf pg ps pn pp (upd pf (((x2 * (100 : Int32)) + (x1 * (5 : Int32))) + x3).toNatClampNeg x4)) := hD3
  clear hP hD hS
  have hq1 := Option.some.inj hm2
  subst hq1
  exact W.vret hx hb hr (fun t ht hW => ⟨⟨(), rfl, trivial, by rw [ht]; exact hP3, va_K.moved hW.alike hK, hD3⟩, hS3.F ht⟩) hS3.2.2 dX2_putFactor_17
theorem iw_X2_addLeaf_X2 : ∀ w ∈ wsX20, w ∈ wsX2_addLeaf := by decide +kernel
set_option maxHeartbeats 4000000 in
set_option maxRecDepth 100000 in
theorem c_X2_addLeaf (l : Launch) (D : va_G) (cI cB cZ : ClassId) (ta : Nat → Nat) (aP : Nat) (aPp : Nat) (aPf : Nat) (sz : Nat) (pg : Int32) (ps : Int32) (pn : Int32) (pp : (Nat → Int32)) (pf : (Nat → Int32)) (x1 : Int32) (r0 : Int32) (u_pn : Int32) (u_pp : (Nat → Int32)) (u_pf : (Nat → Int32)) (hm : m_X2_addLeaf pn pp pf x1 = some (r0, u_pn, u_pp, u_pf)) : Met l yX2_addLeaf wsX2_addLeaf ({ frames := 1, cells := 0, slots := 0, locals := 24 } : Room) (va_Pc [.ref aP, .int x1] (PW D cI cB cZ ta (w_Plan cI cB cZ aP aPp aPf pg ps pn pp pf) sz)) (QI D cI cB cZ (va_A (w_Plan cI cB cZ aP aPp aPf pg ps pn pp pf) sz) (w_Plan cI cB cZ aP aPp aPf pg ps u_pn u_pp u_pf) r0) 0 0 (va_A (w_Plan cI cB cZ aP aPp aPf pg ps pn pp pf) sz) := by
  refine Met.ofW (cc := cX2_addLeaf) (maxL := 5) (ret := (some .int)) (by decide) rfl ?_
  intro p e s m args below meth c s₁ B hml hv
  obtain ⟨rfl, hsz, hP, hK, hD0, hG⟩ := hv
  have hx := B.exec
  have hb := B.bytes
  have hr := B.returns
  have hts := atoms_spec (ws := wsX2_addLeaf) B.pre
  have hown : s.vm.findClass RX2 = some m.cls := findClass_of_methodNamed B.named
  have hlocks := B.notSynchronized
  subst hsz
  have hD := hD0.self (sz := s.heap.size)
  clear hD0
  have hA0 : ∀ q : Nat, s.heap.size ≤ q → va_A (w_Plan cI cB cZ aP aPp aPf pg ps pn pp pf) s.heap.size q := fun q h => Or.inr h
  generalize hAe : va_A (w_Plan cI cB cZ aP aPp aPf pg ps pn pp pf) s.heap.size = A at hD hG hA0 ⊢
  have hA : ∀ q : Nat, s.heap.size ≤ q → A q := hA0
  clear hA0
  have hS : va_S A s.heap s.heap [] := va_S.rf
  have iw_X2 := iw_X2_addLeaf_X2
  have hk_43 : ∀ (ct35 : Int32 → (Nat → Int32) → (Nat → Int32) → Int32 → Int32 → Option (Int32 × Int32 × (Nat → Int32) × (Nat → Int32))) (hct35 : ∀ (pn : Int32) (pp : (Nat → Int32)) (pf : (Nat → Int32)) (y2 : Int32) (y3 : Int32), ct35 pn pp pf y2 y3 = some (r0, u_pn, u_pp, u_pf) → ∀ (ls : Array Slot) (H : Heap) (lo : List Loc), lv_has ls 5 [(0, .ref aP), (2, .int y2), (3, .int y3)] → va_P D vwCl (w_Plan cI cB cZ aP aPp aPf pg ps pn pp pf) H → va_D A (w_Plan cI cB cZ aP aPp aPf pg ps pn pp pf) → va_S A s.heap H lo → W p l e (headSpec wsX2_addLeaf ({ frames := 1, cells := 0, slots := 0, locals := 24 } : Room)).room s m (([.ref aP, .int x1] : List Value).toArray) below meth c H lo 0 0 (MQ below (QI D cI cB cZ A (w_Plan cI cB cZ aP aPp aPf pg ps u_pn u_pp u_pf) r0) (([.ref aP, .int x1] : List Value).toArray) s 0 0 A) (F0 m 35 ls [])) (n : Nat) (pn : Int32) (pp : (Nat → Int32)) (pf : (Nat → Int32)) (y2 : Int32) (y3 : Int32) (y4 : Int32), k_X2_addLeaf_43 ct35 n pn pp pf y2 y3 y4 = some (r0, u_pn, u_pp, u_pf) → ∀ (ls : Array Slot) (H : Heap) (lo : List Loc), lv_has ls 5 [(0, .ref aP), (2, .int y2), (3, .int y3), (4, .int y4)] → va_P D vwCl (w_Plan cI cB cZ aP aPp aPf pg ps pn pp pf) H → va_D A (w_Plan cI cB cZ aP aPp aPf pg ps pn pp pf) → va_S A s.heap H lo → W p l e (headSpec wsX2_addLeaf ({ frames := 1, cells := 0, slots := 0, locals := 24 } : Room)).room s m (([.ref aP, .int x1] : List Value).toArray) below meth c H lo 0 0 (MQ below (QI D cI cB cZ A (w_Plan cI cB cZ aP aPp aPf pg ps u_pn u_pp u_pf) r0) (([.ref aP, .int x1] : List Value).toArray) s 0 0 A) (F0 m 43 ls []) := by
    intro ct35 hct35 n
    induction n with
    | zero => intro pn pp pf y2 y3 y4 hm; exact zz_nn hm
    | succ n ih =>
      intro pn pp pf y2 y3 y4 hm ls H lo hl hP hD hS
      replace hm := (k_X2_addLeaf_43_s ct35 n pn pp pf y2 y3 y4).symm.trans hm
      refine lv_iload hx hb dX2_addLeaf_43 (lv_at hl 3 rfl) ?_
      refine lv_iconst (v := (5 : Int32)) hx hb dX2_addLeaf_45 (by decide) ?_
      refine lv_icmp_ge (tgt := 69) hx hb dX2_addLeaf_46 (by decide) (fun c1 => ?_) (fun c1 => ?_)
      · have hm2 := zz_if c1 hm
        refine lv_iinc (v := (y3 + (1 : Int32))) (lv' := [(3, .int (y3 + (1 : Int32))), (0, .ref aP), (2, .int y2), (4, .int y4)]) hx hb dX2_addLeaf_69 hl (k := 2) rfl (by rfl) (by decide) rfl (fun ls4 hl4 => ?_)
        refine lv_goto (tgt := 35) hx hb dX2_addLeaf_72 (by decide) ?_
        exact hct35 pn pp pf y2 (y3 + (1 : Int32)) hm2 ls4 H lo (lv_sub hl4 [1, 2, 0] rfl) hP hD hS
      · have hm3 := zz_nf c1 hm
        refine lv_aload_n hx hb dX2_addLeaf_49 rfl (lv_at hl 0 rfl) ?_
        refine lv_iload_n hx hb dX2_addLeaf_50 rfl (lv_at hl 1 rfl) ?_
        refine lv_iload_n hx hb dX2_addLeaf_51 rfl (lv_at hl 2 rfl) ?_
        refine lv_iload hx hb dX2_addLeaf_52 (lv_at hl 3 rfl) ?_
        refine va_getsN hx hb hG.2.2.2.1.1 hS hown (va_Nw.use rfl (hG.1 (.fieldLinkNest RX2 42 RX6 "USUAL" "[I" RX6) (by decide +kernel))) (fun _ h9 => h9) dX2_addLeaf_54 ?_
        refine lv_iload hx hb dX2_addLeaf_57 (lv_at hl 3 rfl) ?_
        obtain ⟨c5, hm6⟩ := zz_no hm3
        refine va_ti hx hb hG.2.2.2.1.2 hS c5 rfl dX2_addLeaf_59 ?_
        obtain ⟨pf_7, h7, hm7⟩ := ob1_e hm6
        refine gcall_v (ws' := (w_Plan cI cB cZ aP aPp aPf pg ps pn pp pf_7)) (va_runV (As := [.int y2, .int y3, .int y4, .int (T_USUAL y4.toNatClampNeg)]) (rest := []) ⟨hx, hb, hml, hown, hts⟩ (c_X2_putFactor l D cI cB cZ ta aP aPp aPf H.size pg ps pn pp pf y2 y3 y4 (T_USUAL y4.toNatClampNeg) pf_7 h7) (cwV 4 hts gX2_addLeaf_X2_putFactor rfl rfl rfl (by decide +kernel) ⟨(Nat.le_of_ble_eq_true rfl), (Nat.le_of_ble_eq_true rfl)⟩) ⟨PW_blind, va_recv hK hP rfl (q0 := 0) rfl, PW_at hP hD hK hS hA hG [0, 1, 2] rfl (by decide)⟩ rfl rfl hl.1 rfl (lv_room (Nat.le_of_ble_eq_true rfl)) dX2_addLeaf_60 ⟨(Nat.le_of_ble_eq_true rfl), (Nat.le_of_ble_eq_true rfl)⟩) hP hD hS hA [0, 1, 2] [] [0, 1, 2] rfl rfl (by decide) (by decide) (by decide) rfl (fun H8 lo8 hP8 hD8 hS8 => ?_)
        clear hP hD hS
        refine lv_iinc (v := (y4 + (1 : Int32))) (lv' := [(4, .int (y4 + (1 : Int32))), (0, .ref aP), (2, .int y2), (3, .int y3)]) hx hb dX2_addLeaf_63 hl (k := 3) rfl (by rfl) (by decide) rfl (fun ls9 hl9 => ?_)
        refine lv_goto (tgt := 43) hx hb dX2_addLeaf_66 (by decide) ?_
        exact ih pn pp pf_7 y2 y3 (y4 + (1 : Int32)) hm7 ls9 H8 lo8 (lv_sub hl9 [1, 2, 3, 0] rfl) hP8 hD8 hS8
  have hk_35 : ∀ (n : Nat) (pn : Int32) (pp : (Nat → Int32)) (pf : (Nat → Int32)) (y2 : Int32) (y3 : Int32), k_X2_addLeaf_35 n pn pp pf y2 y3 = some (r0, u_pn, u_pp, u_pf) → ∀ (ls : Array Slot) (H : Heap) (lo : List Loc), lv_has ls 5 [(0, .ref aP), (2, .int y2), (3, .int y3)] → va_P D vwCl (w_Plan cI cB cZ aP aPp aPf pg ps pn pp pf) H → va_D A (w_Plan cI cB cZ aP aPp aPf pg ps pn pp pf) → va_S A s.heap H lo → W p l e (headSpec wsX2_addLeaf ({ frames := 1, cells := 0, slots := 0, locals := 24 } : Room)).room s m (([.ref aP, .int x1] : List Value).toArray) below meth c H lo 0 0 (MQ below (QI D cI cB cZ A (w_Plan cI cB cZ aP aPp aPf pg ps u_pn u_pp u_pf) r0) (([.ref aP, .int x1] : List Value).toArray) s 0 0 A) (F0 m 35 ls []) := by
    intro n
    induction n with
    | zero => intro pn pp pf y2 y3 hm; exact zz_nn hm
    | succ n ih =>
      intro pn pp pf y2 y3 hm ls H lo hl hP hD hS
      replace hm := (k_X2_addLeaf_35_s n pn pp pf y2 y3).symm.trans hm
      refine lv_iload_n hx hb dX2_addLeaf_35 rfl (lv_at hl 2 rfl) ?_
      refine lv_iconst (v := (4 : Int32)) hx hb dX2_addLeaf_36 (by decide) ?_
      refine lv_icmp_ge (tgt := 75) hx hb dX2_addLeaf_37 (by decide) (fun c10 => ?_) (fun c10 => ?_)
      · have hm11 := zz_if c10 hm
        refine lv_iload_n hx hb dX2_addLeaf_75 rfl (lv_at hl 1 rfl) ?_
        obtain ⟨hq1, hq99⟩ := Prod.mk.inj (Option.some.inj hm11)
        obtain ⟨hq2, hq99⟩ := Prod.mk.inj (hq99)
        obtain ⟨hq3, hq4⟩ := Prod.mk.inj (hq99)
        subst hq1
        subst hq2
        subst hq3
        subst hq4
        exact W.iret hx hb hr (fun t ht hW => ⟨⟨_, (), rfl, rfl, by rw [ht]; exact hP, va_K.moved hW.alike hK, hD⟩, hS.F ht⟩) hS.2.2 dX2_addLeaf_76
      · have hm12 := zz_nf c10 hm
        refine lv_iconst (v := (0 : Int32)) hx hb dX2_addLeaf_40 (by decide) ?_
        refine lv_istore (lv' := [(4, .int (0 : Int32)), (0, .ref aP), (2, .int y2), (3, .int y3)]) hx hb dX2_addLeaf_41 hl (by decide) rfl (fun ls13 hl13 => ?_)
        exact hk_43 (k_X2_addLeaf_35 n) ih FU pn pp pf y2 y3 (0 : Int32) hm12 ls13 H lo (lv_sub hl13 [1, 2, 3, 0] rfl) hP hD hS
  have hl := lv_entry ([.ref aP, .int x1]) (n := 5) (Nat.le_of_ble_eq_true rfl)
  rw [lg_entry_eq]
  generalize (lg_sl ([.ref aP, .int x1]) ++ List.replicate (5 - (lg_sl ([.ref aP, .int x1])).length) Slot.unset).toArray = ls at hl ⊢
  have hl : lv_has ls 5 [(0, .ref aP), (1, .int x1)] := hl
  replace hm : (if pn < (20 : Int32) then (if pn < 0 ∨ 20 ≤ pn.toNatClampNeg then none else (k_X2_addLeaf_35 FU (pn + (1 : Int32)) (upd pp pn.toNatClampNeg x1) pf pn (0 : Int32))) else some ((-1 : Int32), pn, pp, pf)) = some (r0, u_pn, u_pp, u_pf) := hm
  refine lv_aload_n hx hb dX2_addLeaf_0 rfl (lv_at hl 0 rfl) ?_
  refine va_get (D := D) (ci := 2) (v := .int pn) (C := RX2) (T := TX2) (N := 5) hx hb hts iw_X2 hown hK hP 0 rfl rfl 4 (by decide) (hts (.fieldLink RX2 26 "VarianceBridge$Plan" "nodes" "I") (by decide +kernel)) (fun _ h9 => h9) rfl dX2_addLeaf_1 ?_
  refine lv_bipush (v := (20 : Int32)) hx hb dX2_addLeaf_4 (by decide) ?_
  refine lv_icmp_lt (tgt := 11) hx hb dX2_addLeaf_6 (by decide) (fun c14 => ?_) (fun c14 => ?_)
  · have hm15 := zz_if c14 hm
    refine lv_aload_n hx hb dX2_addLeaf_11 rfl (lv_at hl 0 rfl) ?_
    refine va_get (D := D) (ci := 2) (v := .int pn) (C := RX2) (T := TX2) (N := 5) hx hb hts iw_X2 hown hK hP 0 rfl rfl 4 (by decide) (hts (.fieldLink RX2 26 "VarianceBridge$Plan" "nodes" "I") (by decide +kernel)) (fun _ h9 => h9) rfl dX2_addLeaf_12 ?_
    refine lv_istore_n (lv' := [(2, .int pn), (0, .ref aP), (1, .int x1)]) hx hb dX2_addLeaf_15 rfl hl (by decide) rfl (fun ls17 hl17 => ?_)
    refine lv_aload_n hx hb dX2_addLeaf_16 rfl (lv_at hl17 1 rfl) ?_
    refine lv_dup hx hb dX2_addLeaf_17 rfl ?_
    refine va_get (D := D) (ci := 2) (v := .int pn) (C := RX2) (T := TX2) (N := 5) hx hb hts iw_X2 hown hK hP 0 rfl rfl 4 (by decide) (hts (.fieldLink RX2 26 "VarianceBridge$Plan" "nodes" "I") (by decide +kernel)) (fun _ h9 => h9) rfl dX2_addLeaf_18 ?_
    refine lv_iconst (v := (1 : Int32)) hx hb dX2_addLeaf_21 (by decide) ?_
    refine lv_iadd hx hb dX2_addLeaf_22 ?_
    refine va_put (D := D) (ci := 2) (v := .int (pn + (1 : Int32))) (ty := .int) (C := RX2) (T := TX2) (N := 5) hx hb hts iw_X2 tyX2 tyX2_ok nmX2 hown hK hP hD hS 0 rfl rfl 4 (by decide) (hts (.fieldLink RX2 26 "VarianceBridge$Plan" "nodes" "I") (by decide +kernel)) (fun _ h9 => h9) rfl (by decide +kernel) rfl rfl (Nat.le_of_ble_eq_true rfl) dX2_addLeaf_23 (fun H18 lo18 hP18 hD18 hS18 => ?_)
    replace hP18 : va_P D vwCl (w_Plan cI cB cZ aP aPp aPf pg ps (pn + (1 : Int32)) pp pf) H18 := hP18
    replace hD18 : va_D A (w_Plan cI cB cZ aP aPp aPf pg ps (pn + (1 : Int32)) pp pf) := hD18
    clear hP hD hS
    refine lv_aload_n hx hb dX2_addLeaf_26 rfl (lv_at hl17 1 rfl) ?_
    refine va_get (D := D) (ci := 2) (v := .ref aPp) (C := RX2) (T := TX2) (N := 5) hx hb hts iw_X2 hown hK hP18 0 rfl rfl 0 (by decide) (hts (.fieldLink RX2 9 "VarianceBridge$Plan" "parents" "[I") (by decide +kernel)) (fun _ h9 => h9) rfl dX2_addLeaf_27 ?_
    refine lv_iload_n hx hb dX2_addLeaf_30 rfl (lv_at hl17 0 rfl) ?_
    refine lv_iload_n hx hb dX2_addLeaf_31 rfl (lv_at hl17 2 rfl) ?_
    obtain ⟨c19, hm20⟩ := zz_no hm15
    refine va_iast hx hb hK hP18 hD18 hS18 1 0 rfl rfl c19 dX2_addLeaf_32 (fun H21 lo21 hP21 hD21 hS21 => ?_)
    replace hP21 : va_P D vwCl (w_Plan cI cB cZ aP aPp aPf pg ps (pn + (1 : Int32)) (upd pp pn.toNatClampNeg x1) pf) H21 := hP21
    replace hD21 : va_D A (w_Plan cI cB cZ aP aPp aPf pg ps (pn + (1 : Int32)) (upd pp pn.toNatClampNeg x1) pf) := hD21
    clear hP18 hD18 hS18
    refine lv_iconst (v := (0 : Int32)) hx hb dX2_addLeaf_33 (by decide) ?_
    refine lv_istore_n (lv' := [(3, .int (0 : Int32)), (2, .int pn), (0, .ref aP), (1, .int x1)]) hx hb dX2_addLeaf_34 rfl hl17 (by decide) rfl (fun ls22 hl22 => ?_)
    exact hk_35 FU (pn + (1 : Int32)) (upd pp pn.toNatClampNeg x1) pf pn (0 : Int32) hm20 ls22 H21 lo21 (lv_sub hl22 [2, 1, 0] rfl) hP21 hD21 hS21
  · have hm16 := zz_nf c14 hm
    refine lv_iconst (v := (-1 : Int32)) hx hb dX2_addLeaf_9 (by decide) ?_
    obtain ⟨hq1, hq99⟩ := Prod.mk.inj (Option.some.inj hm16)
    obtain ⟨hq2, hq99⟩ := Prod.mk.inj (hq99)
    obtain ⟨hq3, hq4⟩ := Prod.mk.inj (hq99)
    subst hq1
    subst hq2
    subst hq3
    subst hq4
    exact W.iret hx hb hr (fun t ht hW => ⟨⟨_, (), rfl, rfl, by rw [ht]; exact hP, va_K.moved hW.alike hK, hD⟩, hS.F ht⟩) hS.2.2 dX2_addLeaf_10
theorem iw_X2_nodesRightBelow_X2 : ∀ w ∈ wsX20, w ∈ wsX2_nodesRightBelow := by decide +kernel
set_option maxHeartbeats 4000000 in
set_option maxRecDepth 100000 in
theorem c_X2_nodesRightBelow (l : Launch) (D : va_G) (cI cB cZ : ClassId) (ta : Nat → Nat) (aP : Nat) (aPp : Nat) (aPf : Nat) (sz : Nat) (pg : Int32) (ps : Int32) (pn : Int32) (pp : (Nat → Int32)) (pf : (Nat → Int32)) (x1 : Int32) (r0 : Int32) (hm : m_X2_nodesRightBelow pn pp x1 = some r0) : Met l yX2_nodesRightBelow wsX2_nodesRightBelow ({ frames := 0, cells := 0, slots := 0, locals := 0 } : Room) (va_Pc [.ref aP, .int x1] (PW D cI cB cZ ta (w_Plan cI cB cZ aP aPp aPf pg ps pn pp pf) sz)) (QI D cI cB cZ (va_A (w_Plan cI cB cZ aP aPp aPf pg ps pn pp pf) sz) (w_Plan cI cB cZ aP aPp aPf pg ps pn pp pf) r0) 0 0 (va_A (w_Plan cI cB cZ aP aPp aPf pg ps pn pp pf) sz) := by
  refine Met.ofW (cc := cX2_nodesRightBelow) (maxL := 4) (ret := (some .int)) (by decide) rfl ?_
  intro p e s m args below meth c s₁ B hml hv
  obtain ⟨rfl, hsz, hP, hK, hD0, hG⟩ := hv
  have hx := B.exec
  have hb := B.bytes
  have hr := B.returns
  have hts := atoms_spec (ws := wsX2_nodesRightBelow) B.pre
  have hown : s.vm.findClass RX2 = some m.cls := findClass_of_methodNamed B.named
  have hlocks := B.notSynchronized
  subst hsz
  have hD := hD0.self (sz := s.heap.size)
  clear hD0
  have hA0 : ∀ q : Nat, s.heap.size ≤ q → va_A (w_Plan cI cB cZ aP aPp aPf pg ps pn pp pf) s.heap.size q := fun q h => Or.inr h
  generalize hAe : va_A (w_Plan cI cB cZ aP aPp aPf pg ps pn pp pf) s.heap.size = A at hD hG hA0 ⊢
  have hA : ∀ q : Nat, s.heap.size ≤ q → A q := hA0
  clear hA0
  have hS : va_S A s.heap s.heap [] := va_S.rf
  have iw_X2 := iw_X2_nodesRightBelow_X2
  have hk_4 : ∀ (n : Nat) (y1 : Int32) (y2 : Int32) (y3 : Int32), k_X2_nodesRightBelow_4 pn pp n y1 y2 y3 = some r0 → ∀ (ls : Array Slot) (H : Heap) (lo : List Loc), lv_has ls 4 [(0, .ref aP), (1, .int y1), (2, .int y2), (3, .int y3)] → va_P D vwCl (w_Plan cI cB cZ aP aPp aPf pg ps pn pp pf) H → va_D A (w_Plan cI cB cZ aP aPp aPf pg ps pn pp pf) → va_S A s.heap H lo → W p l e (headSpec wsX2_nodesRightBelow ({ frames := 0, cells := 0, slots := 0, locals := 0 } : Room)).room s m (([.ref aP, .int x1] : List Value).toArray) below meth c H lo 0 0 (MQ below (QI D cI cB cZ A (w_Plan cI cB cZ aP aPp aPf pg ps pn pp pf) r0) (([.ref aP, .int x1] : List Value).toArray) s 0 0 A) (F0 m 4 ls []) := by
    intro n
    induction n with
    | zero => intro y1 y2 y3 hm; exact zz_nn hm
    | succ n ih =>
      intro y1 y2 y3 hm ls H lo hl hP hD hS
      replace hm := (k_X2_nodesRightBelow_4_s pn pp n y1 y2 y3).symm.trans hm
      refine lv_iload_n hx hb dX2_nodesRightBelow_4 rfl (lv_at hl 3 rfl) ?_
      refine lv_aload_n hx hb dX2_nodesRightBelow_5 rfl (lv_at hl 0 rfl) ?_
      refine va_get (D := D) (ci := 2) (v := .int pn) (C := RX2) (T := TX2) (N := 5) hx hb hts iw_X2 hown hK hP 0 rfl rfl 4 (by decide) (hts (.fieldLink RX2 26 "VarianceBridge$Plan" "nodes" "I") (by decide +kernel)) (fun _ h9 => h9) rfl dX2_nodesRightBelow_6 ?_
      refine lv_icmp_ge (tgt := 34) hx hb dX2_nodesRightBelow_9 (by decide) (fun c1 => ?_) (fun c1 => ?_)
      · have hm2 := zz_if c1 hm
        refine lv_iload_n hx hb dX2_nodesRightBelow_34 rfl (lv_at hl 2 rfl) ?_
        have hq1 := Option.some.inj hm2
        subst hq1
        exact W.iret hx hb hr (fun t ht hW => ⟨⟨_, (), rfl, rfl, by rw [ht]; exact hP, va_K.moved hW.alike hK, hD⟩, hS.F ht⟩) hS.2.2 dX2_nodesRightBelow_35
      · have hm3 := zz_nf c1 hm
        refine lv_aload_n hx hb dX2_nodesRightBelow_12 rfl (lv_at hl 0 rfl) ?_
        refine va_get (D := D) (ci := 2) (v := .ref aPp) (C := RX2) (T := TX2) (N := 5) hx hb hts iw_X2 hown hK hP 0 rfl rfl 0 (by decide) (hts (.fieldLink RX2 9 "VarianceBridge$Plan" "parents" "[I") (by decide +kernel)) (fun _ h9 => h9) rfl dX2_nodesRightBelow_13 ?_
        refine lv_iload_n hx hb dX2_nodesRightBelow_16 rfl (lv_at hl 3 rfl) ?_
        obtain ⟨c4, hm5⟩ := zz_no hm3
        refine va_iald hx hb hK hP 1 0 rfl rfl c4 dX2_nodesRightBelow_17 ?_
        refine lv_iload_n hx hb dX2_nodesRightBelow_18 rfl (lv_at hl 1 rfl) ?_
        refine lv_icmp_ne (tgt := 28) hx hb dX2_nodesRightBelow_19 (by decide) (fun c6 => ?_) (fun c6 => ?_)
        · have hm7 := zz_nf c6 hm5
          refine lv_iinc (v := (y3 + (1 : Int32))) (lv' := [(3, .int (y3 + (1 : Int32))), (0, .ref aP), (1, .int y1), (2, .int y2)]) hx hb dX2_nodesRightBelow_28 hl (k := 3) rfl (by rfl) (by decide) rfl (fun ls9 hl9 => ?_)
          refine lv_goto (tgt := 4) hx hb dX2_nodesRightBelow_31 (by decide) ?_
          exact ih y1 y2 (y3 + (1 : Int32)) hm7 ls9 H lo (lv_sub hl9 [1, 2, 3, 0] rfl) hP hD hS
        · have hm8 := zz_if c6 hm5
          refine lv_iload_n hx hb dX2_nodesRightBelow_22 rfl (lv_at hl 2 rfl) ?_
          refine lv_iconst (v := (1 : Int32)) hx hb dX2_nodesRightBelow_23 (by decide) ?_
          refine lv_iload_n hx hb dX2_nodesRightBelow_24 rfl (lv_at hl 3 rfl) ?_
          refine lv_ishl hx hb dX2_nodesRightBelow_25 ?_
          refine lv_ior hx hb dX2_nodesRightBelow_26 ?_
          refine lv_istore_n (lv' := [(2, .int (y2 ||| ((1 : Int32) <<< (y3 &&& 31)))), (0, .ref aP), (1, .int y1), (3, .int y3)]) hx hb dX2_nodesRightBelow_27 rfl hl (by decide) rfl (fun ls10 hl10 => ?_)
          refine lv_iinc (v := (y3 + (1 : Int32))) (lv' := [(3, .int (y3 + (1 : Int32))), (2, .int (y2 ||| ((1 : Int32) <<< (y3 &&& 31)))), (0, .ref aP), (1, .int y1)]) hx hb dX2_nodesRightBelow_28 hl10 (k := 3) rfl (by rfl) (by decide) rfl (fun ls11 hl11 => ?_)
          refine lv_goto (tgt := 4) hx hb dX2_nodesRightBelow_31 (by decide) ?_
          exact ih y1 (y2 ||| ((1 : Int32) <<< (y3 &&& 31))) (y3 + (1 : Int32)) hm8 ls11 H lo (lv_sub hl11 [2, 3, 1, 0] rfl) hP hD hS
  have hl := lv_entry ([.ref aP, .int x1]) (n := 4) (Nat.le_of_ble_eq_true rfl)
  rw [lg_entry_eq]
  generalize (lg_sl ([.ref aP, .int x1]) ++ List.replicate (4 - (lg_sl ([.ref aP, .int x1])).length) Slot.unset).toArray = ls at hl ⊢
  have hl : lv_has ls 4 [(0, .ref aP), (1, .int x1)] := hl
  replace hm : (k_X2_nodesRightBelow_4 pn pp FU x1 (0 : Int32) (1 : Int32)) = some r0 := hm
  refine lv_iconst (v := (0 : Int32)) hx hb dX2_nodesRightBelow_0 (by decide) ?_
  refine lv_istore_n (lv' := [(2, .int (0 : Int32)), (0, .ref aP), (1, .int x1)]) hx hb dX2_nodesRightBelow_1 rfl hl (by decide) rfl (fun ls12 hl12 => ?_)
  refine lv_iconst (v := (1 : Int32)) hx hb dX2_nodesRightBelow_2 (by decide) ?_
  refine lv_istore_n (lv' := [(3, .int (1 : Int32)), (2, .int (0 : Int32)), (0, .ref aP), (1, .int x1)]) hx hb dX2_nodesRightBelow_3 rfl hl12 (by decide) rfl (fun ls13 hl13 => ?_)
  exact hk_4 FU x1 (0 : Int32) (1 : Int32) hm ls13 s.heap [] (lv_sub hl13 [2, 3, 1, 0] rfl) hP hD hS
set_option maxHeartbeats 4000000 in
set_option maxRecDepth 100000 in
theorem c_X2_marginOfLeaf (l : Launch) (D : va_G) (cI cB cZ : ClassId) (ta : Nat → Nat) (aP : Nat) (aPp : Nat) (aPf : Nat) (sz : Nat) (pg : Int32) (ps : Int32) (pn : Int32) (pp : (Nat → Int32)) (pf : (Nat → Int32)) (x1 : Int32) (x2 : Int32) (r0 : Int32) (hm : m_X2_marginOfLeaf pf x1 x2 = some r0) : Met l yX2_marginOfLeaf wsX2_marginOfLeaf ({ frames := 1, cells := 0, slots := 0, locals := 23 } : Room) (va_Pc [.ref aP, .int x1, .int x2] (PW D cI cB cZ ta (w_Plan cI cB cZ aP aPp aPf pg ps pn pp pf) sz)) (QI D cI cB cZ (va_A (w_Plan cI cB cZ aP aPp aPf pg ps pn pp pf) sz) (w_Plan cI cB cZ aP aPp aPf pg ps pn pp pf) r0) 0 0 (va_A (w_Plan cI cB cZ aP aPp aPf pg ps pn pp pf) sz) := by
  refine Met.ofW (cc := cX2_marginOfLeaf) (maxL := 3) (ret := (some .int)) (by decide) rfl ?_
  intro p e s m args below meth c s₁ B hml hv
  obtain ⟨rfl, hsz, hP, hK, hD0, hG⟩ := hv
  have hx := B.exec
  have hb := B.bytes
  have hr := B.returns
  have hts := atoms_spec (ws := wsX2_marginOfLeaf) B.pre
  have hown : s.vm.findClass RX2 = some m.cls := findClass_of_methodNamed B.named
  have hlocks := B.notSynchronized
  subst hsz
  have hD := hD0.self (sz := s.heap.size)
  clear hD0
  have hA0 : ∀ q : Nat, s.heap.size ≤ q → va_A (w_Plan cI cB cZ aP aPp aPf pg ps pn pp pf) s.heap.size q := fun q h => Or.inr h
  generalize hAe : va_A (w_Plan cI cB cZ aP aPp aPf pg ps pn pp pf) s.heap.size = A at hD hG hA0 ⊢
  have hA : ∀ q : Nat, s.heap.size ≤ q → A q := hA0
  clear hA0
  have hS : va_S A s.heap s.heap [] := va_S.rf
  have hl := lv_entry ([.ref aP, .int x1, .int x2]) (n := 3) (Nat.le_of_ble_eq_true rfl)
  rw [lg_entry_eq]
  generalize (lg_sl ([.ref aP, .int x1, .int x2]) ++ List.replicate (3 - (lg_sl ([.ref aP, .int x1, .int x2])).length) Slot.unset).toArray = ls at hl ⊢
  have hl : lv_has ls 3 [(0, .ref aP), (1, .int x1), (2, .int x2)] := hl
  replace hm : (ob1 (m_X2_factorOf pf x1 x2 (1 : Int32)) (fun r1 => (ob1 (m_X2_factorOf pf x1 x2 (2 : Int32)) (fun r3 => (ob1 (m_X2_factorOf pf x1 x2 (3 : Int32)) (fun r5 => (ob1 (m_X2_factorOf pf x1 x2 (4 : Int32)) (fun r7 => (ob1 (m_X6_marginOf r1 r3 r5 r7) (fun r9 => some r9)))))))))) = some r0 := hm
  refine lv_aload_n hx hb dX2_marginOfLeaf_0 rfl (lv_at hl 0 rfl) ?_
  refine lv_iload_n hx hb dX2_marginOfLeaf_1 rfl (lv_at hl 1 rfl) ?_
  refine lv_iload_n hx hb dX2_marginOfLeaf_2 rfl (lv_at hl 2 rfl) ?_
  refine lv_iconst (v := (1 : Int32)) hx hb dX2_marginOfLeaf_3 (by decide) ?_
  obtain ⟨r1, h1, hm1⟩ := ob1_e hm
  refine gcall_i (ws' := (w_Plan cI cB cZ aP aPp aPf pg ps pn pp pf)) (va_runV (As := [.int x1, .int x2, .int (1 : Int32)]) (rest := []) ⟨hx, hb, hml, hown, hts⟩ (c_X2_factorOf l D cI cB cZ ta aP aPp aPf s.heap.size pg ps pn pp pf x1 x2 (1 : Int32) r1 h1) (cwV 3 hts gX2_marginOfLeaf_X2_factorOf rfl rfl rfl (by decide +kernel) ⟨(Nat.le_of_ble_eq_true rfl), (Nat.le_of_ble_eq_true rfl)⟩) ⟨PW_blind, va_recv hK hP rfl (q0 := 0) rfl, PW_at hP hD hK hS hA hG [0, 1, 2] rfl (by decide)⟩ rfl rfl hl.1 rfl (lv_room (Nat.le_of_ble_eq_true rfl)) dX2_marginOfLeaf_4 ⟨(Nat.le_of_ble_eq_true rfl), (Nat.le_of_ble_eq_true rfl)⟩) hP hD hS hA [0, 1, 2] [] [0, 1, 2] rfl rfl (by decide) (by decide) (by decide) rfl (fun H2 lo2 hP2 hD2 hS2 => ?_)
  clear hP hD hS
  refine lv_aload_n hx hb dX2_marginOfLeaf_7 rfl (lv_at hl 0 rfl) ?_
  refine lv_iload_n hx hb dX2_marginOfLeaf_8 rfl (lv_at hl 1 rfl) ?_
  refine lv_iload_n hx hb dX2_marginOfLeaf_9 rfl (lv_at hl 2 rfl) ?_
  refine lv_iconst (v := (2 : Int32)) hx hb dX2_marginOfLeaf_10 (by decide) ?_
  obtain ⟨r3, h3, hm3⟩ := ob1_e hm1
  refine gcall_i (ws' := (w_Plan cI cB cZ aP aPp aPf pg ps pn pp pf)) (va_runV (As := [.int x1, .int x2, .int (2 : Int32)]) (rest := [.int r1]) ⟨hx, hb, hml, hown, hts⟩ (c_X2_factorOf l D cI cB cZ ta aP aPp aPf H2.size pg ps pn pp pf x1 x2 (2 : Int32) r3 h3) (cwV 3 hts gX2_marginOfLeaf_X2_factorOf rfl rfl rfl (by decide +kernel) ⟨(Nat.le_of_ble_eq_true rfl), (Nat.le_of_ble_eq_true rfl)⟩) ⟨PW_blind, va_recv hK hP2 rfl (q0 := 0) rfl, PW_at hP2 hD2 hK hS2 hA hG [0, 1, 2] rfl (by decide)⟩ rfl rfl hl.1 rfl (lv_room (Nat.le_of_ble_eq_true rfl)) dX2_marginOfLeaf_11 ⟨(Nat.le_of_ble_eq_true rfl), (Nat.le_of_ble_eq_true rfl)⟩) hP2 hD2 hS2 hA [0, 1, 2] [] [0, 1, 2] rfl rfl (by decide) (by decide) (by decide) rfl (fun H4 lo4 hP4 hD4 hS4 => ?_)
  clear hP2 hD2 hS2
  refine lv_aload_n hx hb dX2_marginOfLeaf_14 rfl (lv_at hl 0 rfl) ?_
  refine lv_iload_n hx hb dX2_marginOfLeaf_15 rfl (lv_at hl 1 rfl) ?_
  refine lv_iload_n hx hb dX2_marginOfLeaf_16 rfl (lv_at hl 2 rfl) ?_
  refine lv_iconst (v := (3 : Int32)) hx hb dX2_marginOfLeaf_17 (by decide) ?_
  obtain ⟨r5, h5, hm5⟩ := ob1_e hm3
  refine gcall_i (ws' := (w_Plan cI cB cZ aP aPp aPf pg ps pn pp pf)) (va_runV (As := [.int x1, .int x2, .int (3 : Int32)]) (rest := [.int r3, .int r1]) ⟨hx, hb, hml, hown, hts⟩ (c_X2_factorOf l D cI cB cZ ta aP aPp aPf H4.size pg ps pn pp pf x1 x2 (3 : Int32) r5 h5) (cwV 3 hts gX2_marginOfLeaf_X2_factorOf rfl rfl rfl (by decide +kernel) ⟨(Nat.le_of_ble_eq_true rfl), (Nat.le_of_ble_eq_true rfl)⟩) ⟨PW_blind, va_recv hK hP4 rfl (q0 := 0) rfl, PW_at hP4 hD4 hK hS4 hA hG [0, 1, 2] rfl (by decide)⟩ rfl rfl hl.1 rfl (lv_room (Nat.le_of_ble_eq_true rfl)) dX2_marginOfLeaf_18 ⟨(Nat.le_of_ble_eq_true rfl), (Nat.le_of_ble_eq_true rfl)⟩) hP4 hD4 hS4 hA [0, 1, 2] [] [0, 1, 2] rfl rfl (by decide) (by decide) (by decide) rfl (fun H6 lo6 hP6 hD6 hS6 => ?_)
  clear hP4 hD4 hS4
  refine lv_aload_n hx hb dX2_marginOfLeaf_21 rfl (lv_at hl 0 rfl) ?_
  refine lv_iload_n hx hb dX2_marginOfLeaf_22 rfl (lv_at hl 1 rfl) ?_
  refine lv_iload_n hx hb dX2_marginOfLeaf_23 rfl (lv_at hl 2 rfl) ?_
  refine lv_iconst (v := (4 : Int32)) hx hb dX2_marginOfLeaf_24 (by decide) ?_
  obtain ⟨r7, h7, hm7⟩ := ob1_e hm5
  refine gcall_i (ws' := (w_Plan cI cB cZ aP aPp aPf pg ps pn pp pf)) (va_runV (As := [.int x1, .int x2, .int (4 : Int32)]) (rest := [.int r5, .int r3, .int r1]) ⟨hx, hb, hml, hown, hts⟩ (c_X2_factorOf l D cI cB cZ ta aP aPp aPf H6.size pg ps pn pp pf x1 x2 (4 : Int32) r7 h7) (cwV 3 hts gX2_marginOfLeaf_X2_factorOf rfl rfl rfl (by decide +kernel) ⟨(Nat.le_of_ble_eq_true rfl), (Nat.le_of_ble_eq_true rfl)⟩) ⟨PW_blind, va_recv hK hP6 rfl (q0 := 0) rfl, PW_at hP6 hD6 hK hS6 hA hG [0, 1, 2] rfl (by decide)⟩ rfl rfl hl.1 rfl (lv_room (Nat.le_of_ble_eq_true rfl)) dX2_marginOfLeaf_25 ⟨(Nat.le_of_ble_eq_true rfl), (Nat.le_of_ble_eq_true rfl)⟩) hP6 hD6 hS6 hA [0, 1, 2] [] [0, 1, 2] rfl rfl (by decide) (by decide) (by decide) rfl (fun H8 lo8 hP8 hD8 hS8 => ?_)
  clear hP6 hD6 hS6
  obtain ⟨r9, h9, hm9⟩ := ob1_e hm7
  refine gcall_i (ws' := (w_Plan cI cB cZ aP aPp aPf pg ps pn pp pf)) (va_runSN (As := [.int r1, .int r3, .int r5, .int r7]) (rest := []) ⟨hx, hb, hml, hown, hts⟩ (c_X6_marginOf l D cI cB cZ ta H8.size r1 r3 r5 r7 r9 h9) ⟨va_cnB 4 hts gX2_marginOfLeaf_X6_marginOf_n64 rfl rfl rfl (hG.1 (.methodLinkNest RX2 64 yX6_marginOf RX6) (by decide +kernel)) (hts (.initialized RX6) (by decide +kernel)) (by decide +kernel) ⟨(Nat.le_of_ble_eq_true rfl), (Nat.le_of_ble_eq_true rfl)⟩, hts (.static yX6_marginOf) (by decide +kernel), trivial⟩ ⟨PW_blind, PW_at hP8 hD8 hK hS8 hA hG [] rfl (by decide)⟩ rfl rfl hl.1 rfl (lv_room (Nat.le_of_ble_eq_true rfl)) dX2_marginOfLeaf_28 ⟨(Nat.le_of_ble_eq_true rfl), (Nat.le_of_ble_eq_true rfl)⟩) hP8 hD8 hS8 hA [] [0, 1, 2] [0, 1, 2] rfl rfl (by decide) (by decide) (by decide) rfl (fun H10 lo10 hP10 hD10 hS10 => ?_)
  clear hP8 hD8 hS8
  have hq1 := Option.some.inj hm9
  subst hq1
  exact W.iret hx hb hr (fun t ht hW => ⟨⟨_, (), rfl, rfl, by rw [ht]; exact hP10, va_K.moved hW.alike hK, hD10⟩, hS10.F ht⟩) hS10.2.2 dX2_marginOfLeaf_31
set_option maxHeartbeats 4000000 in
set_option maxRecDepth 100000 in
theorem c_X2_gainIfSet (l : Launch) (D : va_G) (cI cB cZ : ClassId) (ta : Nat → Nat) (aP : Nat) (aPp : Nat) (aPf : Nat) (sz : Nat) (pg : Int32) (ps : Int32) (pn : Int32) (pp : (Nat → Int32)) (pf : (Nat → Int32)) (x1 : Int32) (x2 : Int32) (x3 : Int32) (x4 : Int32) (r0 : Int32) (u_pf : (Nat → Int32)) (hm : m_X2_gainIfSet pf x1 x2 x3 x4 = some (r0, u_pf)) : Met l yX2_gainIfSet wsX2_gainIfSet ({ frames := 3, cells := 0, slots := 0, locals := 74 } : Room) (va_Pc [.ref aP, .int x1, .int x2, .int x3, .int x4] (PW D cI cB cZ ta (w_Plan cI cB cZ aP aPp aPf pg ps pn pp pf) sz)) (QI D cI cB cZ (va_A (w_Plan cI cB cZ aP aPp aPf pg ps pn pp pf) sz) (w_Plan cI cB cZ aP aPp aPf pg ps pn pp u_pf) r0) 0 0 (va_A (w_Plan cI cB cZ aP aPp aPf pg ps pn pp pf) sz) := by
  refine Met.ofW (cc := cX2_gainIfSet) (maxL := 8) (ret := (some .int)) (by decide) rfl ?_
  intro p e s m args below meth c s₁ B hml hv
  obtain ⟨rfl, hsz, hP, hK, hD0, hG⟩ := hv
  have hx := B.exec
  have hb := B.bytes
  have hr := B.returns
  have hts := atoms_spec (ws := wsX2_gainIfSet) B.pre
  have hown : s.vm.findClass RX2 = some m.cls := findClass_of_methodNamed B.named
  have hlocks := B.notSynchronized
  subst hsz
  have hD := hD0.self (sz := s.heap.size)
  clear hD0
  have hA0 : ∀ q : Nat, s.heap.size ≤ q → va_A (w_Plan cI cB cZ aP aPp aPf pg ps pn pp pf) s.heap.size q := fun q h => Or.inr h
  generalize hAe : va_A (w_Plan cI cB cZ aP aPp aPf pg ps pn pp pf) s.heap.size = A at hD hG hA0 ⊢
  have hA : ∀ q : Nat, s.heap.size ≤ q → A q := hA0
  clear hA0
  have hS : va_S A s.heap s.heap [] := va_S.rf
  have hl := lv_entry ([.ref aP, .int x1, .int x2, .int x3, .int x4]) (n := 8) (Nat.le_of_ble_eq_true rfl)
  rw [lg_entry_eq]
  generalize (lg_sl ([.ref aP, .int x1, .int x2, .int x3, .int x4]) ++ List.replicate (8 - (lg_sl ([.ref aP, .int x1, .int x2, .int x3, .int x4])).length) Slot.unset).toArray = ls at hl ⊢
  have hl : lv_has ls 8 [(0, .ref aP), (1, .int x1), (2, .int x2), (3, .int x3), (4, .int x4)] := hl
  replace hm : (ob1 (m_X2_factorOf pf x1 x2 x3) (fun r1 => (ob1 (m_X2_leafValue pf x1 x2) (fun r4 => (ob1 (m_X2_putFactor pf x1 x2 x3 x4) (fun pf_7 => (ob1 (m_X2_leafValue pf_7 x1 x2) (fun r9 => (ob1 (m_X2_putFactor pf_7 x1 x2 x3 r1) (fun pf_12 => some ((r9 - r4), pf_12))))))))))) = some (r0, u_pf) := hm
  refine lv_aload_n hx hb dX2_gainIfSet_0 rfl (lv_at hl 0 rfl) ?_
  refine lv_iload_n hx hb dX2_gainIfSet_1 rfl (lv_at hl 1 rfl) ?_
  refine lv_iload_n hx hb dX2_gainIfSet_2 rfl (lv_at hl 2 rfl) ?_
  refine lv_iload_n hx hb dX2_gainIfSet_3 rfl (lv_at hl 3 rfl) ?_
  obtain ⟨r1, h1, hm1⟩ := ob1_e hm
  refine gcall_i (ws' := (w_Plan cI cB cZ aP aPp aPf pg ps pn pp pf)) (va_runV (As := [.int x1, .int x2, .int x3]) (rest := []) ⟨hx, hb, hml, hown, hts⟩ (c_X2_factorOf l D cI cB cZ ta aP aPp aPf s.heap.size pg ps pn pp pf x1 x2 x3 r1 h1) (cwV 3 hts gX2_gainIfSet_X2_factorOf rfl rfl rfl (by decide +kernel) ⟨(Nat.le_of_ble_eq_true rfl), (Nat.le_of_ble_eq_true rfl)⟩) ⟨PW_blind, va_recv hK hP rfl (q0 := 0) rfl, PW_at hP hD hK hS hA hG [0, 1, 2] rfl (by decide)⟩ rfl rfl hl.1 rfl (lv_room (Nat.le_of_ble_eq_true rfl)) dX2_gainIfSet_4 ⟨(Nat.le_of_ble_eq_true rfl), (Nat.le_of_ble_eq_true rfl)⟩) hP hD hS hA [0, 1, 2] [] [0, 1, 2] rfl rfl (by decide) (by decide) (by decide) rfl (fun H2 lo2 hP2 hD2 hS2 => ?_)
  clear hP hD hS
  refine lv_istore (lv' := [(5, .int r1), (0, .ref aP), (1, .int x1), (2, .int x2), (3, .int x3), (4, .int x4)]) hx hb dX2_gainIfSet_7 hl (by decide) rfl (fun ls3 hl3 => ?_)
  refine lv_aload_n hx hb dX2_gainIfSet_9 rfl (lv_at hl3 1 rfl) ?_
  refine lv_iload_n hx hb dX2_gainIfSet_10 rfl (lv_at hl3 2 rfl) ?_
  refine lv_iload_n hx hb dX2_gainIfSet_11 rfl (lv_at hl3 3 rfl) ?_
  obtain ⟨r4, h4, hm4⟩ := ob1_e hm1
  refine gcall_i (ws' := (w_Plan cI cB cZ aP aPp aPf pg ps pn pp pf)) (va_runV (As := [.int x1, .int x2]) (rest := []) ⟨hx, hb, hml, hown, hts⟩ (c_X2_leafValue l D cI cB cZ ta aP aPp aPf H2.size pg ps pn pp pf x1 x2 r4 h4) (cwV 2 hts gX2_gainIfSet_X2_leafValue rfl rfl rfl (by decide +kernel) ⟨(Nat.le_of_ble_eq_true rfl), (Nat.le_of_ble_eq_true rfl)⟩) ⟨PW_blind, va_recv hK hP2 rfl (q0 := 0) rfl, PW_at hP2 hD2 hK hS2 hA hG [0, 1, 2] rfl (by decide)⟩ rfl rfl hl3.1 rfl (lv_room (Nat.le_of_ble_eq_true rfl)) dX2_gainIfSet_12 ⟨(Nat.le_of_ble_eq_true rfl), (Nat.le_of_ble_eq_true rfl)⟩) hP2 hD2 hS2 hA [0, 1, 2] [] [0, 1, 2] rfl rfl (by decide) (by decide) (by decide) rfl (fun H5 lo5 hP5 hD5 hS5 => ?_)
  clear hP2 hD2 hS2
  refine lv_istore (lv' := [(6, .int r4), (5, .int r1), (0, .ref aP), (1, .int x1), (2, .int x2), (3, .int x3), (4, .int x4)]) hx hb dX2_gainIfSet_15 hl3 (by decide) rfl (fun ls6 hl6 => ?_)
  refine lv_aload_n hx hb dX2_gainIfSet_17 rfl (lv_at hl6 2 rfl) ?_
  refine lv_iload_n hx hb dX2_gainIfSet_18 rfl (lv_at hl6 3 rfl) ?_
  refine lv_iload_n hx hb dX2_gainIfSet_19 rfl (lv_at hl6 4 rfl) ?_
  refine lv_iload_n hx hb dX2_gainIfSet_20 rfl (lv_at hl6 5 rfl) ?_
  refine lv_iload hx hb dX2_gainIfSet_21 (lv_at hl6 6 rfl) ?_
  obtain ⟨pf_7, h7, hm7⟩ := ob1_e hm4
  refine gcall_v (ws' := (w_Plan cI cB cZ aP aPp aPf pg ps pn pp pf_7)) (va_runV (As := [.int x1, .int x2, .int x3, .int x4]) (rest := []) ⟨hx, hb, hml, hown, hts⟩ (c_X2_putFactor l D cI cB cZ ta aP aPp aPf H5.size pg ps pn pp pf x1 x2 x3 x4 pf_7 h7) (cwV 4 hts gX2_gainIfSet_X2_putFactor rfl rfl rfl (by decide +kernel) ⟨(Nat.le_of_ble_eq_true rfl), (Nat.le_of_ble_eq_true rfl)⟩) ⟨PW_blind, va_recv hK hP5 rfl (q0 := 0) rfl, PW_at hP5 hD5 hK hS5 hA hG [0, 1, 2] rfl (by decide)⟩ rfl rfl hl6.1 rfl (lv_room (Nat.le_of_ble_eq_true rfl)) dX2_gainIfSet_23 ⟨(Nat.le_of_ble_eq_true rfl), (Nat.le_of_ble_eq_true rfl)⟩) hP5 hD5 hS5 hA [0, 1, 2] [] [0, 1, 2] rfl rfl (by decide) (by decide) (by decide) rfl (fun H8 lo8 hP8 hD8 hS8 => ?_)
  clear hP5 hD5 hS5
  refine lv_aload_n hx hb dX2_gainIfSet_26 rfl (lv_at hl6 2 rfl) ?_
  refine lv_iload_n hx hb dX2_gainIfSet_27 rfl (lv_at hl6 3 rfl) ?_
  refine lv_iload_n hx hb dX2_gainIfSet_28 rfl (lv_at hl6 4 rfl) ?_
  obtain ⟨r9, h9, hm9⟩ := ob1_e hm7
  refine gcall_i (ws' := (w_Plan cI cB cZ aP aPp aPf pg ps pn pp pf_7)) (va_runV (As := [.int x1, .int x2]) (rest := []) ⟨hx, hb, hml, hown, hts⟩ (c_X2_leafValue l D cI cB cZ ta aP aPp aPf H8.size pg ps pn pp pf_7 x1 x2 r9 h9) (cwV 2 hts gX2_gainIfSet_X2_leafValue rfl rfl rfl (by decide +kernel) ⟨(Nat.le_of_ble_eq_true rfl), (Nat.le_of_ble_eq_true rfl)⟩) ⟨PW_blind, va_recv hK hP8 rfl (q0 := 0) rfl, PW_at hP8 hD8 hK hS8 hA hG [0, 1, 2] rfl (by decide)⟩ rfl rfl hl6.1 rfl (lv_room (Nat.le_of_ble_eq_true rfl)) dX2_gainIfSet_29 ⟨(Nat.le_of_ble_eq_true rfl), (Nat.le_of_ble_eq_true rfl)⟩) hP8 hD8 hS8 hA [0, 1, 2] [] [0, 1, 2] rfl rfl (by decide) (by decide) (by decide) rfl (fun H10 lo10 hP10 hD10 hS10 => ?_)
  clear hP8 hD8 hS8
  refine lv_iload hx hb dX2_gainIfSet_32 (lv_at hl6 0 rfl) ?_
  refine lv_isub hx hb dX2_gainIfSet_34 ?_
  refine lv_istore (lv' := [(7, .int (r9 - r4)), (6, .int r4), (5, .int r1), (0, .ref aP), (1, .int x1), (2, .int x2), (3, .int x3), (4, .int x4)]) hx hb dX2_gainIfSet_35 hl6 (by decide) rfl (fun ls11 hl11 => ?_)
  refine lv_aload_n hx hb dX2_gainIfSet_37 rfl (lv_at hl11 3 rfl) ?_
  refine lv_iload_n hx hb dX2_gainIfSet_38 rfl (lv_at hl11 4 rfl) ?_
  refine lv_iload_n hx hb dX2_gainIfSet_39 rfl (lv_at hl11 5 rfl) ?_
  refine lv_iload_n hx hb dX2_gainIfSet_40 rfl (lv_at hl11 6 rfl) ?_
  refine lv_iload hx hb dX2_gainIfSet_41 (lv_at hl11 2 rfl) ?_
  obtain ⟨pf_12, h12, hm12⟩ := ob1_e hm9
  refine gcall_v (ws' := (w_Plan cI cB cZ aP aPp aPf pg ps pn pp pf_12)) (va_runV (As := [.int x1, .int x2, .int x3, .int r1]) (rest := []) ⟨hx, hb, hml, hown, hts⟩ (c_X2_putFactor l D cI cB cZ ta aP aPp aPf H10.size pg ps pn pp pf_7 x1 x2 x3 r1 pf_12 h12) (cwV 4 hts gX2_gainIfSet_X2_putFactor rfl rfl rfl (by decide +kernel) ⟨(Nat.le_of_ble_eq_true rfl), (Nat.le_of_ble_eq_true rfl)⟩) ⟨PW_blind, va_recv hK hP10 rfl (q0 := 0) rfl, PW_at hP10 hD10 hK hS10 hA hG [0, 1, 2] rfl (by decide)⟩ rfl rfl hl11.1 rfl (lv_room (Nat.le_of_ble_eq_true rfl)) dX2_gainIfSet_43 ⟨(Nat.le_of_ble_eq_true rfl), (Nat.le_of_ble_eq_true rfl)⟩) hP10 hD10 hS10 hA [0, 1, 2] [] [0, 1, 2] rfl rfl (by decide) (by decide) (by decide) rfl (fun H13 lo13 hP13 hD13 hS13 => ?_)
  clear hP10 hD10 hS10
  refine lv_iload hx hb dX2_gainIfSet_46 (lv_at hl11 0 rfl) ?_
  obtain ⟨hq1, hq2⟩ := Prod.mk.inj (Option.some.inj hm12)
  subst hq1
  subst hq2
  exact W.iret hx hb hr (fun t ht hW => ⟨⟨_, (), rfl, rfl, by rw [ht]; exact hP13, va_K.moved hW.alike hK, hD13⟩, hS13.F ht⟩) hS13.2.2 dX2_gainIfSet_48
set_option maxHeartbeats 4000000 in
set_option maxRecDepth 100000 in
theorem c_X2_unitsNeeded (l : Launch) (D : va_G) (cI cB cZ : ClassId) (ta : Nat → Nat) (aP : Nat) (aPp : Nat) (aPf : Nat) (sz : Nat) (pg : Int32) (ps : Int32) (pn : Int32) (pp : (Nat → Int32)) (pf : (Nat → Int32)) (x1 : Int32) (x2 : Int32) (x3 : Int32) (r0 : Int32) (hm : m_X2_unitsNeeded pg pn pp pf x1 x2 x3 = some r0) : Met l yX2_unitsNeeded wsX2_unitsNeeded ({ frames := 4, cells := 0, slots := 0, locals := 99 } : Room) (va_Pc [.ref aP, .int x1, .int x2, .int x3] (PW D cI cB cZ ta (w_Plan cI cB cZ aP aPp aPf pg ps pn pp pf) sz)) (QI D cI cB cZ (va_A (w_Plan cI cB cZ aP aPp aPf pg ps pn pp pf) sz) (w_Plan cI cB cZ aP aPp aPf pg ps pn pp pf) r0) 0 0 (va_A (w_Plan cI cB cZ aP aPp aPf pg ps pn pp pf) sz) := by
  refine Met.ofW (cc := cX2_unitsNeeded) (maxL := 7) (ret := (some .int)) (by decide) rfl ?_
  intro p e s m args below meth c s₁ B hml hv
  obtain ⟨rfl, hsz, hP, hK, hD0, hG⟩ := hv
  have hx := B.exec
  have hb := B.bytes
  have hr := B.returns
  have hts := atoms_spec (ws := wsX2_unitsNeeded) B.pre
  have hown : s.vm.findClass RX2 = some m.cls := findClass_of_methodNamed B.named
  have hlocks := B.notSynchronized
  subst hsz
  have hD := hD0.self (sz := s.heap.size)
  clear hD0
  have hA0 : ∀ q : Nat, s.heap.size ≤ q → va_A (w_Plan cI cB cZ aP aPp aPf pg ps pn pp pf) s.heap.size q := fun q h => Or.inr h
  generalize hAe : va_A (w_Plan cI cB cZ aP aPp aPf pg ps pn pp pf) s.heap.size = A at hD hG hA0 ⊢
  have hA : ∀ q : Nat, s.heap.size ≤ q → A q := hA0
  clear hA0
  have hS : va_S A s.heap s.heap [] := va_S.rf
  have hl := lv_entry ([.ref aP, .int x1, .int x2, .int x3]) (n := 7) (Nat.le_of_ble_eq_true rfl)
  rw [lg_entry_eq]
  generalize (lg_sl ([.ref aP, .int x1, .int x2, .int x3]) ++ List.replicate (7 - (lg_sl ([.ref aP, .int x1, .int x2, .int x3])).length) Slot.unset).toArray = ls at hl ⊢
  have hl : lv_has ls 7 [(0, .ref aP), (1, .int x1), (2, .int x2), (3, .int x3)] := hl
  replace hm : (ob1 (m_X2_nodeValue pg pn pp pf (0 : Int32) x2) (fun r1 => (ob1 (m_X2_leafValue pf x1 x2) (fun r3 => (ob1 (m_X2_marginOfLeaf pf x1 x2) (fun r6 => (if 0 < (x3 - (r1 - r3)) then (if 0 < r6 then (if r6 = 0 then none else (if (0 : Int32) < 0 ∨ 5 ≤ (0 : Int32).toNatClampNeg then none else (if (T_MOST (0 : Int32).toNatClampNeg) < ((((x3 - (r1 - r3)) - (1 : Int32)) / r6) + (1 : Int32)) then some (-2 : Int32) else some ((((x3 - (r1 - r3)) - (1 : Int32)) / r6) + (1 : Int32))))) else some (-2 : Int32)) else some (0 : Int32)))))))) = some r0 := hm
  refine lv_iload_n hx hb dX2_unitsNeeded_0 rfl (lv_at hl 3 rfl) ?_
  refine lv_aload_n hx hb dX2_unitsNeeded_1 rfl (lv_at hl 0 rfl) ?_
  refine lv_iconst (v := (0 : Int32)) hx hb dX2_unitsNeeded_2 (by decide) ?_
  refine lv_iload_n hx hb dX2_unitsNeeded_3 rfl (lv_at hl 2 rfl) ?_
  obtain ⟨r1, h1, hm1⟩ := ob1_e hm
  refine gcall_i (ws' := (w_Plan cI cB cZ aP aPp aPf pg ps pn pp pf)) (va_runV (As := [.int (0 : Int32), .int x2]) (rest := [.int x3]) ⟨hx, hb, hml, hown, hts⟩ (c_X2_nodeValue l D cI cB cZ ta aP aPp aPf s.heap.size pg ps pn pp pf (0 : Int32) x2 r1 h1) (cwV 2 hts gX2_unitsNeeded_X2_nodeValue rfl rfl rfl (by decide +kernel) ⟨(Nat.le_of_ble_eq_true rfl), (Nat.le_of_ble_eq_true rfl)⟩) ⟨PW_blind, va_recv hK hP rfl (q0 := 0) rfl, PW_at hP hD hK hS hA hG [0, 1, 2] rfl (by decide)⟩ rfl rfl hl.1 rfl (lv_room (Nat.le_of_ble_eq_true rfl)) dX2_unitsNeeded_4 ⟨(Nat.le_of_ble_eq_true rfl), (Nat.le_of_ble_eq_true rfl)⟩) hP hD hS hA [0, 1, 2] [] [0, 1, 2] rfl rfl (by decide) (by decide) (by decide) rfl (fun H2 lo2 hP2 hD2 hS2 => ?_)
  clear hP hD hS
  refine lv_aload_n hx hb dX2_unitsNeeded_7 rfl (lv_at hl 0 rfl) ?_
  refine lv_iload_n hx hb dX2_unitsNeeded_8 rfl (lv_at hl 1 rfl) ?_
  refine lv_iload_n hx hb dX2_unitsNeeded_9 rfl (lv_at hl 2 rfl) ?_
  obtain ⟨r3, h3, hm3⟩ := ob1_e hm1
  refine gcall_i (ws' := (w_Plan cI cB cZ aP aPp aPf pg ps pn pp pf)) (va_runV (As := [.int x1, .int x2]) (rest := [.int r1, .int x3]) ⟨hx, hb, hml, hown, hts⟩ (c_X2_leafValue l D cI cB cZ ta aP aPp aPf H2.size pg ps pn pp pf x1 x2 r3 h3) (cwV 2 hts gX2_unitsNeeded_X2_leafValue rfl rfl rfl (by decide +kernel) ⟨(Nat.le_of_ble_eq_true rfl), (Nat.le_of_ble_eq_true rfl)⟩) ⟨PW_blind, va_recv hK hP2 rfl (q0 := 0) rfl, PW_at hP2 hD2 hK hS2 hA hG [0, 1, 2] rfl (by decide)⟩ rfl rfl hl.1 rfl (lv_room (Nat.le_of_ble_eq_true rfl)) dX2_unitsNeeded_10 ⟨(Nat.le_of_ble_eq_true rfl), (Nat.le_of_ble_eq_true rfl)⟩) hP2 hD2 hS2 hA [0, 1, 2] [] [0, 1, 2] rfl rfl (by decide) (by decide) (by decide) rfl (fun H4 lo4 hP4 hD4 hS4 => ?_)
  clear hP2 hD2 hS2
  refine lv_isub hx hb dX2_unitsNeeded_13 ?_
  refine lv_isub hx hb dX2_unitsNeeded_14 ?_
  refine lv_istore (lv' := [(4, .int (x3 - (r1 - r3))), (0, .ref aP), (1, .int x1), (2, .int x2), (3, .int x3)]) hx hb dX2_unitsNeeded_15 hl (by decide) rfl (fun ls5 hl5 => ?_)
  refine lv_aload_n hx hb dX2_unitsNeeded_17 rfl (lv_at hl5 1 rfl) ?_
  refine lv_iload_n hx hb dX2_unitsNeeded_18 rfl (lv_at hl5 2 rfl) ?_
  refine lv_iload_n hx hb dX2_unitsNeeded_19 rfl (lv_at hl5 3 rfl) ?_
  obtain ⟨r6, h6, hm6⟩ := ob1_e hm3
  refine gcall_i (ws' := (w_Plan cI cB cZ aP aPp aPf pg ps pn pp pf)) (va_runV (As := [.int x1, .int x2]) (rest := []) ⟨hx, hb, hml, hown, hts⟩ (c_X2_marginOfLeaf l D cI cB cZ ta aP aPp aPf H4.size pg ps pn pp pf x1 x2 r6 h6) (cwV 2 hts gX2_unitsNeeded_X2_marginOfLeaf rfl rfl rfl (by decide +kernel) ⟨(Nat.le_of_ble_eq_true rfl), (Nat.le_of_ble_eq_true rfl)⟩) ⟨PW_blind, va_recv hK hP4 rfl (q0 := 0) rfl, PW_at hP4 hD4 hK hS4 hA hG [0, 1, 2] rfl (by decide)⟩ rfl rfl hl5.1 rfl (lv_room (Nat.le_of_ble_eq_true rfl)) dX2_unitsNeeded_20 ⟨(Nat.le_of_ble_eq_true rfl), (Nat.le_of_ble_eq_true rfl)⟩) hP4 hD4 hS4 hA [0, 1, 2] [] [0, 1, 2] rfl rfl (by decide) (by decide) (by decide) rfl (fun H7 lo7 hP7 hD7 hS7 => ?_)
  clear hP4 hD4 hS4
  refine lv_istore (lv' := [(5, .int r6), (4, .int (x3 - (r1 - r3))), (0, .ref aP), (1, .int x1), (2, .int x2), (3, .int x3)]) hx hb dX2_unitsNeeded_23 hl5 (by decide) rfl (fun ls8 hl8 => ?_)
  refine lv_iload hx hb dX2_unitsNeeded_25 (lv_at hl8 1 rfl) ?_
  refine lv_if_gt (tgt := 32) hx hb dX2_unitsNeeded_27 (by decide) (fun c9 => ?_) (fun c9 => ?_)
  · have hm10 := zz_if c9 hm6
    refine lv_iload hx hb dX2_unitsNeeded_32 (lv_at hl8 0 rfl) ?_
    refine lv_if_gt (tgt := 40) hx hb dX2_unitsNeeded_34 (by decide) (fun c12 => ?_) (fun c12 => ?_)
    · have hm13 := zz_if c12 hm10
      refine lv_iload hx hb dX2_unitsNeeded_40 (lv_at hl8 1 rfl) ?_
      refine lv_iconst (v := (1 : Int32)) hx hb dX2_unitsNeeded_42 (by decide) ?_
      refine lv_isub hx hb dX2_unitsNeeded_43 ?_
      refine lv_iload hx hb dX2_unitsNeeded_44 (lv_at hl8 0 rfl) ?_
      obtain ⟨c15, hm16⟩ := zz_no hm13
      refine lv_idiv hx hb dX2_unitsNeeded_46 c15 ?_
      refine lv_iconst (v := (1 : Int32)) hx hb dX2_unitsNeeded_47 (by decide) ?_
      refine lv_iadd hx hb dX2_unitsNeeded_48 ?_
      refine lv_istore (lv' := [(6, .int ((((x3 - (r1 - r3)) - (1 : Int32)) / r6) + (1 : Int32))), (5, .int r6), (4, .int (x3 - (r1 - r3))), (0, .ref aP), (1, .int x1), (2, .int x2), (3, .int x3)]) hx hb dX2_unitsNeeded_49 hl8 (by decide) rfl (fun ls17 hl17 => ?_)
      refine lv_iload hx hb dX2_unitsNeeded_51 (lv_at hl17 0 rfl) ?_
      refine va_getsN hx hb hG.2.2.1.1 hS7 hown (va_Nw.use rfl (hG.1 (.fieldLinkNest RX2 81 RX6 "MOST" "[I" RX6) (by decide +kernel))) (fun _ h9 => h9) dX2_unitsNeeded_53 ?_
      refine lv_iconst (v := (0 : Int32)) hx hb dX2_unitsNeeded_56 (by decide) ?_
      obtain ⟨c18, hm19⟩ := zz_no hm16
      refine va_ti hx hb hG.2.2.1.2 hS7 c18 rfl dX2_unitsNeeded_57 ?_
      refine lv_icmp_gt (tgt := 66) hx hb dX2_unitsNeeded_58 (by decide) (fun c20 => ?_) (fun c20 => ?_)
      · have hm21 := zz_if c20 hm19
        refine lv_bipush (v := (-2 : Int32)) hx hb dX2_unitsNeeded_66 (by decide) ?_
        have hq1 := Option.some.inj hm21
        subst hq1
        exact W.iret hx hb hr (fun t ht hW => ⟨⟨_, (), rfl, rfl, by rw [ht]; exact hP7, va_K.moved hW.alike hK, hD7⟩, hS7.F ht⟩) hS7.2.2 dX2_unitsNeeded_68
      · have hm22 := zz_nf c20 hm19
        refine lv_iload hx hb dX2_unitsNeeded_61 (lv_at hl17 0 rfl) ?_
        refine lv_goto (tgt := 68) hx hb dX2_unitsNeeded_63 (by decide) ?_
        have hq1 := Option.some.inj hm22
        subst hq1
        exact W.iret hx hb hr (fun t ht hW => ⟨⟨_, (), rfl, rfl, by rw [ht]; exact hP7, va_K.moved hW.alike hK, hD7⟩, hS7.F ht⟩) hS7.2.2 dX2_unitsNeeded_68
    · have hm14 := zz_nf c12 hm10
      refine lv_bipush (v := (-2 : Int32)) hx hb dX2_unitsNeeded_37 (by decide) ?_
      have hq1 := Option.some.inj hm14
      subst hq1
      exact W.iret hx hb hr (fun t ht hW => ⟨⟨_, (), rfl, rfl, by rw [ht]; exact hP7, va_K.moved hW.alike hK, hD7⟩, hS7.F ht⟩) hS7.2.2 dX2_unitsNeeded_39
  · have hm11 := zz_nf c9 hm6
    refine lv_iconst (v := (0 : Int32)) hx hb dX2_unitsNeeded_30 (by decide) ?_
    have hq1 := Option.some.inj hm11
    subst hq1
    exact W.iret hx hb hr (fun t ht hW => ⟨⟨_, (), rfl, rfl, by rw [ht]; exact hP7, va_K.moved hW.alike hK, hD7⟩, hS7.F ht⟩) hS7.2.2 dX2_unitsNeeded_31
