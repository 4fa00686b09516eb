theorem va_newaG {p : Program} {l : Launch} {e : Env} {R : Room} {s : State} {m : MethodId} {args : Array Value} {below : List Frame} {meth : Method} {c : Code} {H H0 : Heap} {locs : List Loc} {cells slots pc : Nat} {ls : Array Slot} {rest : List Value} {Q : State → Prop} {D : va_G} {cl : List vw_C} {tys : List (ClassId × FieldType)} {ws : va_W} {A : Nat → Prop} {cc : ByteArray} (hexec : p.tables.exec = Jvm.exec) (hb : c.code = cc) {atype : ArrayType} (harr : (Cond.arrayClass (newarray.typeOf atype)).before args s = true) {ty : FieldType} (hty : newarray.typeOf atype = ty) (hK : va_K D cl tys s) (hP : va_P D cl ws H) (hD : va_D A ws) (hS : va_S A H0 H locs) (hA : ∀ q, H0.size ≤ q → A q) (t0 : Nat) {c0 : ClassId} (ht : tys[t0]? = some (c0, ty)) (hp : ∀ (U : State) (c : ClassId), va_RA U c ty = (U.vm.findClass ("[" ++ ty.toString) = some c))
    {n : Int32} {N' : Nat} {f : Nat → Int32} (ha : ∀ cA : ClassId, vp_cell cA (N', .inl f) = arrV cA N' (fun _ => defaultValue ty)) (hn : ¬ n < 0) (hN : n.toNatClampNeg = N') (hbytes : N' * componentBytes ty ≤ 536870912) (hcells : cells + 1 ≤ R.cells) (hslots : slots + N' ≤ R.slots) (hdg : decode cc pc = .ok (.newarray atype, 2))
    (kk : ∀ (q : Nat) (H1 : Heap), va_P D cl (ws ++ [(q, .inl (c0, N', .inl f))]) H1 → va_D A (ws ++ [(q, .inl (c0, N', .inl f))]) → va_S A H0 H1 locs →
      W p l e R s m args below meth c H1 locs (cells + 1) (slots + N') Q (F0 m (pc + 2) ls (.ref q :: rest))) : W p l e R s m args below meth c H locs cells slots Q (F0 m pc ls (.int n :: rest)) := by
  refine va_newa hexec hb harr hty hK hP hD hS hA (a0 := (N', .inl f)) ha hn hN hbytes hcells hslots hdg (fun q cA H1 hK1 hP1 hD1 hS1 => ?_)
  have h1 := (hK.2 t0 _ ht).2
  have h2 := (hK1.2 tys.length (cA, ty) (by simp)).2
  rw [hp] at h1 h2
  have h3 : cA = c0 := Option.some.inj (h2.symm.trans h1)
  subst h3
  exact kk q H1 hP1 hD1 hS1
noncomputable def now0 : Nat → Int32 := (upd (upd (upd (upd (fun _ => 0) (0 : Int32).toNatClampNeg (1 : Int32)) (1 : Int32).toNatClampNeg (1 : Int32)) (2 : Int32).toNatClampNeg (-1 : Int32)) (22 : Int32).toNatClampNeg (1 : Int32))
theorem m_begins_1 : m_X7_begins (upd (fun _ => 0) (0 : Int32).toNatClampNeg (1 : Int32)) = some now0 := by
  simp only [m_X7_begins]
  rfl
theorem m_clear_1 : m_X2_clear 0 0 0 (fun _ => 0) (1 : Int32) = some (1, 1, 1, upd (fun _ => 0) (0 : Int32).toNatClampNeg (-1 : Int32)) := by
  simp only [m_X2_clear]
  rfl
theorem iw_X4_init_X4 : ∀ w ∈ wsX40, w ∈ wsX4_init := by decide +kernel
set_option maxHeartbeats 4000000 in
set_option maxRecDepth 100000 in
theorem c_X4_init (l : Launch) (D : va_G) (cI cB cZ : ClassId) (ta : Nat → Nat) (a0 : Nat) (sz : Nat) : Met l yX4_init wsX4_init ({ frames := 1, cells := 1, slots := 640, locals := 12 } : Room) (va_Pc [.ref a0] (PW D cI cB cZ ta [(a0, .inr (4, [.null, .int 0]))] sz)) (va_Qv (fun (_ : Unit) => True) (fun _ t => ∃ (q1 : Nat), va_P D vwCl [(a0, .inr (4, [.ref q1, .int 0])), (q1, .inl (cB, 640, .inl (fun _ => 0)))] t.heap ∧ va_K D vwCl (tyG cI cB cZ) t ∧ va_D (va_A [(a0, .inr (4, [.null, .int 0]))] sz) [(a0, .inr (4, [.ref q1, .int 0])), (q1, .inl (cB, 640, .inl (fun _ => 0)))]) (va_A [(a0, .inr (4, [.null, .int 0]))] sz)) 1 640 (va_A [(a0, .inr (4, [.null, .int 0]))] sz) := by
  refine Met.ofW (cc := cX4_init) (maxL := 1) (ret := none) (by decide) rfl ?_
  intro p e s m args below meth c s₁ B hml hv
  obtain ⟨rfl, hsz, hP, hK, hD0, hG⟩ := hv
  have hx := B.exec
  have hb := B.bytes
  have hr := B.returns
  have hts := atoms_spec (ws := wsX4_init) B.pre
  have hown : s.vm.findClass RX4 = some m.cls := findClass_of_methodNamed B.named
  have hlocks := B.notSynchronized
  have hin : meth.name = "<init>" := (name_of_methodNamed B.named B.method).1
  subst hsz
  have hD := hD0.self (sz := s.heap.size)
  clear hD0
  have hA0 : ∀ q : Nat, s.heap.size ≤ q → va_A [(a0, .inr (4, [.null, .int 0]))] s.heap.size q := fun q h => Or.inr h
  generalize hAe : va_A [(a0, .inr (4, [.null, .int 0]))] s.heap.size = A at hD hG hA0 ⊢
  have hA : ∀ q : Nat, s.heap.size ≤ q → A q := hA0
  clear hA0
  have hS : va_S A s.heap s.heap [] := va_S.rf
  have iw_X4 := iw_X4_init_X4
  have hl := lv_entry ([.ref a0]) (n := 1) (Nat.le_of_ble_eq_true rfl)
  rw [lg_entry_eq]
  generalize (lg_sl ([.ref a0]) ++ List.replicate (1 - (lg_sl ([.ref a0])).length) Slot.unset).toArray = ls at hl ⊢
  have hl : lv_has ls 1 [(0, .ref a0)] := hl
  refine lv_aload_n hx hb dX4_init_0 rfl (lv_at hl 0 rfl) ?_
  refine W.objInit hx hb hown (hts (.methodLink RX4 3 objectInit) (by decide +kernel)) (hts (.instanceMethod objectInit) (by decide +kernel)) (hts (.code objectInit ⟨#[0xb1]⟩ 1 none) (by decide +kernel)) rfl (by rw [hml]; exact hl.1) rfl dX4_init_1 (Nat.le_of_ble_eq_true rfl) (Nat.le_of_ble_eq_true rfl) ?_
  refine W.eq (g2 := F0 m 4 ls []) rfl ?_
  refine lv_aload_n hx hb dX4_init_4 rfl (lv_at hl 0 rfl) ?_
  refine lv_sipush (v := (640 : Int32)) hx hb dX4_init_5 (by decide) ?_
  refine va_newaG (atype := .byte) (n := (640 : Int32)) (N' := 640) (ty := .byte) (f := fun _ => 0) hx hb (hts (.arrayClass .byte) (by decide +kernel)) rfl hK hP hD hS hA 1 rfl (fun _ _ => rfl) (fun _ => rfl) (by decide) (by decide) (by decide) (Nat.le_of_ble_eq_true rfl) (Nat.le_of_ble_eq_true rfl) dX4_init_8 (fun q1 H1 hP1 hD1 hS1 => ?_)
  replace hP1 : va_P D vwCl [(a0, .inr (4, [.null, .int 0])), (q1, .inl (cB, 640, .inl (fun _ => 0)))] H1 := hP1
  replace hD1 : va_D A [(a0, .inr (4, [.null, .int 0])), (q1, .inl (cB, 640, .inl (fun _ => 0)))] := hD1
  refine W.widen (k := 1) (n := 640) (Nat.le_of_ble_eq_true rfl) (Nat.le_of_ble_eq_true rfl) ?_
  clear hP hD hS
  refine va_putF (D := D) (ci := 4) (v := .ref q1) (ty := (.array .byte)) (C := RX4) (T := TX4) (N := 2) hx hb hts iw_X4 tyX4 tyX4_ok nmX4 hown hK hP1 hD1 hS1 0 rfl rfl 0 (by decide) (hts (.fieldLink RX4 9 "VarianceBridge$Tape" "bytes" "[B") (by decide +kernel)) (fun _ h9 => h9) rfl hin rfl (by decide +kernel) rfl rfl (Nat.le_of_ble_eq_true rfl) dX4_init_10 (fun H2 lo2 hP2 hD2 hS2 => ?_)
  replace hP2 : va_P D vwCl [(a0, .inr (4, [.ref q1, .int 0])), (q1, .inl (cB, 640, .inl (fun _ => 0)))] H2 := hP2
  replace hD2 : va_D A [(a0, .inr (4, [.ref q1, .int 0])), (q1, .inl (cB, 640, .inl (fun _ => 0)))] := hD2
  clear hP1 hD1 hS1
  refine lv_aload_n hx hb dX4_init_13 rfl (lv_at hl 0 rfl) ?_
  refine lv_iconst (v := (0 : Int32)) hx hb dX4_init_14 (by decide) ?_
  refine va_put (D := D) (ci := 4) (v := .int (0 : Int32)) (ty := .int) (C := RX4) (T := TX4) (N := 2) hx hb hts iw_X4 tyX4 tyX4_ok nmX4 hown hK hP2 hD2 hS2 0 rfl rfl 1 (by decide) (hts (.fieldLink RX4 15 "VarianceBridge$Tape" "length" "I") (by decide +kernel)) (fun _ h9 => h9) rfl (by decide +kernel) rfl rfl (Nat.le_of_ble_eq_true rfl) dX4_init_15 (fun H3 lo3 hP3 hD3 hS3 => ?_)
  replace hP3 : va_P D vwCl [(a0, .inr (4, [.ref q1, .int 0])), (q1, .inl (cB, 640, .inl (fun _ => 0)))] H3 := hP3
  replace hD3 : va_D A [(a0, .inr (4, [.ref q1, .int 0])), (q1, .inl (cB, 640, .inl (fun _ => 0)))] := hD3
  clear hP2 hD2 hS2
  exact W.vret hx hb hr (fun t ht hW => ⟨⟨(), rfl, trivial, q1, by rw [ht]; exact hP3, va_K.moved hW.alike hK, hD3⟩, hS3.F ht⟩) hS3.2.2 dX4_init_18
theorem iw_X2_init_X2 : ∀ w ∈ wsX20, w ∈ wsX2_init := by decide +kernel
set_option maxHeartbeats 4000000 in
set_option maxRecDepth 100000 in
theorem c_X2_init (l : Launch) (D : va_G) (cI cB cZ : ClassId) (ta : Nat → Nat) (a0 : Nat) (sz : Nat) : Met l yX2_init wsX2_init ({ frames := 1, cells := 2, slots := 420, locals := 21 } : Room) (va_Pc [.ref a0] (PW D cI cB cZ ta [(a0, .inr (2, [.null, .null, .int 0, .int 0, .int 0]))] sz)) (va_Qv (fun (_ : Unit) => True) (fun _ t => ∃ (q1 : Nat) (q3 : Nat), va_P D vwCl [(a0, .inr (2, [.ref q1, .ref q3, .int (1 : Int32), .int (1 : Int32), .int (1 : Int32)])), (q1, .inl (cI, 20, .inl (upd (fun _ => 0) (0 : Int32).toNatClampNeg (-1 : Int32)))), (q3, .inl (cI, 400, .inl (fun _ => 0)))] t.heap ∧ va_K D vwCl (tyG cI cB cZ) t ∧ va_D (va_A [(a0, .inr (2, [.null, .null, .int 0, .int 0, .int 0]))] sz) [(a0, .inr (2, [.ref q1, .ref q3, .int (1 : Int32), .int (1 : Int32), .int (1 : Int32)])), (q1, .inl (cI, 20, .inl (upd (fun _ => 0) (0 : Int32).toNatClampNeg (-1 : Int32)))), (q3, .inl (cI, 400, .inl (fun _ => 0)))]) (va_A [(a0, .inr (2, [.null, .null, .int 0, .int 0, .int 0]))] sz)) 2 420 (va_A [(a0, .inr (2, [.null, .null, .int 0, .int 0, .int 0]))] sz) := by
  refine Met.ofW (cc := cX2_init) (maxL := 1) (ret := none) (by decide) rfl ?_
  intro p e s m args below meth c s₁ B hml hv
  obtain ⟨rfl, hsz, hP, hK, hD0, hG⟩ := hv
  have hx := B.exec
  have hb := B.bytes
  have hr := B.returns
  have hts := atoms_spec (ws := wsX2_init) B.pre
  have hown : s.vm.findClass RX2 = some m.cls := findClass_of_methodNamed B.named
  have hlocks := B.notSynchronized
  have hin : meth.name = "<init>" := (name_of_methodNamed B.named B.method).1
  subst hsz
  have hD := hD0.self (sz := s.heap.size)
  clear hD0
  have hA0 : ∀ q : Nat, s.heap.size ≤ q → va_A [(a0, .inr (2, [.null, .null, .int 0, .int 0, .int 0]))] s.heap.size q := fun q h => Or.inr h
  generalize hAe : va_A [(a0, .inr (2, [.null, .null, .int 0, .int 0, .int 0]))] s.heap.size = A at hD hG hA0 ⊢
  have hA : ∀ q : Nat, s.heap.size ≤ q → A q := hA0
  clear hA0
  have hS : va_S A s.heap s.heap [] := va_S.rf
  have iw_X2 := iw_X2_init_X2
  have hl := lv_entry ([.ref a0]) (n := 1) (Nat.le_of_ble_eq_true rfl)
  rw [lg_entry_eq]
  generalize (lg_sl ([.ref a0]) ++ List.replicate (1 - (lg_sl ([.ref a0])).length) Slot.unset).toArray = ls at hl ⊢
  have hl : lv_has ls 1 [(0, .ref a0)] := hl
  refine lv_aload_n hx hb dX2_init_0 rfl (lv_at hl 0 rfl) ?_
  refine W.objInit hx hb hown (hts (.methodLink RX2 3 objectInit) (by decide +kernel)) (hts (.instanceMethod objectInit) (by decide +kernel)) (hts (.code objectInit ⟨#[0xb1]⟩ 1 none) (by decide +kernel)) rfl (by rw [hml]; exact hl.1) rfl dX2_init_1 (Nat.le_of_ble_eq_true rfl) (Nat.le_of_ble_eq_true rfl) ?_
  refine W.eq (g2 := F0 m 4 ls []) rfl ?_
  refine lv_aload_n hx hb dX2_init_4 rfl (lv_at hl 0 rfl) ?_
  refine lv_bipush (v := (20 : Int32)) hx hb dX2_init_5 (by decide) ?_
  refine va_newaG (atype := .int) (n := (20 : Int32)) (N' := 20) (ty := .int) (f := fun _ => 0) hx hb (hts (.arrayClass .int) (by decide +kernel)) rfl hK hP hD hS hA 0 rfl (fun _ _ => rfl) (fun _ => rfl) (by decide) (by decide) (by decide) (Nat.le_of_ble_eq_true rfl) (Nat.le_of_ble_eq_true rfl) dX2_init_7 (fun q1 H1 hP1 hD1 hS1 => ?_)
  replace hP1 : va_P D vwCl [(a0, .inr (2, [.null, .null, .int 0, .int 0, .int 0])), (q1, .inl (cI, 20, .inl (fun _ => 0)))] H1 := hP1
  replace hD1 : va_D A [(a0, .inr (2, [.null, .null, .int 0, .int 0, .int 0])), (q1, .inl (cI, 20, .inl (fun _ => 0)))] := hD1
  refine W.widen (k := 1) (n := 20) (Nat.le_of_ble_eq_true rfl) (Nat.le_of_ble_eq_true rfl) ?_
  clear hP hD hS
  refine va_putF (D := D) (ci := 2) (v := .ref q1) (ty := (.array .int)) (C := RX2) (T := TX2) (N := 5) hx hb hts iw_X2 tyX2 tyX2_ok nmX2 hown hK hP1 hD1 hS1 0 rfl rfl 0 (by decide) (hts (.fieldLink RX2 9 "VarianceBridge$Plan" "parents" "[I") (by decide +kernel)) (fun _ h9 => h9) rfl hin rfl (by decide +kernel) rfl rfl (Nat.le_of_ble_eq_true rfl) dX2_init_9 (fun H2 lo2 hP2 hD2 hS2 => ?_)
  replace hP2 : va_P D vwCl [(a0, .inr (2, [.ref q1, .null, .int 0, .int 0, .int 0])), (q1, .inl (cI, 20, .inl (fun _ => 0)))] H2 := hP2
  replace hD2 : va_D A [(a0, .inr (2, [.ref q1, .null, .int 0, .int 0, .int 0])), (q1, .inl (cI, 20, .inl (fun _ => 0)))] := hD2
  clear hP1 hD1 hS1
  refine lv_aload_n hx hb dX2_init_12 rfl (lv_at hl 0 rfl) ?_
  refine lv_sipush (v := (400 : Int32)) hx hb dX2_init_13 (by decide) ?_
  refine va_newaG (atype := .int) (n := (400 : Int32)) (N' := 400) (ty := .int) (f := fun _ => 0) hx hb (hts (.arrayClass .int) (by decide +kernel)) rfl hK hP2 hD2 hS2 hA 0 rfl (fun _ _ => rfl) (fun _ => rfl) (by decide) (by decide) (by decide) (Nat.le_of_ble_eq_true rfl) (Nat.le_of_ble_eq_true rfl) dX2_init_16 (fun q3 H3 hP3 hD3 hS3 => ?_)
  replace hP3 : va_P D vwCl [(a0, .inr (2, [.ref q1, .null, .int 0, .int 0, .int 0])), (q1, .inl (cI, 20, .inl (fun _ => 0))), (q3, .inl (cI, 400, .inl (fun _ => 0)))] H3 := hP3
  replace hD3 : va_D A [(a0, .inr (2, [.ref q1, .null, .int 0, .int 0, .int 0])), (q1, .inl (cI, 20, .inl (fun _ => 0))), (q3, .inl (cI, 400, .inl (fun _ => 0)))] := hD3
  refine W.widen (k := 2) (n := 420) (Nat.le_of_ble_eq_true rfl) (Nat.le_of_ble_eq_true rfl) ?_
  clear hP2 hD2 hS2
  refine va_putF (D := D) (ci := 2) (v := .ref q3) (ty := (.array .int)) (C := RX2) (T := TX2) (N := 5) hx hb hts iw_X2 tyX2 tyX2_ok nmX2 hown hK hP3 hD3 hS3 0 rfl rfl 1 (by decide) (hts (.fieldLink RX2 15 "VarianceBridge$Plan" "factors" "[I") (by decide +kernel)) (fun _ h9 => h9) rfl hin rfl (by decide +kernel) rfl rfl (Nat.le_of_ble_eq_true rfl) dX2_init_18 (fun H4 lo4 hP4 hD4 hS4 => ?_)
  replace hP4 : va_P D vwCl [(a0, .inr (2, [.ref q1, .ref q3, .int 0, .int 0, .int 0])), (q1, .inl (cI, 20, .inl (fun _ => 0))), (q3, .inl (cI, 400, .inl (fun _ => 0)))] H4 := hP4
  replace hD4 : va_D A [(a0, .inr (2, [.ref q1, .ref q3, .int 0, .int 0, .int 0])), (q1, .inl (cI, 20, .inl (fun _ => 0))), (q3, .inl (cI, 400, .inl (fun _ => 0)))] := hD4
  clear hP3 hD3 hS3
  refine lv_aload_n hx hb dX2_init_21 rfl (lv_at hl 0 rfl) ?_
  refine lv_iconst (v := (1 : Int32)) hx hb dX2_init_22 (by decide) ?_
  refine gcall_v (ws' := [(a0, .inr (2, [.ref q1, .ref q3, .int (1 : Int32), .int (1 : Int32), .int (1 : Int32)])), (q1, .inl (cI, 20, .inl (upd (fun _ => 0) (0 : Int32).toNatClampNeg (-1 : Int32)))), (q3, .inl (cI, 400, .inl (fun _ => 0)))]) (va_runV (As := [.int (1 : Int32)]) (rest := []) ⟨hx, hb, hml, hown, hts⟩ (c_X2_clear l D cI cB cZ ta a0 q1 q3 H4.size 0 0 0 (fun _ => 0) (fun _ => 0) (1 : Int32) (1 : Int32) (1 : Int32) (1 : Int32) (upd (fun _ => 0) (0 : Int32).toNatClampNeg (-1 : Int32)) m_clear_1) (cwV 1 hts gX2_init_X2_clear rfl rfl rfl (by decide +kernel) ⟨(Nat.le_of_ble_eq_true rfl), (Nat.le_of_ble_eq_true rfl)⟩) ⟨PW_blind, va_recv hK hP4 rfl (q0 := 0) rfl, PW_at hP4 hD4 hK hS4 hA hG [0, 1, 2] rfl (by decide)⟩ rfl rfl hl.1 rfl (lv_room (Nat.le_of_ble_eq_true rfl)) dX2_init_23 ⟨(Nat.le_of_ble_eq_true rfl), (Nat.le_of_ble_eq_true rfl)⟩) hP4 hD4 hS4 hA [0, 1, 2] [] [0, 1, 2] rfl rfl (by decide) (by decide) (by decide) rfl (fun H5 lo5 hP5 hD5 hS5 => ?_)
  clear hP4 hD4 hS4
  exact W.vret hx hb hr (fun t ht hW => ⟨⟨(), rfl, trivial, q1, q3, by rw [ht]; exact hP5, va_K.moved hW.alike hK, hD5⟩, hS5.F ht⟩) hS5.2.2 dX2_init_26
theorem iw_X5_init_X5 : ∀ w ∈ wsX50, w ∈ wsX5_init := by decide +kernel
set_option maxHeartbeats 4000000 in
set_option maxRecDepth 100000 in
theorem c_X5_init (l : Launch) (D : va_G) (cI cB cZ : ClassId) (ta : Nat → Nat) (a0 : Nat) (p1 : Nat) (sz : Nat) : Met l yX5_init wsX5_init ({ frames := 1, cells := 0, slots := 0, locals := 12 } : Room) (va_Pc [.ref a0, .ref p1] (PW D cI cB cZ ta [(a0, .inr (5, [.null, .int 0, .int 0, .int 0, .int 0]))] sz)) (va_Qv (fun (_ : Unit) => True) (fun _ t => va_P D vwCl [(a0, .inr (5, [.ref p1, .int 0, .int 0, .int 0, .int 0]))] t.heap ∧ va_K D vwCl (tyG cI cB cZ) t ∧ va_D (va_A [(a0, .inr (5, [.null, .int 0, .int 0, .int 0, .int 0]))] sz) [(a0, .inr (5, [.ref p1, .int 0, .int 0, .int 0, .int 0]))]) (va_A [(a0, .inr (5, [.null, .int 0, .int 0, .int 0, .int 0]))] sz)) 0 0 (va_A [(a0, .inr (5, [.null, .int 0, .int 0, .int 0, .int 0]))] sz) := by
  refine Met.ofW (cc := cX5_init) (maxL := 2) (ret := none) (by decide) rfl ?_
  intro p e s m args below meth c s₁ B hml hv
  obtain ⟨rfl, hsz, hP, hK, hD0, hG⟩ := hv
  have hx := B.exec
  have hb := B.bytes
  have hr := B.returns
  have hts := atoms_spec (ws := wsX5_init) B.pre
  have hown : s.vm.findClass RX5 = some m.cls := findClass_of_methodNamed B.named
  have hlocks := B.notSynchronized
  have hin : meth.name = "<init>" := (name_of_methodNamed B.named B.method).1
  subst hsz
  have hD := hD0.self (sz := s.heap.size)
  clear hD0
  have hA0 : ∀ q : Nat, s.heap.size ≤ q → va_A [(a0, .inr (5, [.null, .int 0, .int 0, .int 0, .int 0]))] s.heap.size q := fun q h => Or.inr h
  generalize hAe : va_A [(a0, .inr (5, [.null, .int 0, .int 0, .int 0, .int 0]))] s.heap.size = A at hD hG hA0 ⊢
  have hA : ∀ q : Nat, s.heap.size ≤ q → A q := hA0
  clear hA0
  have hS : va_S A s.heap s.heap [] := va_S.rf
  have iw_X5 := iw_X5_init_X5
  have hl := lv_entry ([.ref a0, .ref p1]) (n := 2) (Nat.le_of_ble_eq_true rfl)
  rw [lg_entry_eq]
  generalize (lg_sl ([.ref a0, .ref p1]) ++ List.replicate (2 - (lg_sl ([.ref a0, .ref p1])).length) Slot.unset).toArray = ls at hl ⊢
  have hl : lv_has ls 2 [(0, .ref a0), (1, .ref p1)] := hl
  refine lv_aload_n hx hb dX5_init_0 rfl (lv_at hl 0 rfl) ?_
  refine W.objInit hx hb hown (hts (.methodLink RX5 3 objectInit) (by decide +kernel)) (hts (.instanceMethod objectInit) (by decide +kernel)) (hts (.code objectInit ⟨#[0xb1]⟩ 1 none) (by decide +kernel)) rfl (by rw [hml]; exact hl.1) rfl dX5_init_1 (Nat.le_of_ble_eq_true rfl) (Nat.le_of_ble_eq_true rfl) ?_
  refine W.eq (g2 := F0 m 4 ls []) rfl ?_
  refine lv_aload_n hx hb dX5_init_4 rfl (lv_at hl 0 rfl) ?_
  refine lv_iconst (v := (0 : Int32)) hx hb dX5_init_5 (by decide) ?_
  refine va_put (D := D) (ci := 5) (v := .int (0 : Int32)) (ty := .int) (C := RX5) (T := TX5) (N := 5) hx hb hts iw_X5 tyX5 tyX5_ok nmX5 hown hK hP hD hS 0 rfl rfl 1 (by decide) (hts (.fieldLink RX5 9 "VarianceBridge$Tokens" "place" "I") (by decide +kernel)) (fun _ h9 => h9) rfl (by decide +kernel) rfl rfl (Nat.le_of_ble_eq_true rfl) dX5_init_6 (fun H1 lo1 hP1 hD1 hS1 => ?_)
  replace hP1 : va_P D vwCl [(a0, .inr (5, [.null, .int 0, .int 0, .int 0, .int 0]))] H1 := hP1
  replace hD1 : va_D A [(a0, .inr (5, [.null, .int 0, .int 0, .int 0, .int 0]))] := hD1
  clear hP hD hS
  refine lv_aload_n hx hb dX5_init_9 rfl (lv_at hl 0 rfl) ?_
  refine lv_iconst (v := (0 : Int32)) hx hb dX5_init_10 (by decide) ?_
  refine va_put (D := D) (ci := 5) (v := .int (0 : Int32)) (ty := .int) (C := RX5) (T := TX5) (N := 5) hx hb hts iw_X5 tyX5 tyX5_ok nmX5 hown hK hP1 hD1 hS1 0 rfl rfl 2 (by decide) (hts (.fieldLink RX5 15 "VarianceBridge$Tokens" "begin" "I") (by decide +kernel)) (fun _ h9 => h9) rfl (by decide +kernel) rfl rfl (Nat.le_of_ble_eq_true rfl) dX5_init_11 (fun H2 lo2 hP2 hD2 hS2 => ?_)
  replace hP2 : va_P D vwCl [(a0, .inr (5, [.null, .int 0, .int 0, .int 0, .int 0]))] H2 := hP2
  replace hD2 : va_D A [(a0, .inr (5, [.null, .int 0, .int 0, .int 0, .int 0]))] := hD2
  clear hP1 hD1 hS1
  refine lv_aload_n hx hb dX5_init_14 rfl (lv_at hl 0 rfl) ?_
  refine lv_iconst (v := (0 : Int32)) hx hb dX5_init_15 (by decide) ?_
  refine va_put (D := D) (ci := 5) (v := .int (0 : Int32)) (ty := .int) (C := RX5) (T := TX5) (N := 5) hx hb hts iw_X5 tyX5 tyX5_ok nmX5 hown hK hP2 hD2 hS2 0 rfl rfl 3 (by decide) (hts (.fieldLink RX5 18 "VarianceBridge$Tokens" "kind" "I") (by decide +kernel)) (fun _ h9 => h9) rfl (by decide +kernel) rfl rfl (Nat.le_of_ble_eq_true rfl) dX5_init_16 (fun H3 lo3 hP3 hD3 hS3 => ?_)
  replace hP3 : va_P D vwCl [(a0, .inr (5, [.null, .int 0, .int 0, .int 0, .int 0]))] H3 := hP3
  replace hD3 : va_D A [(a0, .inr (5, [.null, .int 0, .int 0, .int 0, .int 0]))] := hD3
  clear hP2 hD2 hS2
  refine lv_aload_n hx hb dX5_init_19 rfl (lv_at hl 0 rfl) ?_
  refine lv_iconst (v := (0 : Int32)) hx hb dX5_init_20 (by decide) ?_
  refine va_put (D := D) (ci := 5) (v := .int (0 : Int32)) (ty := .int) (C := RX5) (T := TX5) (N := 5) hx hb hts iw_X5 tyX5 tyX5_ok nmX5 hown hK hP3 hD3 hS3 0 rfl rfl 4 (by decide) (hts (.fieldLink RX5 21 "VarianceBridge$Tokens" "number" "I") (by decide +kernel)) (fun _ h9 => h9) rfl (by decide +kernel) rfl rfl (Nat.le_of_ble_eq_true rfl) dX5_init_21 (fun H4 lo4 hP4 hD4 hS4 => ?_)
  replace hP4 : va_P D vwCl [(a0, .inr (5, [.null, .int 0, .int 0, .int 0, .int 0]))] H4 := hP4
  replace hD4 : va_D A [(a0, .inr (5, [.null, .int 0, .int 0, .int 0, .int 0]))] := hD4
  clear hP3 hD3 hS3
  refine lv_aload_n hx hb dX5_init_24 rfl (lv_at hl 0 rfl) ?_
  refine lv_aload_n hx hb dX5_init_25 rfl (lv_at hl 1 rfl) ?_
  refine va_putF (D := D) (ci := 5) (v := .ref p1) (ty := (.object "VarianceBridge$Tape")) (C := RX5) (T := TX5) (N := 5) hx hb hts iw_X5 tyX5 tyX5_ok nmX5 hown hK hP4 hD4 hS4 0 rfl rfl 0 (by decide) (hts (.fieldLink RX5 24 "VarianceBridge$Tokens" "tape" "LVarianceBridge$Tape;") (by decide +kernel)) (fun _ h9 => h9) rfl hin rfl (by decide +kernel) rfl rfl (Nat.le_of_ble_eq_true rfl) dX5_init_26 (fun H5 lo5 hP5 hD5 hS5 => ?_)
  replace hP5 : va_P D vwCl [(a0, .inr (5, [.ref p1, .int 0, .int 0, .int 0, .int 0]))] H5 := hP5
  replace hD5 : va_D A [(a0, .inr (5, [.ref p1, .int 0, .int 0, .int 0, .int 0]))] := hD5
  clear hP4 hD4 hS4
  exact W.vret hx hb hr (fun t ht hW => ⟨⟨(), rfl, trivial, by rw [ht]; exact hP5, va_K.moved hW.alike hK, hD5⟩, hS5.F ht⟩) hS5.2.2 dX5_init_29
theorem iw_X3_init_X3 : ∀ w ∈ wsX30, w ∈ wsX3_init := by decide +kernel
theorem iw_X3_init_X5 : ∀ w ∈ wsX50, w ∈ wsX3_init := by decide +kernel
set_option maxHeartbeats 4000000 in
set_option maxRecDepth 100000 in
theorem c_X3_init (l : Launch) (D : va_G) (cI cB cZ : ClassId) (ta : Nat → Nat) (a0 : Nat) (p1 : Nat) (p2 : Nat) (sz : Nat) : Met l yX3_init wsX3_init ({ frames := 2, cells := 2, slots := 25, locals := 33 } : Room) (va_Pc [.ref a0, .ref p1, .ref p2] (PW D cI cB cZ ta [(a0, .inr (3, [.null, .null, .null, .int 0, .int 0, .int 0]))] sz)) (va_Qv (fun (_ : Unit) => True) (fun _ t => ∃ (q1 : Nat) (q6 : Nat), va_P D vwCl [(a0, .inr (3, [.ref q6, .ref p2, .ref q1, .int 0, .int 0, .int 0])), (q1, .inl (cI, 20, .inl (fun _ => 0))), (q6, .inr (5, [.ref p1, .int 0, .int 0, .int 0, .int 0]))] t.heap ∧ va_K D vwCl (tyG cI cB cZ) t ∧ va_D (va_A [(a0, .inr (3, [.null, .null, .null, .int 0, .int 0, .int 0]))] sz) [(a0, .inr (3, [.ref q6, .ref p2, .ref q1, .int 0, .int 0, .int 0])), (q1, .inl (cI, 20, .inl (fun _ => 0))), (q6, .inr (5, [.ref p1, .int 0, .int 0, .int 0, .int 0]))]) (va_A [(a0, .inr (3, [.null, .null, .null, .int 0, .int 0, .int 0]))] sz)) 2 25 (va_A [(a0, .inr (3, [.null, .null, .null, .int 0, .int 0, .int 0]))] sz) := by
  refine Met.ofW (cc := cX3_init) (maxL := 3) (ret := none) (by decide) rfl ?_
  intro p e s m args below meth c s₁ B hml hv
  obtain ⟨rfl, hsz, hP, hK, hD0, hG⟩ := hv
  have hx := B.exec
  have hb := B.bytes
  have hr := B.returns
  have hts := atoms_spec (ws := wsX3_init) B.pre
  have hown : s.vm.findClass RX3 = some m.cls := findClass_of_methodNamed B.named
  have hlocks := B.notSynchronized
  have hin : meth.name = "<init>" := (name_of_methodNamed B.named B.method).1
  subst hsz
  have hD := hD0.self (sz := s.heap.size)
  clear hD0
  have hA0 : ∀ q : Nat, s.heap.size ≤ q → va_A [(a0, .inr (3, [.null, .null, .null, .int 0, .int 0, .int 0]))] s.heap.size q := fun q h => Or.inr h
  generalize hAe : va_A [(a0, .inr (3, [.null, .null, .null, .int 0, .int 0, .int 0]))] s.heap.size = A at hD hG hA0 ⊢
  have hA : ∀ q : Nat, s.heap.size ≤ q → A q := hA0
  clear hA0
  have hS : va_S A s.heap s.heap [] := va_S.rf
  have iw_X3 := iw_X3_init_X3
  have iw_X5 := iw_X3_init_X5
  have hl := lv_entry ([.ref a0, .ref p1, .ref p2]) (n := 3) (Nat.le_of_ble_eq_true rfl)
  rw [lg_entry_eq]
  generalize (lg_sl ([.ref a0, .ref p1, .ref p2]) ++ List.replicate (3 - (lg_sl ([.ref a0, .ref p1, .ref p2])).length) Slot.unset).toArray = ls at hl ⊢
  have hl : lv_has ls 3 [(0, .ref a0), (1, .ref p1), (2, .ref p2)] := hl
  refine lv_aload_n hx hb dX3_init_0 rfl (lv_at hl 0 rfl) ?_
  refine W.objInit hx hb hown (hts (.methodLink RX3 3 objectInit) (by decide +kernel)) (hts (.instanceMethod objectInit) (by decide +kernel)) (hts (.code objectInit ⟨#[0xb1]⟩ 1 none) (by decide +kernel)) rfl (by rw [hml]; exact hl.1) rfl dX3_init_1 (Nat.le_of_ble_eq_true rfl) (Nat.le_of_ble_eq_true rfl) ?_
  refine W.eq (g2 := F0 m 4 ls []) rfl ?_
  refine lv_aload_n hx hb dX3_init_4 rfl (lv_at hl 0 rfl) ?_
  refine lv_bipush (v := (20 : Int32)) hx hb dX3_init_5 (by decide) ?_
  refine va_newaG (atype := .int) (n := (20 : Int32)) (N' := 20) (ty := .int) (f := fun _ => 0) hx hb (hts (.arrayClass .int) (by decide +kernel)) rfl hK hP hD hS hA 0 rfl (fun _ _ => rfl) (fun _ => rfl) (by decide) (by decide) (by decide) (Nat.le_of_ble_eq_true rfl) (Nat.le_of_ble_eq_true rfl) dX3_init_7 (fun q1 H1 hP1 hD1 hS1 => ?_)
  replace hP1 : va_P D vwCl [(a0, .inr (3, [.null, .null, .null, .int 0, .int 0, .int 0])), (q1, .inl (cI, 20, .inl (fun _ => 0)))] H1 := hP1
  replace hD1 : va_D A [(a0, .inr (3, [.null, .null, .null, .int 0, .int 0, .int 0])), (q1, .inl (cI, 20, .inl (fun _ => 0)))] := hD1
  refine W.widen (k := 1) (n := 20) (Nat.le_of_ble_eq_true rfl) (Nat.le_of_ble_eq_true rfl) ?_
  clear hP hD hS
  refine va_putF (D := D) (ci := 3) (v := .ref q1) (ty := (.array .int)) (C := RX3) (T := TX3) (N := 6) hx hb hts iw_X3 tyX3 tyX3_ok nmX3 hown hK hP1 hD1 hS1 0 rfl rfl 2 (by decide) (hts (.fieldLink RX3 9 "VarianceBridge$Reader" "scenesTold" "[I") (by decide +kernel)) (fun _ h9 => h9) rfl hin rfl (by decide +kernel) rfl rfl (Nat.le_of_ble_eq_true rfl) dX3_init_9 (fun H2 lo2 hP2 hD2 hS2 => ?_)
  replace hP2 : va_P D vwCl [(a0, .inr (3, [.null, .null, .ref q1, .int 0, .int 0, .int 0])), (q1, .inl (cI, 20, .inl (fun _ => 0)))] H2 := hP2
  replace hD2 : va_D A [(a0, .inr (3, [.null, .null, .ref q1, .int 0, .int 0, .int 0])), (q1, .inl (cI, 20, .inl (fun _ => 0)))] := hD2
  clear hP1 hD1 hS1
  refine lv_aload_n hx hb dX3_init_12 rfl (lv_at hl 0 rfl) ?_
  refine lv_iconst (v := (0 : Int32)) hx hb dX3_init_13 (by decide) ?_
  refine va_put (D := D) (ci := 3) (v := .int (0 : Int32)) (ty := .int) (C := RX3) (T := TX3) (N := 6) hx hb hts iw_X3 tyX3 tyX3_ok nmX3 hown hK hP2 hD2 hS2 0 rfl rfl 3 (by decide) (hts (.fieldLink RX3 15 "VarianceBridge$Reader" "lines" "I") (by decide +kernel)) (fun _ h9 => h9) rfl (by decide +kernel) rfl rfl (Nat.le_of_ble_eq_true rfl) dX3_init_14 (fun H3 lo3 hP3 hD3 hS3 => ?_)
  replace hP3 : va_P D vwCl [(a0, .inr (3, [.null, .null, .ref q1, .int 0, .int 0, .int 0])), (q1, .inl (cI, 20, .inl (fun _ => 0)))] H3 := hP3
  replace hD3 : va_D A [(a0, .inr (3, [.null, .null, .ref q1, .int 0, .int 0, .int 0])), (q1, .inl (cI, 20, .inl (fun _ => 0)))] := hD3
  clear hP2 hD2 hS2
  refine lv_aload_n hx hb dX3_init_17 rfl (lv_at hl 0 rfl) ?_
  refine lv_iconst (v := (0 : Int32)) hx hb dX3_init_18 (by decide) ?_
  refine va_put (D := D) (ci := 3) (v := .int (0 : Int32)) (ty := .int) (C := RX3) (T := TX3) (N := 6) hx hb hts iw_X3 tyX3 tyX3_ok nmX3 hown hK hP3 hD3 hS3 0 rfl rfl 4 (by decide) (hts (.fieldLink RX3 19 "VarianceBridge$Reader" "faultKind" "I") (by decide +kernel)) (fun _ h9 => h9) rfl (by decide +kernel) rfl rfl (Nat.le_of_ble_eq_true rfl) dX3_init_19 (fun H4 lo4 hP4 hD4 hS4 => ?_)
  replace hP4 : va_P D vwCl [(a0, .inr (3, [.null, .null, .ref q1, .int 0, .int 0, .int 0])), (q1, .inl (cI, 20, .inl (fun _ => 0)))] H4 := hP4
  replace hD4 : va_D A [(a0, .inr (3, [.null, .null, .ref q1, .int 0, .int 0, .int 0])), (q1, .inl (cI, 20, .inl (fun _ => 0)))] := hD4
  clear hP3 hD3 hS3
  refine lv_aload_n hx hb dX3_init_22 rfl (lv_at hl 0 rfl) ?_
  refine lv_iconst (v := (0 : Int32)) hx hb dX3_init_23 (by decide) ?_
  refine va_put (D := D) (ci := 3) (v := .int (0 : Int32)) (ty := .int) (C := RX3) (T := TX3) (N := 6) hx hb hts iw_X3 tyX3 tyX3_ok nmX3 hown hK hP4 hD4 hS4 0 rfl rfl 5 (by decide) (hts (.fieldLink RX3 22 "VarianceBridge$Reader" "faultPlace" "I") (by decide +kernel)) (fun _ h9 => h9) rfl (by decide +kernel) rfl rfl (Nat.le_of_ble_eq_true rfl) dX3_init_24 (fun H5 lo5 hP5 hD5 hS5 => ?_)
  replace hP5 : va_P D vwCl [(a0, .inr (3, [.null, .null, .ref q1, .int 0, .int 0, .int 0])), (q1, .inl (cI, 20, .inl (fun _ => 0)))] H5 := hP5
  replace hD5 : va_D A [(a0, .inr (3, [.null, .null, .ref q1, .int 0, .int 0, .int 0])), (q1, .inl (cI, 20, .inl (fun _ => 0)))] := hD5
  clear hP4 hD4 hS4
  refine lv_aload_n hx hb dX3_init_27 rfl (lv_at hl 0 rfl) ?_
  refine va_new (ci := 5) (fs := [.null, .int 0, .int 0, .int 0, .int 0]) (C := RX5) (T := TX5) (N := 5) hx hb hts iw_X5 tyX5 tyX5_ok hown (hts (.classLink RX3 25 RX5) (by decide +kernel)) (hts (.instantiable RX5 5) (by decide +kernel)) (hts (.initialized RX5) (by decide +kernel)) hK hP5 hD5 hS5 hA rfl (fun j hj => by rcases (show j = 0 ∨ j = 1 ∨ j = 2 ∨ j = 3 ∨ j = 4 by omega) with rfl | rfl | rfl | rfl | rfl <;> rfl) (Nat.le_of_ble_eq_true rfl) (Nat.le_of_ble_eq_true rfl) dX3_init_28 (fun q6 H6 hP6 hD6 hS6 => ?_)
  replace hP6 : va_P D vwCl [(a0, .inr (3, [.null, .null, .ref q1, .int 0, .int 0, .int 0])), (q1, .inl (cI, 20, .inl (fun _ => 0))), (q6, .inr (5, [.null, .int 0, .int 0, .int 0, .int 0]))] H6 := hP6
  replace hD6 : va_D A [(a0, .inr (3, [.null, .null, .ref q1, .int 0, .int 0, .int 0])), (q1, .inl (cI, 20, .inl (fun _ => 0))), (q6, .inr (5, [.null, .int 0, .int 0, .int 0, .int 0]))] := hD6
  refine W.widen (k := 2) (n := 25) (Nat.le_of_ble_eq_true rfl) (Nat.le_of_ble_eq_true rfl) ?_
  clear hP5 hD5 hS5
  refine lv_dup hx hb dX3_init_31 rfl ?_
  refine lv_aload_n hx hb dX3_init_32 rfl (lv_at hl 1 rfl) ?_
  have hFc := va_free (wc := [(q6, .inr (5, [.null, .int 0, .int 0, .int 0, .int 0]))]) hD6 hS6 hA [2] rfl
  refine va_callv (va_runIN (As := [.ref p1]) (rest := [.ref q6, .ref a0]) ⟨hx, hb, hml, hown, hts⟩ (c_X5_init l D cI cB cZ ta q6 p1 H6.size) ⟨va_cnB 1 hts gX3_init_X5_init_n27 rfl rfl rfl (hG.1 (.methodLinkNest RX3 27 yX5_init RX6) (by decide +kernel)) (hts (.initialized RX5) (by decide +kernel)) (by decide +kernel) ⟨(Nat.le_of_ble_eq_true rfl), (Nat.le_of_ble_eq_true rfl)⟩, rfl, hts (.instanceMethod yX5_init) (by decide +kernel)⟩ ⟨PW_blind, PW_at hP6 hD6 hK hS6 hA hG [2] rfl (by decide)⟩ rfl rfl hl.1 rfl (lv_room (Nat.le_of_ble_eq_true rfl)) dX3_init_33 ⟨(Nat.le_of_ble_eq_true rfl), (Nat.le_of_ble_eq_true rfl)⟩) hS6 (fun q _ h => hFc q h) hFc (fun u t H7 lo7 ht hvm hw hB hz1 hk1 hS7 => ?_)
  obtain ⟨hP9, hK9, hD9⟩ := hB
  rw [ht] at hP9
  obtain ⟨hP7, hD7⟩ := va_join (wr := [(a0, .inr (3, [.null, .null, .ref q1, .int 0, .int 0, .int 0])), (q1, .inl (cI, 20, .inl (fun _ => 0)))]) (w1 := [(q6, .inr (5, [.ref p1, .int 0, .int 0, .int 0, .int 0]))]) hP6 hD6 [2] [0, 1] rfl rfl (by decide) (by decide) hk1 hFc hP9 hD9
  replace hP7 : va_P D vwCl [(a0, .inr (3, [.null, .null, .ref q1, .int 0, .int 0, .int 0])), (q1, .inl (cI, 20, .inl (fun _ => 0))), (q6, .inr (5, [.ref p1, .int 0, .int 0, .int 0, .int 0]))] H7 := hP7
  replace hD7 : va_D A [(a0, .inr (3, [.null, .null, .ref q1, .int 0, .int 0, .int 0])), (q1, .inl (cI, 20, .inl (fun _ => 0))), (q6, .inr (5, [.ref p1, .int 0, .int 0, .int 0, .int 0]))] := hD7
  refine W.widen (k := 2) (n := 25) (Nat.le_of_ble_eq_true rfl) (Nat.le_of_ble_eq_true rfl) ?_
  clear hP9 hK9 hD9 hk1 hFc hw hz1 ht hvm hP6 hD6 hS6
  refine va_putF (D := D) (ci := 3) (v := .ref q6) (ty := (.object "VarianceBridge$Tokens")) (C := RX3) (T := TX3) (N := 6) hx hb hts iw_X3 tyX3 tyX3_ok nmX3 hown hK hP7 hD7 hS7 0 rfl rfl 0 (by decide) (hts (.fieldLink RX3 30 "VarianceBridge$Reader" "tokens" "LVarianceBridge$Tokens;") (by decide +kernel)) (fun _ h9 => h9) rfl hin rfl (by decide +kernel) rfl rfl (Nat.le_of_ble_eq_true rfl) dX3_init_36 (fun H8 lo8 hP8 hD8 hS8 => ?_)
  replace hP8 : va_P D vwCl [(a0, .inr (3, [.ref q6, .null, .ref q1, .int 0, .int 0, .int 0])), (q1, .inl (cI, 20, .inl (fun _ => 0))), (q6, .inr (5, [.ref p1, .int 0, .int 0, .int 0, .int 0]))] H8 := hP8
  replace hD8 : va_D A [(a0, .inr (3, [.ref q6, .null, .ref q1, .int 0, .int 0, .int 0])), (q1, .inl (cI, 20, .inl (fun _ => 0))), (q6, .inr (5, [.ref p1, .int 0, .int 0, .int 0, .int 0]))] := hD8
  clear hP7 hD7 hS7
  refine lv_aload_n hx hb dX3_init_39 rfl (lv_at hl 0 rfl) ?_
  refine lv_aload_n hx hb dX3_init_40 rfl (lv_at hl 2 rfl) ?_
  refine va_putF (D := D) (ci := 3) (v := .ref p2) (ty := (.object "VarianceBridge$Plan")) (C := RX3) (T := TX3) (N := 6) hx hb hts iw_X3 tyX3 tyX3_ok nmX3 hown hK hP8 hD8 hS8 0 rfl rfl 1 (by decide) (hts (.fieldLink RX3 34 "VarianceBridge$Reader" "draft" "LVarianceBridge$Plan;") (by decide +kernel)) (fun _ h9 => h9) rfl hin rfl (by decide +kernel) rfl rfl (Nat.le_of_ble_eq_true rfl) dX3_init_41 (fun H9 lo9 hP9 hD9 hS9 => ?_)
  replace hP9 : va_P D vwCl [(a0, .inr (3, [.ref q6, .ref p2, .ref q1, .int 0, .int 0, .int 0])), (q1, .inl (cI, 20, .inl (fun _ => 0))), (q6, .inr (5, [.ref p1, .int 0, .int 0, .int 0, .int 0]))] H9 := hP9
  replace hD9 : va_D A [(a0, .inr (3, [.ref q6, .ref p2, .ref q1, .int 0, .int 0, .int 0])), (q1, .inl (cI, 20, .inl (fun _ => 0))), (q6, .inr (5, [.ref p1, .int 0, .int 0, .int 0, .int 0]))] := hD9
  clear hP8 hD8 hS8
  exact W.vret hx hb hr (fun t ht hW => ⟨⟨(), rfl, trivial, q1, q6, by rw [ht]; exact hP9, va_K.moved hW.alike hK, hD9⟩, hS9.F ht⟩) hS9.2.2 dX3_init_44
theorem iw_X0_init_X0 : ∀ w ∈ wsX00, w ∈ wsX0_init := by decide +kernel
set_option maxHeartbeats 4000000 in
set_option maxRecDepth 100000 in
theorem c_X0_init (l : Launch) (D : va_G) (cI cB cZ : ClassId) (ta : Nat → Nat) (a0 : Nat) (p1 : Nat) (sz : Nat) : Met l yX0_init wsX0_init ({ frames := 1, cells := 2, slots := 52, locals := 12 } : Room) (va_Pc [.ref a0, .ref p1] (PW D cI cB cZ ta [(a0, .inr (0, [.null, .null, .null]))] sz)) (va_Qv (fun (_ : Unit) => True) (fun _ t => ∃ (q1 : Nat) (q3 : Nat), va_P D vwCl [(a0, .inr (0, [.ref p1, .ref q1, .ref q3])), (q1, .inl (cI, 32, .inl (fun _ => 0))), (q3, .inl (cI, 20, .inl (fun _ => 0)))] t.heap ∧ va_K D vwCl (tyG cI cB cZ) t ∧ va_D (va_A [(a0, .inr (0, [.null, .null, .null]))] sz) [(a0, .inr (0, [.ref p1, .ref q1, .ref q3])), (q1, .inl (cI, 32, .inl (fun _ => 0))), (q3, .inl (cI, 20, .inl (fun _ => 0)))]) (va_A [(a0, .inr (0, [.null, .null, .null]))] sz)) 2 52 (va_A [(a0, .inr (0, [.null, .null, .null]))] sz) := by
  refine Met.ofW (cc := cX0_init) (maxL := 2) (ret := none) (by decide) rfl ?_
  intro p e s m args below meth c s₁ B hml hv
  obtain ⟨rfl, hsz, hP, hK, hD0, hG⟩ := hv
  have hx := B.exec
  have hb := B.bytes
  have hr := B.returns
  have hts := atoms_spec (ws := wsX0_init) B.pre
  have hown : s.vm.findClass RX0 = some m.cls := findClass_of_methodNamed B.named
  have hlocks := B.notSynchronized
  have hin : meth.name = "<init>" := (name_of_methodNamed B.named B.method).1
  subst hsz
  have hD := hD0.self (sz := s.heap.size)
  clear hD0
  have hA0 : ∀ q : Nat, s.heap.size ≤ q → va_A [(a0, .inr (0, [.null, .null, .null]))] s.heap.size q := fun q h => Or.inr h
  generalize hAe : va_A [(a0, .inr (0, [.null, .null, .null]))] s.heap.size = A at hD hG hA0 ⊢
  have hA : ∀ q : Nat, s.heap.size ≤ q → A q := hA0
  clear hA0
  have hS : va_S A s.heap s.heap [] := va_S.rf
  have iw_X0 := iw_X0_init_X0
  have hl := lv_entry ([.ref a0, .ref p1]) (n := 2) (Nat.le_of_ble_eq_true rfl)
  rw [lg_entry_eq]
  generalize (lg_sl ([.ref a0, .ref p1]) ++ List.replicate (2 - (lg_sl ([.ref a0, .ref p1])).length) Slot.unset).toArray = ls at hl ⊢
  have hl : lv_has ls 2 [(0, .ref a0), (1, .ref p1)] := hl
  refine lv_aload_n hx hb dX0_init_0 rfl (lv_at hl 0 rfl) ?_
  refine W.objInit hx hb hown (hts (.methodLink RX0 3 objectInit) (by decide +kernel)) (hts (.instanceMethod objectInit) (by decide +kernel)) (hts (.code objectInit ⟨#[0xb1]⟩ 1 none) (by decide +kernel)) rfl (by rw [hml]; exact hl.1) rfl dX0_init_1 (Nat.le_of_ble_eq_true rfl) (Nat.le_of_ble_eq_true rfl) ?_
  refine W.eq (g2 := F0 m 4 ls []) rfl ?_
  refine lv_aload_n hx hb dX0_init_4 rfl (lv_at hl 0 rfl) ?_
  refine lv_bipush (v := (32 : Int32)) hx hb dX0_init_5 (by decide) ?_
  refine va_newaG (atype := .int) (n := (32 : Int32)) (N' := 32) (ty := .int) (f := fun _ => 0) hx hb (hts (.arrayClass .int) (by decide +kernel)) rfl hK hP hD hS hA 0 rfl (fun _ _ => rfl) (fun _ => rfl) (by decide) (by decide) (by decide) (Nat.le_of_ble_eq_true rfl) (Nat.le_of_ble_eq_true rfl) dX0_init_7 (fun q1 H1 hP1 hD1 hS1 => ?_)
  replace hP1 : va_P D vwCl [(a0, .inr (0, [.null, .null, .null])), (q1, .inl (cI, 32, .inl (fun _ => 0)))] H1 := hP1
  replace hD1 : va_D A [(a0, .inr (0, [.null, .null, .null])), (q1, .inl (cI, 32, .inl (fun _ => 0)))] := hD1
  refine W.widen (k := 1) (n := 32) (Nat.le_of_ble_eq_true rfl) (Nat.le_of_ble_eq_true rfl) ?_
  clear hP hD hS
  refine va_putF (D := D) (ci := 0) (v := .ref q1) (ty := (.array .int)) (C := RX0) (T := TX0) (N := 3) hx hb hts iw_X0 tyX0 tyX0_ok nmX0 hown hK hP1 hD1 hS1 0 rfl rfl 1 (by decide) (hts (.fieldLink RX0 11 "VarianceBridge$Bridge" "blends" "[I") (by decide +kernel)) (fun _ h9 => h9) rfl hin rfl (by decide +kernel) rfl rfl (Nat.le_of_ble_eq_true rfl) dX0_init_9 (fun H2 lo2 hP2 hD2 hS2 => ?_)
  replace hP2 : va_P D vwCl [(a0, .inr (0, [.null, .ref q1, .null])), (q1, .inl (cI, 32, .inl (fun _ => 0)))] H2 := hP2
  replace hD2 : va_D A [(a0, .inr (0, [.null, .ref q1, .null])), (q1, .inl (cI, 32, .inl (fun _ => 0)))] := hD2
  clear hP1 hD1 hS1
  refine lv_aload_n hx hb dX0_init_12 rfl (lv_at hl 0 rfl) ?_
  refine lv_bipush (v := (20 : Int32)) hx hb dX0_init_13 (by decide) ?_
  refine va_newaG (atype := .int) (n := (20 : Int32)) (N' := 20) (ty := .int) (f := fun _ => 0) hx hb (hts (.arrayClass .int) (by decide +kernel)) rfl hK hP2 hD2 hS2 hA 0 rfl (fun _ _ => rfl) (fun _ => rfl) (by decide) (by decide) (by decide) (Nat.le_of_ble_eq_true rfl) (Nat.le_of_ble_eq_true rfl) dX0_init_15 (fun q3 H3 hP3 hD3 hS3 => ?_)
  replace hP3 : va_P D vwCl [(a0, .inr (0, [.null, .ref q1, .null])), (q1, .inl (cI, 32, .inl (fun _ => 0))), (q3, .inl (cI, 20, .inl (fun _ => 0)))] H3 := hP3
  replace hD3 : va_D A [(a0, .inr (0, [.null, .ref q1, .null])), (q1, .inl (cI, 32, .inl (fun _ => 0))), (q3, .inl (cI, 20, .inl (fun _ => 0)))] := hD3
  refine W.widen (k := 2) (n := 52) (Nat.le_of_ble_eq_true rfl) (Nat.le_of_ble_eq_true rfl) ?_
  clear hP2 hD2 hS2
  refine va_putF (D := D) (ci := 0) (v := .ref q3) (ty := (.array .int)) (C := RX0) (T := TX0) (N := 3) hx hb hts iw_X0 tyX0 tyX0_ok nmX0 hown hK hP3 hD3 hS3 0 rfl rfl 2 (by decide) (hts (.fieldLink RX0 15 "VarianceBridge$Bridge" "sizes" "[I") (by decide +kernel)) (fun _ h9 => h9) rfl hin rfl (by decide +kernel) rfl rfl (Nat.le_of_ble_eq_true rfl) dX0_init_17 (fun H4 lo4 hP4 hD4 hS4 => ?_)
  replace hP4 : va_P D vwCl [(a0, .inr (0, [.null, .ref q1, .ref q3])), (q1, .inl (cI, 32, .inl (fun _ => 0))), (q3, .inl (cI, 20, .inl (fun _ => 0)))] H4 := hP4
  replace hD4 : va_D A [(a0, .inr (0, [.null, .ref q1, .ref q3])), (q1, .inl (cI, 32, .inl (fun _ => 0))), (q3, .inl (cI, 20, .inl (fun _ => 0)))] := hD4
  clear hP3 hD3 hS3
  refine lv_aload_n hx hb dX0_init_20 rfl (lv_at hl 0 rfl) ?_
  refine lv_aload_n hx hb dX0_init_21 rfl (lv_at hl 1 rfl) ?_
  refine va_putF (D := D) (ci := 0) (v := .ref p1) (ty := (.object "VarianceBridge$Plan")) (C := RX0) (T := TX0) (N := 3) hx hb hts iw_X0 tyX0 tyX0_ok nmX0 hown hK hP4 hD4 hS4 0 rfl rfl 0 (by decide) (hts (.fieldLink RX0 18 "VarianceBridge$Bridge" "plan" "LVarianceBridge$Plan;") (by decide +kernel)) (fun _ h9 => h9) rfl hin rfl (by decide +kernel) rfl rfl (Nat.le_of_ble_eq_true rfl) dX0_init_22 (fun H5 lo5 hP5 hD5 hS5 => ?_)
  replace hP5 : va_P D vwCl [(a0, .inr (0, [.ref p1, .ref q1, .ref q3])), (q1, .inl (cI, 32, .inl (fun _ => 0))), (q3, .inl (cI, 20, .inl (fun _ => 0)))] H5 := hP5
  replace hD5 : va_D A [(a0, .inr (0, [.ref p1, .ref q1, .ref q3])), (q1, .inl (cI, 32, .inl (fun _ => 0))), (q3, .inl (cI, 20, .inl (fun _ => 0)))] := hD5
  clear hP4 hD4 hS4
  exact W.vret hx hb hr (fun t ht hW => ⟨⟨(), rfl, trivial, q1, q3, by rw [ht]; exact hP5, va_K.moved hW.alike hK, hD5⟩, hS5.F ht⟩) hS5.2.2 dX0_init_25
theorem iw_X1_init_X1 : ∀ w ∈ wsX10, w ∈ wsX1_init := by decide +kernel
set_option maxHeartbeats 4000000 in
set_option maxRecDepth 100000 in
theorem c_X1_init (l : Launch) (D : va_G) (cI cB cZ : ClassId) (ta : Nat → Nat) (a0 : Nat) (p1 : Nat) (sz : Nat) : Met l yX1_init wsX1_init ({ frames := 1, cells := 4, slots := 1030, locals := 12 } : Room) (va_Pc [.ref a0, .ref p1] (PW D cI cB cZ ta [(a0, .inr (1, [.null, .null, .null, .null, .null, .int 0, .int 0]))] sz)) (va_Qv (fun (_ : Unit) => True) (fun _ t => ∃ (q1 : Nat) (q3 : Nat) (q5 : Nat) (q7 : Nat), va_P D vwCl [(a0, .inr (1, [.ref p1, .ref q1, .ref q3, .ref q5, .ref q7, .int 0, .int 0])), (q1, .inl (cI, 10, .inl (fun _ => 0))), (q3, .inl (cI, 10, .inl (fun _ => 0))), (q5, .inl (cI, 10, .inl (fun _ => 0))), (q7, .inl (cI, 1000, .inl (fun _ => 0)))] t.heap ∧ va_K D vwCl (tyG cI cB cZ) t ∧ va_D (va_A [(a0, .inr (1, [.null, .null, .null, .null, .null, .int 0, .int 0]))] sz) [(a0, .inr (1, [.ref p1, .ref q1, .ref q3, .ref q5, .ref q7, .int 0, .int 0])), (q1, .inl (cI, 10, .inl (fun _ => 0))), (q3, .inl (cI, 10, .inl (fun _ => 0))), (q5, .inl (cI, 10, .inl (fun _ => 0))), (q7, .inl (cI, 1000, .inl (fun _ => 0)))]) (va_A [(a0, .inr (1, [.null, .null, .null, .null, .null, .int 0, .int 0]))] sz)) 4 1030 (va_A [(a0, .inr (1, [.null, .null, .null, .null, .null, .int 0, .int 0]))] sz) := by
  refine Met.ofW (cc := cX1_init) (maxL := 2) (ret := none) (by decide) rfl ?_
  intro p e s m args below meth c s₁ B hml hv
  obtain ⟨rfl, hsz, hP, hK, hD0, hG⟩ := hv
  have hx := B.exec
  have hb := B.bytes
  have hr := B.returns
  have hts := atoms_spec (ws := wsX1_init) B.pre
  have hown : s.vm.findClass RX1 = some m.cls := findClass_of_methodNamed B.named
  have hlocks := B.notSynchronized
  have hin : meth.name = "<init>" := (name_of_methodNamed B.named B.method).1
  subst hsz
  have hD := hD0.self (sz := s.heap.size)
  clear hD0
  have hA0 : ∀ q : Nat, s.heap.size ≤ q → va_A [(a0, .inr (1, [.null, .null, .null, .null, .null, .int 0, .int 0]))] s.heap.size q := fun q h => Or.inr h
  generalize hAe : va_A [(a0, .inr (1, [.null, .null, .null, .null, .null, .int 0, .int 0]))] s.heap.size = A at hD hG hA0 ⊢
  have hA : ∀ q : Nat, s.heap.size ≤ q → A q := hA0
  clear hA0
  have hS : va_S A s.heap s.heap [] := va_S.rf
  have iw_X1 := iw_X1_init_X1
  have hl := lv_entry ([.ref a0, .ref p1]) (n := 2) (Nat.le_of_ble_eq_true rfl)
  rw [lg_entry_eq]
  generalize (lg_sl ([.ref a0, .ref p1]) ++ List.replicate (2 - (lg_sl ([.ref a0, .ref p1])).length) Slot.unset).toArray = ls at hl ⊢
  have hl : lv_has ls 2 [(0, .ref a0), (1, .ref p1)] := hl
  refine lv_aload_n hx hb dX1_init_0 rfl (lv_at hl 0 rfl) ?_
  refine W.objInit hx hb hown (hts (.methodLink RX1 3 objectInit) (by decide +kernel)) (hts (.instanceMethod objectInit) (by decide +kernel)) (hts (.code objectInit ⟨#[0xb1]⟩ 1 none) (by decide +kernel)) rfl (by rw [hml]; exact hl.1) rfl dX1_init_1 (Nat.le_of_ble_eq_true rfl) (Nat.le_of_ble_eq_true rfl) ?_
  refine W.eq (g2 := F0 m 4 ls []) rfl ?_
  refine lv_aload_n hx hb dX1_init_4 rfl (lv_at hl 0 rfl) ?_
  refine lv_bipush (v := (10 : Int32)) hx hb dX1_init_5 (by decide) ?_
  refine va_newaG (atype := .int) (n := (10 : Int32)) (N' := 10) (ty := .int) (f := fun _ => 0) hx hb (hts (.arrayClass .int) (by decide +kernel)) rfl hK hP hD hS hA 0 rfl (fun _ _ => rfl) (fun _ => rfl) (by decide) (by decide) (by decide) (Nat.le_of_ble_eq_true rfl) (Nat.le_of_ble_eq_true rfl) dX1_init_7 (fun q1 H1 hP1 hD1 hS1 => ?_)
  replace hP1 : va_P D vwCl [(a0, .inr (1, [.null, .null, .null, .null, .null, .int 0, .int 0])), (q1, .inl (cI, 10, .inl (fun _ => 0)))] H1 := hP1
  replace hD1 : va_D A [(a0, .inr (1, [.null, .null, .null, .null, .null, .int 0, .int 0])), (q1, .inl (cI, 10, .inl (fun _ => 0)))] := hD1
  refine W.widen (k := 1) (n := 10) (Nat.le_of_ble_eq_true rfl) (Nat.le_of_ble_eq_true rfl) ?_
  clear hP hD hS
  refine va_putF (D := D) (ci := 1) (v := .ref q1) (ty := (.array .int)) (C := RX1) (T := TX1) (N := 7) hx hb hts iw_X1 tyX1 tyX1_ok nmX1 hown hK hP1 hD1 hS1 0 rfl rfl 1 (by decide) (hts (.fieldLink RX1 9 "VarianceBridge$History" "kinds" "[I") (by decide +kernel)) (fun _ h9 => h9) rfl hin rfl (by decide +kernel) rfl rfl (Nat.le_of_ble_eq_true rfl) dX1_init_9 (fun H2 lo2 hP2 hD2 hS2 => ?_)
  replace hP2 : va_P D vwCl [(a0, .inr (1, [.null, .ref q1, .null, .null, .null, .int 0, .int 0])), (q1, .inl (cI, 10, .inl (fun _ => 0)))] H2 := hP2
  replace hD2 : va_D A [(a0, .inr (1, [.null, .ref q1, .null, .null, .null, .int 0, .int 0])), (q1, .inl (cI, 10, .inl (fun _ => 0)))] := hD2
  clear hP1 hD1 hS1
  refine lv_aload_n hx hb dX1_init_12 rfl (lv_at hl 0 rfl) ?_
  refine lv_bipush (v := (10 : Int32)) hx hb dX1_init_13 (by decide) ?_
  refine va_newaG (atype := .int) (n := (10 : Int32)) (N' := 10) (ty := .int) (f := fun _ => 0) hx hb (hts (.arrayClass .int) (by decide +kernel)) rfl hK hP2 hD2 hS2 hA 0 rfl (fun _ _ => rfl) (fun _ => rfl) (by decide) (by decide) (by decide) (Nat.le_of_ble_eq_true rfl) (Nat.le_of_ble_eq_true rfl) dX1_init_15 (fun q3 H3 hP3 hD3 hS3 => ?_)
  replace hP3 : va_P D vwCl [(a0, .inr (1, [.null, .ref q1, .null, .null, .null, .int 0, .int 0])), (q1, .inl (cI, 10, .inl (fun _ => 0))), (q3, .inl (cI, 10, .inl (fun _ => 0)))] H3 := hP3
  replace hD3 : va_D A [(a0, .inr (1, [.null, .ref q1, .null, .null, .null, .int 0, .int 0])), (q1, .inl (cI, 10, .inl (fun _ => 0))), (q3, .inl (cI, 10, .inl (fun _ => 0)))] := hD3
  refine W.widen (k := 2) (n := 20) (Nat.le_of_ble_eq_true rfl) (Nat.le_of_ble_eq_true rfl) ?_
  clear hP2 hD2 hS2
  refine va_putF (D := D) (ci := 1) (v := .ref q3) (ty := (.array .int)) (C := RX1) (T := TX1) (N := 7) hx hb hts iw_X1 tyX1 tyX1_ok nmX1 hown hK hP3 hD3 hS3 0 rfl rfl 2 (by decide) (hts (.fieldLink RX1 15 "VarianceBridge$History" "places" "[I") (by decide +kernel)) (fun _ h9 => h9) rfl hin rfl (by decide +kernel) rfl rfl (Nat.le_of_ble_eq_true rfl) dX1_init_17 (fun H4 lo4 hP4 hD4 hS4 => ?_)
  replace hP4 : va_P D vwCl [(a0, .inr (1, [.null, .ref q1, .ref q3, .null, .null, .int 0, .int 0])), (q1, .inl (cI, 10, .inl (fun _ => 0))), (q3, .inl (cI, 10, .inl (fun _ => 0)))] H4 := hP4
  replace hD4 : va_D A [(a0, .inr (1, [.null, .ref q1, .ref q3, .null, .null, .int 0, .int 0])), (q1, .inl (cI, 10, .inl (fun _ => 0))), (q3, .inl (cI, 10, .inl (fun _ => 0)))] := hD4
  clear hP3 hD3 hS3
  refine lv_aload_n hx hb dX1_init_20 rfl (lv_at hl 0 rfl) ?_
  refine lv_bipush (v := (10 : Int32)) hx hb dX1_init_21 (by decide) ?_
  refine va_newaG (atype := .int) (n := (10 : Int32)) (N' := 10) (ty := .int) (f := fun _ => 0) hx hb (hts (.arrayClass .int) (by decide +kernel)) rfl hK hP4 hD4 hS4 hA 0 rfl (fun _ _ => rfl) (fun _ => rfl) (by decide) (by decide) (by decide) (Nat.le_of_ble_eq_true rfl) (Nat.le_of_ble_eq_true rfl) dX1_init_23 (fun q5 H5 hP5 hD5 hS5 => ?_)
  replace hP5 : va_P D vwCl [(a0, .inr (1, [.null, .ref q1, .ref q3, .null, .null, .int 0, .int 0])), (q1, .inl (cI, 10, .inl (fun _ => 0))), (q3, .inl (cI, 10, .inl (fun _ => 0))), (q5, .inl (cI, 10, .inl (fun _ => 0)))] H5 := hP5
  replace hD5 : va_D A [(a0, .inr (1, [.null, .ref q1, .ref q3, .null, .null, .int 0, .int 0])), (q1, .inl (cI, 10, .inl (fun _ => 0))), (q3, .inl (cI, 10, .inl (fun _ => 0))), (q5, .inl (cI, 10, .inl (fun _ => 0)))] := hD5
  refine W.widen (k := 3) (n := 30) (Nat.le_of_ble_eq_true rfl) (Nat.le_of_ble_eq_true rfl) ?_
  clear hP4 hD4 hS4
  refine va_putF (D := D) (ci := 1) (v := .ref q5) (ty := (.array .int)) (C := RX1) (T := TX1) (N := 7) hx hb hts iw_X1 tyX1 tyX1_ok nmX1 hown hK hP5 hD5 hS5 0 rfl rfl 3 (by decide) (hts (.fieldLink RX1 18 "VarianceBridge$History" "parentsBefore" "[I") (by decide +kernel)) (fun _ h9 => h9) rfl hin rfl (by decide +kernel) rfl rfl (Nat.le_of_ble_eq_true rfl) dX1_init_25 (fun H6 lo6 hP6 hD6 hS6 => ?_)
  replace hP6 : va_P D vwCl [(a0, .inr (1, [.null, .ref q1, .ref q3, .ref q5, .null, .int 0, .int 0])), (q1, .inl (cI, 10, .inl (fun _ => 0))), (q3, .inl (cI, 10, .inl (fun _ => 0))), (q5, .inl (cI, 10, .inl (fun _ => 0)))] H6 := hP6
  replace hD6 : va_D A [(a0, .inr (1, [.null, .ref q1, .ref q3, .ref q5, .null, .int 0, .int 0])), (q1, .inl (cI, 10, .inl (fun _ => 0))), (q3, .inl (cI, 10, .inl (fun _ => 0))), (q5, .inl (cI, 10, .inl (fun _ => 0)))] := hD6
  clear hP5 hD5 hS5
  refine lv_aload_n hx hb dX1_init_28 rfl (lv_at hl 0 rfl) ?_
  refine lv_sipush (v := (1000 : Int32)) hx hb dX1_init_29 (by decide) ?_
  refine va_newaG (atype := .int) (n := (1000 : Int32)) (N' := 1000) (ty := .int) (f := fun _ => 0) hx hb (hts (.arrayClass .int) (by decide +kernel)) rfl hK hP6 hD6 hS6 hA 0 rfl (fun _ _ => rfl) (fun _ => rfl) (by decide) (by decide) (by decide) (Nat.le_of_ble_eq_true rfl) (Nat.le_of_ble_eq_true rfl) dX1_init_32 (fun q7 H7 hP7 hD7 hS7 => ?_)
  replace hP7 : va_P D vwCl [(a0, .inr (1, [.null, .ref q1, .ref q3, .ref q5, .null, .int 0, .int 0])), (q1, .inl (cI, 10, .inl (fun _ => 0))), (q3, .inl (cI, 10, .inl (fun _ => 0))), (q5, .inl (cI, 10, .inl (fun _ => 0))), (q7, .inl (cI, 1000, .inl (fun _ => 0)))] H7 := hP7
  replace hD7 : va_D A [(a0, .inr (1, [.null, .ref q1, .ref q3, .ref q5, .null, .int 0, .int 0])), (q1, .inl (cI, 10, .inl (fun _ => 0))), (q3, .inl (cI, 10, .inl (fun _ => 0))), (q5, .inl (cI, 10, .inl (fun _ => 0))), (q7, .inl (cI, 1000, .inl (fun _ => 0)))] := hD7
  refine W.widen (k := 4) (n := 1030) (Nat.le_of_ble_eq_true rfl) (Nat.le_of_ble_eq_true rfl) ?_
  clear hP6 hD6 hS6
  refine va_putF (D := D) (ci := 1) (v := .ref q7) (ty := (.array .int)) (C := RX1) (T := TX1) (N := 7) hx hb hts iw_X1 tyX1 tyX1_ok nmX1 hown hK hP7 hD7 hS7 0 rfl rfl 4 (by decide) (hts (.fieldLink RX1 23 "VarianceBridge$History" "rowsBefore" "[I") (by decide +kernel)) (fun _ h9 => h9) rfl hin rfl (by decide +kernel) rfl rfl (Nat.le_of_ble_eq_true rfl) dX1_init_34 (fun H8 lo8 hP8 hD8 hS8 => ?_)
  replace hP8 : va_P D vwCl [(a0, .inr (1, [.null, .ref q1, .ref q3, .ref q5, .ref q7, .int 0, .int 0])), (q1, .inl (cI, 10, .inl (fun _ => 0))), (q3, .inl (cI, 10, .inl (fun _ => 0))), (q5, .inl (cI, 10, .inl (fun _ => 0))), (q7, .inl (cI, 1000, .inl (fun _ => 0)))] H8 := hP8
  replace hD8 : va_D A [(a0, .inr (1, [.null, .ref q1, .ref q3, .ref q5, .ref q7, .int 0, .int 0])), (q1, .inl (cI, 10, .inl (fun _ => 0))), (q3, .inl (cI, 10, .inl (fun _ => 0))), (q5, .inl (cI, 10, .inl (fun _ => 0))), (q7, .inl (cI, 1000, .inl (fun _ => 0)))] := hD8
  clear hP7 hD7 hS7
  refine lv_aload_n hx hb dX1_init_37 rfl (lv_at hl 0 rfl) ?_
  refine lv_iconst (v := (0 : Int32)) hx hb dX1_init_38 (by decide) ?_
  refine va_put (D := D) (ci := 1) (v := .int (0 : Int32)) (ty := .int) (C := RX1) (T := TX1) (N := 7) hx hb hts iw_X1 tyX1 tyX1_ok nmX1 hown hK hP8 hD8 hS8 0 rfl rfl 5 (by decide) (hts (.fieldLink RX1 26 "VarianceBridge$History" "latest" "I") (by decide +kernel)) (fun _ h9 => h9) rfl (by decide +kernel) rfl rfl (Nat.le_of_ble_eq_true rfl) dX1_init_39 (fun H9 lo9 hP9 hD9 hS9 => ?_)
  replace hP9 : va_P D vwCl [(a0, .inr (1, [.null, .ref q1, .ref q3, .ref q5, .ref q7, .int 0, .int 0])), (q1, .inl (cI, 10, .inl (fun _ => 0))), (q3, .inl (cI, 10, .inl (fun _ => 0))), (q5, .inl (cI, 10, .inl (fun _ => 0))), (q7, .inl (cI, 1000, .inl (fun _ => 0)))] H9 := hP9
  replace hD9 : va_D A [(a0, .inr (1, [.null, .ref q1, .ref q3, .ref q5, .ref q7, .int 0, .int 0])), (q1, .inl (cI, 10, .inl (fun _ => 0))), (q3, .inl (cI, 10, .inl (fun _ => 0))), (q5, .inl (cI, 10, .inl (fun _ => 0))), (q7, .inl (cI, 1000, .inl (fun _ => 0)))] := hD9
  clear hP8 hD8 hS8
  refine lv_aload_n hx hb dX1_init_42 rfl (lv_at hl 0 rfl) ?_
  refine lv_iconst (v := (0 : Int32)) hx hb dX1_init_43 (by decide) ?_
  refine va_put (D := D) (ci := 1) (v := .int (0 : Int32)) (ty := .int) (C := RX1) (T := TX1) (N := 7) hx hb hts iw_X1 tyX1 tyX1_ok nmX1 hown hK hP9 hD9 hS9 0 rfl rfl 6 (by decide) (hts (.fieldLink RX1 30 "VarianceBridge$History" "kept" "I") (by decide +kernel)) (fun _ h9 => h9) rfl (by decide +kernel) rfl rfl (Nat.le_of_ble_eq_true rfl) dX1_init_44 (fun H10 lo10 hP10 hD10 hS10 => ?_)
  replace hP10 : va_P D vwCl [(a0, .inr (1, [.null, .ref q1, .ref q3, .ref q5, .ref q7, .int 0, .int 0])), (q1, .inl (cI, 10, .inl (fun _ => 0))), (q3, .inl (cI, 10, .inl (fun _ => 0))), (q5, .inl (cI, 10, .inl (fun _ => 0))), (q7, .inl (cI, 1000, .inl (fun _ => 0)))] H10 := hP10
  replace hD10 : va_D A [(a0, .inr (1, [.null, .ref q1, .ref q3, .ref q5, .ref q7, .int 0, .int 0])), (q1, .inl (cI, 10, .inl (fun _ => 0))), (q3, .inl (cI, 10, .inl (fun _ => 0))), (q5, .inl (cI, 10, .inl (fun _ => 0))), (q7, .inl (cI, 1000, .inl (fun _ => 0)))] := hD10
  clear hP9 hD9 hS9
  refine lv_aload_n hx hb dX1_init_47 rfl (lv_at hl 0 rfl) ?_
  refine lv_aload_n hx hb dX1_init_48 rfl (lv_at hl 1 rfl) ?_
  refine va_putF (D := D) (ci := 1) (v := .ref p1) (ty := (.object "VarianceBridge$Plan")) (C := RX1) (T := TX1) (N := 7) hx hb hts iw_X1 tyX1 tyX1_ok nmX1 hown hK hP10 hD10 hS10 0 rfl rfl 0 (by decide) (hts (.fieldLink RX1 33 "VarianceBridge$History" "plan" "LVarianceBridge$Plan;") (by decide +kernel)) (fun _ h9 => h9) rfl hin rfl (by decide +kernel) rfl rfl (Nat.le_of_ble_eq_true rfl) dX1_init_49 (fun H11 lo11 hP11 hD11 hS11 => ?_)
  replace hP11 : va_P D vwCl [(a0, .inr (1, [.ref p1, .ref q1, .ref q3, .ref q5, .ref q7, .int 0, .int 0])), (q1, .inl (cI, 10, .inl (fun _ => 0))), (q3, .inl (cI, 10, .inl (fun _ => 0))), (q5, .inl (cI, 10, .inl (fun _ => 0))), (q7, .inl (cI, 1000, .inl (fun _ => 0)))] H11 := hP11
  replace hD11 : va_D A [(a0, .inr (1, [.ref p1, .ref q1, .ref q3, .ref q5, .ref q7, .int 0, .int 0])), (q1, .inl (cI, 10, .inl (fun _ => 0))), (q3, .inl (cI, 10, .inl (fun _ => 0))), (q5, .inl (cI, 10, .inl (fun _ => 0))), (q7, .inl (cI, 1000, .inl (fun _ => 0)))] := hD11
  clear hP10 hD10 hS10
  exact W.vret hx hb hr (fun t ht hW => ⟨⟨(), rfl, trivial, q1, q3, q5, q7, by rw [ht]; exact hP11, va_K.moved hW.alike hK, hD11⟩, hS11.F ht⟩) hS11.2.2 dX1_init_52
theorem iw_X6_init_X6 : ∀ w ∈ wsX60, w ∈ wsX6_init := by decide +kernel
theorem iw_X6_init_X4 : ∀ w ∈ wsX40, w ∈ wsX6_init := by decide +kernel
theorem iw_X6_init_X2 : ∀ w ∈ wsX20, w ∈ wsX6_init := by decide +kernel
theorem iw_X6_init_X3 : ∀ w ∈ wsX30, w ∈ wsX6_init := by decide +kernel
theorem iw_X6_init_X0 : ∀ w ∈ wsX00, w ∈ wsX6_init := by decide +kernel
theorem iw_X6_init_X1 : ∀ w ∈ wsX10, w ∈ wsX6_init := by decide +kernel
set_option maxHeartbeats 4000000 in
set_option maxRecDepth 100000 in
theorem c_X6_init (l : Launch) (D : va_G) (cI cB cZ : ClassId) (ta : Nat → Nat) (a0 : Nat) (sz : Nat) : Met l yX6_init wsX6_init ({ frames := 3, cells := 19, slots := 2615, locals := 55 } : Room) (va_Pc [.ref a0] (PW D cI cB cZ ta [(a0, .inr (6, [.null, .null, .null, .null, .null, .null]))] sz)) (va_Qv (fun (_ : Unit) => True) (fun _ t => ∃ (q1 : Nat) (q1_2 : Nat) (q4 : Nat) (q1_5 : Nat) (q3_5 : Nat) (q7 : Nat) (q1_8 : Nat) (q3_8 : Nat) (q10 : Nat) (q1_11 : Nat) (q6_11 : Nat) (q13 : Nat) (q1_14 : Nat) (q3_14 : Nat) (q16 : Nat) (q1_17 : Nat) (q3_17 : Nat) (q5_17 : Nat) (q7_17 : Nat), va_P D vwCl [(a0, .inr (6, [.ref q1, .ref q4, .ref q7, .ref q10, .ref q13, .ref q16])), (q1, .inr (4, [.ref q1_2, .int 0])), (q1_2, .inl (cB, 640, .inl (fun _ => 0))), (q4, .inr (2, [.ref q1_5, .ref q3_5, .int (1 : Int32), .int (1 : Int32), .int (1 : Int32)])), (q1_5, .inl (cI, 20, .inl (upd (fun _ => 0) (0 : Int32).toNatClampNeg (-1 : Int32)))), (q3_5, .inl (cI, 400, .inl (fun _ => 0))), (q7, .inr (2, [.ref q1_8, .ref q3_8, .int (1 : Int32), .int (1 : Int32), .int (1 : Int32)])), (q1_8, .inl (cI, 20, .inl (upd (fun _ => 0) (0 : Int32).toNatClampNeg (-1 : Int32)))), (q3_8, .inl (cI, 400, .inl (fun _ => 0))), (q10, .inr (3, [.ref q6_11, .ref q7, .ref q1_11, .int 0, .int 0, .int 0])), (q1_11, .inl (cI, 20, .inl (fun _ => 0))), (q6_11, .inr (5, [.ref q1, .int 0, .int 0, .int 0, .int 0])), (q13, .inr (0, [.ref q4, .ref q1_14, .ref q3_14])), (q1_14, .inl (cI, 32, .inl (fun _ => 0))), (q3_14, .inl (cI, 20, .inl (fun _ => 0))), (q16, .inr (1, [.ref q4, .ref q1_17, .ref q3_17, .ref q5_17, .ref q7_17, .int 0, .int 0])), (q1_17, .inl (cI, 10, .inl (fun _ => 0))), (q3_17, .inl (cI, 10, .inl (fun _ => 0))), (q5_17, .inl (cI, 10, .inl (fun _ => 0))), (q7_17, .inl (cI, 1000, .inl (fun _ => 0)))] t.heap ∧ va_K D vwCl (tyG cI cB cZ) t ∧ va_D (va_A [(a0, .inr (6, [.null, .null, .null, .null, .null, .null]))] sz) [(a0, .inr (6, [.ref q1, .ref q4, .ref q7, .ref q10, .ref q13, .ref q16])), (q1, .inr (4, [.ref q1_2, .int 0])), (q1_2, .inl (cB, 640, .inl (fun _ => 0))), (q4, .inr (2, [.ref q1_5, .ref q3_5, .int (1 : Int32), .int (1 : Int32), .int (1 : Int32)])), (q1_5, .inl (cI, 20, .inl (upd (fun _ => 0) (0 : Int32).toNatClampNeg (-1 : Int32)))), (q3_5, .inl (cI, 400, .inl (fun _ => 0))), (q7, .inr (2, [.ref q1_8, .ref q3_8, .int (1 : Int32), .int (1 : Int32), .int (1 : Int32)])), (q1_8, .inl (cI, 20, .inl (upd (fun _ => 0) (0 : Int32).toNatClampNeg (-1 : Int32)))), (q3_8, .inl (cI, 400, .inl (fun _ => 0))), (q10, .inr (3, [.ref q6_11, .ref q7, .ref q1_11, .int 0, .int 0, .int 0])), (q1_11, .inl (cI, 20, .inl (fun _ => 0))), (q6_11, .inr (5, [.ref q1, .int 0, .int 0, .int 0, .int 0])), (q13, .inr (0, [.ref q4, .ref q1_14, .ref q3_14])), (q1_14, .inl (cI, 32, .inl (fun _ => 0))), (q3_14, .inl (cI, 20, .inl (fun _ => 0))), (q16, .inr (1, [.ref q4, .ref q1_17, .ref q3_17, .ref q5_17, .ref q7_17, .int 0, .int 0])), (q1_17, .inl (cI, 10, .inl (fun _ => 0))), (q3_17, .inl (cI, 10, .inl (fun _ => 0))), (q5_17, .inl (cI, 10, .inl (fun _ => 0))), (q7_17, .inl (cI, 1000, .inl (fun _ => 0)))]) (va_A [(a0, .inr (6, [.null, .null, .null, .null, .null, .null]))] sz)) 19 2615 (va_A [(a0, .inr (6, [.null, .null, .null, .null, .null, .null]))] sz) := by
  refine Met.ofW (cc := cX6_init) (maxL := 1) (ret := none) (by decide) rfl ?_
  intro p e s m args below meth c s₁ B hml hv
  obtain ⟨rfl, hsz, hP, hK, hD0, hG⟩ := hv
  have hx := B.exec
  have hb := B.bytes
  have hr := B.returns
  have hts := atoms_spec (ws := wsX6_init) B.pre
  have hown : s.vm.findClass RX6 = some m.cls := findClass_of_methodNamed B.named
  have hlocks := B.notSynchronized
  have hin : meth.name = "<init>" := (name_of_methodNamed B.named B.method).1
  subst hsz
  have hD := hD0.self (sz := s.heap.size)
  clear hD0
  have hA0 : ∀ q : Nat, s.heap.size ≤ q → va_A [(a0, .inr (6, [.null, .null, .null, .null, .null, .null]))] s.heap.size q := fun q h => Or.inr h
  generalize hAe : va_A [(a0, .inr (6, [.null, .null, .null, .null, .null, .null]))] s.heap.size = A at hD hG hA0 ⊢
  have hA : ∀ q : Nat, s.heap.size ≤ q → A q := hA0
  clear hA0
  have hS : va_S A s.heap s.heap [] := va_S.rf
  have iw_X6 := iw_X6_init_X6
  have iw_X4 := iw_X6_init_X4
  have iw_X2 := iw_X6_init_X2
  have iw_X3 := iw_X6_init_X3
  have iw_X0 := iw_X6_init_X0
  have iw_X1 := iw_X6_init_X1
  have hl := lv_entry ([.ref a0]) (n := 1) (Nat.le_of_ble_eq_true rfl)
  rw [lg_entry_eq]
  generalize (lg_sl ([.ref a0]) ++ List.replicate (1 - (lg_sl ([.ref a0])).length) Slot.unset).toArray = ls at hl ⊢
  have hl : lv_has ls 1 [(0, .ref a0)] := hl
  refine lv_aload_n hx hb dX6_init_0 rfl (lv_at hl 0 rfl) ?_
  refine W.objInit hx hb hown (hts (.methodLink RX6 3 objectInit) (by decide +kernel)) (hts (.instanceMethod objectInit) (by decide +kernel)) (hts (.code objectInit ⟨#[0xb1]⟩ 1 none) (by decide +kernel)) rfl (by rw [hml]; exact hl.1) rfl dX6_init_1 (Nat.le_of_ble_eq_true rfl) (Nat.le_of_ble_eq_true rfl) ?_
  refine W.eq (g2 := F0 m 4 ls []) rfl ?_
  refine lv_aload_n hx hb dX6_init_4 rfl (lv_at hl 0 rfl) ?_
  refine va_new (ci := 4) (fs := [.null, .int 0]) (C := RX4) (T := TX4) (N := 2) hx hb hts iw_X4 tyX4 tyX4_ok hown (hts (.classLink RX6 9 RX4) (by decide +kernel)) (hts (.instantiable RX4 2) (by decide +kernel)) (hts (.initialized RX4) (by decide +kernel)) hK hP hD hS hA rfl (fun j hj => by rcases (show j = 0 ∨ j = 1 by omega) with rfl | rfl <;> rfl) (Nat.le_of_ble_eq_true rfl) (Nat.le_of_ble_eq_true rfl) dX6_init_5 (fun q1 H1 hP1 hD1 hS1 => ?_)
  replace hP1 : va_P D vwCl [(a0, .inr (6, [.null, .null, .null, .null, .null, .null])), (q1, .inr (4, [.null, .int 0]))] H1 := hP1
  replace hD1 : va_D A [(a0, .inr (6, [.null, .null, .null, .null, .null, .null])), (q1, .inr (4, [.null, .int 0]))] := hD1
  refine W.widen (k := 1) (n := 2) (Nat.le_of_ble_eq_true rfl) (Nat.le_of_ble_eq_true rfl) ?_
  clear hP hD hS
  refine lv_dup hx hb dX6_init_8 rfl ?_
  have hFc := va_free (wc := [(q1, .inr (4, [.null, .int 0]))]) hD1 hS1 hA [1] rfl
  refine va_callv (va_runIN (As := []) (rest := [.ref q1, .ref a0]) ⟨hx, hb, hml, hown, hts⟩ (c_X4_init l D cI cB cZ ta q1 H1.size) ⟨va_cnB 0 hts gX6_init_X4_init_n11 rfl rfl rfl (hG.1 (.methodLinkNest RX6 11 yX4_init RX6) (by decide +kernel)) (hts (.initialized RX4) (by decide +kernel)) (by decide +kernel) ⟨(Nat.le_of_ble_eq_true rfl), (Nat.le_of_ble_eq_true rfl)⟩, rfl, hts (.instanceMethod yX4_init) (by decide +kernel)⟩ ⟨PW_blind, PW_at hP1 hD1 hK hS1 hA hG [1] rfl (by decide)⟩ rfl rfl hl.1 rfl (lv_room (Nat.le_of_ble_eq_true rfl)) dX6_init_9 ⟨(Nat.le_of_ble_eq_true rfl), (Nat.le_of_ble_eq_true rfl)⟩) hS1 (fun q _ h => hFc q h) hFc (fun u t H2 lo2 ht hvm hw hB hz1 hk1 hS2 => ?_)
  obtain ⟨q1_2, hP9, hK9, hD9⟩ := hB
  rw [ht] at hP9
  obtain ⟨hP2, hD2⟩ := va_join (wr := [(a0, .inr (6, [.null, .null, .null, .null, .null, .null]))]) (w1 := [(q1, .inr (4, [.ref q1_2, .int 0])), (q1_2, .inl (cB, 640, .inl (fun _ => 0)))]) hP1 hD1 [1] [0] rfl rfl (by decide) (by decide) hk1 hFc hP9 hD9
  replace hP2 : va_P D vwCl [(a0, .inr (6, [.null, .null, .null, .null, .null, .null])), (q1, .inr (4, [.ref q1_2, .int 0])), (q1_2, .inl (cB, 640, .inl (fun _ => 0)))] H2 := hP2
  replace hD2 : va_D A [(a0, .inr (6, [.null, .null, .null, .null, .null, .null])), (q1, .inr (4, [.ref q1_2, .int 0])), (q1_2, .inl (cB, 640, .inl (fun _ => 0)))] := hD2
  refine W.widen (k := 2) (n := 642) (Nat.le_of_ble_eq_true rfl) (Nat.le_of_ble_eq_true rfl) ?_
  clear hP9 hK9 hD9 hk1 hFc hw hz1 ht hvm hP1 hD1 hS1
  refine va_putF (D := D) (ci := 6) (v := .ref q1) (ty := (.object "VarianceBridge$Tape")) (C := RX6) (T := TX6) (N := 6) hx hb hts iw_X6 tyX6 tyX6_ok nmX6 hown hK hP2 hD2 hS2 0 rfl rfl 0 (by decide) (hts (.fieldLink RX6 12 "VarianceBridge" "tape" "LVarianceBridge$Tape;") (by decide +kernel)) (fun _ h9 => h9) rfl hin rfl (by decide +kernel) rfl rfl (Nat.le_of_ble_eq_true rfl) dX6_init_12 (fun H3 lo3 hP3 hD3 hS3 => ?_)
  replace hP3 : va_P D vwCl [(a0, .inr (6, [.ref q1, .null, .null, .null, .null, .null])), (q1, .inr (4, [.ref q1_2, .int 0])), (q1_2, .inl (cB, 640, .inl (fun _ => 0)))] H3 := hP3
  replace hD3 : va_D A [(a0, .inr (6, [.ref q1, .null, .null, .null, .null, .null])), (q1, .inr (4, [.ref q1_2, .int 0])), (q1_2, .inl (cB, 640, .inl (fun _ => 0)))] := hD3
  clear hP2 hD2 hS2
  refine lv_aload_n hx hb dX6_init_15 rfl (lv_at hl 0 rfl) ?_
  refine va_new (ci := 2) (fs := [.null, .null, .int 0, .int 0, .int 0]) (C := RX2) (T := TX2) (N := 5) hx hb hts iw_X2 tyX2 tyX2_ok hown (hts (.classLink RX6 16 RX2) (by decide +kernel)) (hts (.instantiable RX2 5) (by decide +kernel)) (hts (.initialized RX2) (by decide +kernel)) hK hP3 hD3 hS3 hA rfl (fun j hj => by rcases (show j = 0 ∨ j = 1 ∨ j = 2 ∨ j = 3 ∨ j = 4 by omega) with rfl | rfl | rfl | rfl | rfl <;> rfl) (Nat.le_of_ble_eq_true rfl) (Nat.le_of_ble_eq_true rfl) dX6_init_16 (fun q4 H4 hP4 hD4 hS4 => ?_)
  replace hP4 : va_P D vwCl [(a0, .inr (6, [.ref q1, .null, .null, .null, .null, .null])), (q1, .inr (4, [.ref q1_2, .int 0])), (q1_2, .inl (cB, 640, .inl (fun _ => 0))), (q4, .inr (2, [.null, .null, .int 0, .int 0, .int 0]))] H4 := hP4
  replace hD4 : va_D A [(a0, .inr (6, [.ref q1, .null, .null, .null, .null, .null])), (q1, .inr (4, [.ref q1_2, .int 0])), (q1_2, .inl (cB, 640, .inl (fun _ => 0))), (q4, .inr (2, [.null, .null, .int 0, .int 0, .int 0]))] := hD4
  refine W.widen (k := 3) (n := 647) (Nat.le_of_ble_eq_true rfl) (Nat.le_of_ble_eq_true rfl) ?_
  clear hP3 hD3 hS3
  refine lv_dup hx hb dX6_init_19 rfl ?_
  have hFc := va_free (wc := [(q4, .inr (2, [.null, .null, .int 0, .int 0, .int 0]))]) hD4 hS4 hA [3] rfl
  refine va_callv (va_runIN (As := []) (rest := [.ref q4, .ref a0]) ⟨hx, hb, hml, hown, hts⟩ (c_X2_init l D cI cB cZ ta q4 H4.size) ⟨va_cnB 0 hts gX6_init_X2_init_n18 rfl rfl rfl (hG.1 (.methodLinkNest RX6 18 yX2_init RX6) (by decide +kernel)) (hts (.initialized RX2) (by decide +kernel)) (by decide +kernel) ⟨(Nat.le_of_ble_eq_true rfl), (Nat.le_of_ble_eq_true rfl)⟩, rfl, hts (.instanceMethod yX2_init) (by decide +kernel)⟩ ⟨PW_blind, PW_at hP4 hD4 hK hS4 hA hG [3] rfl (by decide)⟩ rfl rfl hl.1 rfl (lv_room (Nat.le_of_ble_eq_true rfl)) dX6_init_20 ⟨(Nat.le_of_ble_eq_true rfl), (Nat.le_of_ble_eq_true rfl)⟩) hS4 (fun q _ h => hFc q h) hFc (fun u t H5 lo5 ht hvm hw hB hz1 hk1 hS5 => ?_)
  obtain ⟨q1_5, q3_5, hP9, hK9, hD9⟩ := hB
  rw [ht] at hP9
  obtain ⟨hP5, hD5⟩ := va_join (wr := [(a0, .inr (6, [.ref q1, .null, .null, .null, .null, .null])), (q1, .inr (4, [.ref q1_2, .int 0])), (q1_2, .inl (cB, 640, .inl (fun _ => 0)))]) (w1 := [(q4, .inr (2, [.ref q1_5, .ref q3_5, .int (1 : Int32), .int (1 : Int32), .int (1 : Int32)])), (q1_5, .inl (cI, 20, .inl (upd (fun _ => 0) (0 : Int32).toNatClampNeg (-1 : Int32)))), (q3_5, .inl (cI, 400, .inl (fun _ => 0)))]) hP4 hD4 [3] [0, 1, 2] rfl rfl (by decide) (by decide) hk1 hFc hP9 hD9
  replace hP5 : va_P D vwCl [(a0, .inr (6, [.ref q1, .null, .null, .null, .null, .null])), (q1, .inr (4, [.ref q1_2, .int 0])), (q1_2, .inl (cB, 640, .inl (fun _ => 0))), (q4, .inr (2, [.ref q1_5, .ref q3_5, .int (1 : Int32), .int (1 : Int32), .int (1 : Int32)])), (q1_5, .inl (cI, 20, .inl (upd (fun _ => 0) (0 : Int32).toNatClampNeg (-1 : Int32)))), (q3_5, .inl (cI, 400, .inl (fun _ => 0)))] H5 := hP5
  replace hD5 : va_D A [(a0, .inr (6, [.ref q1, .null, .null, .null, .null, .null])), (q1, .inr (4, [.ref q1_2, .int 0])), (q1_2, .inl (cB, 640, .inl (fun _ => 0))), (q4, .inr (2, [.ref q1_5, .ref q3_5, .int (1 : Int32), .int (1 : Int32), .int (1 : Int32)])), (q1_5, .inl (cI, 20, .inl (upd (fun _ => 0) (0 : Int32).toNatClampNeg (-1 : Int32)))), (q3_5, .inl (cI, 400, .inl (fun _ => 0)))] := hD5
  refine W.widen (k := 5) (n := 1067) (Nat.le_of_ble_eq_true rfl) (Nat.le_of_ble_eq_true rfl) ?_
  clear hP9 hK9 hD9 hk1 hFc hw hz1 ht hvm hP4 hD4 hS4
  refine va_putF (D := D) (ci := 6) (v := .ref q4) (ty := (.object "VarianceBridge$Plan")) (C := RX6) (T := TX6) (N := 6) hx hb hts iw_X6 tyX6 tyX6_ok nmX6 hown hK hP5 hD5 hS5 0 rfl rfl 1 (by decide) (hts (.fieldLink RX6 19 "VarianceBridge" "plan" "LVarianceBridge$Plan;") (by decide +kernel)) (fun _ h9 => h9) rfl hin rfl (by decide +kernel) rfl rfl (Nat.le_of_ble_eq_true rfl) dX6_init_23 (fun H6 lo6 hP6 hD6 hS6 => ?_)
  replace hP6 : va_P D vwCl [(a0, .inr (6, [.ref q1, .ref q4, .null, .null, .null, .null])), (q1, .inr (4, [.ref q1_2, .int 0])), (q1_2, .inl (cB, 640, .inl (fun _ => 0))), (q4, .inr (2, [.ref q1_5, .ref q3_5, .int (1 : Int32), .int (1 : Int32), .int (1 : Int32)])), (q1_5, .inl (cI, 20, .inl (upd (fun _ => 0) (0 : Int32).toNatClampNeg (-1 : Int32)))), (q3_5, .inl (cI, 400, .inl (fun _ => 0)))] H6 := hP6
  replace hD6 : va_D A [(a0, .inr (6, [.ref q1, .ref q4, .null, .null, .null, .null])), (q1, .inr (4, [.ref q1_2, .int 0])), (q1_2, .inl (cB, 640, .inl (fun _ => 0))), (q4, .inr (2, [.ref q1_5, .ref q3_5, .int (1 : Int32), .int (1 : Int32), .int (1 : Int32)])), (q1_5, .inl (cI, 20, .inl (upd (fun _ => 0) (0 : Int32).toNatClampNeg (-1 : Int32)))), (q3_5, .inl (cI, 400, .inl (fun _ => 0)))] := hD6
  clear hP5 hD5 hS5
  refine lv_aload_n hx hb dX6_init_26 rfl (lv_at hl 0 rfl) ?_
  refine va_new (ci := 2) (fs := [.null, .null, .int 0, .int 0, .int 0]) (C := RX2) (T := TX2) (N := 5) hx hb hts iw_X2 tyX2 tyX2_ok hown (hts (.classLink RX6 16 RX2) (by decide +kernel)) (hts (.instantiable RX2 5) (by decide +kernel)) (hts (.initialized RX2) (by decide +kernel)) hK hP6 hD6 hS6 hA rfl (fun j hj => by rcases (show j = 0 ∨ j = 1 ∨ j = 2 ∨ j = 3 ∨ j = 4 by omega) with rfl | rfl | rfl | rfl | rfl <;> rfl) (Nat.le_of_ble_eq_true rfl) (Nat.le_of_ble_eq_true rfl) dX6_init_27 (fun q7 H7 hP7 hD7 hS7 => ?_)
  replace hP7 : va_P D vwCl [(a0, .inr (6, [.ref q1, .ref q4, .null, .null, .null, .null])), (q1, .inr (4, [.ref q1_2, .int 0])), (q1_2, .inl (cB, 640, .inl (fun _ => 0))), (q4, .inr (2, [.ref q1_5, .ref q3_5, .int (1 : Int32), .int (1 : Int32), .int (1 : Int32)])), (q1_5, .inl (cI, 20, .inl (upd (fun _ => 0) (0 : Int32).toNatClampNeg (-1 : Int32)))), (q3_5, .inl (cI, 400, .inl (fun _ => 0))), (q7, .inr (2, [.null, .null, .int 0, .int 0, .int 0]))] H7 := hP7
  replace hD7 : va_D A [(a0, .inr (6, [.ref q1, .ref q4, .null, .null, .null, .null])), (q1, .inr (4, [.ref q1_2, .int 0])), (q1_2, .inl (cB, 640, .inl (fun _ => 0))), (q4, .inr (2, [.ref q1_5, .ref q3_5, .int (1 : Int32), .int (1 : Int32), .int (1 : Int32)])), (q1_5, .inl (cI, 20, .inl (upd (fun _ => 0) (0 : Int32).toNatClampNeg (-1 : Int32)))), (q3_5, .inl (cI, 400, .inl (fun _ => 0))), (q7, .inr (2, [.null, .null, .int 0, .int 0, .int 0]))] := hD7
  refine W.widen (k := 6) (n := 1072) (Nat.le_of_ble_eq_true rfl) (Nat.le_of_ble_eq_true rfl) ?_
  clear hP6 hD6 hS6
  refine lv_dup hx hb dX6_init_30 rfl ?_
  have hFc := va_free (wc := [(q7, .inr (2, [.null, .null, .int 0, .int 0, .int 0]))]) hD7 hS7 hA [6] rfl
  refine va_callv (va_runIN (As := []) (rest := [.ref q7, .ref a0]) ⟨hx, hb, hml, hown, hts⟩ (c_X2_init l D cI cB cZ ta q7 H7.size) ⟨va_cnB 0 hts gX6_init_X2_init_n18 rfl rfl rfl (hG.1 (.methodLinkNest RX6 18 yX2_init RX6) (by decide +kernel)) (hts (.initialized RX2) (by decide +kernel)) (by decide +kernel) ⟨(Nat.le_of_ble_eq_true rfl), (Nat.le_of_ble_eq_true rfl)⟩, rfl, hts (.instanceMethod yX2_init) (by decide +kernel)⟩ ⟨PW_blind, PW_at hP7 hD7 hK hS7 hA hG [6] rfl (by decide)⟩ rfl rfl hl.1 rfl (lv_room (Nat.le_of_ble_eq_true rfl)) dX6_init_31 ⟨(Nat.le_of_ble_eq_true rfl), (Nat.le_of_ble_eq_true rfl)⟩) hS7 (fun q _ h => hFc q h) hFc (fun u t H8 lo8 ht hvm hw hB hz1 hk1 hS8 => ?_)
  obtain ⟨q1_8, q3_8, hP9, hK9, hD9⟩ := hB
  rw [ht] at hP9
  obtain ⟨hP8, hD8⟩ := va_join (wr := [(a0, .inr (6, [.ref q1, .ref q4, .null, .null, .null, .null])), (q1, .inr (4, [.ref q1_2, .int 0])), (q1_2, .inl (cB, 640, .inl (fun _ => 0))), (q4, .inr (2, [.ref q1_5, .ref q3_5, .int (1 : Int32), .int (1 : Int32), .int (1 : Int32)])), (q1_5, .inl (cI, 20, .inl (upd (fun _ => 0) (0 : Int32).toNatClampNeg (-1 : Int32)))), (q3_5, .inl (cI, 400, .inl (fun _ => 0)))]) (w1 := [(q7, .inr (2, [.ref q1_8, .ref q3_8, .int (1 : Int32), .int (1 : Int32), .int (1 : Int32)])), (q1_8, .inl (cI, 20, .inl (upd (fun _ => 0) (0 : Int32).toNatClampNeg (-1 : Int32)))), (q3_8, .inl (cI, 400, .inl (fun _ => 0)))]) hP7 hD7 [6] [0, 1, 2, 3, 4, 5] rfl rfl (by decide) (by decide) hk1 hFc hP9 hD9
  replace hP8 : va_P D vwCl [(a0, .inr (6, [.ref q1, .ref q4, .null, .null, .null, .null])), (q1, .inr (4, [.ref q1_2, .int 0])), (q1_2, .inl (cB, 640, .inl (fun _ => 0))), (q4, .inr (2, [.ref q1_5, .ref q3_5, .int (1 : Int32), .int (1 : Int32), .int (1 : Int32)])), (q1_5, .inl (cI, 20, .inl (upd (fun _ => 0) (0 : Int32).toNatClampNeg (-1 : Int32)))), (q3_5, .inl (cI, 400, .inl (fun _ => 0))), (q7, .inr (2, [.ref q1_8, .ref q3_8, .int (1 : Int32), .int (1 : Int32), .int (1 : Int32)])), (q1_8, .inl (cI, 20, .inl (upd (fun _ => 0) (0 : Int32).toNatClampNeg (-1 : Int32)))), (q3_8, .inl (cI, 400, .inl (fun _ => 0)))] H8 := hP8
  replace hD8 : va_D A [(a0, .inr (6, [.ref q1, .ref q4, .null, .null, .null, .null])), (q1, .inr (4, [.ref q1_2, .int 0])), (q1_2, .inl (cB, 640, .inl (fun _ => 0))), (q4, .inr (2, [.ref q1_5, .ref q3_5, .int (1 : Int32), .int (1 : Int32), .int (1 : Int32)])), (q1_5, .inl (cI, 20, .inl (upd (fun _ => 0) (0 : Int32).toNatClampNeg (-1 : Int32)))), (q3_5, .inl (cI, 400, .inl (fun _ => 0))), (q7, .inr (2, [.ref q1_8, .ref q3_8, .int (1 : Int32), .int (1 : Int32), .int (1 : Int32)])), (q1_8, .inl (cI, 20, .inl (upd (fun _ => 0) (0 : Int32).toNatClampNeg (-1 : Int32)))), (q3_8, .inl (cI, 400, .inl (fun _ => 0)))] := hD8
  refine W.widen (k := 8) (n := 1492) (Nat.le_of_ble_eq_true rfl) (Nat.le_of_ble_eq_true rfl) ?_
  clear hP9 hK9 hD9 hk1 hFc hw hz1 ht hvm hP7 hD7 hS7
  refine va_putF (D := D) (ci := 6) (v := .ref q7) (ty := (.object "VarianceBridge$Plan")) (C := RX6) (T := TX6) (N := 6) hx hb hts iw_X6 tyX6 tyX6_ok nmX6 hown hK hP8 hD8 hS8 0 rfl rfl 2 (by decide) (hts (.fieldLink RX6 23 "VarianceBridge" "draft" "LVarianceBridge$Plan;") (by decide +kernel)) (fun _ h9 => h9) rfl hin rfl (by decide +kernel) rfl rfl (Nat.le_of_ble_eq_true rfl) dX6_init_34 (fun H9 lo9 hP9 hD9 hS9 => ?_)
  replace hP9 : va_P D vwCl [(a0, .inr (6, [.ref q1, .ref q4, .ref q7, .null, .null, .null])), (q1, .inr (4, [.ref q1_2, .int 0])), (q1_2, .inl (cB, 640, .inl (fun _ => 0))), (q4, .inr (2, [.ref q1_5, .ref q3_5, .int (1 : Int32), .int (1 : Int32), .int (1 : Int32)])), (q1_5, .inl (cI, 20, .inl (upd (fun _ => 0) (0 : Int32).toNatClampNeg (-1 : Int32)))), (q3_5, .inl (cI, 400, .inl (fun _ => 0))), (q7, .inr (2, [.ref q1_8, .ref q3_8, .int (1 : Int32), .int (1 : Int32), .int (1 : Int32)])), (q1_8, .inl (cI, 20, .inl (upd (fun _ => 0) (0 : Int32).toNatClampNeg (-1 : Int32)))), (q3_8, .inl (cI, 400, .inl (fun _ => 0)))] H9 := hP9
  replace hD9 : va_D A [(a0, .inr (6, [.ref q1, .ref q4, .ref q7, .null, .null, .null])), (q1, .inr (4, [.ref q1_2, .int 0])), (q1_2, .inl (cB, 640, .inl (fun _ => 0))), (q4, .inr (2, [.ref q1_5, .ref q3_5, .int (1 : Int32), .int (1 : Int32), .int (1 : Int32)])), (q1_5, .inl (cI, 20, .inl (upd (fun _ => 0) (0 : Int32).toNatClampNeg (-1 : Int32)))), (q3_5, .inl (cI, 400, .inl (fun _ => 0))), (q7, .inr (2, [.ref q1_8, .ref q3_8, .int (1 : Int32), .int (1 : Int32), .int (1 : Int32)])), (q1_8, .inl (cI, 20, .inl (upd (fun _ => 0) (0 : Int32).toNatClampNeg (-1 : Int32)))), (q3_8, .inl (cI, 400, .inl (fun _ => 0)))] := hD9
  clear hP8 hD8 hS8
  refine lv_aload_n hx hb dX6_init_37 rfl (lv_at hl 0 rfl) ?_
  refine va_new (ci := 3) (fs := [.null, .null, .null, .int 0, .int 0, .int 0]) (C := RX3) (T := TX3) (N := 6) hx hb hts iw_X3 tyX3 tyX3_ok hown (hts (.classLink RX6 26 RX3) (by decide +kernel)) (hts (.instantiable RX3 6) (by decide +kernel)) (hts (.initialized RX3) (by decide +kernel)) hK hP9 hD9 hS9 hA rfl (fun j hj => by rcases (show j = 0 ∨ j = 1 ∨ j = 2 ∨ j = 3 ∨ j = 4 ∨ j = 5 by omega) with rfl | rfl | rfl | rfl | rfl | rfl <;> rfl) (Nat.le_of_ble_eq_true rfl) (Nat.le_of_ble_eq_true rfl) dX6_init_38 (fun q10 H10 hP10 hD10 hS10 => ?_)
  replace hP10 : va_P D vwCl [(a0, .inr (6, [.ref q1, .ref q4, .ref q7, .null, .null, .null])), (q1, .inr (4, [.ref q1_2, .int 0])), (q1_2, .inl (cB, 640, .inl (fun _ => 0))), (q4, .inr (2, [.ref q1_5, .ref q3_5, .int (1 : Int32), .int (1 : Int32), .int (1 : Int32)])), (q1_5, .inl (cI, 20, .inl (upd (fun _ => 0) (0 : Int32).toNatClampNeg (-1 : Int32)))), (q3_5, .inl (cI, 400, .inl (fun _ => 0))), (q7, .inr (2, [.ref q1_8, .ref q3_8, .int (1 : Int32), .int (1 : Int32), .int (1 : Int32)])), (q1_8, .inl (cI, 20, .inl (upd (fun _ => 0) (0 : Int32).toNatClampNeg (-1 : Int32)))), (q3_8, .inl (cI, 400, .inl (fun _ => 0))), (q10, .inr (3, [.null, .null, .null, .int 0, .int 0, .int 0]))] H10 := hP10
  replace hD10 : va_D A [(a0, .inr (6, [.ref q1, .ref q4, .ref q7, .null, .null, .null])), (q1, .inr (4, [.ref q1_2, .int 0])), (q1_2, .inl (cB, 640, .inl (fun _ => 0))), (q4, .inr (2, [.ref q1_5, .ref q3_5, .int (1 : Int32), .int (1 : Int32), .int (1 : Int32)])), (q1_5, .inl (cI, 20, .inl (upd (fun _ => 0) (0 : Int32).toNatClampNeg (-1 : Int32)))), (q3_5, .inl (cI, 400, .inl (fun _ => 0))), (q7, .inr (2, [.ref q1_8, .ref q3_8, .int (1 : Int32), .int (1 : Int32), .int (1 : Int32)])), (q1_8, .inl (cI, 20, .inl (upd (fun _ => 0) (0 : Int32).toNatClampNeg (-1 : Int32)))), (q3_8, .inl (cI, 400, .inl (fun _ => 0))), (q10, .inr (3, [.null, .null, .null, .int 0, .int 0, .int 0]))] := hD10
  refine W.widen (k := 9) (n := 1498) (Nat.le_of_ble_eq_true rfl) (Nat.le_of_ble_eq_true rfl) ?_
  clear hP9 hD9 hS9
  refine lv_dup hx hb dX6_init_41 rfl ?_
  refine lv_aload_n hx hb dX6_init_42 rfl (lv_at hl 0 rfl) ?_
  refine va_get (D := D) (ci := 6) (v := .ref q1) (C := RX6) (T := TX6) (N := 6) hx hb hts iw_X6 hown hK hP10 0 rfl rfl 0 (by decide) (hts (.fieldLink RX6 12 "VarianceBridge" "tape" "LVarianceBridge$Tape;") (by decide +kernel)) (fun _ h9 => h9) rfl dX6_init_43 ?_
  refine lv_aload_n hx hb dX6_init_46 rfl (lv_at hl 0 rfl) ?_
  refine va_get (D := D) (ci := 6) (v := .ref q7) (C := RX6) (T := TX6) (N := 6) hx hb hts iw_X6 hown hK hP10 0 rfl rfl 2 (by decide) (hts (.fieldLink RX6 23 "VarianceBridge" "draft" "LVarianceBridge$Plan;") (by decide +kernel)) (fun _ h9 => h9) rfl dX6_init_47 ?_
  have hFc := va_free (wc := [(q10, .inr (3, [.null, .null, .null, .int 0, .int 0, .int 0]))]) hD10 hS10 hA [9] rfl
  refine va_callv (va_runIN (As := [.ref q1, .ref q7]) (rest := [.ref q10, .ref a0]) ⟨hx, hb, hml, hown, hts⟩ (c_X3_init l D cI cB cZ ta q10 q1 q7 H10.size) ⟨va_cnB 2 hts gX6_init_X3_init_n28 rfl rfl rfl (hG.1 (.methodLinkNest RX6 28 yX3_init RX6) (by decide +kernel)) (hts (.initialized RX3) (by decide +kernel)) (by decide +kernel) ⟨(Nat.le_of_ble_eq_true rfl), (Nat.le_of_ble_eq_true rfl)⟩, rfl, hts (.instanceMethod yX3_init) (by decide +kernel)⟩ ⟨PW_blind, PW_at hP10 hD10 hK hS10 hA hG [9] rfl (by decide)⟩ rfl rfl hl.1 rfl (lv_room (Nat.le_of_ble_eq_true rfl)) dX6_init_50 ⟨(Nat.le_of_ble_eq_true rfl), (Nat.le_of_ble_eq_true rfl)⟩) hS10 (fun q _ h => hFc q h) hFc (fun u t H11 lo11 ht hvm hw hB hz1 hk1 hS11 => ?_)
  obtain ⟨q1_11, q6_11, hP9, hK9, hD9⟩ := hB
  rw [ht] at hP9
  obtain ⟨hP11, hD11⟩ := va_join (wr := [(a0, .inr (6, [.ref q1, .ref q4, .ref q7, .null, .null, .null])), (q1, .inr (4, [.ref q1_2, .int 0])), (q1_2, .inl (cB, 640, .inl (fun _ => 0))), (q4, .inr (2, [.ref q1_5, .ref q3_5, .int (1 : Int32), .int (1 : Int32), .int (1 : Int32)])), (q1_5, .inl (cI, 20, .inl (upd (fun _ => 0) (0 : Int32).toNatClampNeg (-1 : Int32)))), (q3_5, .inl (cI, 400, .inl (fun _ => 0))), (q7, .inr (2, [.ref q1_8, .ref q3_8, .int (1 : Int32), .int (1 : Int32), .int (1 : Int32)])), (q1_8, .inl (cI, 20, .inl (upd (fun _ => 0) (0 : Int32).toNatClampNeg (-1 : Int32)))), (q3_8, .inl (cI, 400, .inl (fun _ => 0)))]) (w1 := [(q10, .inr (3, [.ref q6_11, .ref q7, .ref q1_11, .int 0, .int 0, .int 0])), (q1_11, .inl (cI, 20, .inl (fun _ => 0))), (q6_11, .inr (5, [.ref q1, .int 0, .int 0, .int 0, .int 0]))]) hP10 hD10 [9] [0, 1, 2, 3, 4, 5, 6, 7, 8] rfl rfl (by decide) (by decide) hk1 hFc hP9 hD9
  replace hP11 : va_P D vwCl [(a0, .inr (6, [.ref q1, .ref q4, .ref q7, .null, .null, .null])), (q1, .inr (4, [.ref q1_2, .int 0])), (q1_2, .inl (cB, 640, .inl (fun _ => 0))), (q4, .inr (2, [.ref q1_5, .ref q3_5, .int (1 : Int32), .int (1 : Int32), .int (1 : Int32)])), (q1_5, .inl (cI, 20, .inl (upd (fun _ => 0) (0 : Int32).toNatClampNeg (-1 : Int32)))), (q3_5, .inl (cI, 400, .inl (fun _ => 0))), (q7, .inr (2, [.ref q1_8, .ref q3_8, .int (1 : Int32), .int (1 : Int32), .int (1 : Int32)])), (q1_8, .inl (cI, 20, .inl (upd (fun _ => 0) (0 : Int32).toNatClampNeg (-1 : Int32)))), (q3_8, .inl (cI, 400, .inl (fun _ => 0))), (q10, .inr (3, [.ref q6_11, .ref q7, .ref q1_11, .int 0, .int 0, .int 0])), (q1_11, .inl (cI, 20, .inl (fun _ => 0))), (q6_11, .inr (5, [.ref q1, .int 0, .int 0, .int 0, .int 0]))] H11 := hP11
  replace hD11 : va_D A [(a0, .inr (6, [.ref q1, .ref q4, .ref q7, .null, .null, .null])), (q1, .inr (4, [.ref q1_2, .int 0])), (q1_2, .inl (cB, 640, .inl (fun _ => 0))), (q4, .inr (2, [.ref q1_5, .ref q3_5, .int (1 : Int32), .int (1 : Int32), .int (1 : Int32)])), (q1_5, .inl (cI, 20, .inl (upd (fun _ => 0) (0 : Int32).toNatClampNeg (-1 : Int32)))), (q3_5, .inl (cI, 400, .inl (fun _ => 0))), (q7, .inr (2, [.ref q1_8, .ref q3_8, .int (1 : Int32), .int (1 : Int32), .int (1 : Int32)])), (q1_8, .inl (cI, 20, .inl (upd (fun _ => 0) (0 : Int32).toNatClampNeg (-1 : Int32)))), (q3_8, .inl (cI, 400, .inl (fun _ => 0))), (q10, .inr (3, [.ref q6_11, .ref q7, .ref q1_11, .int 0, .int 0, .int 0])), (q1_11, .inl (cI, 20, .inl (fun _ => 0))), (q6_11, .inr (5, [.ref q1, .int 0, .int 0, .int 0, .int 0]))] := hD11
  refine W.widen (k := 11) (n := 1523) (Nat.le_of_ble_eq_true rfl) (Nat.le_of_ble_eq_true rfl) ?_
  clear hP9 hK9 hD9 hk1 hFc hw hz1 ht hvm hP10 hD10 hS10
  refine va_putF (D := D) (ci := 6) (v := .ref q10) (ty := (.object "VarianceBridge$Reader")) (C := RX6) (T := TX6) (N := 6) hx hb hts iw_X6 tyX6 tyX6_ok nmX6 hown hK hP11 hD11 hS11 0 rfl rfl 3 (by decide) (hts (.fieldLink RX6 31 "VarianceBridge" "reader" "LVarianceBridge$Reader;") (by decide +kernel)) (fun _ h9 => h9) rfl hin rfl (by decide +kernel) rfl rfl (Nat.le_of_ble_eq_true rfl) dX6_init_53 (fun H12 lo12 hP12 hD12 hS12 => ?_)
  replace hP12 : va_P D vwCl [(a0, .inr (6, [.ref q1, .ref q4, .ref q7, .ref q10, .null, .null])), (q1, .inr (4, [.ref q1_2, .int 0])), (q1_2, .inl (cB, 640, .inl (fun _ => 0))), (q4, .inr (2, [.ref q1_5, .ref q3_5, .int (1 : Int32), .int (1 : Int32), .int (1 : Int32)])), (q1_5, .inl (cI, 20, .inl (upd (fun _ => 0) (0 : Int32).toNatClampNeg (-1 : Int32)))), (q3_5, .inl (cI, 400, .inl (fun _ => 0))), (q7, .inr (2, [.ref q1_8, .ref q3_8, .int (1 : Int32), .int (1 : Int32), .int (1 : Int32)])), (q1_8, .inl (cI, 20, .inl (upd (fun _ => 0) (0 : Int32).toNatClampNeg (-1 : Int32)))), (q3_8, .inl (cI, 400, .inl (fun _ => 0))), (q10, .inr (3, [.ref q6_11, .ref q7, .ref q1_11, .int 0, .int 0, .int 0])), (q1_11, .inl (cI, 20, .inl (fun _ => 0))), (q6_11, .inr (5, [.ref q1, .int 0, .int 0, .int 0, .int 0]))] H12 := hP12
  replace hD12 : va_D A [(a0, .inr (6, [.ref q1, .ref q4, .ref q7, .ref q10, .null, .null])), (q1, .inr (4, [.ref q1_2, .int 0])), (q1_2, .inl (cB, 640, .inl (fun _ => 0))), (q4, .inr (2, [.ref q1_5, .ref q3_5, .int (1 : Int32), .int (1 : Int32), .int (1 : Int32)])), (q1_5, .inl (cI, 20, .inl (upd (fun _ => 0) (0 : Int32).toNatClampNeg (-1 : Int32)))), (q3_5, .inl (cI, 400, .inl (fun _ => 0))), (q7, .inr (2, [.ref q1_8, .ref q3_8, .int (1 : Int32), .int (1 : Int32), .int (1 : Int32)])), (q1_8, .inl (cI, 20, .inl (upd (fun _ => 0) (0 : Int32).toNatClampNeg (-1 : Int32)))), (q3_8, .inl (cI, 400, .inl (fun _ => 0))), (q10, .inr (3, [.ref q6_11, .ref q7, .ref q1_11, .int 0, .int 0, .int 0])), (q1_11, .inl (cI, 20, .inl (fun _ => 0))), (q6_11, .inr (5, [.ref q1, .int 0, .int 0, .int 0, .int 0]))] := hD12
  clear hP11 hD11 hS11
  refine lv_aload_n hx hb dX6_init_56 rfl (lv_at hl 0 rfl) ?_
  refine va_new (ci := 0) (fs := [.null, .null, .null]) (C := RX0) (T := TX0) (N := 3) hx hb hts iw_X0 tyX0 tyX0_ok hown (hts (.classLink RX6 35 RX0) (by decide +kernel)) (hts (.instantiable RX0 3) (by decide +kernel)) (hts (.initialized RX0) (by decide +kernel)) hK hP12 hD12 hS12 hA rfl (fun j hj => by rcases (show j = 0 ∨ j = 1 ∨ j = 2 by omega) with rfl | rfl | rfl <;> rfl) (Nat.le_of_ble_eq_true rfl) (Nat.le_of_ble_eq_true rfl) dX6_init_57 (fun q13 H13 hP13 hD13 hS13 => ?_)
  replace hP13 : va_P D vwCl [(a0, .inr (6, [.ref q1, .ref q4, .ref q7, .ref q10, .null, .null])), (q1, .inr (4, [.ref q1_2, .int 0])), (q1_2, .inl (cB, 640, .inl (fun _ => 0))), (q4, .inr (2, [.ref q1_5, .ref q3_5, .int (1 : Int32), .int (1 : Int32), .int (1 : Int32)])), (q1_5, .inl (cI, 20, .inl (upd (fun _ => 0) (0 : Int32).toNatClampNeg (-1 : Int32)))), (q3_5, .inl (cI, 400, .inl (fun _ => 0))), (q7, .inr (2, [.ref q1_8, .ref q3_8, .int (1 : Int32), .int (1 : Int32), .int (1 : Int32)])), (q1_8, .inl (cI, 20, .inl (upd (fun _ => 0) (0 : Int32).toNatClampNeg (-1 : Int32)))), (q3_8, .inl (cI, 400, .inl (fun _ => 0))), (q10, .inr (3, [.ref q6_11, .ref q7, .ref q1_11, .int 0, .int 0, .int 0])), (q1_11, .inl (cI, 20, .inl (fun _ => 0))), (q6_11, .inr (5, [.ref q1, .int 0, .int 0, .int 0, .int 0])), (q13, .inr (0, [.null, .null, .null]))] H13 := hP13
  replace hD13 : va_D A [(a0, .inr (6, [.ref q1, .ref q4, .ref q7, .ref q10, .null, .null])), (q1, .inr (4, [.ref q1_2, .int 0])), (q1_2, .inl (cB, 640, .inl (fun _ => 0))), (q4, .inr (2, [.ref q1_5, .ref q3_5, .int (1 : Int32), .int (1 : Int32), .int (1 : Int32)])), (q1_5, .inl (cI, 20, .inl (upd (fun _ => 0) (0 : Int32).toNatClampNeg (-1 : Int32)))), (q3_5, .inl (cI, 400, .inl (fun _ => 0))), (q7, .inr (2, [.ref q1_8, .ref q3_8, .int (1 : Int32), .int (1 : Int32), .int (1 : Int32)])), (q1_8, .inl (cI, 20, .inl (upd (fun _ => 0) (0 : Int32).toNatClampNeg (-1 : Int32)))), (q3_8, .inl (cI, 400, .inl (fun _ => 0))), (q10, .inr (3, [.ref q6_11, .ref q7, .ref q1_11, .int 0, .int 0, .int 0])), (q1_11, .inl (cI, 20, .inl (fun _ => 0))), (q6_11, .inr (5, [.ref q1, .int 0, .int 0, .int 0, .int 0])), (q13, .inr (0, [.null, .null, .null]))] := hD13
  refine W.widen (k := 12) (n := 1526) (Nat.le_of_ble_eq_true rfl) (Nat.le_of_ble_eq_true rfl) ?_
  clear hP12 hD12 hS12
  refine lv_dup hx hb dX6_init_60 rfl ?_
  refine lv_aload_n hx hb dX6_init_61 rfl (lv_at hl 0 rfl) ?_
  refine va_get (D := D) (ci := 6) (v := .ref q4) (C := RX6) (T := TX6) (N := 6) hx hb hts iw_X6 hown hK hP13 0 rfl rfl 1 (by decide) (hts (.fieldLink RX6 19 "VarianceBridge" "plan" "LVarianceBridge$Plan;") (by decide +kernel)) (fun _ h9 => h9) rfl dX6_init_62 ?_
  have hFc := va_free (wc := [(q13, .inr (0, [.null, .null, .null]))]) hD13 hS13 hA [12] rfl
  refine va_callv (va_runIN (As := [.ref q4]) (rest := [.ref q13, .ref a0]) ⟨hx, hb, hml, hown, hts⟩ (c_X0_init l D cI cB cZ ta q13 q4 H13.size) ⟨va_cnB 1 hts gX6_init_X0_init_n37 rfl rfl rfl (hG.1 (.methodLinkNest RX6 37 yX0_init RX6) (by decide +kernel)) (hts (.initialized RX0) (by decide +kernel)) (by decide +kernel) ⟨(Nat.le_of_ble_eq_true rfl), (Nat.le_of_ble_eq_true rfl)⟩, rfl, hts (.instanceMethod yX0_init) (by decide +kernel)⟩ ⟨PW_blind, PW_at hP13 hD13 hK hS13 hA hG [12] rfl (by decide)⟩ rfl rfl hl.1 rfl (lv_room (Nat.le_of_ble_eq_true rfl)) dX6_init_65 ⟨(Nat.le_of_ble_eq_true rfl), (Nat.le_of_ble_eq_true rfl)⟩) hS13 (fun q _ h => hFc q h) hFc (fun u t H14 lo14 ht hvm hw hB hz1 hk1 hS14 => ?_)
  obtain ⟨q1_14, q3_14, hP9, hK9, hD9⟩ := hB
  rw [ht] at hP9
  obtain ⟨hP14, hD14⟩ := va_join (wr := [(a0, .inr (6, [.ref q1, .ref q4, .ref q7, .ref q10, .null, .null])), (q1, .inr (4, [.ref q1_2, .int 0])), (q1_2, .inl (cB, 640, .inl (fun _ => 0))), (q4, .inr (2, [.ref q1_5, .ref q3_5, .int (1 : Int32), .int (1 : Int32), .int (1 : Int32)])), (q1_5, .inl (cI, 20, .inl (upd (fun _ => 0) (0 : Int32).toNatClampNeg (-1 : Int32)))), (q3_5, .inl (cI, 400, .inl (fun _ => 0))), (q7, .inr (2, [.ref q1_8, .ref q3_8, .int (1 : Int32), .int (1 : Int32), .int (1 : Int32)])), (q1_8, .inl (cI, 20, .inl (upd (fun _ => 0) (0 : Int32).toNatClampNeg (-1 : Int32)))), (q3_8, .inl (cI, 400, .inl (fun _ => 0))), (q10, .inr (3, [.ref q6_11, .ref q7, .ref q1_11, .int 0, .int 0, .int 0])), (q1_11, .inl (cI, 20, .inl (fun _ => 0))), (q6_11, .inr (5, [.ref q1, .int 0, .int 0, .int 0, .int 0]))]) (w1 := [(q13, .inr (0, [.ref q4, .ref q1_14, .ref q3_14])), (q1_14, .inl (cI, 32, .inl (fun _ => 0))), (q3_14, .inl (cI, 20, .inl (fun _ => 0)))]) hP13 hD13 [12] [0, 1, 2, 3, 4, 5, 6, 7, 8, 9, 10, 11] rfl rfl (by decide) (by decide) hk1 hFc hP9 hD9
  replace hP14 : va_P D vwCl [(a0, .inr (6, [.ref q1, .ref q4, .ref q7, .ref q10, .null, .null])), (q1, .inr (4, [.ref q1_2, .int 0])), (q1_2, .inl (cB, 640, .inl (fun _ => 0))), (q4, .inr (2, [.ref q1_5, .ref q3_5, .int (1 : Int32), .int (1 : Int32), .int (1 : Int32)])), (q1_5, .inl (cI, 20, .inl (upd (fun _ => 0) (0 : Int32).toNatClampNeg (-1 : Int32)))), (q3_5, .inl (cI, 400, .inl (fun _ => 0))), (q7, .inr (2, [.ref q1_8, .ref q3_8, .int (1 : Int32), .int (1 : Int32), .int (1 : Int32)])), (q1_8, .inl (cI, 20, .inl (upd (fun _ => 0) (0 : Int32).toNatClampNeg (-1 : Int32)))), (q3_8, .inl (cI, 400, .inl (fun _ => 0))), (q10, .inr (3, [.ref q6_11, .ref q7, .ref q1_11, .int 0, .int 0, .int 0])), (q1_11, .inl (cI, 20, .inl (fun _ => 0))), (q6_11, .inr (5, [.ref q1, .int 0, .int 0, .int 0, .int 0])), (q13, .inr (0, [.ref q4, .ref q1_14, .ref q3_14])), (q1_14, .inl (cI, 32, .inl (fun _ => 0))), (q3_14, .inl (cI, 20, .inl (fun _ => 0)))] H14 := hP14
  replace hD14 : va_D A [(a0, .inr (6, [.ref q1, .ref q4, .ref q7, .ref q10, .null, .null])), (q1, .inr (4, [.ref q1_2, .int 0])), (q1_2, .inl (cB, 640, .inl (fun _ => 0))), (q4, .inr (2, [.ref q1_5, .ref q3_5, .int (1 : Int32), .int (1 : Int32), .int (1 : Int32)])), (q1_5, .inl (cI, 20, .inl (upd (fun _ => 0) (0 : Int32).toNatClampNeg (-1 : Int32)))), (q3_5, .inl (cI, 400, .inl (fun _ => 0))), (q7, .inr (2, [.ref q1_8, .ref q3_8, .int (1 : Int32), .int (1 : Int32), .int (1 : Int32)])), (q1_8, .inl (cI, 20, .inl (upd (fun _ => 0) (0 : Int32).toNatClampNeg (-1 : Int32)))), (q3_8, .inl (cI, 400, .inl (fun _ => 0))), (q10, .inr (3, [.ref q6_11, .ref q7, .ref q1_11, .int 0, .int 0, .int 0])), (q1_11, .inl (cI, 20, .inl (fun _ => 0))), (q6_11, .inr (5, [.ref q1, .int 0, .int 0, .int 0, .int 0])), (q13, .inr (0, [.ref q4, .ref q1_14, .ref q3_14])), (q1_14, .inl (cI, 32, .inl (fun _ => 0))), (q3_14, .inl (cI, 20, .inl (fun _ => 0)))] := hD14
  refine W.widen (k := 14) (n := 1578) (Nat.le_of_ble_eq_true rfl) (Nat.le_of_ble_eq_true rfl) ?_
  clear hP9 hK9 hD9 hk1 hFc hw hz1 ht hvm hP13 hD13 hS13
  refine va_putF (D := D) (ci := 6) (v := .ref q13) (ty := (.object "VarianceBridge$Bridge")) (C := RX6) (T := TX6) (N := 6) hx hb hts iw_X6 tyX6 tyX6_ok nmX6 hown hK hP14 hD14 hS14 0 rfl rfl 4 (by decide) (hts (.fieldLink RX6 40 "VarianceBridge" "bridge" "LVarianceBridge$Bridge;") (by decide +kernel)) (fun _ h9 => h9) rfl hin rfl (by decide +kernel) rfl rfl (Nat.le_of_ble_eq_true rfl) dX6_init_68 (fun H15 lo15 hP15 hD15 hS15 => ?_)
  replace hP15 : va_P D vwCl [(a0, .inr (6, [.ref q1, .ref q4, .ref q7, .ref q10, .ref q13, .null])), (q1, .inr (4, [.ref q1_2, .int 0])), (q1_2, .inl (cB, 640, .inl (fun _ => 0))), (q4, .inr (2, [.ref q1_5, .ref q3_5, .int (1 : Int32), .int (1 : Int32), .int (1 : Int32)])), (q1_5, .inl (cI, 20, .inl (upd (fun _ => 0) (0 : Int32).toNatClampNeg (-1 : Int32)))), (q3_5, .inl (cI, 400, .inl (fun _ => 0))), (q7, .inr (2, [.ref q1_8, .ref q3_8, .int (1 : Int32), .int (1 : Int32), .int (1 : Int32)])), (q1_8, .inl (cI, 20, .inl (upd (fun _ => 0) (0 : Int32).toNatClampNeg (-1 : Int32)))), (q3_8, .inl (cI, 400, .inl (fun _ => 0))), (q10, .inr (3, [.ref q6_11, .ref q7, .ref q1_11, .int 0, .int 0, .int 0])), (q1_11, .inl (cI, 20, .inl (fun _ => 0))), (q6_11, .inr (5, [.ref q1, .int 0, .int 0, .int 0, .int 0])), (q13, .inr (0, [.ref q4, .ref q1_14, .ref q3_14])), (q1_14, .inl (cI, 32, .inl (fun _ => 0))), (q3_14, .inl (cI, 20, .inl (fun _ => 0)))] H15 := hP15
  replace hD15 : va_D A [(a0, .inr (6, [.ref q1, .ref q4, .ref q7, .ref q10, .ref q13, .null])), (q1, .inr (4, [.ref q1_2, .int 0])), (q1_2, .inl (cB, 640, .inl (fun _ => 0))), (q4, .inr (2, [.ref q1_5, .ref q3_5, .int (1 : Int32), .int (1 : Int32), .int (1 : Int32)])), (q1_5, .inl (cI, 20, .inl (upd (fun _ => 0) (0 : Int32).toNatClampNeg (-1 : Int32)))), (q3_5, .inl (cI, 400, .inl (fun _ => 0))), (q7, .inr (2, [.ref q1_8, .ref q3_8, .int (1 : Int32), .int (1 : Int32), .int (1 : Int32)])), (q1_8, .inl (cI, 20, .inl (upd (fun _ => 0) (0 : Int32).toNatClampNeg (-1 : Int32)))), (q3_8, .inl (cI, 400, .inl (fun _ => 0))), (q10, .inr (3, [.ref q6_11, .ref q7, .ref q1_11, .int 0, .int 0, .int 0])), (q1_11, .inl (cI, 20, .inl (fun _ => 0))), (q6_11, .inr (5, [.ref q1, .int 0, .int 0, .int 0, .int 0])), (q13, .inr (0, [.ref q4, .ref q1_14, .ref q3_14])), (q1_14, .inl (cI, 32, .inl (fun _ => 0))), (q3_14, .inl (cI, 20, .inl (fun _ => 0)))] := hD15
  clear hP14 hD14 hS14
  refine lv_aload_n hx hb dX6_init_71 rfl (lv_at hl 0 rfl) ?_
  refine va_new (ci := 1) (fs := [.null, .null, .null, .null, .null, .int 0, .int 0]) (C := RX1) (T := TX1) (N := 7) hx hb hts iw_X1 tyX1 tyX1_ok hown (hts (.classLink RX6 44 RX1) (by decide +kernel)) (hts (.instantiable RX1 7) (by decide +kernel)) (hts (.initialized RX1) (by decide +kernel)) hK hP15 hD15 hS15 hA rfl (fun j hj => by rcases (show j = 0 ∨ j = 1 ∨ j = 2 ∨ j = 3 ∨ j = 4 ∨ j = 5 ∨ j = 6 by omega) with rfl | rfl | rfl | rfl | rfl | rfl | rfl <;> rfl) (Nat.le_of_ble_eq_true rfl) (Nat.le_of_ble_eq_true rfl) dX6_init_72 (fun q16 H16 hP16 hD16 hS16 => ?_)
  replace hP16 : va_P D vwCl [(a0, .inr (6, [.ref q1, .ref q4, .ref q7, .ref q10, .ref q13, .null])), (q1, .inr (4, [.ref q1_2, .int 0])), (q1_2, .inl (cB, 640, .inl (fun _ => 0))), (q4, .inr (2, [.ref q1_5, .ref q3_5, .int (1 : Int32), .int (1 : Int32), .int (1 : Int32)])), (q1_5, .inl (cI, 20, .inl (upd (fun _ => 0) (0 : Int32).toNatClampNeg (-1 : Int32)))), (q3_5, .inl (cI, 400, .inl (fun _ => 0))), (q7, .inr (2, [.ref q1_8, .ref q3_8, .int (1 : Int32), .int (1 : Int32), .int (1 : Int32)])), (q1_8, .inl (cI, 20, .inl (upd (fun _ => 0) (0 : Int32).toNatClampNeg (-1 : Int32)))), (q3_8, .inl (cI, 400, .inl (fun _ => 0))), (q10, .inr (3, [.ref q6_11, .ref q7, .ref q1_11, .int 0, .int 0, .int 0])), (q1_11, .inl (cI, 20, .inl (fun _ => 0))), (q6_11, .inr (5, [.ref q1, .int 0, .int 0, .int 0, .int 0])), (q13, .inr (0, [.ref q4, .ref q1_14, .ref q3_14])), (q1_14, .inl (cI, 32, .inl (fun _ => 0))), (q3_14, .inl (cI, 20, .inl (fun _ => 0))), (q16, .inr (1, [.null, .null, .null, .null, .null, .int 0, .int 0]))] H16 := hP16
  replace hD16 : va_D A [(a0, .inr (6, [.ref q1, .ref q4, .ref q7, .ref q10, .ref q13, .null])), (q1, .inr (4, [.ref q1_2, .int 0])), (q1_2, .inl (cB, 640, .inl (fun _ => 0))), (q4, .inr (2, [.ref q1_5, .ref q3_5, .int (1 : Int32), .int (1 : Int32), .int (1 : Int32)])), (q1_5, .inl (cI, 20, .inl (upd (fun _ => 0) (0 : Int32).toNatClampNeg (-1 : Int32)))), (q3_5, .inl (cI, 400, .inl (fun _ => 0))), (q7, .inr (2, [.ref q1_8, .ref q3_8, .int (1 : Int32), .int (1 : Int32), .int (1 : Int32)])), (q1_8, .inl (cI, 20, .inl (upd (fun _ => 0) (0 : Int32).toNatClampNeg (-1 : Int32)))), (q3_8, .inl (cI, 400, .inl (fun _ => 0))), (q10, .inr (3, [.ref q6_11, .ref q7, .ref q1_11, .int 0, .int 0, .int 0])), (q1_11, .inl (cI, 20, .inl (fun _ => 0))), (q6_11, .inr (5, [.ref q1, .int 0, .int 0, .int 0, .int 0])), (q13, .inr (0, [.ref q4, .ref q1_14, .ref q3_14])), (q1_14, .inl (cI, 32, .inl (fun _ => 0))), (q3_14, .inl (cI, 20, .inl (fun _ => 0))), (q16, .inr (1, [.null, .null, .null, .null, .null, .int 0, .int 0]))] := hD16
  refine W.widen (k := 15) (n := 1585) (Nat.le_of_ble_eq_true rfl) (Nat.le_of_ble_eq_true rfl) ?_
  clear hP15 hD15 hS15
  refine lv_dup hx hb dX6_init_75 rfl ?_
  refine lv_aload_n hx hb dX6_init_76 rfl (lv_at hl 0 rfl) ?_
  refine va_get (D := D) (ci := 6) (v := .ref q4) (C := RX6) (T := TX6) (N := 6) hx hb hts iw_X6 hown hK hP16 0 rfl rfl 1 (by decide) (hts (.fieldLink RX6 19 "VarianceBridge" "plan" "LVarianceBridge$Plan;") (by decide +kernel)) (fun _ h9 => h9) rfl dX6_init_77 ?_
  have hFc := va_free (wc := [(q16, .inr (1, [.null, .null, .null, .null, .null, .int 0, .int 0]))]) hD16 hS16 hA [15] rfl
  refine va_callv (va_runIN (As := [.ref q4]) (rest := [.ref q16, .ref a0]) ⟨hx, hb, hml, hown, hts⟩ (c_X1_init l D cI cB cZ ta q16 q4 H16.size) ⟨va_cnB 1 hts gX6_init_X1_init_n46 rfl rfl rfl (hG.1 (.methodLinkNest RX6 46 yX1_init RX6) (by decide +kernel)) (hts (.initialized RX1) (by decide +kernel)) (by decide +kernel) ⟨(Nat.le_of_ble_eq_true rfl), (Nat.le_of_ble_eq_true rfl)⟩, rfl, hts (.instanceMethod yX1_init) (by decide +kernel)⟩ ⟨PW_blind, PW_at hP16 hD16 hK hS16 hA hG [15] rfl (by decide)⟩ rfl rfl hl.1 rfl (lv_room (Nat.le_of_ble_eq_true rfl)) dX6_init_80 ⟨(Nat.le_of_ble_eq_true rfl), (Nat.le_of_ble_eq_true rfl)⟩) hS16 (fun q _ h => hFc q h) hFc (fun u t H17 lo17 ht hvm hw hB hz1 hk1 hS17 => ?_)
  obtain ⟨q1_17, q3_17, q5_17, q7_17, hP9, hK9, hD9⟩ := hB
  rw [ht] at hP9
  obtain ⟨hP17, hD17⟩ := va_join (wr := [(a0, .inr (6, [.ref q1, .ref q4, .ref q7, .ref q10, .ref q13, .null])), (q1, .inr (4, [.ref q1_2, .int 0])), (q1_2, .inl (cB, 640, .inl (fun _ => 0))), (q4, .inr (2, [.ref q1_5, .ref q3_5, .int (1 : Int32), .int (1 : Int32), .int (1 : Int32)])), (q1_5, .inl (cI, 20, .inl (upd (fun _ => 0) (0 : Int32).toNatClampNeg (-1 : Int32)))), (q3_5, .inl (cI, 400, .inl (fun _ => 0))), (q7, .inr (2, [.ref q1_8, .ref q3_8, .int (1 : Int32), .int (1 : Int32), .int (1 : Int32)])), (q1_8, .inl (cI, 20, .inl (upd (fun _ => 0) (0 : Int32).toNatClampNeg (-1 : Int32)))), (q3_8, .inl (cI, 400, .inl (fun _ => 0))), (q10, .inr (3, [.ref q6_11, .ref q7, .ref q1_11, .int 0, .int 0, .int 0])), (q1_11, .inl (cI, 20, .inl (fun _ => 0))), (q6_11, .inr (5, [.ref q1, .int 0, .int 0, .int 0, .int 0])), (q13, .inr (0, [.ref q4, .ref q1_14, .ref q3_14])), (q1_14, .inl (cI, 32, .inl (fun _ => 0))), (q3_14, .inl (cI, 20, .inl (fun _ => 0)))]) (w1 := [(q16, .inr (1, [.ref q4, .ref q1_17, .ref q3_17, .ref q5_17, .ref q7_17, .int 0, .int 0])), (q1_17, .inl (cI, 10, .inl (fun _ => 0))), (q3_17, .inl (cI, 10, .inl (fun _ => 0))), (q5_17, .inl (cI, 10, .inl (fun _ => 0))), (q7_17, .inl (cI, 1000, .inl (fun _ => 0)))]) hP16 hD16 [15] [0, 1, 2, 3, 4, 5, 6, 7, 8, 9, 10, 11, 12, 13, 14] rfl rfl (by decide) (by decide) hk1 hFc hP9 hD9
  replace hP17 : va_P D vwCl [(a0, .inr (6, [.ref q1, .ref q4, .ref q7, .ref q10, .ref q13, .null])), (q1, .inr (4, [.ref q1_2, .int 0])), (q1_2, .inl (cB, 640, .inl (fun _ => 0))), (q4, .inr (2, [.ref q1_5, .ref q3_5, .int (1 : Int32), .int (1 : Int32), .int (1 : Int32)])), (q1_5, .inl (cI, 20, .inl (upd (fun _ => 0) (0 : Int32).toNatClampNeg (-1 : Int32)))), (q3_5, .inl (cI, 400, .inl (fun _ => 0))), (q7, .inr (2, [.ref q1_8, .ref q3_8, .int (1 : Int32), .int (1 : Int32), .int (1 : Int32)])), (q1_8, .inl (cI, 20, .inl (upd (fun _ => 0) (0 : Int32).toNatClampNeg (-1 : Int32)))), (q3_8, .inl (cI, 400, .inl (fun _ => 0))), (q10, .inr (3, [.ref q6_11, .ref q7, .ref q1_11, .int 0, .int 0, .int 0])), (q1_11, .inl (cI, 20, .inl (fun _ => 0))), (q6_11, .inr (5, [.ref q1, .int 0, .int 0, .int 0, .int 0])), (q13, .inr (0, [.ref q4, .ref q1_14, .ref q3_14])), (q1_14, .inl (cI, 32, .inl (fun _ => 0))), (q3_14, .inl (cI, 20, .inl (fun _ => 0))), (q16, .inr (1, [.ref q4, .ref q1_17, .ref q3_17, .ref q5_17, .ref q7_17, .int 0, .int 0])), (q1_17, .inl (cI, 10, .inl (fun _ => 0))), (q3_17, .inl (cI, 10, .inl (fun _ => 0))), (q5_17, .inl (cI, 10, .inl (fun _ => 0))), (q7_17, .inl (cI, 1000, .inl (fun _ => 0)))] H17 := hP17
  replace hD17 : va_D A [(a0, .inr (6, [.ref q1, .ref q4, .ref q7, .ref q10, .ref q13, .null])), (q1, .inr (4, [.ref q1_2, .int 0])), (q1_2, .inl (cB, 640, .inl (fun _ => 0))), (q4, .inr (2, [.ref q1_5, .ref q3_5, .int (1 : Int32), .int (1 : Int32), .int (1 : Int32)])), (q1_5, .inl (cI, 20, .inl (upd (fun _ => 0) (0 : Int32).toNatClampNeg (-1 : Int32)))), (q3_5, .inl (cI, 400, .inl (fun _ => 0))), (q7, .inr (2, [.ref q1_8, .ref q3_8, .int (1 : Int32), .int (1 : Int32), .int (1 : Int32)])), (q1_8, .inl (cI, 20, .inl (upd (fun _ => 0) (0 : Int32).toNatClampNeg (-1 : Int32)))), (q3_8, .inl (cI, 400, .inl (fun _ => 0))), (q10, .inr (3, [.ref q6_11, .ref q7, .ref q1_11, .int 0, .int 0, .int 0])), (q1_11, .inl (cI, 20, .inl (fun _ => 0))), (q6_11, .inr (5, [.ref q1, .int 0, .int 0, .int 0, .int 0])), (q13, .inr (0, [.ref q4, .ref q1_14, .ref q3_14])), (q1_14, .inl (cI, 32, .inl (fun _ => 0))), (q3_14, .inl (cI, 20, .inl (fun _ => 0))), (q16, .inr (1, [.ref q4, .ref q1_17, .ref q3_17, .ref q5_17, .ref q7_17, .int 0, .int 0])), (q1_17, .inl (cI, 10, .inl (fun _ => 0))), (q3_17, .inl (cI, 10, .inl (fun _ => 0))), (q5_17, .inl (cI, 10, .inl (fun _ => 0))), (q7_17, .inl (cI, 1000, .inl (fun _ => 0)))] := hD17
  refine W.widen (k := 19) (n := 2615) (Nat.le_of_ble_eq_true rfl) (Nat.le_of_ble_eq_true rfl) ?_
  clear hP9 hK9 hD9 hk1 hFc hw hz1 ht hvm hP16 hD16 hS16
  refine va_putF (D := D) (ci := 6) (v := .ref q16) (ty := (.object "VarianceBridge$History")) (C := RX6) (T := TX6) (N := 6) hx hb hts iw_X6 tyX6 tyX6_ok nmX6 hown hK hP17 hD17 hS17 0 rfl rfl 5 (by decide) (hts (.fieldLink RX6 47 "VarianceBridge" "history" "LVarianceBridge$History;") (by decide +kernel)) (fun _ h9 => h9) rfl hin rfl (by decide +kernel) rfl rfl (Nat.le_of_ble_eq_true rfl) dX6_init_83 (fun H18 lo18 hP18 hD18 hS18 => ?_)
  replace hP18 : va_P D vwCl [(a0, .inr (6, [.ref q1, .ref q4, .ref q7, .ref q10, .ref q13, .ref q16])), (q1, .inr (4, [.ref q1_2, .int 0])), (q1_2, .inl (cB, 640, .inl (fun _ => 0))), (q4, .inr (2, [.ref q1_5, .ref q3_5, .int (1 : Int32), .int (1 : Int32), .int (1 : Int32)])), (q1_5, .inl (cI, 20, .inl (upd (fun _ => 0) (0 : Int32).toNatClampNeg (-1 : Int32)))), (q3_5, .inl (cI, 400, .inl (fun _ => 0))), (q7, .inr (2, [.ref q1_8, .ref q3_8, .int (1 : Int32), .int (1 : Int32), .int (1 : Int32)])), (q1_8, .inl (cI, 20, .inl (upd (fun _ => 0) (0 : Int32).toNatClampNeg (-1 : Int32)))), (q3_8, .inl (cI, 400, .inl (fun _ => 0))), (q10, .inr (3, [.ref q6_11, .ref q7, .ref q1_11, .int 0, .int 0, .int 0])), (q1_11, .inl (cI, 20, .inl (fun _ => 0))), (q6_11, .inr (5, [.ref q1, .int 0, .int 0, .int 0, .int 0])), (q13, .inr (0, [.ref q4, .ref q1_14, .ref q3_14])), (q1_14, .inl (cI, 32, .inl (fun _ => 0))), (q3_14, .inl (cI, 20, .inl (fun _ => 0))), (q16, .inr (1, [.ref q4, .ref q1_17, .ref q3_17, .ref q5_17, .ref q7_17, .int 0, .int 0])), (q1_17, .inl (cI, 10, .inl (fun _ => 0))), (q3_17, .inl (cI, 10, .inl (fun _ => 0))), (q5_17, .inl (cI, 10, .inl (fun _ => 0))), (q7_17, .inl (cI, 1000, .inl (fun _ => 0)))] H18 := hP18
  replace hD18 : va_D A [(a0, .inr (6, [.ref q1, .ref q4, .ref q7, .ref q10, .ref q13, .ref q16])), (q1, .inr (4, [.ref q1_2, .int 0])), (q1_2, .inl (cB, 640, .inl (fun _ => 0))), (q4, .inr (2, [.ref q1_5, .ref q3_5, .int (1 : Int32), .int (1 : Int32), .int (1 : Int32)])), (q1_5, .inl (cI, 20, .inl (upd (fun _ => 0) (0 : Int32).toNatClampNeg (-1 : Int32)))), (q3_5, .inl (cI, 400, .inl (fun _ => 0))), (q7, .inr (2, [.ref q1_8, .ref q3_8, .int (1 : Int32), .int (1 : Int32), .int (1 : Int32)])), (q1_8, .inl (cI, 20, .inl (upd (fun _ => 0) (0 : Int32).toNatClampNeg (-1 : Int32)))), (q3_8, .inl (cI, 400, .inl (fun _ => 0))), (q10, .inr (3, [.ref q6_11, .ref q7, .ref q1_11, .int 0, .int 0, .int 0])), (q1_11, .inl (cI, 20, .inl (fun _ => 0))), (q6_11, .inr (5, [.ref q1, .int 0, .int 0, .int 0, .int 0])), (q13, .inr (0, [.ref q4, .ref q1_14, .ref q3_14])), (q1_14, .inl (cI, 32, .inl (fun _ => 0))), (q3_14, .inl (cI, 20, .inl (fun _ => 0))), (q16, .inr (1, [.ref q4, .ref q1_17, .ref q3_17, .ref q5_17, .ref q7_17, .int 0, .int 0])), (q1_17, .inl (cI, 10, .inl (fun _ => 0))), (q3_17, .inl (cI, 10, .inl (fun _ => 0))), (q5_17, .inl (cI, 10, .inl (fun _ => 0))), (q7_17, .inl (cI, 1000, .inl (fun _ => 0)))] := hD18
  clear hP17 hD17 hS17
  exact W.vret hx hb hr (fun t ht hW => ⟨⟨(), rfl, trivial, q1, q1_2, q4, q1_5, q3_5, q7, q1_8, q3_8, q10, q1_11, q6_11, q13, q1_14, q3_14, q16, q1_17, q3_17, q5_17, q7_17, by rw [ht]; exact hP18, va_K.moved hW.alike hK, hD18⟩, hS18.F ht⟩) hS18.2.2 dX6_init_86
theorem iw_X7_init_X7 : ∀ w ∈ wsX70, w ∈ wsX7_init := by decide +kernel
set_option maxHeartbeats 4000000 in
set_option maxRecDepth 100000 in
theorem c_X7_init (l : Launch) (D : va_G) (cI cB cZ : ClassId) (ta : Nat → Nat) (a0 : Nat) (sz : Nat) : Met l yX7_init wsX7_init ({ frames := 1, cells := 5, slots := 6024, locals := 20 } : Room) (va_Pc [.ref a0] (PW D cI cB cZ ta [(a0, .inr (7, [.int 0, .null, .int 0, .int 0, .int 0, .int 0, .int 0, .int 0, .int 0, .int 0, .long 0, .null, .null, .null, .int 0, .int 0, .null]))] sz)) (va_Qv (fun (_ : Unit) => True) (fun _ t => ∃ (q1 : Nat) (q3 : Nat) (q5 : Nat) (q7 : Nat) (q9 : Nat), va_P D vwCl [(a0, .inr (7, [.int 0, .ref q1, .int 0, .int 0, .int 0, .int 0, .int 0, .int 0, .int 0, .int 0, .long 0, .ref q3, .ref q5, .ref q7, .int 0, .int 0, .ref q9])), (q1, .inl (cI, 640, .inl (fun _ => 0))), (q3, .inl (cI, 442, .inl now0)), (q5, .inl (cI, 442, .inl (fun _ => 0))), (q7, .inl (cI, 4420, .inl (fun _ => 0))), (q9, .inl (cZ, 80, .inl (fun _ => 0)))] t.heap ∧ va_K D vwCl (tyG cI cB cZ) t ∧ va_D (va_A [(a0, .inr (7, [.int 0, .null, .int 0, .int 0, .int 0, .int 0, .int 0, .int 0, .int 0, .int 0, .long 0, .null, .null, .null, .int 0, .int 0, .null]))] sz) [(a0, .inr (7, [.int 0, .ref q1, .int 0, .int 0, .int 0, .int 0, .int 0, .int 0, .int 0, .int 0, .long 0, .ref q3, .ref q5, .ref q7, .int 0, .int 0, .ref q9])), (q1, .inl (cI, 640, .inl (fun _ => 0))), (q3, .inl (cI, 442, .inl now0)), (q5, .inl (cI, 442, .inl (fun _ => 0))), (q7, .inl (cI, 4420, .inl (fun _ => 0))), (q9, .inl (cZ, 80, .inl (fun _ => 0)))]) (va_A [(a0, .inr (7, [.int 0, .null, .int 0, .int 0, .int 0, .int 0, .int 0, .int 0, .int 0, .int 0, .long 0, .null, .null, .null, .int 0, .int 0, .null]))] sz)) 5 6024 (va_A [(a0, .inr (7, [.int 0, .null, .int 0, .int 0, .int 0, .int 0, .int 0, .int 0, .int 0, .int 0, .long 0, .null, .null, .null, .int 0, .int 0, .null]))] sz) := by
  refine Met.ofW (cc := cX7_init) (maxL := 1) (ret := none) (by decide) rfl ?_
  intro p e s m args below meth c s₁ B hml hv
  obtain ⟨rfl, hsz, hP, hK, hD0, hG⟩ := hv
  have hx := B.exec
  have hb := B.bytes
  have hr := B.returns
  have hts := atoms_spec (ws := wsX7_init) B.pre
  have hown : s.vm.findClass RX7 = some m.cls := findClass_of_methodNamed B.named
  have hlocks := B.notSynchronized
  have hin : meth.name = "<init>" := (name_of_methodNamed B.named B.method).1
  subst hsz
  have hD := hD0.self (sz := s.heap.size)
  clear hD0
  have hA0 : ∀ q : Nat, s.heap.size ≤ q → va_A [(a0, .inr (7, [.int 0, .null, .int 0, .int 0, .int 0, .int 0, .int 0, .int 0, .int 0, .int 0, .long 0, .null, .null, .null, .int 0, .int 0, .null]))] s.heap.size q := fun q h => Or.inr h
  generalize hAe : va_A [(a0, .inr (7, [.int 0, .null, .int 0, .int 0, .int 0, .int 0, .int 0, .int 0, .int 0, .int 0, .long 0, .null, .null, .null, .int 0, .int 0, .null]))] s.heap.size = A at hD hG hA0 ⊢
  have hA : ∀ q : Nat, s.heap.size ≤ q → A q := hA0
  clear hA0
  have hS : va_S A s.heap s.heap [] := va_S.rf
  have iw_X7 := iw_X7_init_X7
  have hl := lv_entry ([.ref a0]) (n := 1) (Nat.le_of_ble_eq_true rfl)
  rw [lg_entry_eq]
  generalize (lg_sl ([.ref a0]) ++ List.replicate (1 - (lg_sl ([.ref a0])).length) Slot.unset).toArray = ls at hl ⊢
  have hl : lv_has ls 1 [(0, .ref a0)] := hl
  refine lv_aload_n hx hb dX7_init_0 rfl (lv_at hl 0 rfl) ?_
  refine W.objInit hx hb hown (hts (.methodLink RX7 58 objectInit) (by decide +kernel)) (hts (.instanceMethod objectInit) (by decide +kernel)) (hts (.code objectInit ⟨#[0xb1]⟩ 1 none) (by decide +kernel)) rfl (by rw [hml]; exact hl.1) rfl dX7_init_1 (Nat.le_of_ble_eq_true rfl) (Nat.le_of_ble_eq_true rfl) ?_
  refine W.eq (g2 := F0 m 4 ls []) rfl ?_
  refine lv_aload_n hx hb dX7_init_4 rfl (lv_at hl 0 rfl) ?_
  refine lv_sipush (v := (640 : Int32)) hx hb dX7_init_5 (by decide) ?_
  refine va_newaG (atype := .int) (n := (640 : Int32)) (N' := 640) (ty := .int) (f := fun _ => 0) hx hb (hts (.arrayClass .int) (by decide +kernel)) rfl hK hP hD hS hA 0 rfl (fun _ _ => rfl) (fun _ => rfl) (by decide) (by decide) (by decide) (Nat.le_of_ble_eq_true rfl) (Nat.le_of_ble_eq_true rfl) dX7_init_8 (fun q1 H1 hP1 hD1 hS1 => ?_)
  replace hP1 : va_P D vwCl [(a0, .inr (7, [.int 0, .null, .int 0, .int 0, .int 0, .int 0, .int 0, .int 0, .int 0, .int 0, .long 0, .null, .null, .null, .int 0, .int 0, .null])), (q1, .inl (cI, 640, .inl (fun _ => 0)))] H1 := hP1
  replace hD1 : va_D A [(a0, .inr (7, [.int 0, .null, .int 0, .int 0, .int 0, .int 0, .int 0, .int 0, .int 0, .int 0, .long 0, .null, .null, .null, .int 0, .int 0, .null])), (q1, .inl (cI, 640, .inl (fun _ => 0)))] := hD1
  refine W.widen (k := 1) (n := 640) (Nat.le_of_ble_eq_true rfl) (Nat.le_of_ble_eq_true rfl) ?_
  clear hP hD hS
  refine va_putF (D := D) (ci := 7) (v := .ref q1) (ty := (.array .int)) (C := RX7) (T := TX7) (N := 17) hx hb hts iw_X7 tyX7 tyX7_ok nmX7 hown hK hP1 hD1 hS1 0 rfl rfl 1 (by decide) (hts (.fieldLink RX7 7 "VarianceBridgeModel" "tape" "[I") (by decide +kernel)) (fun _ h9 => h9) rfl hin rfl (by decide +kernel) rfl rfl (Nat.le_of_ble_eq_true rfl) dX7_init_10 (fun H2 lo2 hP2 hD2 hS2 => ?_)
  replace hP2 : va_P D vwCl [(a0, .inr (7, [.int 0, .ref q1, .int 0, .int 0, .int 0, .int 0, .int 0, .int 0, .int 0, .int 0, .long 0, .null, .null, .null, .int 0, .int 0, .null])), (q1, .inl (cI, 640, .inl (fun _ => 0)))] H2 := hP2
  replace hD2 : va_D A [(a0, .inr (7, [.int 0, .ref q1, .int 0, .int 0, .int 0, .int 0, .int 0, .int 0, .int 0, .int 0, .long 0, .null, .null, .null, .int 0, .int 0, .null])), (q1, .inl (cI, 640, .inl (fun _ => 0)))] := hD2
  clear hP1 hD1 hS1
  refine lv_aload_n hx hb dX7_init_13 rfl (lv_at hl 0 rfl) ?_
  refine lv_sipush (v := (442 : Int32)) hx hb dX7_init_14 (by decide) ?_
  refine va_newaG (atype := .int) (n := (442 : Int32)) (N' := 442) (ty := .int) (f := fun _ => 0) hx hb (hts (.arrayClass .int) (by decide +kernel)) rfl hK hP2 hD2 hS2 hA 0 rfl (fun _ _ => rfl) (fun _ => rfl) (by decide) (by decide) (by decide) (Nat.le_of_ble_eq_true rfl) (Nat.le_of_ble_eq_true rfl) dX7_init_17 (fun q3 H3 hP3 hD3 hS3 => ?_)
  replace hP3 : va_P D vwCl [(a0, .inr (7, [.int 0, .ref q1, .int 0, .int 0, .int 0, .int 0, .int 0, .int 0, .int 0, .int 0, .long 0, .null, .null, .null, .int 0, .int 0, .null])), (q1, .inl (cI, 640, .inl (fun _ => 0))), (q3, .inl (cI, 442, .inl (fun _ => 0)))] H3 := hP3
  replace hD3 : va_D A [(a0, .inr (7, [.int 0, .ref q1, .int 0, .int 0, .int 0, .int 0, .int 0, .int 0, .int 0, .int 0, .long 0, .null, .null, .null, .int 0, .int 0, .null])), (q1, .inl (cI, 640, .inl (fun _ => 0))), (q3, .inl (cI, 442, .inl (fun _ => 0)))] := hD3
  refine W.widen (k := 2) (n := 1082) (Nat.le_of_ble_eq_true rfl) (Nat.le_of_ble_eq_true rfl) ?_
  clear hP2 hD2 hS2
  refine va_putF (D := D) (ci := 7) (v := .ref q3) (ty := (.array .int)) (C := RX7) (T := TX7) (N := 17) hx hb hts iw_X7 tyX7 tyX7_ok nmX7 hown hK hP3 hD3 hS3 0 rfl rfl 11 (by decide) (hts (.fieldLink RX7 64 "VarianceBridgeModel" "now" "[I") (by decide +kernel)) (fun _ h9 => h9) rfl hin rfl (by decide +kernel) rfl rfl (Nat.le_of_ble_eq_true rfl) dX7_init_19 (fun H4 lo4 hP4 hD4 hS4 => ?_)
  replace hP4 : va_P D vwCl [(a0, .inr (7, [.int 0, .ref q1, .int 0, .int 0, .int 0, .int 0, .int 0, .int 0, .int 0, .int 0, .long 0, .ref q3, .null, .null, .int 0, .int 0, .null])), (q1, .inl (cI, 640, .inl (fun _ => 0))), (q3, .inl (cI, 442, .inl (fun _ => 0)))] H4 := hP4
  replace hD4 : va_D A [(a0, .inr (7, [.int 0, .ref q1, .int 0, .int 0, .int 0, .int 0, .int 0, .int 0, .int 0, .int 0, .long 0, .ref q3, .null, .null, .int 0, .int 0, .null])), (q1, .inl (cI, 640, .inl (fun _ => 0))), (q3, .inl (cI, 442, .inl (fun _ => 0)))] := hD4
  clear hP3 hD3 hS3
  refine lv_aload_n hx hb dX7_init_22 rfl (lv_at hl 0 rfl) ?_
  refine lv_sipush (v := (442 : Int32)) hx hb dX7_init_23 (by decide) ?_
  refine va_newaG (atype := .int) (n := (442 : Int32)) (N' := 442) (ty := .int) (f := fun _ => 0) hx hb (hts (.arrayClass .int) (by decide +kernel)) rfl hK hP4 hD4 hS4 hA 0 rfl (fun _ _ => rfl) (fun _ => rfl) (by decide) (by decide) (by decide) (Nat.le_of_ble_eq_true rfl) (Nat.le_of_ble_eq_true rfl) dX7_init_26 (fun q5 H5 hP5 hD5 hS5 => ?_)
  replace hP5 : va_P D vwCl [(a0, .inr (7, [.int 0, .ref q1, .int 0, .int 0, .int 0, .int 0, .int 0, .int 0, .int 0, .int 0, .long 0, .ref q3, .null, .null, .int 0, .int 0, .null])), (q1, .inl (cI, 640, .inl (fun _ => 0))), (q3, .inl (cI, 442, .inl (fun _ => 0))), (q5, .inl (cI, 442, .inl (fun _ => 0)))] H5 := hP5
  replace hD5 : va_D A [(a0, .inr (7, [.int 0, .ref q1, .int 0, .int 0, .int 0, .int 0, .int 0, .int 0, .int 0, .int 0, .long 0, .ref q3, .null, .null, .int 0, .int 0, .null])), (q1, .inl (cI, 640, .inl (fun _ => 0))), (q3, .inl (cI, 442, .inl (fun _ => 0))), (q5, .inl (cI, 442, .inl (fun _ => 0)))] := hD5
  refine W.widen (k := 3) (n := 1524) (Nat.le_of_ble_eq_true rfl) (Nat.le_of_ble_eq_true rfl) ?_
  clear hP4 hD4 hS4
  refine va_putF (D := D) (ci := 7) (v := .ref q5) (ty := (.array .int)) (C := RX7) (T := TX7) (N := 17) hx hb hts iw_X7 tyX7 tyX7_ok nmX7 hown hK hP5 hD5 hS5 0 rfl rfl 12 (by decide) (hts (.fieldLink RX7 67 "VarianceBridgeModel" "read" "[I") (by decide +kernel)) (fun _ h9 => h9) rfl hin rfl (by decide +kernel) rfl rfl (Nat.le_of_ble_eq_true rfl) dX7_init_28 (fun H6 lo6 hP6 hD6 hS6 => ?_)
  replace hP6 : va_P D vwCl [(a0, .inr (7, [.int 0, .ref q1, .int 0, .int 0, .int 0, .int 0, .int 0, .int 0, .int 0, .int 0, .long 0, .ref q3, .ref q5, .null, .int 0, .int 0, .null])), (q1, .inl (cI, 640, .inl (fun _ => 0))), (q3, .inl (cI, 442, .inl (fun _ => 0))), (q5, .inl (cI, 442, .inl (fun _ => 0)))] H6 := hP6
  replace hD6 : va_D A [(a0, .inr (7, [.int 0, .ref q1, .int 0, .int 0, .int 0, .int 0, .int 0, .int 0, .int 0, .int 0, .long 0, .ref q3, .ref q5, .null, .int 0, .int 0, .null])), (q1, .inl (cI, 640, .inl (fun _ => 0))), (q3, .inl (cI, 442, .inl (fun _ => 0))), (q5, .inl (cI, 442, .inl (fun _ => 0)))] := hD6
  clear hP5 hD5 hS5
  refine lv_aload_n hx hb dX7_init_31 rfl (lv_at hl 0 rfl) ?_
  refine lv_sipush (v := (4420 : Int32)) hx hb dX7_init_32 (by decide) ?_
  refine va_newaG (atype := .int) (n := (4420 : Int32)) (N' := 4420) (ty := .int) (f := fun _ => 0) hx hb (hts (.arrayClass .int) (by decide +kernel)) rfl hK hP6 hD6 hS6 hA 0 rfl (fun _ _ => rfl) (fun _ => rfl) (by decide) (by decide) (by decide) (Nat.le_of_ble_eq_true rfl) (Nat.le_of_ble_eq_true rfl) dX7_init_35 (fun q7 H7 hP7 hD7 hS7 => ?_)
  replace hP7 : va_P D vwCl [(a0, .inr (7, [.int 0, .ref q1, .int 0, .int 0, .int 0, .int 0, .int 0, .int 0, .int 0, .int 0, .long 0, .ref q3, .ref q5, .null, .int 0, .int 0, .null])), (q1, .inl (cI, 640, .inl (fun _ => 0))), (q3, .inl (cI, 442, .inl (fun _ => 0))), (q5, .inl (cI, 442, .inl (fun _ => 0))), (q7, .inl (cI, 4420, .inl (fun _ => 0)))] H7 := hP7
  replace hD7 : va_D A [(a0, .inr (7, [.int 0, .ref q1, .int 0, .int 0, .int 0, .int 0, .int 0, .int 0, .int 0, .int 0, .long 0, .ref q3, .ref q5, .null, .int 0, .int 0, .null])), (q1, .inl (cI, 640, .inl (fun _ => 0))), (q3, .inl (cI, 442, .inl (fun _ => 0))), (q5, .inl (cI, 442, .inl (fun _ => 0))), (q7, .inl (cI, 4420, .inl (fun _ => 0)))] := hD7
  refine W.widen (k := 4) (n := 5944) (Nat.le_of_ble_eq_true rfl) (Nat.le_of_ble_eq_true rfl) ?_
  clear hP6 hD6 hS6
  refine va_putF (D := D) (ci := 7) (v := .ref q7) (ty := (.array .int)) (C := RX7) (T := TX7) (N := 17) hx hb hts iw_X7 tyX7 tyX7_ok nmX7 hown hK hP7 hD7 hS7 0 rfl rfl 13 (by decide) (hts (.fieldLink RX7 70 "VarianceBridgeModel" "snaps" "[I") (by decide +kernel)) (fun _ h9 => h9) rfl hin rfl (by decide +kernel) rfl rfl (Nat.le_of_ble_eq_true rfl) dX7_init_37 (fun H8 lo8 hP8 hD8 hS8 => ?_)
  replace hP8 : va_P D vwCl [(a0, .inr (7, [.int 0, .ref q1, .int 0, .int 0, .int 0, .int 0, .int 0, .int 0, .int 0, .int 0, .long 0, .ref q3, .ref q5, .ref q7, .int 0, .int 0, .null])), (q1, .inl (cI, 640, .inl (fun _ => 0))), (q3, .inl (cI, 442, .inl (fun _ => 0))), (q5, .inl (cI, 442, .inl (fun _ => 0))), (q7, .inl (cI, 4420, .inl (fun _ => 0)))] H8 := hP8
  replace hD8 : va_D A [(a0, .inr (7, [.int 0, .ref q1, .int 0, .int 0, .int 0, .int 0, .int 0, .int 0, .int 0, .int 0, .long 0, .ref q3, .ref q5, .ref q7, .int 0, .int 0, .null])), (q1, .inl (cI, 640, .inl (fun _ => 0))), (q3, .inl (cI, 442, .inl (fun _ => 0))), (q5, .inl (cI, 442, .inl (fun _ => 0))), (q7, .inl (cI, 4420, .inl (fun _ => 0)))] := hD8
  clear hP7 hD7 hS7
  refine lv_aload_n hx hb dX7_init_40 rfl (lv_at hl 0 rfl) ?_
  refine lv_bipush (v := (80 : Int32)) hx hb dX7_init_41 (by decide) ?_
  refine va_newaG (atype := .boolean) (n := (80 : Int32)) (N' := 80) (ty := .boolean) (f := fun _ => 0) hx hb (hts (.arrayClass .boolean) (by decide +kernel)) rfl hK hP8 hD8 hS8 hA 2 rfl (fun _ _ => rfl) (fun _ => rfl) (by decide) (by decide) (by decide) (Nat.le_of_ble_eq_true rfl) (Nat.le_of_ble_eq_true rfl) dX7_init_43 (fun q9 H9 hP9 hD9 hS9 => ?_)
  replace hP9 : va_P D vwCl [(a0, .inr (7, [.int 0, .ref q1, .int 0, .int 0, .int 0, .int 0, .int 0, .int 0, .int 0, .int 0, .long 0, .ref q3, .ref q5, .ref q7, .int 0, .int 0, .null])), (q1, .inl (cI, 640, .inl (fun _ => 0))), (q3, .inl (cI, 442, .inl (fun _ => 0))), (q5, .inl (cI, 442, .inl (fun _ => 0))), (q7, .inl (cI, 4420, .inl (fun _ => 0))), (q9, .inl (cZ, 80, .inl (fun _ => 0)))] H9 := hP9
  replace hD9 : va_D A [(a0, .inr (7, [.int 0, .ref q1, .int 0, .int 0, .int 0, .int 0, .int 0, .int 0, .int 0, .int 0, .long 0, .ref q3, .ref q5, .ref q7, .int 0, .int 0, .null])), (q1, .inl (cI, 640, .inl (fun _ => 0))), (q3, .inl (cI, 442, .inl (fun _ => 0))), (q5, .inl (cI, 442, .inl (fun _ => 0))), (q7, .inl (cI, 4420, .inl (fun _ => 0))), (q9, .inl (cZ, 80, .inl (fun _ => 0)))] := hD9
  refine W.widen (k := 5) (n := 6024) (Nat.le_of_ble_eq_true rfl) (Nat.le_of_ble_eq_true rfl) ?_
  clear hP8 hD8 hS8
  refine va_putF (D := D) (ci := 7) (v := .ref q9) (ty := (.array .boolean)) (C := RX7) (T := TX7) (N := 17) hx hb hts iw_X7 tyX7 tyX7_ok nmX7 hown hK hP9 hD9 hS9 0 rfl rfl 16 (by decide) (hts (.fieldLink RX7 73 "VarianceBridgeModel" "isSet" "[Z") (by decide +kernel)) (fun _ h9 => h9) rfl hin rfl (by decide +kernel) rfl rfl (Nat.le_of_ble_eq_true rfl) dX7_init_45 (fun H10 lo10 hP10 hD10 hS10 => ?_)
  replace hP10 : va_P D vwCl [(a0, .inr (7, [.int 0, .ref q1, .int 0, .int 0, .int 0, .int 0, .int 0, .int 0, .int 0, .int 0, .long 0, .ref q3, .ref q5, .ref q7, .int 0, .int 0, .ref q9])), (q1, .inl (cI, 640, .inl (fun _ => 0))), (q3, .inl (cI, 442, .inl (fun _ => 0))), (q5, .inl (cI, 442, .inl (fun _ => 0))), (q7, .inl (cI, 4420, .inl (fun _ => 0))), (q9, .inl (cZ, 80, .inl (fun _ => 0)))] H10 := hP10
  replace hD10 : va_D A [(a0, .inr (7, [.int 0, .ref q1, .int 0, .int 0, .int 0, .int 0, .int 0, .int 0, .int 0, .int 0, .long 0, .ref q3, .ref q5, .ref q7, .int 0, .int 0, .ref q9])), (q1, .inl (cI, 640, .inl (fun _ => 0))), (q3, .inl (cI, 442, .inl (fun _ => 0))), (q5, .inl (cI, 442, .inl (fun _ => 0))), (q7, .inl (cI, 4420, .inl (fun _ => 0))), (q9, .inl (cZ, 80, .inl (fun _ => 0)))] := hD10
  clear hP9 hD9 hS9
  refine lv_aload_n hx hb dX7_init_48 rfl (lv_at hl 0 rfl) ?_
  refine va_get (D := D) (ci := 7) (v := .ref q3) (C := RX7) (T := TX7) (N := 17) hx hb hts iw_X7 hown hK hP10 0 rfl rfl 11 (by decide) (hts (.fieldLink RX7 64 "VarianceBridgeModel" "now" "[I") (by decide +kernel)) (fun _ h9 => h9) rfl dX7_init_49 ?_
  refine lv_iconst (v := (0 : Int32)) hx hb dX7_init_52 (by decide) ?_
  refine lv_iconst (v := (1 : Int32)) hx hb dX7_init_53 (by decide) ?_
  refine va_iast hx hb hK hP10 hD10 hS10 2 0 rfl rfl (by unfold vp_in; decide) dX7_init_54 (fun H11 lo11 hP11 hD11 hS11 => ?_)
  replace hP11 : va_P D vwCl [(a0, .inr (7, [.int 0, .ref q1, .int 0, .int 0, .int 0, .int 0, .int 0, .int 0, .int 0, .int 0, .long 0, .ref q3, .ref q5, .ref q7, .int 0, .int 0, .ref q9])), (q1, .inl (cI, 640, .inl (fun _ => 0))), (q3, .inl (cI, 442, .inl (upd (fun _ => 0) ((0 : Int32)).toNatClampNeg (1 : Int32)))), (q5, .inl (cI, 442, .inl (fun _ => 0))), (q7, .inl (cI, 4420, .inl (fun _ => 0))), (q9, .inl (cZ, 80, .inl (fun _ => 0)))] H11 := hP11
  replace hD11 : va_D A [(a0, .inr (7, [.int 0, .ref q1, .int 0, .int 0, .int 0, .int 0, .int 0, .int 0, .int 0, .int 0, .long 0, .ref q3, .ref q5, .ref q7, .int 0, .int 0, .ref q9])), (q1, .inl (cI, 640, .inl (fun _ => 0))), (q3, .inl (cI, 442, .inl (upd (fun _ => 0) ((0 : Int32)).toNatClampNeg (1 : Int32)))), (q5, .inl (cI, 442, .inl (fun _ => 0))), (q7, .inl (cI, 4420, .inl (fun _ => 0))), (q9, .inl (cZ, 80, .inl (fun _ => 0)))] := hD11
  clear hP10 hD10 hS10
  refine lv_aload_n hx hb dX7_init_55 rfl (lv_at hl 0 rfl) ?_
  refine va_get (D := D) (ci := 7) (v := .ref q3) (C := RX7) (T := TX7) (N := 17) hx hb hts iw_X7 hown hK hP11 0 rfl rfl 11 (by decide) (hts (.fieldLink RX7 64 "VarianceBridgeModel" "now" "[I") (by decide +kernel)) (fun _ h9 => h9) rfl dX7_init_56 ?_
  refine gcall_v (ws' := [(a0, .inr (7, [.int 0, .ref q1, .int 0, .int 0, .int 0, .int 0, .int 0, .int 0, .int 0, .int 0, .long 0, .ref q3, .ref q5, .ref q7, .int 0, .int 0, .ref q9])), (q1, .inl (cI, 640, .inl (fun _ => 0))), (q3, .inl (cI, 442, .inl now0)), (q5, .inl (cI, 442, .inl (fun _ => 0))), (q7, .inl (cI, 4420, .inl (fun _ => 0))), (q9, .inl (cZ, 80, .inl (fun _ => 0)))]) (va_runS (As := [.ref q3]) (rest := []) ⟨hx, hb, hml, hown, hts⟩ (c_X7_begins l D cI cB cZ ta q3 H11.size (upd (fun _ => 0) ((0 : Int32)).toNatClampNeg (1 : Int32)) now0 m_begins_1) (va_cwS 1 hts gX7_init_X7_begins rfl rfl rfl (by decide +kernel) ⟨(Nat.le_of_ble_eq_true rfl), (Nat.le_of_ble_eq_true rfl)⟩) ⟨PW_blind, PW_at hP11 hD11 hK hS11 hA hG [2] rfl (by decide)⟩ rfl rfl hl.1 rfl (lv_room (Nat.le_of_ble_eq_true rfl)) dX7_init_59 ⟨(Nat.le_of_ble_eq_true rfl), (Nat.le_of_ble_eq_true rfl)⟩) hP11 hD11 hS11 hA [2] [0, 1, 3, 4, 5] [0, 1, 5, 2, 3, 4] rfl rfl (by decide) (by decide) (by decide) rfl (fun H12 lo12 hP12 hD12 hS12 => ?_)
  clear hP11 hD11 hS11
  exact W.vret hx hb hr (fun t ht hW => ⟨⟨(), rfl, trivial, q1, q3, q5, q7, q9, by rw [ht]; exact hP12, va_K.moved hW.alike hK, hD12⟩, hS12.F ht⟩) hS12.2.2 dX7_init_62
