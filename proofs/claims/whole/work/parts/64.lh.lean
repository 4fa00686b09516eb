/-! the law, walked from its entry to its loop -/
theorem va_newaL {p : Program} {l : Launch} {e : Env} {R : Room} {s : State} {m : MethodId} {args : Array Value} {below : List Frame} {meth : Method} {c : Code} {H H0 : Heap} {locs : List Loc} {cells slots pc : Nat} {ls : Array Slot} {rest : List Value} {Q : State → Prop} {D : va_G} {cl : List vw_C} {tys : List (ClassId × FieldType)} {ws : va_W} {A : Nat → Prop} {cc : ByteArray} (hexec : p.tables.exec = Jvm.exec) (hb : c.code = cc) (harr : (Cond.arrayClass .long).before args s = true) (hK : va_K D cl tys s) (hP : va_P D cl ws H) (hD : va_D A ws) (hS : va_S A H0 H locs) (hA : ∀ q, H0.size ≤ q → A q) (t0 : Nat) {c0 : ClassId} (ht : tys[t0]? = some (c0, .long))
    (hcells : cells + 1 ≤ R.cells) (hslots : slots + 1 ≤ R.slots) (hdg : decode cc pc = .ok (.newarray .long, 2))
    (kk : ∀ (q : Nat) (H1 : Heap), va_P D cl (ws ++ [outC c0 q (fun _ => 0)]) H1 → va_D A (ws ++ [outC c0 q (fun _ => 0)]) → va_S A H0 H1 locs →
      W p l e R s m args below meth c H1 locs (cells + 1) (slots + 1) Q (F0 m (pc + 2) ls (.ref q :: rest))) : W p l e R s m args below meth c H locs cells slots Q (F0 m pc ls (.int 1 :: rest)) := by
  refine va_newa (atype := .long) hexec hb harr (ty := .long) rfl hK hP hD hS hA (a0 := (1, .inr (.inl (fun _ => 0)))) (fun _ => rfl) (by decide) (by decide) (by decide) hcells hslots hdg (fun q cA H1 hK1 hP1 hD1 hS1 => ?_)
  have h1 := (hK.2 t0 _ ht).2
  have h2 := (hK1.2 tys.length (cA, .long) (by simp)).2
  have h1 : s.vm.findClass ("[" ++ FieldType.long.toString) = some c0 := h1
  have h2 : s.vm.findClass ("[" ++ FieldType.long.toString) = some cA := h2
  have h3 : cA = c0 := Option.some.inj (h2.symm.trans h1)
  subst h3
  exact kk q H1 hP1 hD1 hS1
set_option maxRecDepth 20000 in
theorem start_K {s : State} {b : Nat} (hts0 : ∀ w ∈ lw_tbl, w.before #[Value.ref b] s = true) : ∃ (D : va_G) (cI cB cZ cJ : ClassId), va_K D vwCl (tyL cI cB cZ cJ) s := by
  have hts : ∀ w ∈ wsL_lawB, w.before #[Value.ref b] s = true := fun w hw => hts0 w (wsL_law_in w hw)
  obtain ⟨c0, i0, k0⟩ := u_known (C := RX0) (T := TX0) (N := 3) (n := 3) hts (by decide +kernel) (hts0 (.instantiable RX0 3) (by decide +kernel))
  obtain ⟨c1, i1, k1⟩ := u_known (C := RX1) (T := TX1) (N := 7) (n := 7) hts (by decide +kernel) (hts0 (.instantiable RX1 7) (by decide +kernel))
  obtain ⟨c2, i2, k2⟩ := u_known (C := RX2) (T := TX2) (N := 5) (n := 5) hts (by decide +kernel) (hts0 (.instantiable RX2 5) (by decide +kernel))
  obtain ⟨c3, i3, k3⟩ := u_known (C := RX3) (T := TX3) (N := 6) (n := 6) hts (by decide +kernel) (hts0 (.instantiable RX3 6) (by decide +kernel))
  obtain ⟨c4, i4, k4⟩ := u_known (C := RX4) (T := TX4) (N := 2) (n := 2) hts (by decide +kernel) (hts0 (.instantiable RX4 2) (by decide +kernel))
  obtain ⟨c5, i5, k5⟩ := u_known (C := RX5) (T := TX5) (N := 5) (n := 5) hts (by decide +kernel) (hts0 (.instantiable RX5 5) (by decide +kernel))
  obtain ⟨c6, i6, k6⟩ := u_known (C := RX6) (T := TX6) (N := 6) (n := 6) hts (by decide +kernel) (hts0 (.instantiable RX6 6) (by decide +kernel))
  obtain ⟨c7, i7, k7⟩ := u_known (C := RX7) (T := TX7) (N := 17) (n := 17) hts (by decide +kernel) (hts0 (.instantiable RX7 17) (by decide +kernel))
  obtain ⟨cI, kI, mI, aI, bI, dI⟩ := Cond.arrayClass_spec (hts0 (.arrayClass .int) (by decide +kernel))
  obtain ⟨cB, kB, mB, aB, bB, dB⟩ := Cond.arrayClass_spec (hts0 (.arrayClass .byte) (by decide +kernel))
  obtain ⟨cZ, kZ, mZ, aZ, bZ, dZ⟩ := Cond.arrayClass_spec (hts0 (.arrayClass .boolean) (by decide +kernel))
  obtain ⟨cJ, kJ, mJ, aJ, bJ, dJ⟩ := Cond.arrayClass_spec (hts0 (.arrayClass .long) (by decide +kernel))
  refine ⟨(fun k => ([c0, c1, c2, c3, c4, c5, c6, c7] : List ClassId).getD k c0, fun k => ([i0, i1, i2, i3, i4, i5, i6, i7] : List (Nat → Nat)).getD k i0), cI, cB, cZ, cJ, fun k q hq => ?_, fun k q hk => ?_⟩
  · match k, hq with
    | 0, hq => cases hq; exact k0
    | 1, hq => cases hq; exact k1
    | 2, hq => cases hq; exact k2
    | 3, hq => cases hq; exact k3
    | 4, hq => cases hq; exact k4
    | 5, hq => cases hq; exact k5
    | 6, hq => cases hq; exact k6
    | 7, hq => cases hq; exact k7
    | k + 8, hq => simp at hq
  · match k, hk with
    | 0, hk => cases hk; exact ⟨fun n z => ⟨fun k h => (by cases h), kI, bI, mI, dI⟩, aI⟩
    | 1, hk => cases hk; exact ⟨fun n z => ⟨fun k h => (by cases h), kB, bB, mB, dB⟩, aB⟩
    | 2, hk => cases hk; exact ⟨fun n z => ⟨fun k h => (by cases h), kZ, bZ, mZ, dZ⟩, aZ⟩
    | 3, hk => cases hk; exact ⟨fun n z => ⟨fun k h => (by cases h), kJ, bJ, mJ, dJ⟩, aJ⟩
    | k + 4, hk => simp at hk
theorem inv0 : Inv 0 ((fun _ => 0)) 1 1 1 ((upd (fun _ => 0) 0 (-1))) ((fun _ => 0)) 0 0 0 ((fun _ => 0)) ((fun _ => 0)) ((fun _ => 0)) ((fun _ => 0)) 0 0 0 ((fun _ => 0)) now0 ((fun _ => 0)) := by
  refine ⟨0, 0, 0, fun _ => al0 1, ⟨by omega, rfl, rfl, fun j hj => ⟨show (0 : Int32) = 0 &&& 255 by decide, show (0 : Int32).toInt8.toInt32 = 0 by decide⟩⟩, ⟨by omega, by omega, fun _ _ => ok_al0 (by omega) (by omega), fun i hi => absurd hi (Nat.not_lt_zero _), fun i hi => absurd hi (Nat.not_lt_zero _)⟩, rfl, rfl, rfl, rc_al0 (v := 1) (dp := fun _ => 0) (df := fun _ => 0), ?_, rfl⟩
  refine ⟨rfl, rfl, rfl, fun i i0 hi => ?_, fun i hi => ?_, fun i hi hl => ?_⟩
  · have hi : i < 1 := hi
    omega
  · have hi : i < 1 := hi
    have : i = 0 := by omega
    subst this
    rfl
  · have hi : i < 1 := hi
    have : i = 0 := by omega
    subst this
    exact absurd hl (show ¬ (1 : Nat).testBit 0 = false by decide)
set_option maxHeartbeats 4000000 in
set_option maxRecDepth 100000 in
theorem whole_start {p : Program} {e : Env} {s : State} {m : MethodId} {below : List Frame} {meth : Method} {c : Code} (l : Launch) (hflags : l.flags = flags0) {b L : Nat} {xs : Nat → Int32} (hL : L ≤ 3072) (C0 : lw_At p s m meth c b L xs) : W p l e room_1 s m #[Value.ref b] below meth c s.heap [] 0 0 (lw_Z below #[Value.ref b] s) (entryFrame m ([Value.ref b] : List Value).toArray 7) := by
  obtain ⟨hx, hb, hr, hml, hown, hts0, hX, hbl, hlocks, hgv⟩ := C0
  have hb : c.code = cL_law := hb
  have hown : s.vm.findClass RL = some m.cls := hown
  have hst : l.stackTraces = false := by
    show (!l.flags.contains noTraceFlag) = false
    rw [hflags]; decide +kernel
  have hts : ∀ w ∈ wsL_lawB, w.before #[Value.ref b] s = true := fun w hw => hts0 w (wsL_law_in w hw)
  obtain ⟨ta, sa, hG, hN⟩ := start_glo hts0 hgv
  obtain ⟨D, cI, cB, cZ, cJ, hK⟩ := start_K hts0
  have hK3 : va_K D vwCl (tyG cI cB cZ) s := hK.sub [0, 1, 2] rfl
  have E : LE p s m meth c D cI cB cZ cJ ta sa b L xs := ⟨⟨hx, hb, hr, hml, hown, hts, hX, hbl, hlocks⟩, hK, hG, hN⟩
  have hA : ∀ q : Nat, s.heap.size ≤ q → (fun q : Nat => s.heap.size ≤ q) q := fun _ h => h
  have hS : va_S (fun q : Nat => s.heap.size ≤ q) s.heap s.heap [] := va_S.rf
  have hP : va_P D vwCl [] s.heap := fun k q h => by simp at h
  have hD : va_D (fun q : Nat => s.heap.size ≤ q) [] := ⟨fun i j p q h => by simp at h, fun k q h => by simp at h⟩
  have hl := lv_entry ([.ref b]) (n := 7) (Nat.le_of_ble_eq_true rfl)
  rw [lg_entry_eq]
  generalize (lg_sl ([.ref b]) ++ List.replicate (7 - (lg_sl ([.ref b])).length) Slot.unset).toArray = ls at hl ⊢
  have hl : lv_has ls 7 [(0, .ref b)] := hl
  refine va_new (ci := 6) (fs := [.null, .null, .null, .null, .null, .null]) (C := RX6) (T := TX6) (N := 6) hx hb hts (by decide +kernel) tyX6 tyX6_ok hown (hts0 (.classLink RL 8 RX6) (by decide +kernel)) (hts0 (.instantiable RX6 6) (by decide +kernel)) (hts0 (.initialized RX6) (by decide +kernel)) hK3 hP hD hS hA rfl (fun j hj => by rcases (show j = 0 ∨ j = 1 ∨ j = 2 ∨ j = 3 ∨ j = 4 ∨ j = 5 by omega) with rfl | rfl | rfl | rfl | rfl | rfl <;> rfl) (Nat.le_of_ble_eq_true rfl) (Nat.le_of_ble_eq_true rfl) dL_law_0 (fun aV H1 hP1 hD1 hS1 => ?_)
  replace hP1 : va_P D vwCl [(aV, .inr (6, [.null, .null, .null, .null, .null, .null]))] H1 := hP1
  replace hD1 : va_D (fun q : Nat => s.heap.size ≤ q) [(aV, .inr (6, [.null, .null, .null, .null, .null, .null]))] := hD1
  refine W.widen (k := 1) (n := 6) (Nat.le_of_ble_eq_true rfl) (Nat.le_of_ble_eq_true rfl) ?_
  refine lv_dup hx hb dL_law_3 rfl ?_
  have hFc := va_free (wc := [(aV, .inr (6, [.null, .null, .null, .null, .null, .null]))]) hD1 hS1 hA [0] rfl
  refine va_callv (va_runI (As := []) (rest := [.ref aV]) ⟨hx, hb, hml, hown, hts⟩ (c_X6_init l D cI cB cZ ta aV H1.size) (cwI 0 hts gL_law_X6_init rfl rfl rfl (hts0 (.initialized RX6) (by decide +kernel)) (hts0 (.methodLink RL 15 yX6_init) (by decide +kernel)) (hts0 (.instanceMethod yX6_init) (by decide +kernel)) rfl (by decide +kernel) ⟨(Nat.le_of_ble_eq_true rfl), (Nat.le_of_ble_eq_true rfl)⟩) ⟨PW_blind, PW_at hP1 hD1 hK3 hS1 hA hG [0] rfl (by decide)⟩ rfl rfl hl.1 rfl (lv_room (Nat.le_of_ble_eq_true rfl)) dL_law_4 ⟨(Nat.le_of_ble_eq_true rfl), (Nat.le_of_ble_eq_true rfl)⟩) hS1 (fun q _ h => hFc q h) hFc (fun u t H2 lo2 ht hvm hw hB hz1 hk1 hS2 => ?_)
  obtain ⟨aT, aTb, aP, aPp, aPf, aD, aDp, aDf, aR, aRt, aK, aB, aBb, aBs, aH, aHk, aHp, aHb, aHr, hP9, hK9, hD9⟩ := hB
  rw [ht] at hP9
  obtain ⟨hP2, hD2⟩ := va_join (wr := []) (w1 := (w_VB cI cB cZ aV aT aTb aP aPp aPf aD aDp aDf aR aRt aK aB aBb aBs aH aHk aHp aHb aHr 0 ((fun _ => 0)) 1 1 1 ((upd (fun _ => 0) 0 (-1))) ((fun _ => 0)) 1 1 1 ((upd (fun _ => 0) 0 (-1))) ((fun _ => 0)) 0 0 0 ((fun _ => 0)) 0 0 0 0 ((fun _ => 0)) ((fun _ => 0)) 0 0 ((fun _ => 0)) ((fun _ => 0)) ((fun _ => 0)) ((fun _ => 0)))) hP1 hD1 [0] [] rfl rfl (by decide) (by decide) hk1 hFc hP9 hD9
  replace hP2 : va_P D vwCl (w_VB cI cB cZ aV aT aTb aP aPp aPf aD aDp aDf aR aRt aK aB aBb aBs aH aHk aHp aHb aHr 0 ((fun _ => 0)) 1 1 1 ((upd (fun _ => 0) 0 (-1))) ((fun _ => 0)) 1 1 1 ((upd (fun _ => 0) 0 (-1))) ((fun _ => 0)) 0 0 0 ((fun _ => 0)) 0 0 0 0 ((fun _ => 0)) ((fun _ => 0)) 0 0 ((fun _ => 0)) ((fun _ => 0)) ((fun _ => 0)) ((fun _ => 0))) H2 := hP2
  replace hD2 : va_D (fun q : Nat => s.heap.size ≤ q) (w_VB cI cB cZ aV aT aTb aP aPp aPf aD aDp aDf aR aRt aK aB aBb aBs aH aHk aHp aHb aHr 0 ((fun _ => 0)) 1 1 1 ((upd (fun _ => 0) 0 (-1))) ((fun _ => 0)) 1 1 1 ((upd (fun _ => 0) 0 (-1))) ((fun _ => 0)) 0 0 0 ((fun _ => 0)) 0 0 0 0 ((fun _ => 0)) ((fun _ => 0)) 0 0 ((fun _ => 0)) ((fun _ => 0)) ((fun _ => 0)) ((fun _ => 0))) := hD2
  clear hP hD hP1 hD1 hFc hP9 hD9 hk1
  refine W.widen (k := 20) (n := 2621) (Nat.le_of_ble_eq_true rfl) (Nat.le_of_ble_eq_true rfl) ?_
  refine lv_astore_n (lv' := [(1, .ref aV), (0, .ref b)]) hx hb dL_law_7 rfl hl (by decide) rfl (fun ls hl => ?_)
  refine va_new (ci := 7) (fs := [.int 0, .null, .int 0, .int 0, .int 0, .int 0, .int 0, .int 0, .int 0, .int 0, .long 0, .null, .null, .null, .int 0, .int 0, .null]) (C := RX7) (T := TX7) (N := 17) hx hb hts (by decide +kernel) tyX7 tyX7_ok hown (hts0 (.classLink RL 16 RX7) (by decide +kernel)) (hts0 (.instantiable RX7 17) (by decide +kernel)) (hts0 (.initialized RX7) (by decide +kernel)) hK3 hP2 hD2 hS2 hA rfl (fun j hj => by rcases (show j = 0 ∨ j = 1 ∨ j = 2 ∨ j = 3 ∨ j = 4 ∨ j = 5 ∨ j = 6 ∨ j = 7 ∨ j = 8 ∨ j = 9 ∨ j = 10 ∨ j = 11 ∨ j = 12 ∨ j = 13 ∨ j = 14 ∨ j = 15 ∨ j = 16 by omega) with rfl | rfl | rfl | rfl | rfl | rfl | rfl | rfl | rfl | rfl | rfl | rfl | rfl | rfl | rfl | rfl | rfl <;> rfl) (Nat.le_of_ble_eq_true rfl) (Nat.le_of_ble_eq_true rfl) dL_law_8 (fun aM H3 hP3 hD3 hS3 => ?_)
  replace hP3 : va_P D vwCl ((w_VB cI cB cZ aV aT aTb aP aPp aPf aD aDp aDf aR aRt aK aB aBb aBs aH aHk aHp aHb aHr 0 ((fun _ => 0)) 1 1 1 ((upd (fun _ => 0) 0 (-1))) ((fun _ => 0)) 1 1 1 ((upd (fun _ => 0) 0 (-1))) ((fun _ => 0)) 0 0 0 ((fun _ => 0)) 0 0 0 0 ((fun _ => 0)) ((fun _ => 0)) 0 0 ((fun _ => 0)) ((fun _ => 0)) ((fun _ => 0)) ((fun _ => 0))) ++ [(aM, .inr (7, [.int 0, .null, .int 0, .int 0, .int 0, .int 0, .int 0, .int 0, .int 0, .int 0, .long 0, .null, .null, .null, .int 0, .int 0, .null]))]) H3 := hP3
  replace hD3 : va_D (fun q : Nat => s.heap.size ≤ q) ((w_VB cI cB cZ aV aT aTb aP aPp aPf aD aDp aDf aR aRt aK aB aBb aBs aH aHk aHp aHb aHr 0 ((fun _ => 0)) 1 1 1 ((upd (fun _ => 0) 0 (-1))) ((fun _ => 0)) 1 1 1 ((upd (fun _ => 0) 0 (-1))) ((fun _ => 0)) 0 0 0 ((fun _ => 0)) 0 0 0 0 ((fun _ => 0)) ((fun _ => 0)) 0 0 ((fun _ => 0)) ((fun _ => 0)) ((fun _ => 0)) ((fun _ => 0))) ++ [(aM, .inr (7, [.int 0, .null, .int 0, .int 0, .int 0, .int 0, .int 0, .int 0, .int 0, .int 0, .long 0, .null, .null, .null, .int 0, .int 0, .null]))]) := hD3
  refine W.widen (k := 21) (n := 2638) (Nat.le_of_ble_eq_true rfl) (Nat.le_of_ble_eq_true rfl) ?_
  refine lv_dup hx hb dL_law_11 rfl ?_
  have hFc := va_free (wc := [(aM, .inr (7, [.int 0, .null, .int 0, .int 0, .int 0, .int 0, .int 0, .int 0, .int 0, .int 0, .long 0, .null, .null, .null, .int 0, .int 0, .null]))]) hD3 hS3 hA [20] rfl
  refine va_callv (va_runI (As := []) (rest := [.ref aM]) ⟨hx, hb, hml, hown, hts⟩ (c_X7_init l D cI cB cZ ta aM H3.size) (cwI 0 hts gL_law_X7_init rfl rfl rfl (hts0 (.initialized RX7) (by decide +kernel)) (hts0 (.methodLink RL 18 yX7_init) (by decide +kernel)) (hts0 (.instanceMethod yX7_init) (by decide +kernel)) rfl (by decide +kernel) ⟨(Nat.le_of_ble_eq_true rfl), (Nat.le_of_ble_eq_true rfl)⟩) ⟨PW_blind, PW_at hP3 hD3 hK3 hS3 hA hG [20] rfl (by decide)⟩ rfl rfl hl.1 rfl (lv_room (Nat.le_of_ble_eq_true rfl)) dL_law_12 ⟨(Nat.le_of_ble_eq_true rfl), (Nat.le_of_ble_eq_true rfl)⟩) hS3 (fun q _ h => hFc q h) hFc (fun u t H4 lo4 ht hvm hw hB hz1 hk1 hS4 => ?_)
  obtain ⟨aMt, aMn, aMr, aMs, aMi, hP9, hK9, hD9⟩ := hB
  rw [ht] at hP9
  obtain ⟨hP4, hD4⟩ := va_join (wr := (w_VB cI cB cZ aV aT aTb aP aPp aPf aD aDp aDf aR aRt aK aB aBb aBs aH aHk aHp aHb aHr 0 ((fun _ => 0)) 1 1 1 ((upd (fun _ => 0) 0 (-1))) ((fun _ => 0)) 1 1 1 ((upd (fun _ => 0) 0 (-1))) ((fun _ => 0)) 0 0 0 ((fun _ => 0)) 0 0 0 0 ((fun _ => 0)) ((fun _ => 0)) 0 0 ((fun _ => 0)) ((fun _ => 0)) ((fun _ => 0)) ((fun _ => 0)))) (w1 := (w_Model cI cB cZ aM aMt aMn aMr aMs aMi 0 0 0 0 0 0 0 0 0 0 0 0 ((fun _ => 0)) now0 ((fun _ => 0)) ((fun _ => 0)) ((fun _ => 0)))) hP3 hD3 [20] [0, 1, 2, 3, 4, 5, 6, 7, 8, 9, 10, 11, 12, 13, 14, 15, 16, 17, 18, 19] rfl rfl (by decide) (by decide) hk1 hFc hP9 hD9
  clear hFc hP9 hD9 hk1 hP3 hD3
  refine W.widen (k := 26) (n := 8662) (Nat.le_of_ble_eq_true rfl) (Nat.le_of_ble_eq_true rfl) ?_
  refine lv_astore_n (lv' := [(2, .ref aM), (1, .ref aV), (0, .ref b)]) hx hb dL_law_15 rfl hl (by decide) rfl (fun ls hl => ?_)
  refine lv_iconst (v := (1 : Int32)) hx hb dL_law_16 (by decide) ?_
  refine va_newaL hx hb (hts0 (.arrayClass .long) (by decide +kernel)) hK hP4 hD4 hS4 hA 3 rfl (Nat.le_of_ble_eq_true rfl) (Nat.le_of_ble_eq_true rfl) dL_law_17 (fun aO H5 hP5 hD5 hS5 => ?_)
  replace hP5 : va_P D vwCl ((w_VB cI cB cZ aV aT aTb aP aPp aPf aD aDp aDf aR aRt aK aB aBb aBs aH aHk aHp aHb aHr 0 ((fun _ => 0)) 1 1 1 ((upd (fun _ => 0) 0 (-1))) ((fun _ => 0)) 1 1 1 ((upd (fun _ => 0) 0 (-1))) ((fun _ => 0)) 0 0 0 ((fun _ => 0)) 0 0 0 0 ((fun _ => 0)) ((fun _ => 0)) 0 0 ((fun _ => 0)) ((fun _ => 0)) ((fun _ => 0)) ((fun _ => 0))) ++ ((w_Model cI cB cZ aM aMt aMn aMr aMs aMi 0 0 0 0 0 0 0 0 0 0 0 0 ((fun _ => 0)) now0 ((fun _ => 0)) ((fun _ => 0)) ((fun _ => 0))) ++ [outC cJ aO ((fun _ => 0))])) H5 := hP5
  replace hD5 : va_D (fun q : Nat => s.heap.size ≤ q) ((w_VB cI cB cZ aV aT aTb aP aPp aPf aD aDp aDf aR aRt aK aB aBb aBs aH aHk aHp aHb aHr 0 ((fun _ => 0)) 1 1 1 ((upd (fun _ => 0) 0 (-1))) ((fun _ => 0)) 1 1 1 ((upd (fun _ => 0) 0 (-1))) ((fun _ => 0)) 0 0 0 ((fun _ => 0)) 0 0 0 0 ((fun _ => 0)) ((fun _ => 0)) 0 0 ((fun _ => 0)) ((fun _ => 0)) ((fun _ => 0)) ((fun _ => 0))) ++ ((w_Model cI cB cZ aM aMt aMn aMr aMs aMi 0 0 0 0 0 0 0 0 0 0 0 0 ((fun _ => 0)) now0 ((fun _ => 0)) ((fun _ => 0)) ((fun _ => 0))) ++ [outC cJ aO ((fun _ => 0))])) := hD5
  refine W.widen (k := 27) (n := 8663) (Nat.le_of_ble_eq_true rfl) (Nat.le_of_ble_eq_true rfl) ?_
  refine lv_astore_n (lv' := [(3, .ref aO), (2, .ref aM), (1, .ref aV), (0, .ref b)]) hx hb dL_law_19 rfl hl (by decide) rfl (fun ls hl => ?_)
  refine lv_iconst (v := (0 : Int32)) hx hb dL_law_20 (by decide) ?_
  refine lv_istore (lv' := [(4, .int 0), (3, .ref aO), (2, .ref aM), (1, .ref aV), (0, .ref b)]) hx hb dL_law_21 hl (by decide) rfl (fun ls hl => ?_)
  exact law_loop hst E hL (L + 1) 0 (Nat.zero_le _) (by omega) 0 ((fun _ => 0)) 1 1 1 ((upd (fun _ => 0) 0 (-1))) ((fun _ => 0)) 1 1 1 ((upd (fun _ => 0) 0 (-1))) ((fun _ => 0)) 0 0 0 ((fun _ => 0)) 0 0 0 0 ((fun _ => 0)) ((fun _ => 0)) 0 0 ((fun _ => 0)) ((fun _ => 0)) ((fun _ => 0)) ((fun _ => 0)) 0 0 0 0 0 0 0 0 0 0 0 0 ((fun _ => 0)) now0 ((fun _ => 0)) ((fun _ => 0)) ((fun _ => 0)) (fun _ => 0) inv0 H5 lo4 hP5 hD5 hS5 ls (lv_sub hl [4, 3, 2, 1, 0] rfl)
