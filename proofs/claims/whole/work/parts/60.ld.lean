/-! cases of the law -/
section
variable {p : Program} {l : Launch} {e : Env} {s : State} {m : MethodId} {below : List Frame} {meth : Method} {c : Code} {D : va_G} {cI cB cZ cJ : ClassId} {ta : Nat → Nat} {sa : Nat} {aV aT aTb aP aPp aPf aD aDp aDf aR aRt aK aB aBb aBs aH aHk aHp aHb aHr aM aMt aMn aMr aMs aMi aO : Nat} {b L : Nat} {xs : Nat → Int32}
set_option maxHeartbeats 4000000 in
set_option maxRecDepth 100000 in
theorem lc_6 (hst : l.stackTraces = false) (E : LE p s m meth c D cI cB cZ cJ ta sa b L xs) {i cells slots : Nat} (hi : 6 * i + 6 ≤ L) (hL : L ≤ 3072) (hcs : cells + 1 ≤ 1052 ∧ slots + 6 ≤ 16861) (K : K73 p l e s m below meth c D cI cB cZ cJ aV aT aTb aP aPp aPf aD aDp aDf aR aRt aK aB aBb aBs aH aHk aHp aHb aHr aM aMt aMn aMr aMs aMi aO b i (cells + 1) (slots + 6)) (tl : Int32) (tb : (Nat → Int32)) (pg : Int32) (ps : Int32) (pn : Int32) (pp : (Nat → Int32)) (pf : (Nat → Int32)) (dg : Int32) (ds : Int32) (dn : Int32) (dp : (Nat → Int32)) (df : (Nat → Int32)) (rl : Int32) (rk : Int32) (rp : Int32) (rt : (Nat → Int32)) (kp : Int32) (kb : Int32) (kk : Int32) (kn : Int32) (bb : (Nat → Int32)) (bs : (Nat → Int32)) (jl : Int32) (jn : Int32) (jk : (Nat → Int32)) (jp : (Nat → Int32)) (jb : (Nat → Int32)) (jr : (Nat → Int32)) (mth : Int32) (mtd : Int32) (msz : Int32) (mto : Int32) (mfr : Int32) (mso : Int32) (mnu : Int32) (mfa : Int32) (mpl : Int32) (mwo : Int64) (msm : Int32) (mgo : Int32) (mt : (Nat → Int32)) (mno : (Nat → Int32)) (mre : (Nat → Int32)) (msn : (Nat → Int32)) (mis : (Nat → Int32)) (fo : Nat → Int64) (hI : Inv tl tb pg ps pn pp pf rk jl jn jk jp jb jr mtd mfa msm mt mno msn) (H : Heap) (lo : List Loc) (hP : va_P D vwCl ((w_VB cI cB cZ aV aT aTb aP aPp aPf aD aDp aDf aR aRt aK aB aBb aBs aH aHk aHp aHb aHr tl tb pg ps pn pp pf dg ds dn dp df rl rk rp rt kp kb kk kn bb bs jl jn jk jp jb jr) ++ ((w_Model cI cB cZ aM aMt aMn aMr aMs aMi mth mtd msz mto mfr mso mnu mfa mpl mwo msm mgo mt mno mre msn mis) ++ [outC cJ aO fo])) H) (hD : va_D (fun q : Nat => s.heap.size ≤ q) ((w_VB cI cB cZ aV aT aTb aP aPp aPf aD aDp aDf aR aRt aK aB aBb aBs aH aHk aHp aHb aHr tl tb pg ps pn pp pf dg ds dn dp df rl rk rp rt kp kb kk kn bb bs jl jn jk jp jb jr) ++ ((w_Model cI cB cZ aM aMt aMn aMr aMs aMi mth mtd msz mto mfr mso mnu mfa mpl mwo msm mgo mt mno mre msn mis) ++ [outC cJ aO fo]))) (hS : va_S (fun q : Nat => s.heap.size ≤ q) s.heap H lo) (ls : Array Slot) (hl : lv_has ls 7 [(0, .ref b), (1, .ref aV), (2, .ref aM), (3, .ref aO), (4, .int (nI (6 * i)))]) : W p l e room_1 s m #[Value.ref b] below meth c H lo cells slots (lw_Z below #[Value.ref b] s) (F0 m 361 ls []) := by
  obtain ⟨⟨hx, hb, hr, hml, hown, hts, hX, hbl, hlocks⟩, hK, hG, hN⟩ := E
  have hA : ∀ q : Nat, s.heap.size ≤ q → (fun q : Nat => s.heap.size ≤ q) q := fun _ h => h
  have hbA : ¬ (fun q : Nat => s.heap.size ≤ q) b := Nat.not_le.mpr hbl
  have hK3 : va_K D vwCl (tyG cI cB cZ) s := hK.sub [0, 1, 2] rfl
  obtain ⟨T0, h, l0, A, R, H0, rfl, rfl, rfl, hc, hm, rfl⟩ := hI
  have hc0 : cells + 0 ≤ room_1.cells ∧ slots + 0 ≤ room_1.slots := ⟨show cells + 0 ≤ 1052 by omega, show slots + 0 ≤ 16861 by omega⟩
  obtain ⟨r, e1, e2⟩ := op_factor (H0.2.2.1 0 (Nat.zero_le _)) hc hm mth (xs (nI (6 * i) + (1 : Int32)).toNatClampNeg) (xs (nI (6 * i) + (2 : Int32)).toNatClampNeg) (xs (nI (6 * i) + (3 : Int32)).toNatClampNeg)
  refine lv_aload_n hx hb dL_law_361 rfl (lv_at hl 1 rfl) ?_
  refine lv_aload_n hx hb dL_law_362 rfl (lv_at hl 0 rfl) ?_
  refine lv_iload hx hb dL_law_363 (lv_at hl 4 rfl) ?_
  refine lv_iconst (v := (1 : Int32)) hx hb dL_law_365 (by decide) ?_
  refine lv_iadd hx hb dL_law_366 ?_
  refine va_sld hx hb hX hbl hbA hS (in6 (k := 1) (by omega) hL) dL_law_367 ?_
  refine lv_aload_n hx hb dL_law_368 rfl (lv_at hl 0 rfl) ?_
  refine lv_iload hx hb dL_law_369 (lv_at hl 4 rfl) ?_
  refine lv_iconst (v := (2 : Int32)) hx hb dL_law_371 (by decide) ?_
  refine lv_iadd hx hb dL_law_372 ?_
  refine va_sld hx hb hX hbl hbA hS (in6 (k := 2) (by omega) hL) dL_law_373 ?_
  refine lv_aload_n hx hb dL_law_374 rfl (lv_at hl 0 rfl) ?_
  refine lv_iload hx hb dL_law_375 (lv_at hl 4 rfl) ?_
  refine lv_iconst (v := (3 : Int32)) hx hb dL_law_377 (by decide) ?_
  refine lv_iadd hx hb dL_law_378 ?_
  refine va_sld hx hb hX hbl hbA hS (in6 (k := 3) (by omega) hL) dL_law_379 ?_
  refine gcall_i (ws' := ((w_VB cI cB cZ aV aT aTb aP aPp aPf aD aDp aDf aR aRt aK aB aBb aBs aH aHk aHp aHb aHr tl tb pg ps pn pp pf dg ds dn dp df rl rk rp rt kp kb kk kn bb bs (nI l0) (nI h) jk jp jb jr) ++ ((w_Model cI cB cZ aM aMt aMn aMr aMs aMi mth mtd msz mto mfr mso mnu rk mpl mwo (nI h) mgo mt mno mre msn mis) ++ [outC cJ aO fo]))) (va_runV (As := [.int (xs (nI (6 * i) + (1 : Int32)).toNatClampNeg), .int (xs (nI (6 * i) + (2 : Int32)).toNatClampNeg), .int (xs (nI (6 * i) + (3 : Int32)).toNatClampNeg)]) (rest := []) ⟨hx, hb, hml, hown, hts⟩ (c_X6_factor l D cI cB cZ ta aV aT aTb aP aPp aPf aD aDp aDf aR aRt aK aB aBb aBs aH aHk aHp aHb aHr H.size tl tb pg ps pn pp pf dg ds dn dp df rl rk rp rt kp kb kk kn bb bs (nI l0) (nI h) jk jp jb jr ((xs (nI (6 * i) + (1 : Int32)).toNatClampNeg)) ((xs (nI (6 * i) + (2 : Int32)).toNatClampNeg)) ((xs (nI (6 * i) + (3 : Int32)).toNatClampNeg)) r e1) (cwV 3 hts gL_law_X6_factor rfl rfl rfl (by decide +kernel) ⟨(Nat.le_of_ble_eq_true rfl), (Nat.le_of_ble_eq_true rfl)⟩) ⟨PW_blind, va_recv hK hP rfl (q0 := 0) rfl, PW_at hP hD hK3 hS hA hG [0, 1, 2, 3, 4, 5, 6, 7, 8, 9, 10, 11, 12, 13, 14, 15, 16, 17, 18, 19] rfl (by decide)⟩ rfl rfl hl.1 rfl (lv_room (Nat.le_of_ble_eq_true rfl)) dL_law_380 hc0) hP hD hS hA [0, 1, 2, 3, 4, 5, 6, 7, 8, 9, 10, 11, 12, 13, 14, 15, 16, 17, 18, 19] [20, 21, 22, 23, 24, 25, 26] [7, 8, 9, 10, 11, 12, 13, 14, 15, 16, 17, 18, 19, 20, 21, 22, 23, 24, 25, 26, 0, 1, 2, 3, 4, 5, 6] rfl rfl (by decide) (by decide) (by decide) rfl (fun H2 lo2 hP2 hD2 hS2 => ?_)
  refine lv_aload_n hx hb dL_law_383 rfl (lv_at hl 2 rfl) ?_
  refine lv_aload_n hx hb dL_law_384 rfl (lv_at hl 0 rfl) ?_
  refine lv_iload hx hb dL_law_385 (lv_at hl 4 rfl) ?_
  refine lv_iconst (v := (1 : Int32)) hx hb dL_law_387 (by decide) ?_
  refine lv_iadd hx hb dL_law_388 ?_
  refine va_sld hx hb hX hbl hbA hS2 (in6 (k := 1) (by omega) hL) dL_law_389 ?_
  refine lv_aload_n hx hb dL_law_390 rfl (lv_at hl 0 rfl) ?_
  refine lv_iload hx hb dL_law_391 (lv_at hl 4 rfl) ?_
  refine lv_iconst (v := (2 : Int32)) hx hb dL_law_393 (by decide) ?_
  refine lv_iadd hx hb dL_law_394 ?_
  refine va_sld hx hb hX hbl hbA hS2 (in6 (k := 2) (by omega) hL) dL_law_395 ?_
  refine lv_aload_n hx hb dL_law_396 rfl (lv_at hl 0 rfl) ?_
  refine lv_iload hx hb dL_law_397 (lv_at hl 4 rfl) ?_
  refine lv_iconst (v := (3 : Int32)) hx hb dL_law_399 (by decide) ?_
  refine lv_iadd hx hb dL_law_400 ?_
  refine va_sld hx hb hX hbl hbA hS2 (in6 (k := 3) (by omega) hL) dL_law_401 ?_
  refine gcall_i (ws' := ((w_VB cI cB cZ aV aT aTb aP aPp aPf aD aDp aDf aR aRt aK aB aBb aBs aH aHk aHp aHb aHr tl tb pg ps pn pp pf dg ds dn dp df rl rk rp rt kp kb kk kn bb bs (nI l0) (nI h) jk jp jb jr) ++ ((w_Model cI cB cZ aM aMt aMn aMr aMs aMi 0 mtd msz mto mfr mso mnu rk mpl mwo (nI h) mgo mt mno mre msn mis) ++ [outC cJ aO fo]))) (va_runV (As := [.int (xs (nI (6 * i) + (1 : Int32)).toNatClampNeg), .int (xs (nI (6 * i) + (2 : Int32)).toNatClampNeg), .int (xs (nI (6 * i) + (3 : Int32)).toNatClampNeg)]) (rest := [.int r]) ⟨hx, hb, hml, hown, hts⟩ (c_X7_factor l D cI cB cZ ta aM aMt aMn aMr aMs aMi H2.size mth mtd msz mto mfr mso mnu rk mpl mwo (nI h) mgo mt mno mre msn mis ((xs (nI (6 * i) + (1 : Int32)).toNatClampNeg)) ((xs (nI (6 * i) + (2 : Int32)).toNatClampNeg)) ((xs (nI (6 * i) + (3 : Int32)).toNatClampNeg)) r 0 e2) (cwV 3 hts gL_law_X7_factor rfl rfl rfl (by decide +kernel) ⟨(Nat.le_of_ble_eq_true rfl), (Nat.le_of_ble_eq_true rfl)⟩) ⟨PW_blind, va_recv hK hP2 rfl (q0 := 20) rfl, PW_at hP2 hD2 hK3 hS2 hA hG [20, 21, 22, 23, 24, 25] rfl (by decide)⟩ rfl rfl hl.1 rfl (lv_room (Nat.le_of_ble_eq_true rfl)) dL_law_402 hc0) hP2 hD2 hS2 hA [20, 21, 22, 23, 24, 25] [0, 1, 2, 3, 4, 5, 6, 7, 8, 9, 10, 11, 12, 13, 14, 15, 16, 17, 18, 19, 26] [0, 1, 2, 3, 4, 5, 6, 7, 8, 9, 10, 11, 12, 13, 14, 15, 16, 17, 18, 19, 21, 22, 23, 24, 25, 26, 20] rfl rfl (by decide) (by decide) (by decide) rfl (fun H3 lo3 hP3 hD3 hS3 => ?_)
  refine lv_icmp_eq (tgt := 1073) hx hb dL_law_405 (by decide) (fun _ => ?_) (fun c9 => absurd rfl c9)
  refine W.widen (k := cells + 1) (n := slots + 6) (by omega) (by omega) ?_
  exact K tl tb pg ps pn pp pf dg ds dn dp df rl rk rp rt kp kb kk kn bb bs (nI l0) (nI h) jk jp jb jr 0 mtd msz mto mfr mso mnu rk mpl mwo (nI h) mgo mt mno mre msn mis fo ⟨T0, h, l0, A, R, H0, rfl, rfl, rfl, hc, hm, rfl⟩ H3 lo3 hP3 hD3 hS3 ls (lv_sub hl [0, 1, 2, 3, 4] rfl)
set_option maxHeartbeats 4000000 in
set_option maxRecDepth 100000 in
theorem lc_7 (hst : l.stackTraces = false) (E : LE p s m meth c D cI cB cZ cJ ta sa b L xs) {i cells slots : Nat} (hi : 6 * i + 6 ≤ L) (hL : L ≤ 3072) (hcs : cells + 1 ≤ 1052 ∧ slots + 6 ≤ 16861) (K : K73 p l e s m below meth c D cI cB cZ cJ aV aT aTb aP aPp aPf aD aDp aDf aR aRt aK aB aBb aBs aH aHk aHp aHb aHr aM aMt aMn aMr aMs aMi aO b i (cells + 1) (slots + 6)) (tl : Int32) (tb : (Nat → Int32)) (pg : Int32) (ps : Int32) (pn : Int32) (pp : (Nat → Int32)) (pf : (Nat → Int32)) (dg : Int32) (ds : Int32) (dn : Int32) (dp : (Nat → Int32)) (df : (Nat → Int32)) (rl : Int32) (rk : Int32) (rp : Int32) (rt : (Nat → Int32)) (kp : Int32) (kb : Int32) (kk : Int32) (kn : Int32) (bb : (Nat → Int32)) (bs : (Nat → Int32)) (jl : Int32) (jn : Int32) (jk : (Nat → Int32)) (jp : (Nat → Int32)) (jb : (Nat → Int32)) (jr : (Nat → Int32)) (mth : Int32) (mtd : Int32) (msz : Int32) (mto : Int32) (mfr : Int32) (mso : Int32) (mnu : Int32) (mfa : Int32) (mpl : Int32) (mwo : Int64) (msm : Int32) (mgo : Int32) (mt : (Nat → Int32)) (mno : (Nat → Int32)) (mre : (Nat → Int32)) (msn : (Nat → Int32)) (mis : (Nat → Int32)) (fo : Nat → Int64) (hI : Inv tl tb pg ps pn pp pf rk jl jn jk jp jb jr mtd mfa msm mt mno msn) (H : Heap) (lo : List Loc) (hP : va_P D vwCl ((w_VB cI cB cZ aV aT aTb aP aPp aPf aD aDp aDf aR aRt aK aB aBb aBs aH aHk aHp aHb aHr tl tb pg ps pn pp pf dg ds dn dp df rl rk rp rt kp kb kk kn bb bs jl jn jk jp jb jr) ++ ((w_Model cI cB cZ aM aMt aMn aMr aMs aMi mth mtd msz mto mfr mso mnu mfa mpl mwo msm mgo mt mno mre msn mis) ++ [outC cJ aO fo])) H) (hD : va_D (fun q : Nat => s.heap.size ≤ q) ((w_VB cI cB cZ aV aT aTb aP aPp aPf aD aDp aDf aR aRt aK aB aBb aBs aH aHk aHp aHb aHr tl tb pg ps pn pp pf dg ds dn dp df rl rk rp rt kp kb kk kn bb bs jl jn jk jp jb jr) ++ ((w_Model cI cB cZ aM aMt aMn aMr aMs aMi mth mtd msz mto mfr mso mnu mfa mpl mwo msm mgo mt mno mre msn mis) ++ [outC cJ aO fo]))) (hS : va_S (fun q : Nat => s.heap.size ≤ q) s.heap H lo) (ls : Array Slot) (hl : lv_has ls 7 [(0, .ref b), (1, .ref aV), (2, .ref aM), (3, .ref aO), (4, .int (nI (6 * i)))]) : W p l e room_1 s m #[Value.ref b] below meth c H lo cells slots (lw_Z below #[Value.ref b] s) (F0 m 410 ls []) := by
  obtain ⟨⟨hx, hb, hr, hml, hown, hts, hX, hbl, hlocks⟩, hK, hG, hN⟩ := E
  have hA : ∀ q : Nat, s.heap.size ≤ q → (fun q : Nat => s.heap.size ≤ q) q := fun _ h => h
  have hbA : ¬ (fun q : Nat => s.heap.size ≤ q) b := Nat.not_le.mpr hbl
  have hK3 : va_K D vwCl (tyG cI cB cZ) s := hK.sub [0, 1, 2] rfl
  obtain ⟨T0, h, l0, A, R, H0, rfl, rfl, rfl, hc, hm, rfl⟩ := hI
  have hc0 : cells + 0 ≤ room_1.cells ∧ slots + 0 ≤ room_1.slots := ⟨show cells + 0 ≤ 1052 by omega, show slots + 0 ≤ 16861 by omega⟩
  obtain ⟨r, e1, e2⟩ := op_value (H0.2.2.1 0 (Nat.zero_le _)) hc hm mth (xs (nI (6 * i) + (1 : Int32)).toNatClampNeg) (xs (nI (6 * i) + (2 : Int32)).toNatClampNeg)
  refine lv_aload_n hx hb dL_law_410 rfl (lv_at hl 1 rfl) ?_
  refine lv_aload_n hx hb dL_law_411 rfl (lv_at hl 0 rfl) ?_
  refine lv_iload hx hb dL_law_412 (lv_at hl 4 rfl) ?_
  refine lv_iconst (v := (1 : Int32)) hx hb dL_law_414 (by decide) ?_
  refine lv_iadd hx hb dL_law_415 ?_
  refine va_sld hx hb hX hbl hbA hS (in6 (k := 1) (by omega) hL) dL_law_416 ?_
  refine lv_aload_n hx hb dL_law_417 rfl (lv_at hl 0 rfl) ?_
  refine lv_iload hx hb dL_law_418 (lv_at hl 4 rfl) ?_
  refine lv_iconst (v := (2 : Int32)) hx hb dL_law_420 (by decide) ?_
  refine lv_iadd hx hb dL_law_421 ?_
  refine va_sld hx hb hX hbl hbA hS (in6 (k := 2) (by omega) hL) dL_law_422 ?_
  refine gcall_i (ws' := ((w_VB cI cB cZ aV aT aTb aP aPp aPf aD aDp aDf aR aRt aK aB aBb aBs aH aHk aHp aHb aHr tl tb pg ps pn pp pf dg ds dn dp df rl rk rp rt kp kb kk kn bb bs (nI l0) (nI h) jk jp jb jr) ++ ((w_Model cI cB cZ aM aMt aMn aMr aMs aMi mth mtd msz mto mfr mso mnu rk mpl mwo (nI h) mgo mt mno mre msn mis) ++ [outC cJ aO fo]))) (va_runV (As := [.int (xs (nI (6 * i) + (1 : Int32)).toNatClampNeg), .int (xs (nI (6 * i) + (2 : Int32)).toNatClampNeg)]) (rest := []) ⟨hx, hb, hml, hown, hts⟩ (c_X6_value l D cI cB cZ ta aV aT aTb aP aPp aPf aD aDp aDf aR aRt aK aB aBb aBs aH aHk aHp aHb aHr H.size tl tb pg ps pn pp pf dg ds dn dp df rl rk rp rt kp kb kk kn bb bs (nI l0) (nI h) jk jp jb jr ((xs (nI (6 * i) + (1 : Int32)).toNatClampNeg)) ((xs (nI (6 * i) + (2 : Int32)).toNatClampNeg)) r e1) (cwV 2 hts gL_law_X6_value rfl rfl rfl (by decide +kernel) ⟨(Nat.le_of_ble_eq_true rfl), (Nat.le_of_ble_eq_true rfl)⟩) ⟨PW_blind, va_recv hK hP rfl (q0 := 0) rfl, PW_at hP hD hK3 hS hA hG [0, 1, 2, 3, 4, 5, 6, 7, 8, 9, 10, 11, 12, 13, 14, 15, 16, 17, 18, 19] rfl (by decide)⟩ rfl rfl hl.1 rfl (lv_room (Nat.le_of_ble_eq_true rfl)) dL_law_423 hc0) hP hD hS hA [0, 1, 2, 3, 4, 5, 6, 7, 8, 9, 10, 11, 12, 13, 14, 15, 16, 17, 18, 19] [20, 21, 22, 23, 24, 25, 26] [7, 8, 9, 10, 11, 12, 13, 14, 15, 16, 17, 18, 19, 20, 21, 22, 23, 24, 25, 26, 0, 1, 2, 3, 4, 5, 6] rfl rfl (by decide) (by decide) (by decide) rfl (fun H2 lo2 hP2 hD2 hS2 => ?_)
  refine lv_aload_n hx hb dL_law_426 rfl (lv_at hl 2 rfl) ?_
  refine lv_aload_n hx hb dL_law_427 rfl (lv_at hl 0 rfl) ?_
  refine lv_iload hx hb dL_law_428 (lv_at hl 4 rfl) ?_
  refine lv_iconst (v := (1 : Int32)) hx hb dL_law_430 (by decide) ?_
  refine lv_iadd hx hb dL_law_431 ?_
  refine va_sld hx hb hX hbl hbA hS2 (in6 (k := 1) (by omega) hL) dL_law_432 ?_
  refine lv_aload_n hx hb dL_law_433 rfl (lv_at hl 0 rfl) ?_
  refine lv_iload hx hb dL_law_434 (lv_at hl 4 rfl) ?_
  refine lv_iconst (v := (2 : Int32)) hx hb dL_law_436 (by decide) ?_
  refine lv_iadd hx hb dL_law_437 ?_
  refine va_sld hx hb hX hbl hbA hS2 (in6 (k := 2) (by omega) hL) dL_law_438 ?_
  refine gcall_i (ws' := ((w_VB cI cB cZ aV aT aTb aP aPp aPf aD aDp aDf aR aRt aK aB aBb aBs aH aHk aHp aHb aHr tl tb pg ps pn pp pf dg ds dn dp df rl rk rp rt kp kb kk kn bb bs (nI l0) (nI h) jk jp jb jr) ++ ((w_Model cI cB cZ aM aMt aMn aMr aMs aMi 0 mtd msz mto mfr mso mnu rk mpl mwo (nI h) mgo mt mno mre msn mis) ++ [outC cJ aO fo]))) (va_runV (As := [.int (xs (nI (6 * i) + (1 : Int32)).toNatClampNeg), .int (xs (nI (6 * i) + (2 : Int32)).toNatClampNeg)]) (rest := [.int r]) ⟨hx, hb, hml, hown, hts⟩ (c_X7_value l D cI cB cZ ta aM aMt aMn aMr aMs aMi H2.size mth mtd msz mto mfr mso mnu rk mpl mwo (nI h) mgo mt mno mre msn mis ((xs (nI (6 * i) + (1 : Int32)).toNatClampNeg)) ((xs (nI (6 * i) + (2 : Int32)).toNatClampNeg)) r 0 e2) (cwV 2 hts gL_law_X7_value rfl rfl rfl (by decide +kernel) ⟨(Nat.le_of_ble_eq_true rfl), (Nat.le_of_ble_eq_true rfl)⟩) ⟨PW_blind, va_recv hK hP2 rfl (q0 := 20) rfl, PW_at hP2 hD2 hK3 hS2 hA hG [20, 21, 22, 23, 24, 25] rfl (by decide)⟩ rfl rfl hl.1 rfl (lv_room (Nat.le_of_ble_eq_true rfl)) dL_law_439 hc0) hP2 hD2 hS2 hA [20, 21, 22, 23, 24, 25] [0, 1, 2, 3, 4, 5, 6, 7, 8, 9, 10, 11, 12, 13, 14, 15, 16, 17, 18, 19, 26] [0, 1, 2, 3, 4, 5, 6, 7, 8, 9, 10, 11, 12, 13, 14, 15, 16, 17, 18, 19, 21, 22, 23, 24, 25, 26, 20] rfl rfl (by decide) (by decide) (by decide) rfl (fun H3 lo3 hP3 hD3 hS3 => ?_)
  refine lv_icmp_eq (tgt := 1073) hx hb dL_law_442 (by decide) (fun _ => ?_) (fun c9 => absurd rfl c9)
  refine W.widen (k := cells + 1) (n := slots + 6) (by omega) (by omega) ?_
  exact K tl tb pg ps pn pp pf dg ds dn dp df rl rk rp rt kp kb kk kn bb bs (nI l0) (nI h) jk jp jb jr 0 mtd msz mto mfr mso mnu rk mpl mwo (nI h) mgo mt mno mre msn mis fo ⟨T0, h, l0, A, R, H0, rfl, rfl, rfl, hc, hm, rfl⟩ H3 lo3 hP3 hD3 hS3 ls (lv_sub hl [0, 1, 2, 3, 4] rfl)
set_option maxHeartbeats 4000000 in
set_option maxRecDepth 100000 in
theorem lc_8 (hst : l.stackTraces = false) (E : LE p s m meth c D cI cB cZ cJ ta sa b L xs) {i cells slots : Nat} (hi : 6 * i + 6 ≤ L) (hL : L ≤ 3072) (hcs : cells + 1 ≤ 1052 ∧ slots + 6 ≤ 16861) (K : K73 p l e s m below meth c D cI cB cZ cJ aV aT aTb aP aPp aPf aD aDp aDf aR aRt aK aB aBb aBs aH aHk aHp aHb aHr aM aMt aMn aMr aMs aMi aO b i (cells + 1) (slots + 6)) (tl : Int32) (tb : (Nat → Int32)) (pg : Int32) (ps : Int32) (pn : Int32) (pp : (Nat → Int32)) (pf : (Nat → Int32)) (dg : Int32) (ds : Int32) (dn : Int32) (dp : (Nat → Int32)) (df : (Nat → Int32)) (rl : Int32) (rk : Int32) (rp : Int32) (rt : (Nat → Int32)) (kp : Int32) (kb : Int32) (kk : Int32) (kn : Int32) (bb : (Nat → Int32)) (bs : (Nat → Int32)) (jl : Int32) (jn : Int32) (jk : (Nat → Int32)) (jp : (Nat → Int32)) (jb : (Nat → Int32)) (jr : (Nat → Int32)) (mth : Int32) (mtd : Int32) (msz : Int32) (mto : Int32) (mfr : Int32) (mso : Int32) (mnu : Int32) (mfa : Int32) (mpl : Int32) (mwo : Int64) (msm : Int32) (mgo : Int32) (mt : (Nat → Int32)) (mno : (Nat → Int32)) (mre : (Nat → Int32)) (msn : (Nat → Int32)) (mis : (Nat → Int32)) (fo : Nat → Int64) (hI : Inv tl tb pg ps pn pp pf rk jl jn jk jp jb jr mtd mfa msm mt mno msn) (H : Heap) (lo : List Loc) (hP : va_P D vwCl ((w_VB cI cB cZ aV aT aTb aP aPp aPf aD aDp aDf aR aRt aK aB aBb aBs aH aHk aHp aHb aHr tl tb pg ps pn pp pf dg ds dn dp df rl rk rp rt kp kb kk kn bb bs jl jn jk jp jb jr) ++ ((w_Model cI cB cZ aM aMt aMn aMr aMs aMi mth mtd msz mto mfr mso mnu mfa mpl mwo msm mgo mt mno mre msn mis) ++ [outC cJ aO fo])) H) (hD : va_D (fun q : Nat => s.heap.size ≤ q) ((w_VB cI cB cZ aV aT aTb aP aPp aPf aD aDp aDf aR aRt aK aB aBb aBs aH aHk aHp aHb aHr tl tb pg ps pn pp pf dg ds dn dp df rl rk rp rt kp kb kk kn bb bs jl jn jk jp jb jr) ++ ((w_Model cI cB cZ aM aMt aMn aMr aMs aMi mth mtd msz mto mfr mso mnu mfa mpl mwo msm mgo mt mno mre msn mis) ++ [outC cJ aO fo]))) (hS : va_S (fun q : Nat => s.heap.size ≤ q) s.heap H lo) (ls : Array Slot) (hl : lv_has ls 7 [(0, .ref b), (1, .ref aV), (2, .ref aM), (3, .ref aO), (4, .int (nI (6 * i)))]) : W p l e room_1 s m #[Value.ref b] below meth c H lo cells slots (lw_Z below #[Value.ref b] s) (F0 m 447 ls []) := by
  obtain ⟨⟨hx, hb, hr, hml, hown, hts, hX, hbl, hlocks⟩, hK, hG, hN⟩ := E
  have hA : ∀ q : Nat, s.heap.size ≤ q → (fun q : Nat => s.heap.size ≤ q) q := fun _ h => h
  have hbA : ¬ (fun q : Nat => s.heap.size ≤ q) b := Nat.not_le.mpr hbl
  have hK3 : va_K D vwCl (tyG cI cB cZ) s := hK.sub [0, 1, 2] rfl
  obtain ⟨T0, h, l0, A, R, H0, rfl, rfl, rfl, hc, hm, rfl⟩ := hI
  have hc0 : cells + 0 ≤ room_1.cells ∧ slots + 0 ≤ room_1.slots := ⟨show cells + 0 ≤ 1052 by omega, show slots + 0 ≤ 16861 by omega⟩
  obtain ⟨r, e1, e2⟩ := op_how (H0.2.2.1 0 (Nat.zero_le _)) hc hm mth (xs (nI (6 * i) + (1 : Int32)).toNatClampNeg) (xs (nI (6 * i) + (2 : Int32)).toNatClampNeg) (xs (nI (6 * i) + (3 : Int32)).toNatClampNeg)
  refine lv_aload_n hx hb dL_law_447 rfl (lv_at hl 1 rfl) ?_
  refine lv_aload_n hx hb dL_law_448 rfl (lv_at hl 0 rfl) ?_
  refine lv_iload hx hb dL_law_449 (lv_at hl 4 rfl) ?_
  refine lv_iconst (v := (1 : Int32)) hx hb dL_law_451 (by decide) ?_
  refine lv_iadd hx hb dL_law_452 ?_
  refine va_sld hx hb hX hbl hbA hS (in6 (k := 1) (by omega) hL) dL_law_453 ?_
  refine lv_aload_n hx hb dL_law_454 rfl (lv_at hl 0 rfl) ?_
  refine lv_iload hx hb dL_law_455 (lv_at hl 4 rfl) ?_
  refine lv_iconst (v := (2 : Int32)) hx hb dL_law_457 (by decide) ?_
  refine lv_iadd hx hb dL_law_458 ?_
  refine va_sld hx hb hX hbl hbA hS (in6 (k := 2) (by omega) hL) dL_law_459 ?_
  refine lv_aload_n hx hb dL_law_460 rfl (lv_at hl 0 rfl) ?_
  refine lv_iload hx hb dL_law_461 (lv_at hl 4 rfl) ?_
  refine lv_iconst (v := (3 : Int32)) hx hb dL_law_463 (by decide) ?_
  refine lv_iadd hx hb dL_law_464 ?_
  refine va_sld hx hb hX hbl hbA hS (in6 (k := 3) (by omega) hL) dL_law_465 ?_
  refine gcall_i (ws' := ((w_VB cI cB cZ aV aT aTb aP aPp aPf aD aDp aDf aR aRt aK aB aBb aBs aH aHk aHp aHb aHr tl tb pg ps pn pp pf dg ds dn dp df rl rk rp rt kp kb kk kn bb bs (nI l0) (nI h) jk jp jb jr) ++ ((w_Model cI cB cZ aM aMt aMn aMr aMs aMi mth mtd msz mto mfr mso mnu rk mpl mwo (nI h) mgo mt mno mre msn mis) ++ [outC cJ aO fo]))) (va_runV (As := [.int (xs (nI (6 * i) + (1 : Int32)).toNatClampNeg), .int (xs (nI (6 * i) + (2 : Int32)).toNatClampNeg), .int (xs (nI (6 * i) + (3 : Int32)).toNatClampNeg)]) (rest := []) ⟨hx, hb, hml, hown, hts⟩ (c_X6_how l D cI cB cZ ta aV aT aTb aP aPp aPf aD aDp aDf aR aRt aK aB aBb aBs aH aHk aHp aHb aHr H.size tl tb pg ps pn pp pf dg ds dn dp df rl rk rp rt kp kb kk kn bb bs (nI l0) (nI h) jk jp jb jr ((xs (nI (6 * i) + (1 : Int32)).toNatClampNeg)) ((xs (nI (6 * i) + (2 : Int32)).toNatClampNeg)) ((xs (nI (6 * i) + (3 : Int32)).toNatClampNeg)) r e1) (cwV 3 hts gL_law_X6_how rfl rfl rfl (by decide +kernel) ⟨(Nat.le_of_ble_eq_true rfl), (Nat.le_of_ble_eq_true rfl)⟩) ⟨PW_blind, va_recv hK hP rfl (q0 := 0) rfl, PW_at hP hD hK3 hS hA hG [0, 1, 2, 3, 4, 5, 6, 7, 8, 9, 10, 11, 12, 13, 14, 15, 16, 17, 18, 19] rfl (by decide)⟩ rfl rfl hl.1 rfl (lv_room (Nat.le_of_ble_eq_true rfl)) dL_law_466 hc0) hP hD hS hA [0, 1, 2, 3, 4, 5, 6, 7, 8, 9, 10, 11, 12, 13, 14, 15, 16, 17, 18, 19] [20, 21, 22, 23, 24, 25, 26] [7, 8, 9, 10, 11, 12, 13, 14, 15, 16, 17, 18, 19, 20, 21, 22, 23, 24, 25, 26, 0, 1, 2, 3, 4, 5, 6] rfl rfl (by decide) (by decide) (by decide) rfl (fun H2 lo2 hP2 hD2 hS2 => ?_)
  refine lv_aload_n hx hb dL_law_469 rfl (lv_at hl 2 rfl) ?_
  refine lv_aload_n hx hb dL_law_470 rfl (lv_at hl 0 rfl) ?_
  refine lv_iload hx hb dL_law_471 (lv_at hl 4 rfl) ?_
  refine lv_iconst (v := (1 : Int32)) hx hb dL_law_473 (by decide) ?_
  refine lv_iadd hx hb dL_law_474 ?_
  refine va_sld hx hb hX hbl hbA hS2 (in6 (k := 1) (by omega) hL) dL_law_475 ?_
  refine lv_aload_n hx hb dL_law_476 rfl (lv_at hl 0 rfl) ?_
  refine lv_iload hx hb dL_law_477 (lv_at hl 4 rfl) ?_
  refine lv_iconst (v := (2 : Int32)) hx hb dL_law_479 (by decide) ?_
  refine lv_iadd hx hb dL_law_480 ?_
  refine va_sld hx hb hX hbl hbA hS2 (in6 (k := 2) (by omega) hL) dL_law_481 ?_
  refine lv_aload_n hx hb dL_law_482 rfl (lv_at hl 0 rfl) ?_
  refine lv_iload hx hb dL_law_483 (lv_at hl 4 rfl) ?_
  refine lv_iconst (v := (3 : Int32)) hx hb dL_law_485 (by decide) ?_
  refine lv_iadd hx hb dL_law_486 ?_
  refine va_sld hx hb hX hbl hbA hS2 (in6 (k := 3) (by omega) hL) dL_law_487 ?_
  refine gcall_i (ws' := ((w_VB cI cB cZ aV aT aTb aP aPp aPf aD aDp aDf aR aRt aK aB aBb aBs aH aHk aHp aHb aHr tl tb pg ps pn pp pf dg ds dn dp df rl rk rp rt kp kb kk kn bb bs (nI l0) (nI h) jk jp jb jr) ++ ((w_Model cI cB cZ aM aMt aMn aMr aMs aMi 0 mtd msz mto mfr mso mnu rk mpl mwo (nI h) mgo mt mno mre msn mis) ++ [outC cJ aO fo]))) (va_runV (As := [.int (xs (nI (6 * i) + (1 : Int32)).toNatClampNeg), .int (xs (nI (6 * i) + (2 : Int32)).toNatClampNeg), .int (xs (nI (6 * i) + (3 : Int32)).toNatClampNeg)]) (rest := [.int r]) ⟨hx, hb, hml, hown, hts⟩ (c_X7_how l D cI cB cZ ta aM aMt aMn aMr aMs aMi H2.size mth mtd msz mto mfr mso mnu rk mpl mwo (nI h) mgo mt mno mre msn mis ((xs (nI (6 * i) + (1 : Int32)).toNatClampNeg)) ((xs (nI (6 * i) + (2 : Int32)).toNatClampNeg)) ((xs (nI (6 * i) + (3 : Int32)).toNatClampNeg)) r 0 e2) (cwV 3 hts gL_law_X7_how rfl rfl rfl (by decide +kernel) ⟨(Nat.le_of_ble_eq_true rfl), (Nat.le_of_ble_eq_true rfl)⟩) ⟨PW_blind, va_recv hK hP2 rfl (q0 := 20) rfl, PW_at hP2 hD2 hK3 hS2 hA hG [20, 21, 22, 23, 24, 25] rfl (by decide)⟩ rfl rfl hl.1 rfl (lv_room (Nat.le_of_ble_eq_true rfl)) dL_law_488 hc0) hP2 hD2 hS2 hA [20, 21, 22, 23, 24, 25] [0, 1, 2, 3, 4, 5, 6, 7, 8, 9, 10, 11, 12, 13, 14, 15, 16, 17, 18, 19, 26] [0, 1, 2, 3, 4, 5, 6, 7, 8, 9, 10, 11, 12, 13, 14, 15, 16, 17, 18, 19, 21, 22, 23, 24, 25, 26, 20] rfl rfl (by decide) (by decide) (by decide) rfl (fun H3 lo3 hP3 hD3 hS3 => ?_)
  refine lv_icmp_eq (tgt := 1073) hx hb dL_law_491 (by decide) (fun _ => ?_) (fun c9 => absurd rfl c9)
  refine W.widen (k := cells + 1) (n := slots + 6) (by omega) (by omega) ?_
  exact K tl tb pg ps pn pp pf dg ds dn dp df rl rk rp rt kp kb kk kn bb bs (nI l0) (nI h) jk jp jb jr 0 mtd msz mto mfr mso mnu rk mpl mwo (nI h) mgo mt mno mre msn mis fo ⟨T0, h, l0, A, R, H0, rfl, rfl, rfl, hc, hm, rfl⟩ H3 lo3 hP3 hD3 hS3 ls (lv_sub hl [0, 1, 2, 3, 4] rfl)
set_option maxHeartbeats 4000000 in
set_option maxRecDepth 100000 in
theorem lc_9 (hst : l.stackTraces = false) (E : LE p s m meth c D cI cB cZ cJ ta sa b L xs) {i cells slots : Nat} (hi : 6 * i + 6 ≤ L) (hL : L ≤ 3072) (hcs : cells + 1 ≤ 1052 ∧ slots + 6 ≤ 16861) (K : K73 p l e s m below meth c D cI cB cZ cJ aV aT aTb aP aPp aPf aD aDp aDf aR aRt aK aB aBb aBs aH aHk aHp aHb aHr aM aMt aMn aMr aMs aMi aO b i (cells + 1) (slots + 6)) (tl : Int32) (tb : (Nat → Int32)) (pg : Int32) (ps : Int32) (pn : Int32) (pp : (Nat → Int32)) (pf : (Nat → Int32)) (dg : Int32) (ds : Int32) (dn : Int32) (dp : (Nat → Int32)) (df : (Nat → Int32)) (rl : Int32) (rk : Int32) (rp : Int32) (rt : (Nat → Int32)) (kp : Int32) (kb : Int32) (kk : Int32) (kn : Int32) (bb : (Nat → Int32)) (bs : (Nat → Int32)) (jl : Int32) (jn : Int32) (jk : (Nat → Int32)) (jp : (Nat → Int32)) (jb : (Nat → Int32)) (jr : (Nat → Int32)) (mth : Int32) (mtd : Int32) (msz : Int32) (mto : Int32) (mfr : Int32) (mso : Int32) (mnu : Int32) (mfa : Int32) (mpl : Int32) (mwo : Int64) (msm : Int32) (mgo : Int32) (mt : (Nat → Int32)) (mno : (Nat → Int32)) (mre : (Nat → Int32)) (msn : (Nat → Int32)) (mis : (Nat → Int32)) (fo : Nat → Int64) (hI : Inv tl tb pg ps pn pp pf rk jl jn jk jp jb jr mtd mfa msm mt mno msn) (H : Heap) (lo : List Loc) (hP : va_P D vwCl ((w_VB cI cB cZ aV aT aTb aP aPp aPf aD aDp aDf aR aRt aK aB aBb aBs aH aHk aHp aHb aHr tl tb pg ps pn pp pf dg ds dn dp df rl rk rp rt kp kb kk kn bb bs jl jn jk jp jb jr) ++ ((w_Model cI cB cZ aM aMt aMn aMr aMs aMi mth mtd msz mto mfr mso mnu mfa mpl mwo msm mgo mt mno mre msn mis) ++ [outC cJ aO fo])) H) (hD : va_D (fun q : Nat => s.heap.size ≤ q) ((w_VB cI cB cZ aV aT aTb aP aPp aPf aD aDp aDf aR aRt aK aB aBb aBs aH aHk aHp aHb aHr tl tb pg ps pn pp pf dg ds dn dp df rl rk rp rt kp kb kk kn bb bs jl jn jk jp jb jr) ++ ((w_Model cI cB cZ aM aMt aMn aMr aMs aMi mth mtd msz mto mfr mso mnu mfa mpl mwo msm mgo mt mno mre msn mis) ++ [outC cJ aO fo]))) (hS : va_S (fun q : Nat => s.heap.size ≤ q) s.heap H lo) (ls : Array Slot) (hl : lv_has ls 7 [(0, .ref b), (1, .ref aV), (2, .ref aM), (3, .ref aO), (4, .int (nI (6 * i)))]) : W p l e room_1 s m #[Value.ref b] below meth c H lo cells slots (lw_Z below #[Value.ref b] s) (F0 m 496 ls []) := by
  obtain ⟨⟨hx, hb, hr, hml, hown, hts, hX, hbl, hlocks⟩, hK, hG, hN⟩ := E
  have hA : ∀ q : Nat, s.heap.size ≤ q → (fun q : Nat => s.heap.size ≤ q) q := fun _ h => h
  have hbA : ¬ (fun q : Nat => s.heap.size ≤ q) b := Nat.not_le.mpr hbl
  have hK3 : va_K D vwCl (tyG cI cB cZ) s := hK.sub [0, 1, 2] rfl
  obtain ⟨T0, h, l0, A, R, H0, rfl, rfl, rfl, hc, hm, rfl⟩ := hI
  have hc0 : cells + 0 ≤ room_1.cells ∧ slots + 0 ≤ room_1.slots := ⟨show cells + 0 ≤ 1052 by omega, show slots + 0 ≤ 16861 by omega⟩
  obtain ⟨r, e1, e2⟩ := op_order mth (xs (nI (6 * i) + (1 : Int32)).toNatClampNeg)
  refine lv_aload_n hx hb dL_law_496 rfl (lv_at hl 1 rfl) ?_
  refine lv_aload_n hx hb dL_law_497 rfl (lv_at hl 0 rfl) ?_
  refine lv_iload hx hb dL_law_498 (lv_at hl 4 rfl) ?_
  refine lv_iconst (v := (1 : Int32)) hx hb dL_law_500 (by decide) ?_
  refine lv_iadd hx hb dL_law_501 ?_
  refine va_sld hx hb hX hbl hbA hS (in6 (k := 1) (by omega) hL) dL_law_502 ?_
  refine gcall_i (ws' := ((w_VB cI cB cZ aV aT aTb aP aPp aPf aD aDp aDf aR aRt aK aB aBb aBs aH aHk aHp aHb aHr tl tb pg ps pn pp pf dg ds dn dp df rl rk rp rt kp kb kk kn bb bs (nI l0) (nI h) jk jp jb jr) ++ ((w_Model cI cB cZ aM aMt aMn aMr aMs aMi mth mtd msz mto mfr mso mnu rk mpl mwo (nI h) mgo mt mno mre msn mis) ++ [outC cJ aO fo]))) (va_runV (As := [.int (xs (nI (6 * i) + (1 : Int32)).toNatClampNeg)]) (rest := []) ⟨hx, hb, hml, hown, hts⟩ (c_X6_order l D cI cB cZ ta aV aT aTb aP aPp aPf aD aDp aDf aR aRt aK aB aBb aBs aH aHk aHp aHb aHr H.size tl tb pg ps pn pp pf dg ds dn dp df rl rk rp rt kp kb kk kn bb bs (nI l0) (nI h) jk jp jb jr ((xs (nI (6 * i) + (1 : Int32)).toNatClampNeg)) r e1) (cwV 1 hts gL_law_X6_order rfl rfl rfl (by decide +kernel) ⟨(Nat.le_of_ble_eq_true rfl), (Nat.le_of_ble_eq_true rfl)⟩) ⟨PW_blind, va_recv hK hP rfl (q0 := 0) rfl, PW_at hP hD hK3 hS hA hG [0, 1, 2, 3, 4, 5, 6, 7, 8, 9, 10, 11, 12, 13, 14, 15, 16, 17, 18, 19] rfl (by decide)⟩ rfl rfl hl.1 rfl (lv_room (Nat.le_of_ble_eq_true rfl)) dL_law_503 hc0) hP hD hS hA [0, 1, 2, 3, 4, 5, 6, 7, 8, 9, 10, 11, 12, 13, 14, 15, 16, 17, 18, 19] [20, 21, 22, 23, 24, 25, 26] [7, 8, 9, 10, 11, 12, 13, 14, 15, 16, 17, 18, 19, 20, 21, 22, 23, 24, 25, 26, 0, 1, 2, 3, 4, 5, 6] rfl rfl (by decide) (by decide) (by decide) rfl (fun H2 lo2 hP2 hD2 hS2 => ?_)
  refine lv_aload_n hx hb dL_law_506 rfl (lv_at hl 2 rfl) ?_
  refine lv_aload_n hx hb dL_law_507 rfl (lv_at hl 0 rfl) ?_
  refine lv_iload hx hb dL_law_508 (lv_at hl 4 rfl) ?_
  refine lv_iconst (v := (1 : Int32)) hx hb dL_law_510 (by decide) ?_
  refine lv_iadd hx hb dL_law_511 ?_
  refine va_sld hx hb hX hbl hbA hS2 (in6 (k := 1) (by omega) hL) dL_law_512 ?_
  refine gcall_i (ws' := ((w_VB cI cB cZ aV aT aTb aP aPp aPf aD aDp aDf aR aRt aK aB aBb aBs aH aHk aHp aHb aHr tl tb pg ps pn pp pf dg ds dn dp df rl rk rp rt kp kb kk kn bb bs (nI l0) (nI h) jk jp jb jr) ++ ((w_Model cI cB cZ aM aMt aMn aMr aMs aMi 0 mtd msz mto mfr mso mnu rk mpl mwo (nI h) mgo mt mno mre msn mis) ++ [outC cJ aO fo]))) (va_runV (As := [.int (xs (nI (6 * i) + (1 : Int32)).toNatClampNeg)]) (rest := [.int r]) ⟨hx, hb, hml, hown, hts⟩ (c_X7_order l D cI cB cZ ta aM aMt aMn aMr aMs aMi H2.size mth mtd msz mto mfr mso mnu rk mpl mwo (nI h) mgo mt mno mre msn mis ((xs (nI (6 * i) + (1 : Int32)).toNatClampNeg)) r 0 e2) (cwV 1 hts gL_law_X7_order rfl rfl rfl (by decide +kernel) ⟨(Nat.le_of_ble_eq_true rfl), (Nat.le_of_ble_eq_true rfl)⟩) ⟨PW_blind, va_recv hK hP2 rfl (q0 := 20) rfl, PW_at hP2 hD2 hK3 hS2 hA hG [20, 21, 22, 23, 24, 25] rfl (by decide)⟩ rfl rfl hl.1 rfl (lv_room (Nat.le_of_ble_eq_true rfl)) dL_law_513 hc0) hP2 hD2 hS2 hA [20, 21, 22, 23, 24, 25] [0, 1, 2, 3, 4, 5, 6, 7, 8, 9, 10, 11, 12, 13, 14, 15, 16, 17, 18, 19, 26] [0, 1, 2, 3, 4, 5, 6, 7, 8, 9, 10, 11, 12, 13, 14, 15, 16, 17, 18, 19, 21, 22, 23, 24, 25, 26, 20] rfl rfl (by decide) (by decide) (by decide) rfl (fun H3 lo3 hP3 hD3 hS3 => ?_)
  refine lv_icmp_eq (tgt := 1073) hx hb dL_law_516 (by decide) (fun _ => ?_) (fun c9 => absurd rfl c9)
  refine W.widen (k := cells + 1) (n := slots + 6) (by omega) (by omega) ?_
  exact K tl tb pg ps pn pp pf dg ds dn dp df rl rk rp rt kp kb kk kn bb bs (nI l0) (nI h) jk jp jb jr 0 mtd msz mto mfr mso mnu rk mpl mwo (nI h) mgo mt mno mre msn mis fo ⟨T0, h, l0, A, R, H0, rfl, rfl, rfl, hc, hm, rfl⟩ H3 lo3 hP3 hD3 hS3 ls (lv_sub hl [0, 1, 2, 3, 4] rfl)
set_option maxHeartbeats 4000000 in
set_option maxRecDepth 100000 in
theorem lc_10 (hst : l.stackTraces = false) (E : LE p s m meth c D cI cB cZ cJ ta sa b L xs) {i cells slots : Nat} (hi : 6 * i + 6 ≤ L) (hL : L ≤ 3072) (hcs : cells + 1 ≤ 1052 ∧ slots + 6 ≤ 16861) (K : K73 p l e s m below meth c D cI cB cZ cJ aV aT aTb aP aPp aPf aD aDp aDf aR aRt aK aB aBb aBs aH aHk aHp aHb aHr aM aMt aMn aMr aMs aMi aO b i (cells + 1) (slots + 6)) (tl : Int32) (tb : (Nat → Int32)) (pg : Int32) (ps : Int32) (pn : Int32) (pp : (Nat → Int32)) (pf : (Nat → Int32)) (dg : Int32) (ds : Int32) (dn : Int32) (dp : (Nat → Int32)) (df : (Nat → Int32)) (rl : Int32) (rk : Int32) (rp : Int32) (rt : (Nat → Int32)) (kp : Int32) (kb : Int32) (kk : Int32) (kn : Int32) (bb : (Nat → Int32)) (bs : (Nat → Int32)) (jl : Int32) (jn : Int32) (jk : (Nat → Int32)) (jp : (Nat → Int32)) (jb : (Nat → Int32)) (jr : (Nat → Int32)) (mth : Int32) (mtd : Int32) (msz : Int32) (mto : Int32) (mfr : Int32) (mso : Int32) (mnu : Int32) (mfa : Int32) (mpl : Int32) (mwo : Int64) (msm : Int32) (mgo : Int32) (mt : (Nat → Int32)) (mno : (Nat → Int32)) (mre : (Nat → Int32)) (msn : (Nat → Int32)) (mis : (Nat → Int32)) (fo : Nat → Int64) (hI : Inv tl tb pg ps pn pp pf rk jl jn jk jp jb jr mtd mfa msm mt mno msn) (H : Heap) (lo : List Loc) (hP : va_P D vwCl ((w_VB cI cB cZ aV aT aTb aP aPp aPf aD aDp aDf aR aRt aK aB aBb aBs aH aHk aHp aHb aHr tl tb pg ps pn pp pf dg ds dn dp df rl rk rp rt kp kb kk kn bb bs jl jn jk jp jb jr) ++ ((w_Model cI cB cZ aM aMt aMn aMr aMs aMi mth mtd msz mto mfr mso mnu mfa mpl mwo msm mgo mt mno mre msn mis) ++ [outC cJ aO fo])) H) (hD : va_D (fun q : Nat => s.heap.size ≤ q) ((w_VB cI cB cZ aV aT aTb aP aPp aPf aD aDp aDf aR aRt aK aB aBb aBs aH aHk aHp aHb aHr tl tb pg ps pn pp pf dg ds dn dp df rl rk rp rt kp kb kk kn bb bs jl jn jk jp jb jr) ++ ((w_Model cI cB cZ aM aMt aMn aMr aMs aMi mth mtd msz mto mfr mso mnu mfa mpl mwo msm mgo mt mno mre msn mis) ++ [outC cJ aO fo]))) (hS : va_S (fun q : Nat => s.heap.size ≤ q) s.heap H lo) (ls : Array Slot) (hl : lv_has ls 7 [(0, .ref b), (1, .ref aV), (2, .ref aM), (3, .ref aO), (4, .int (nI (6 * i)))]) : W p l e room_1 s m #[Value.ref b] below meth c H lo cells slots (lw_Z below #[Value.ref b] s) (F0 m 521 ls []) := by
  obtain ⟨⟨hx, hb, hr, hml, hown, hts, hX, hbl, hlocks⟩, hK, hG, hN⟩ := E
  have hA : ∀ q : Nat, s.heap.size ≤ q → (fun q : Nat => s.heap.size ≤ q) q := fun _ h => h
  have hbA : ¬ (fun q : Nat => s.heap.size ≤ q) b := Nat.not_le.mpr hbl
  have hK3 : va_K D vwCl (tyG cI cB cZ) s := hK.sub [0, 1, 2] rfl
  obtain ⟨T0, h, l0, A, R, H0, rfl, rfl, rfl, hc, hm, rfl⟩ := hI
  have hc0 : cells + 0 ≤ room_1.cells ∧ slots + 0 ≤ room_1.slots := ⟨show cells + 0 ≤ 1052 by omega, show slots + 0 ≤ 16861 by omega⟩
  obtain ⟨r, bb1, e1, e2⟩ := op_effect (H0.2.2.1 0 (Nat.zero_le _)) hc hm bb mth (xs (nI (6 * i) + (1 : Int32)).toNatClampNeg) (xs (nI (6 * i) + (2 : Int32)).toNatClampNeg) (xs (nI (6 * i) + (3 : Int32)).toNatClampNeg) (xs (nI (6 * i) + (4 : Int32)).toNatClampNeg) (xs (nI (6 * i) + (5 : Int32)).toNatClampNeg)
  refine lv_aload_n hx hb dL_law_521 rfl (lv_at hl 1 rfl) ?_
  refine lv_aload_n hx hb dL_law_522 rfl (lv_at hl 0 rfl) ?_
  refine lv_iload hx hb dL_law_523 (lv_at hl 4 rfl) ?_
  refine lv_iconst (v := (1 : Int32)) hx hb dL_law_525 (by decide) ?_
  refine lv_iadd hx hb dL_law_526 ?_
  refine va_sld hx hb hX hbl hbA hS (in6 (k := 1) (by omega) hL) dL_law_527 ?_
  refine lv_aload_n hx hb dL_law_528 rfl (lv_at hl 0 rfl) ?_
  refine lv_iload hx hb dL_law_529 (lv_at hl 4 rfl) ?_
  refine lv_iconst (v := (2 : Int32)) hx hb dL_law_531 (by decide) ?_
  refine lv_iadd hx hb dL_law_532 ?_
  refine va_sld hx hb hX hbl hbA hS (in6 (k := 2) (by omega) hL) dL_law_533 ?_
  refine lv_aload_n hx hb dL_law_534 rfl (lv_at hl 0 rfl) ?_
  refine lv_iload hx hb dL_law_535 (lv_at hl 4 rfl) ?_
  refine lv_iconst (v := (3 : Int32)) hx hb dL_law_537 (by decide) ?_
  refine lv_iadd hx hb dL_law_538 ?_
  refine va_sld hx hb hX hbl hbA hS (in6 (k := 3) (by omega) hL) dL_law_539 ?_
  refine lv_aload_n hx hb dL_law_540 rfl (lv_at hl 0 rfl) ?_
  refine lv_iload hx hb dL_law_541 (lv_at hl 4 rfl) ?_
  refine lv_iconst (v := (4 : Int32)) hx hb dL_law_543 (by decide) ?_
  refine lv_iadd hx hb dL_law_544 ?_
  refine va_sld hx hb hX hbl hbA hS (in6 (k := 4) (by omega) hL) dL_law_545 ?_
  refine lv_aload_n hx hb dL_law_546 rfl (lv_at hl 0 rfl) ?_
  refine lv_iload hx hb dL_law_547 (lv_at hl 4 rfl) ?_
  refine lv_iconst (v := (5 : Int32)) hx hb dL_law_549 (by decide) ?_
  refine lv_iadd hx hb dL_law_550 ?_
  refine va_sld hx hb hX hbl hbA hS (in6 (k := 5) (by omega) hL) dL_law_551 ?_
  refine gcall_i (ws' := ((w_VB cI cB cZ aV aT aTb aP aPp aPf aD aDp aDf aR aRt aK aB aBb aBs aH aHk aHp aHb aHr tl tb pg ps pn pp pf dg ds dn dp df rl rk rp rt kp kb kk kn bb1 bs (nI l0) (nI h) jk jp jb jr) ++ ((w_Model cI cB cZ aM aMt aMn aMr aMs aMi mth mtd msz mto mfr mso mnu rk mpl mwo (nI h) mgo mt mno mre msn mis) ++ [outC cJ aO fo]))) (va_runV (As := [.int (xs (nI (6 * i) + (1 : Int32)).toNatClampNeg), .int (xs (nI (6 * i) + (2 : Int32)).toNatClampNeg), .int (xs (nI (6 * i) + (3 : Int32)).toNatClampNeg), .int (xs (nI (6 * i) + (4 : Int32)).toNatClampNeg), .int (xs (nI (6 * i) + (5 : Int32)).toNatClampNeg)]) (rest := []) ⟨hx, hb, hml, hown, hts⟩ (c_X6_effect l D cI cB cZ ta aV aT aTb aP aPp aPf aD aDp aDf aR aRt aK aB aBb aBs aH aHk aHp aHb aHr H.size tl tb pg ps pn pp pf dg ds dn dp df rl rk rp rt kp kb kk kn bb bs (nI l0) (nI h) jk jp jb jr ((xs (nI (6 * i) + (1 : Int32)).toNatClampNeg)) ((xs (nI (6 * i) + (2 : Int32)).toNatClampNeg)) ((xs (nI (6 * i) + (3 : Int32)).toNatClampNeg)) ((xs (nI (6 * i) + (4 : Int32)).toNatClampNeg)) ((xs (nI (6 * i) + (5 : Int32)).toNatClampNeg)) r bb1 e1) (cwV 5 hts gL_law_X6_effect rfl rfl rfl (by decide +kernel) ⟨(Nat.le_of_ble_eq_true rfl), (Nat.le_of_ble_eq_true rfl)⟩) ⟨PW_blind, va_recv hK hP rfl (q0 := 0) rfl, PW_at hP hD hK3 hS hA hG [0, 1, 2, 3, 4, 5, 6, 7, 8, 9, 10, 11, 12, 13, 14, 15, 16, 17, 18, 19] rfl (by decide)⟩ rfl rfl hl.1 rfl (lv_room (Nat.le_of_ble_eq_true rfl)) dL_law_552 hc0) hP hD hS hA [0, 1, 2, 3, 4, 5, 6, 7, 8, 9, 10, 11, 12, 13, 14, 15, 16, 17, 18, 19] [20, 21, 22, 23, 24, 25, 26] [7, 8, 9, 10, 11, 12, 13, 14, 15, 16, 17, 18, 19, 20, 21, 22, 23, 24, 25, 26, 0, 1, 2, 3, 4, 5, 6] rfl rfl (by decide) (by decide) (by decide) rfl (fun H2 lo2 hP2 hD2 hS2 => ?_)
  refine lv_aload_n hx hb dL_law_555 rfl (lv_at hl 2 rfl) ?_
  refine lv_aload_n hx hb dL_law_556 rfl (lv_at hl 0 rfl) ?_
  refine lv_iload hx hb dL_law_557 (lv_at hl 4 rfl) ?_
  refine lv_iconst (v := (1 : Int32)) hx hb dL_law_559 (by decide) ?_
  refine lv_iadd hx hb dL_law_560 ?_
  refine va_sld hx hb hX hbl hbA hS2 (in6 (k := 1) (by omega) hL) dL_law_561 ?_
  refine lv_aload_n hx hb dL_law_562 rfl (lv_at hl 0 rfl) ?_
  refine lv_iload hx hb dL_law_563 (lv_at hl 4 rfl) ?_
  refine lv_iconst (v := (2 : Int32)) hx hb dL_law_565 (by decide) ?_
  refine lv_iadd hx hb dL_law_566 ?_
  refine va_sld hx hb hX hbl hbA hS2 (in6 (k := 2) (by omega) hL) dL_law_567 ?_
  refine lv_aload_n hx hb dL_law_568 rfl (lv_at hl 0 rfl) ?_
  refine lv_iload hx hb dL_law_569 (lv_at hl 4 rfl) ?_
  refine lv_iconst (v := (3 : Int32)) hx hb dL_law_571 (by decide) ?_
  refine lv_iadd hx hb dL_law_572 ?_
  refine va_sld hx hb hX hbl hbA hS2 (in6 (k := 3) (by omega) hL) dL_law_573 ?_
  refine lv_aload_n hx hb dL_law_574 rfl (lv_at hl 0 rfl) ?_
  refine lv_iload hx hb dL_law_575 (lv_at hl 4 rfl) ?_
  refine lv_iconst (v := (4 : Int32)) hx hb dL_law_577 (by decide) ?_
  refine lv_iadd hx hb dL_law_578 ?_
  refine va_sld hx hb hX hbl hbA hS2 (in6 (k := 4) (by omega) hL) dL_law_579 ?_
  refine lv_aload_n hx hb dL_law_580 rfl (lv_at hl 0 rfl) ?_
  refine lv_iload hx hb dL_law_581 (lv_at hl 4 rfl) ?_
  refine lv_iconst (v := (5 : Int32)) hx hb dL_law_583 (by decide) ?_
  refine lv_iadd hx hb dL_law_584 ?_
  refine va_sld hx hb hX hbl hbA hS2 (in6 (k := 5) (by omega) hL) dL_law_585 ?_
  refine gcall_i (ws' := ((w_VB cI cB cZ aV aT aTb aP aPp aPf aD aDp aDf aR aRt aK aB aBb aBs aH aHk aHp aHb aHr tl tb pg ps pn pp pf dg ds dn dp df rl rk rp rt kp kb kk kn bb1 bs (nI l0) (nI h) jk jp jb jr) ++ ((w_Model cI cB cZ aM aMt aMn aMr aMs aMi 0 mtd msz mto mfr mso mnu rk mpl mwo (nI h) mgo mt mno mre msn mis) ++ [outC cJ aO fo]))) (va_runV (As := [.int (xs (nI (6 * i) + (1 : Int32)).toNatClampNeg), .int (xs (nI (6 * i) + (2 : Int32)).toNatClampNeg), .int (xs (nI (6 * i) + (3 : Int32)).toNatClampNeg), .int (xs (nI (6 * i) + (4 : Int32)).toNatClampNeg), .int (xs (nI (6 * i) + (5 : Int32)).toNatClampNeg)]) (rest := [.int r]) ⟨hx, hb, hml, hown, hts⟩ (c_X7_effect l D cI cB cZ ta aM aMt aMn aMr aMs aMi H2.size mth mtd msz mto mfr mso mnu rk mpl mwo (nI h) mgo mt mno mre msn mis ((xs (nI (6 * i) + (1 : Int32)).toNatClampNeg)) ((xs (nI (6 * i) + (2 : Int32)).toNatClampNeg)) ((xs (nI (6 * i) + (3 : Int32)).toNatClampNeg)) ((xs (nI (6 * i) + (4 : Int32)).toNatClampNeg)) ((xs (nI (6 * i) + (5 : Int32)).toNatClampNeg)) r 0 e2) (cwV 5 hts gL_law_X7_effect rfl rfl rfl (by decide +kernel) ⟨(Nat.le_of_ble_eq_true rfl), (Nat.le_of_ble_eq_true rfl)⟩) ⟨PW_blind, va_recv hK hP2 rfl (q0 := 20) rfl, PW_at hP2 hD2 hK3 hS2 hA hG [20, 21, 22, 23, 24, 25] rfl (by decide)⟩ rfl rfl hl.1 rfl (lv_room (Nat.le_of_ble_eq_true rfl)) dL_law_586 hc0) hP2 hD2 hS2 hA [20, 21, 22, 23, 24, 25] [0, 1, 2, 3, 4, 5, 6, 7, 8, 9, 10, 11, 12, 13, 14, 15, 16, 17, 18, 19, 26] [0, 1, 2, 3, 4, 5, 6, 7, 8, 9, 10, 11, 12, 13, 14, 15, 16, 17, 18, 19, 21, 22, 23, 24, 25, 26, 20] rfl rfl (by decide) (by decide) (by decide) rfl (fun H3 lo3 hP3 hD3 hS3 => ?_)
  refine lv_icmp_eq (tgt := 1073) hx hb dL_law_589 (by decide) (fun _ => ?_) (fun c9 => absurd rfl c9)
  refine W.widen (k := cells + 1) (n := slots + 6) (by omega) (by omega) ?_
  exact K tl tb pg ps pn pp pf dg ds dn dp df rl rk rp rt kp kb kk kn bb1 bs (nI l0) (nI h) jk jp jb jr 0 mtd msz mto mfr mso mnu rk mpl mwo (nI h) mgo mt mno mre msn mis fo ⟨T0, h, l0, A, R, H0, rfl, rfl, rfl, hc, hm, rfl⟩ H3 lo3 hP3 hD3 hS3 ls (lv_sub hl [0, 1, 2, 3, 4] rfl)
set_option maxHeartbeats 4000000 in
set_option maxRecDepth 100000 in
theorem lc_11 (hst : l.stackTraces = false) (E : LE p s m meth c D cI cB cZ cJ ta sa b L xs) {i cells slots : Nat} (hi : 6 * i + 6 ≤ L) (hL : L ≤ 3072) (hcs : cells + 1 ≤ 1052 ∧ slots + 6 ≤ 16861) (K : K73 p l e s m below meth c D cI cB cZ cJ aV aT aTb aP aPp aPf aD aDp aDf aR aRt aK aB aBb aBs aH aHk aHp aHb aHr aM aMt aMn aMr aMs aMi aO b i (cells + 1) (slots + 6)) (tl : Int32) (tb : (Nat → Int32)) (pg : Int32) (ps : Int32) (pn : Int32) (pp : (Nat → Int32)) (pf : (Nat → Int32)) (dg : Int32) (ds : Int32) (dn : Int32) (dp : (Nat → Int32)) (df : (Nat → Int32)) (rl : Int32) (rk : Int32) (rp : Int32) (rt : (Nat → Int32)) (kp : Int32) (kb : Int32) (kk : Int32) (kn : Int32) (bb : (Nat → Int32)) (bs : (Nat → Int32)) (jl : Int32) (jn : Int32) (jk : (Nat → Int32)) (jp : (Nat → Int32)) (jb : (Nat → Int32)) (jr : (Nat → Int32)) (mth : Int32) (mtd : Int32) (msz : Int32) (mto : Int32) (mfr : Int32) (mso : Int32) (mnu : Int32) (mfa : Int32) (mpl : Int32) (mwo : Int64) (msm : Int32) (mgo : Int32) (mt : (Nat → Int32)) (mno : (Nat → Int32)) (mre : (Nat → Int32)) (msn : (Nat → Int32)) (mis : (Nat → Int32)) (fo : Nat → Int64) (hI : Inv tl tb pg ps pn pp pf rk jl jn jk jp jb jr mtd mfa msm mt mno msn) (H : Heap) (lo : List Loc) (hP : va_P D vwCl ((w_VB cI cB cZ aV aT aTb aP aPp aPf aD aDp aDf aR aRt aK aB aBb aBs aH aHk aHp aHb aHr tl tb pg ps pn pp pf dg ds dn dp df rl rk rp rt kp kb kk kn bb bs jl jn jk jp jb jr) ++ ((w_Model cI cB cZ aM aMt aMn aMr aMs aMi mth mtd msz mto mfr mso mnu mfa mpl mwo msm mgo mt mno mre msn mis) ++ [outC cJ aO fo])) H) (hD : va_D (fun q : Nat => s.heap.size ≤ q) ((w_VB cI cB cZ aV aT aTb aP aPp aPf aD aDp aDf aR aRt aK aB aBb aBs aH aHk aHp aHb aHr tl tb pg ps pn pp pf dg ds dn dp df rl rk rp rt kp kb kk kn bb bs jl jn jk jp jb jr) ++ ((w_Model cI cB cZ aM aMt aMn aMr aMs aMi mth mtd msz mto mfr mso mnu mfa mpl mwo msm mgo mt mno mre msn mis) ++ [outC cJ aO fo]))) (hS : va_S (fun q : Nat => s.heap.size ≤ q) s.heap H lo) (ls : Array Slot) (hl : lv_has ls 7 [(0, .ref b), (1, .ref aV), (2, .ref aM), (3, .ref aO), (4, .int (nI (6 * i)))]) : W p l e room_1 s m #[Value.ref b] below meth c H lo cells slots (lw_Z below #[Value.ref b] s) (F0 m 594 ls []) := by
  obtain ⟨⟨hx, hb, hr, hml, hown, hts, hX, hbl, hlocks⟩, hK, hG, hN⟩ := E
  have hA : ∀ q : Nat, s.heap.size ≤ q → (fun q : Nat => s.heap.size ≤ q) q := fun _ h => h
  have hbA : ¬ (fun q : Nat => s.heap.size ≤ q) b := Nat.not_le.mpr hbl
  have hK3 : va_K D vwCl (tyG cI cB cZ) s := hK.sub [0, 1, 2] rfl
  obtain ⟨T0, h, l0, A, R, H0, rfl, rfl, rfl, hc, hm, rfl⟩ := hI
  have hc0 : cells + 0 ≤ room_1.cells ∧ slots + 0 ≤ room_1.slots := ⟨show cells + 0 ≤ 1052 by omega, show slots + 0 ≤ 16861 by omega⟩
  obtain ⟨r, e1, e2⟩ := op_mix (H0.2.2.1 0 (Nat.zero_le _)) hc hm mth (xs (nI (6 * i) + (1 : Int32)).toNatClampNeg) (xs (nI (6 * i) + (2 : Int32)).toNatClampNeg) (xs (nI (6 * i) + (3 : Int32)).toNatClampNeg)
  refine lv_aload_n hx hb dL_law_594 rfl (lv_at hl 1 rfl) ?_
  refine lv_aload_n hx hb dL_law_595 rfl (lv_at hl 0 rfl) ?_
  refine lv_iload hx hb dL_law_596 (lv_at hl 4 rfl) ?_
  refine lv_iconst (v := (1 : Int32)) hx hb dL_law_598 (by decide) ?_
  refine lv_iadd hx hb dL_law_599 ?_
  refine va_sld hx hb hX hbl hbA hS (in6 (k := 1) (by omega) hL) dL_law_600 ?_
  refine lv_aload_n hx hb dL_law_601 rfl (lv_at hl 0 rfl) ?_
  refine lv_iload hx hb dL_law_602 (lv_at hl 4 rfl) ?_
  refine lv_iconst (v := (2 : Int32)) hx hb dL_law_604 (by decide) ?_
  refine lv_iadd hx hb dL_law_605 ?_
  refine va_sld hx hb hX hbl hbA hS (in6 (k := 2) (by omega) hL) dL_law_606 ?_
  refine lv_aload_n hx hb dL_law_607 rfl (lv_at hl 0 rfl) ?_
  refine lv_iload hx hb dL_law_608 (lv_at hl 4 rfl) ?_
  refine lv_iconst (v := (3 : Int32)) hx hb dL_law_610 (by decide) ?_
  refine lv_iadd hx hb dL_law_611 ?_
  refine va_sld hx hb hX hbl hbA hS (in6 (k := 3) (by omega) hL) dL_law_612 ?_
  refine gcall_i (ws' := ((w_VB cI cB cZ aV aT aTb aP aPp aPf aD aDp aDf aR aRt aK aB aBb aBs aH aHk aHp aHb aHr tl tb pg ps pn pp pf dg ds dn dp df rl rk rp rt kp kb kk kn bb bs (nI l0) (nI h) jk jp jb jr) ++ ((w_Model cI cB cZ aM aMt aMn aMr aMs aMi mth mtd msz mto mfr mso mnu rk mpl mwo (nI h) mgo mt mno mre msn mis) ++ [outC cJ aO fo]))) (va_runV (As := [.int (xs (nI (6 * i) + (1 : Int32)).toNatClampNeg), .int (xs (nI (6 * i) + (2 : Int32)).toNatClampNeg), .int (xs (nI (6 * i) + (3 : Int32)).toNatClampNeg)]) (rest := []) ⟨hx, hb, hml, hown, hts⟩ (c_X6_mix l D cI cB cZ ta aV aT aTb aP aPp aPf aD aDp aDf aR aRt aK aB aBb aBs aH aHk aHp aHb aHr H.size tl tb pg ps pn pp pf dg ds dn dp df rl rk rp rt kp kb kk kn bb bs (nI l0) (nI h) jk jp jb jr ((xs (nI (6 * i) + (1 : Int32)).toNatClampNeg)) ((xs (nI (6 * i) + (2 : Int32)).toNatClampNeg)) ((xs (nI (6 * i) + (3 : Int32)).toNatClampNeg)) r e1) (cwV 3 hts gL_law_X6_mix rfl rfl rfl (by decide +kernel) ⟨(Nat.le_of_ble_eq_true rfl), (Nat.le_of_ble_eq_true rfl)⟩) ⟨PW_blind, va_recv hK hP rfl (q0 := 0) rfl, PW_at hP hD hK3 hS hA hG [0, 1, 2, 3, 4, 5, 6, 7, 8, 9, 10, 11, 12, 13, 14, 15, 16, 17, 18, 19] rfl (by decide)⟩ rfl rfl hl.1 rfl (lv_room (Nat.le_of_ble_eq_true rfl)) dL_law_613 hc0) hP hD hS hA [0, 1, 2, 3, 4, 5, 6, 7, 8, 9, 10, 11, 12, 13, 14, 15, 16, 17, 18, 19] [20, 21, 22, 23, 24, 25, 26] [7, 8, 9, 10, 11, 12, 13, 14, 15, 16, 17, 18, 19, 20, 21, 22, 23, 24, 25, 26, 0, 1, 2, 3, 4, 5, 6] rfl rfl (by decide) (by decide) (by decide) rfl (fun H2 lo2 hP2 hD2 hS2 => ?_)
  refine lv_aload_n hx hb dL_law_616 rfl (lv_at hl 2 rfl) ?_
  refine lv_aload_n hx hb dL_law_617 rfl (lv_at hl 0 rfl) ?_
  refine lv_iload hx hb dL_law_618 (lv_at hl 4 rfl) ?_
  refine lv_iconst (v := (1 : Int32)) hx hb dL_law_620 (by decide) ?_
  refine lv_iadd hx hb dL_law_621 ?_
  refine va_sld hx hb hX hbl hbA hS2 (in6 (k := 1) (by omega) hL) dL_law_622 ?_
  refine lv_aload_n hx hb dL_law_623 rfl (lv_at hl 0 rfl) ?_
  refine lv_iload hx hb dL_law_624 (lv_at hl 4 rfl) ?_
  refine lv_iconst (v := (2 : Int32)) hx hb dL_law_626 (by decide) ?_
  refine lv_iadd hx hb dL_law_627 ?_
  refine va_sld hx hb hX hbl hbA hS2 (in6 (k := 2) (by omega) hL) dL_law_628 ?_
  refine lv_aload_n hx hb dL_law_629 rfl (lv_at hl 0 rfl) ?_
  refine lv_iload hx hb dL_law_630 (lv_at hl 4 rfl) ?_
  refine lv_iconst (v := (3 : Int32)) hx hb dL_law_632 (by decide) ?_
  refine lv_iadd hx hb dL_law_633 ?_
  refine va_sld hx hb hX hbl hbA hS2 (in6 (k := 3) (by omega) hL) dL_law_634 ?_
  refine gcall_i (ws' := ((w_VB cI cB cZ aV aT aTb aP aPp aPf aD aDp aDf aR aRt aK aB aBb aBs aH aHk aHp aHb aHr tl tb pg ps pn pp pf dg ds dn dp df rl rk rp rt kp kb kk kn bb bs (nI l0) (nI h) jk jp jb jr) ++ ((w_Model cI cB cZ aM aMt aMn aMr aMs aMi 0 mtd msz mto mfr mso mnu rk mpl mwo (nI h) mgo mt mno mre msn mis) ++ [outC cJ aO fo]))) (va_runV (As := [.int (xs (nI (6 * i) + (1 : Int32)).toNatClampNeg), .int (xs (nI (6 * i) + (2 : Int32)).toNatClampNeg), .int (xs (nI (6 * i) + (3 : Int32)).toNatClampNeg)]) (rest := [.int r]) ⟨hx, hb, hml, hown, hts⟩ (c_X7_mix l D cI cB cZ ta aM aMt aMn aMr aMs aMi H2.size mth mtd msz mto mfr mso mnu rk mpl mwo (nI h) mgo mt mno mre msn mis ((xs (nI (6 * i) + (1 : Int32)).toNatClampNeg)) ((xs (nI (6 * i) + (2 : Int32)).toNatClampNeg)) ((xs (nI (6 * i) + (3 : Int32)).toNatClampNeg)) r 0 e2) (cwV 3 hts gL_law_X7_mix rfl rfl rfl (by decide +kernel) ⟨(Nat.le_of_ble_eq_true rfl), (Nat.le_of_ble_eq_true rfl)⟩) ⟨PW_blind, va_recv hK hP2 rfl (q0 := 20) rfl, PW_at hP2 hD2 hK3 hS2 hA hG [20, 21, 22, 23, 24, 25] rfl (by decide)⟩ rfl rfl hl.1 rfl (lv_room (Nat.le_of_ble_eq_true rfl)) dL_law_635 hc0) hP2 hD2 hS2 hA [20, 21, 22, 23, 24, 25] [0, 1, 2, 3, 4, 5, 6, 7, 8, 9, 10, 11, 12, 13, 14, 15, 16, 17, 18, 19, 26] [0, 1, 2, 3, 4, 5, 6, 7, 8, 9, 10, 11, 12, 13, 14, 15, 16, 17, 18, 19, 21, 22, 23, 24, 25, 26, 20] rfl rfl (by decide) (by decide) (by decide) rfl (fun H3 lo3 hP3 hD3 hS3 => ?_)
  refine lv_icmp_eq (tgt := 1073) hx hb dL_law_638 (by decide) (fun _ => ?_) (fun c9 => absurd rfl c9)
  refine W.widen (k := cells + 1) (n := slots + 6) (by omega) (by omega) ?_
  exact K tl tb pg ps pn pp pf dg ds dn dp df rl rk rp rt kp kb kk kn bb bs (nI l0) (nI h) jk jp jb jr 0 mtd msz mto mfr mso mnu rk mpl mwo (nI h) mgo mt mno mre msn mis fo ⟨T0, h, l0, A, R, H0, rfl, rfl, rfl, hc, hm, rfl⟩ H3 lo3 hP3 hD3 hS3 ls (lv_sub hl [0, 1, 2, 3, 4] rfl)
set_option maxHeartbeats 4000000 in
set_option maxRecDepth 100000 in
theorem lc_12 (hst : l.stackTraces = false) (E : LE p s m meth c D cI cB cZ cJ ta sa b L xs) {i cells slots : Nat} (hi : 6 * i + 6 ≤ L) (hL : L ≤ 3072) (hcs : cells + 1 ≤ 1052 ∧ slots + 6 ≤ 16861) (K : K73 p l e s m below meth c D cI cB cZ cJ aV aT aTb aP aPp aPf aD aDp aDf aR aRt aK aB aBb aBs aH aHk aHp aHb aHr aM aMt aMn aMr aMs aMi aO b i (cells + 1) (slots + 6)) (tl : Int32) (tb : (Nat → Int32)) (pg : Int32) (ps : Int32) (pn : Int32) (pp : (Nat → Int32)) (pf : (Nat → Int32)) (dg : Int32) (ds : Int32) (dn : Int32) (dp : (Nat → Int32)) (df : (Nat → Int32)) (rl : Int32) (rk : Int32) (rp : Int32) (rt : (Nat → Int32)) (kp : Int32) (kb : Int32) (kk : Int32) (kn : Int32) (bb : (Nat → Int32)) (bs : (Nat → Int32)) (jl : Int32) (jn : Int32) (jk : (Nat → Int32)) (jp : (Nat → Int32)) (jb : (Nat → Int32)) (jr : (Nat → Int32)) (mth : Int32) (mtd : Int32) (msz : Int32) (mto : Int32) (mfr : Int32) (mso : Int32) (mnu : Int32) (mfa : Int32) (mpl : Int32) (mwo : Int64) (msm : Int32) (mgo : Int32) (mt : (Nat → Int32)) (mno : (Nat → Int32)) (mre : (Nat → Int32)) (msn : (Nat → Int32)) (mis : (Nat → Int32)) (fo : Nat → Int64) (hI : Inv tl tb pg ps pn pp pf rk jl jn jk jp jb jr mtd mfa msm mt mno msn) (H : Heap) (lo : List Loc) (hP : va_P D vwCl ((w_VB cI cB cZ aV aT aTb aP aPp aPf aD aDp aDf aR aRt aK aB aBb aBs aH aHk aHp aHb aHr tl tb pg ps pn pp pf dg ds dn dp df rl rk rp rt kp kb kk kn bb bs jl jn jk jp jb jr) ++ ((w_Model cI cB cZ aM aMt aMn aMr aMs aMi mth mtd msz mto mfr mso mnu mfa mpl mwo msm mgo mt mno mre msn mis) ++ [outC cJ aO fo])) H) (hD : va_D (fun q : Nat => s.heap.size ≤ q) ((w_VB cI cB cZ aV aT aTb aP aPp aPf aD aDp aDf aR aRt aK aB aBb aBs aH aHk aHp aHb aHr tl tb pg ps pn pp pf dg ds dn dp df rl rk rp rt kp kb kk kn bb bs jl jn jk jp jb jr) ++ ((w_Model cI cB cZ aM aMt aMn aMr aMs aMi mth mtd msz mto mfr mso mnu mfa mpl mwo msm mgo mt mno mre msn mis) ++ [outC cJ aO fo]))) (hS : va_S (fun q : Nat => s.heap.size ≤ q) s.heap H lo) (ls : Array Slot) (hl : lv_has ls 7 [(0, .ref b), (1, .ref aV), (2, .ref aM), (3, .ref aO), (4, .int (nI (6 * i)))]) : W p l e room_1 s m #[Value.ref b] below meth c H lo cells slots (lw_Z below #[Value.ref b] s) (F0 m 643 ls []) := by
  obtain ⟨⟨hx, hb, hr, hml, hown, hts, hX, hbl, hlocks⟩, hK, hG, hN⟩ := E
  have hA : ∀ q : Nat, s.heap.size ≤ q → (fun q : Nat => s.heap.size ≤ q) q := fun _ h => h
  have hbA : ¬ (fun q : Nat => s.heap.size ≤ q) b := Nat.not_le.mpr hbl
  have hK3 : va_K D vwCl (tyG cI cB cZ) s := hK.sub [0, 1, 2] rfl
  obtain ⟨T0, h, l0, A, R, H0, rfl, rfl, rfl, hc, hm, rfl⟩ := hI
  have hc0 : cells + 0 ≤ room_1.cells ∧ slots + 0 ≤ room_1.slots := ⟨show cells + 0 ≤ 1052 by omega, show slots + 0 ≤ 16861 by omega⟩
  obtain ⟨r, bb1, e1, e2⟩ := op_flatters (H0.2.2.1 0 (Nat.zero_le _)) hc hm bb mth (xs (nI (6 * i) + (1 : Int32)).toNatClampNeg) (xs (nI (6 * i) + (2 : Int32)).toNatClampNeg) (xs (nI (6 * i) + (3 : Int32)).toNatClampNeg) (xs (nI (6 * i) + (4 : Int32)).toNatClampNeg)
  refine lv_aload_n hx hb dL_law_643 rfl (lv_at hl 1 rfl) ?_
  refine lv_aload_n hx hb dL_law_644 rfl (lv_at hl 0 rfl) ?_
  refine lv_iload hx hb dL_law_645 (lv_at hl 4 rfl) ?_
  refine lv_iconst (v := (1 : Int32)) hx hb dL_law_647 (by decide) ?_
  refine lv_iadd hx hb dL_law_648 ?_
  refine va_sld hx hb hX hbl hbA hS (in6 (k := 1) (by omega) hL) dL_law_649 ?_
  refine lv_aload_n hx hb dL_law_650 rfl (lv_at hl 0 rfl) ?_
  refine lv_iload hx hb dL_law_651 (lv_at hl 4 rfl) ?_
  refine lv_iconst (v := (2 : Int32)) hx hb dL_law_653 (by decide) ?_
  refine lv_iadd hx hb dL_law_654 ?_
  refine va_sld hx hb hX hbl hbA hS (in6 (k := 2) (by omega) hL) dL_law_655 ?_
  refine lv_aload_n hx hb dL_law_656 rfl (lv_at hl 0 rfl) ?_
  refine lv_iload hx hb dL_law_657 (lv_at hl 4 rfl) ?_
  refine lv_iconst (v := (3 : Int32)) hx hb dL_law_659 (by decide) ?_
  refine lv_iadd hx hb dL_law_660 ?_
  refine va_sld hx hb hX hbl hbA hS (in6 (k := 3) (by omega) hL) dL_law_661 ?_
  refine lv_aload_n hx hb dL_law_662 rfl (lv_at hl 0 rfl) ?_
  refine lv_iload hx hb dL_law_663 (lv_at hl 4 rfl) ?_
  refine lv_iconst (v := (4 : Int32)) hx hb dL_law_665 (by decide) ?_
  refine lv_iadd hx hb dL_law_666 ?_
  refine va_sld hx hb hX hbl hbA hS (in6 (k := 4) (by omega) hL) dL_law_667 ?_
  refine gcall_i (ws' := ((w_VB cI cB cZ aV aT aTb aP aPp aPf aD aDp aDf aR aRt aK aB aBb aBs aH aHk aHp aHb aHr tl tb pg ps pn pp pf dg ds dn dp df rl rk rp rt kp kb kk kn bb1 bs (nI l0) (nI h) jk jp jb jr) ++ ((w_Model cI cB cZ aM aMt aMn aMr aMs aMi mth mtd msz mto mfr mso mnu rk mpl mwo (nI h) mgo mt mno mre msn mis) ++ [outC cJ aO fo]))) (va_runV (As := [.int (xs (nI (6 * i) + (1 : Int32)).toNatClampNeg), .int (xs (nI (6 * i) + (2 : Int32)).toNatClampNeg), .int (xs (nI (6 * i) + (3 : Int32)).toNatClampNeg), .int (xs (nI (6 * i) + (4 : Int32)).toNatClampNeg)]) (rest := []) ⟨hx, hb, hml, hown, hts⟩ (c_X6_flatters l D cI cB cZ ta aV aT aTb aP aPp aPf aD aDp aDf aR aRt aK aB aBb aBs aH aHk aHp aHb aHr H.size tl tb pg ps pn pp pf dg ds dn dp df rl rk rp rt kp kb kk kn bb bs (nI l0) (nI h) jk jp jb jr ((xs (nI (6 * i) + (1 : Int32)).toNatClampNeg)) ((xs (nI (6 * i) + (2 : Int32)).toNatClampNeg)) ((xs (nI (6 * i) + (3 : Int32)).toNatClampNeg)) ((xs (nI (6 * i) + (4 : Int32)).toNatClampNeg)) r bb1 e1) (cwV 4 hts gL_law_X6_flatters rfl rfl rfl (by decide +kernel) ⟨(Nat.le_of_ble_eq_true rfl), (Nat.le_of_ble_eq_true rfl)⟩) ⟨PW_blind, va_recv hK hP rfl (q0 := 0) rfl, PW_at hP hD hK3 hS hA hG [0, 1, 2, 3, 4, 5, 6, 7, 8, 9, 10, 11, 12, 13, 14, 15, 16, 17, 18, 19] rfl (by decide)⟩ rfl rfl hl.1 rfl (lv_room (Nat.le_of_ble_eq_true rfl)) dL_law_668 hc0) hP hD hS hA [0, 1, 2, 3, 4, 5, 6, 7, 8, 9, 10, 11, 12, 13, 14, 15, 16, 17, 18, 19] [20, 21, 22, 23, 24, 25, 26] [7, 8, 9, 10, 11, 12, 13, 14, 15, 16, 17, 18, 19, 20, 21, 22, 23, 24, 25, 26, 0, 1, 2, 3, 4, 5, 6] rfl rfl (by decide) (by decide) (by decide) rfl (fun H2 lo2 hP2 hD2 hS2 => ?_)
  refine lv_aload_n hx hb dL_law_671 rfl (lv_at hl 2 rfl) ?_
  refine lv_aload_n hx hb dL_law_672 rfl (lv_at hl 0 rfl) ?_
  refine lv_iload hx hb dL_law_673 (lv_at hl 4 rfl) ?_
  refine lv_iconst (v := (1 : Int32)) hx hb dL_law_675 (by decide) ?_
  refine lv_iadd hx hb dL_law_676 ?_
  refine va_sld hx hb hX hbl hbA hS2 (in6 (k := 1) (by omega) hL) dL_law_677 ?_
  refine lv_aload_n hx hb dL_law_678 rfl (lv_at hl 0 rfl) ?_
  refine lv_iload hx hb dL_law_679 (lv_at hl 4 rfl) ?_
  refine lv_iconst (v := (2 : Int32)) hx hb dL_law_681 (by decide) ?_
  refine lv_iadd hx hb dL_law_682 ?_
  refine va_sld hx hb hX hbl hbA hS2 (in6 (k := 2) (by omega) hL) dL_law_683 ?_
  refine lv_aload_n hx hb dL_law_684 rfl (lv_at hl 0 rfl) ?_
  refine lv_iload hx hb dL_law_685 (lv_at hl 4 rfl) ?_
  refine lv_iconst (v := (3 : Int32)) hx hb dL_law_687 (by decide) ?_
  refine lv_iadd hx hb dL_law_688 ?_
  refine va_sld hx hb hX hbl hbA hS2 (in6 (k := 3) (by omega) hL) dL_law_689 ?_
  refine lv_aload_n hx hb dL_law_690 rfl (lv_at hl 0 rfl) ?_
  refine lv_iload hx hb dL_law_691 (lv_at hl 4 rfl) ?_
  refine lv_iconst (v := (4 : Int32)) hx hb dL_law_693 (by decide) ?_
  refine lv_iadd hx hb dL_law_694 ?_
  refine va_sld hx hb hX hbl hbA hS2 (in6 (k := 4) (by omega) hL) dL_law_695 ?_
  refine gcall_i (ws' := ((w_VB cI cB cZ aV aT aTb aP aPp aPf aD aDp aDf aR aRt aK aB aBb aBs aH aHk aHp aHb aHr tl tb pg ps pn pp pf dg ds dn dp df rl rk rp rt kp kb kk kn bb1 bs (nI l0) (nI h) jk jp jb jr) ++ ((w_Model cI cB cZ aM aMt aMn aMr aMs aMi 0 mtd msz mto mfr mso mnu rk mpl mwo (nI h) mgo mt mno mre msn mis) ++ [outC cJ aO fo]))) (va_runV (As := [.int (xs (nI (6 * i) + (1 : Int32)).toNatClampNeg), .int (xs (nI (6 * i) + (2 : Int32)).toNatClampNeg), .int (xs (nI (6 * i) + (3 : Int32)).toNatClampNeg), .int (xs (nI (6 * i) + (4 : Int32)).toNatClampNeg)]) (rest := [.int r]) ⟨hx, hb, hml, hown, hts⟩ (c_X7_flatters l D cI cB cZ ta aM aMt aMn aMr aMs aMi H2.size mth mtd msz mto mfr mso mnu rk mpl mwo (nI h) mgo mt mno mre msn mis ((xs (nI (6 * i) + (1 : Int32)).toNatClampNeg)) ((xs (nI (6 * i) + (2 : Int32)).toNatClampNeg)) ((xs (nI (6 * i) + (3 : Int32)).toNatClampNeg)) ((xs (nI (6 * i) + (4 : Int32)).toNatClampNeg)) r 0 e2) (cwV 4 hts gL_law_X7_flatters rfl rfl rfl (by decide +kernel) ⟨(Nat.le_of_ble_eq_true rfl), (Nat.le_of_ble_eq_true rfl)⟩) ⟨PW_blind, va_recv hK hP2 rfl (q0 := 20) rfl, PW_at hP2 hD2 hK3 hS2 hA hG [20, 21, 22, 23, 24, 25] rfl (by decide)⟩ rfl rfl hl.1 rfl (lv_room (Nat.le_of_ble_eq_true rfl)) dL_law_696 hc0) hP2 hD2 hS2 hA [20, 21, 22, 23, 24, 25] [0, 1, 2, 3, 4, 5, 6, 7, 8, 9, 10, 11, 12, 13, 14, 15, 16, 17, 18, 19, 26] [0, 1, 2, 3, 4, 5, 6, 7, 8, 9, 10, 11, 12, 13, 14, 15, 16, 17, 18, 19, 21, 22, 23, 24, 25, 26, 20] rfl rfl (by decide) (by decide) (by decide) rfl (fun H3 lo3 hP3 hD3 hS3 => ?_)
  refine lv_icmp_eq (tgt := 1073) hx hb dL_law_699 (by decide) (fun _ => ?_) (fun c9 => absurd rfl c9)
  refine W.widen (k := cells + 1) (n := slots + 6) (by omega) (by omega) ?_
  exact K tl tb pg ps pn pp pf dg ds dn dp df rl rk rp rt kp kb kk kn bb1 bs (nI l0) (nI h) jk jp jb jr 0 mtd msz mto mfr mso mnu rk mpl mwo (nI h) mgo mt mno mre msn mis fo ⟨T0, h, l0, A, R, H0, rfl, rfl, rfl, hc, hm, rfl⟩ H3 lo3 hP3 hD3 hS3 ls (lv_sub hl [0, 1, 2, 3, 4] rfl)
set_option maxHeartbeats 4000000 in
set_option maxRecDepth 100000 in
theorem lc_13 (hst : l.stackTraces = false) (E : LE p s m meth c D cI cB cZ cJ ta sa b L xs) {i cells slots : Nat} (hi : 6 * i + 6 ≤ L) (hL : L ≤ 3072) (hcs : cells + 1 ≤ 1052 ∧ slots + 6 ≤ 16861) (K : K73 p l e s m below meth c D cI cB cZ cJ aV aT aTb aP aPp aPf aD aDp aDf aR aRt aK aB aBb aBs aH aHk aHp aHb aHr aM aMt aMn aMr aMs aMi aO b i (cells + 1) (slots + 6)) (tl : Int32) (tb : (Nat → Int32)) (pg : Int32) (ps : Int32) (pn : Int32) (pp : (Nat → Int32)) (pf : (Nat → Int32)) (dg : Int32) (ds : Int32) (dn : Int32) (dp : (Nat → Int32)) (df : (Nat → Int32)) (rl : Int32) (rk : Int32) (rp : Int32) (rt : (Nat → Int32)) (kp : Int32) (kb : Int32) (kk : Int32) (kn : Int32) (bb : (Nat → Int32)) (bs : (Nat → Int32)) (jl : Int32) (jn : Int32) (jk : (Nat → Int32)) (jp : (Nat → Int32)) (jb : (Nat → Int32)) (jr : (Nat → Int32)) (mth : Int32) (mtd : Int32) (msz : Int32) (mto : Int32) (mfr : Int32) (mso : Int32) (mnu : Int32) (mfa : Int32) (mpl : Int32) (mwo : Int64) (msm : Int32) (mgo : Int32) (mt : (Nat → Int32)) (mno : (Nat → Int32)) (mre : (Nat → Int32)) (msn : (Nat → Int32)) (mis : (Nat → Int32)) (fo : Nat → Int64) (hI : Inv tl tb pg ps pn pp pf rk jl jn jk jp jb jr mtd mfa msm mt mno msn) (H : Heap) (lo : List Loc) (hP : va_P D vwCl ((w_VB cI cB cZ aV aT aTb aP aPp aPf aD aDp aDf aR aRt aK aB aBb aBs aH aHk aHp aHb aHr tl tb pg ps pn pp pf dg ds dn dp df rl rk rp rt kp kb kk kn bb bs jl jn jk jp jb jr) ++ ((w_Model cI cB cZ aM aMt aMn aMr aMs aMi mth mtd msz mto mfr mso mnu mfa mpl mwo msm mgo mt mno mre msn mis) ++ [outC cJ aO fo])) H) (hD : va_D (fun q : Nat => s.heap.size ≤ q) ((w_VB cI cB cZ aV aT aTb aP aPp aPf aD aDp aDf aR aRt aK aB aBb aBs aH aHk aHp aHb aHr tl tb pg ps pn pp pf dg ds dn dp df rl rk rp rt kp kb kk kn bb bs jl jn jk jp jb jr) ++ ((w_Model cI cB cZ aM aMt aMn aMr aMs aMi mth mtd msz mto mfr mso mnu mfa mpl mwo msm mgo mt mno mre msn mis) ++ [outC cJ aO fo]))) (hS : va_S (fun q : Nat => s.heap.size ≤ q) s.heap H lo) (ls : Array Slot) (hl : lv_has ls 7 [(0, .ref b), (1, .ref aV), (2, .ref aM), (3, .ref aO), (4, .int (nI (6 * i)))]) : W p l e room_1 s m #[Value.ref b] below meth c H lo cells slots (lw_Z below #[Value.ref b] s) (F0 m 704 ls []) := by
  obtain ⟨⟨hx, hb, hr, hml, hown, hts, hX, hbl, hlocks⟩, hK, hG, hN⟩ := E
  have hA : ∀ q : Nat, s.heap.size ≤ q → (fun q : Nat => s.heap.size ≤ q) q := fun _ h => h
  have hbA : ¬ (fun q : Nat => s.heap.size ≤ q) b := Nat.not_le.mpr hbl
  have hK3 : va_K D vwCl (tyG cI cB cZ) s := hK.sub [0, 1, 2] rfl
  obtain ⟨T0, h, l0, A, R, H0, rfl, rfl, rfl, hc, hm, rfl⟩ := hI
  have hc0 : cells + 0 ≤ room_1.cells ∧ slots + 0 ≤ room_1.slots := ⟨show cells + 0 ≤ 1052 by omega, show slots + 0 ≤ 16861 by omega⟩
  obtain ⟨r, bs1, e1, e2⟩ := op_mover (H0.2.2.1 0 (Nat.zero_le _)) hc hm bs mth (xs (nI (6 * i) + (1 : Int32)).toNatClampNeg) (xs (nI (6 * i) + (2 : Int32)).toNatClampNeg) (xs (nI (6 * i) + (3 : Int32)).toNatClampNeg)
  refine lv_aload_n hx hb dL_law_704 rfl (lv_at hl 1 rfl) ?_
  refine lv_aload_n hx hb dL_law_705 rfl (lv_at hl 0 rfl) ?_
  refine lv_iload hx hb dL_law_706 (lv_at hl 4 rfl) ?_
  refine lv_iconst (v := (1 : Int32)) hx hb dL_law_708 (by decide) ?_
  refine lv_iadd hx hb dL_law_709 ?_
  refine va_sld hx hb hX hbl hbA hS (in6 (k := 1) (by omega) hL) dL_law_710 ?_
  refine lv_aload_n hx hb dL_law_711 rfl (lv_at hl 0 rfl) ?_
  refine lv_iload hx hb dL_law_712 (lv_at hl 4 rfl) ?_
  refine lv_iconst (v := (2 : Int32)) hx hb dL_law_714 (by decide) ?_
  refine lv_iadd hx hb dL_law_715 ?_
  refine va_sld hx hb hX hbl hbA hS (in6 (k := 2) (by omega) hL) dL_law_716 ?_
  refine lv_aload_n hx hb dL_law_717 rfl (lv_at hl 0 rfl) ?_
  refine lv_iload hx hb dL_law_718 (lv_at hl 4 rfl) ?_
  refine lv_iconst (v := (3 : Int32)) hx hb dL_law_720 (by decide) ?_
  refine lv_iadd hx hb dL_law_721 ?_
  refine va_sld hx hb hX hbl hbA hS (in6 (k := 3) (by omega) hL) dL_law_722 ?_
  refine gcall_i (ws' := ((w_VB cI cB cZ aV aT aTb aP aPp aPf aD aDp aDf aR aRt aK aB aBb aBs aH aHk aHp aHb aHr tl tb pg ps pn pp pf dg ds dn dp df rl rk rp rt kp kb kk kn bb bs1 (nI l0) (nI h) jk jp jb jr) ++ ((w_Model cI cB cZ aM aMt aMn aMr aMs aMi mth mtd msz mto mfr mso mnu rk mpl mwo (nI h) mgo mt mno mre msn mis) ++ [outC cJ aO fo]))) (va_runV (As := [.int (xs (nI (6 * i) + (1 : Int32)).toNatClampNeg), .int (xs (nI (6 * i) + (2 : Int32)).toNatClampNeg), .int (xs (nI (6 * i) + (3 : Int32)).toNatClampNeg)]) (rest := []) ⟨hx, hb, hml, hown, hts⟩ (c_X6_mover l D cI cB cZ ta aV aT aTb aP aPp aPf aD aDp aDf aR aRt aK aB aBb aBs aH aHk aHp aHb aHr H.size tl tb pg ps pn pp pf dg ds dn dp df rl rk rp rt kp kb kk kn bb bs (nI l0) (nI h) jk jp jb jr ((xs (nI (6 * i) + (1 : Int32)).toNatClampNeg)) ((xs (nI (6 * i) + (2 : Int32)).toNatClampNeg)) ((xs (nI (6 * i) + (3 : Int32)).toNatClampNeg)) r bs1 e1) (cwV 3 hts gL_law_X6_mover rfl rfl rfl (by decide +kernel) ⟨(Nat.le_of_ble_eq_true rfl), (Nat.le_of_ble_eq_true rfl)⟩) ⟨PW_blind, va_recv hK hP rfl (q0 := 0) rfl, PW_at hP hD hK3 hS hA hG [0, 1, 2, 3, 4, 5, 6, 7, 8, 9, 10, 11, 12, 13, 14, 15, 16, 17, 18, 19] rfl (by decide)⟩ rfl rfl hl.1 rfl (lv_room (Nat.le_of_ble_eq_true rfl)) dL_law_723 hc0) hP hD hS hA [0, 1, 2, 3, 4, 5, 6, 7, 8, 9, 10, 11, 12, 13, 14, 15, 16, 17, 18, 19] [20, 21, 22, 23, 24, 25, 26] [7, 8, 9, 10, 11, 12, 13, 14, 15, 16, 17, 18, 19, 20, 21, 22, 23, 24, 25, 26, 0, 1, 2, 3, 4, 5, 6] rfl rfl (by decide) (by decide) (by decide) rfl (fun H2 lo2 hP2 hD2 hS2 => ?_)
  refine lv_aload_n hx hb dL_law_726 rfl (lv_at hl 2 rfl) ?_
  refine lv_aload_n hx hb dL_law_727 rfl (lv_at hl 0 rfl) ?_
  refine lv_iload hx hb dL_law_728 (lv_at hl 4 rfl) ?_
  refine lv_iconst (v := (1 : Int32)) hx hb dL_law_730 (by decide) ?_
  refine lv_iadd hx hb dL_law_731 ?_
  refine va_sld hx hb hX hbl hbA hS2 (in6 (k := 1) (by omega) hL) dL_law_732 ?_
  refine lv_aload_n hx hb dL_law_733 rfl (lv_at hl 0 rfl) ?_
  refine lv_iload hx hb dL_law_734 (lv_at hl 4 rfl) ?_
  refine lv_iconst (v := (2 : Int32)) hx hb dL_law_736 (by decide) ?_
  refine lv_iadd hx hb dL_law_737 ?_
  refine va_sld hx hb hX hbl hbA hS2 (in6 (k := 2) (by omega) hL) dL_law_738 ?_
  refine lv_aload_n hx hb dL_law_739 rfl (lv_at hl 0 rfl) ?_
  refine lv_iload hx hb dL_law_740 (lv_at hl 4 rfl) ?_
  refine lv_iconst (v := (3 : Int32)) hx hb dL_law_742 (by decide) ?_
  refine lv_iadd hx hb dL_law_743 ?_
  refine va_sld hx hb hX hbl hbA hS2 (in6 (k := 3) (by omega) hL) dL_law_744 ?_
  refine gcall_i (ws' := ((w_VB cI cB cZ aV aT aTb aP aPp aPf aD aDp aDf aR aRt aK aB aBb aBs aH aHk aHp aHb aHr tl tb pg ps pn pp pf dg ds dn dp df rl rk rp rt kp kb kk kn bb bs1 (nI l0) (nI h) jk jp jb jr) ++ ((w_Model cI cB cZ aM aMt aMn aMr aMs aMi 0 mtd msz mto mfr mso mnu rk mpl mwo (nI h) mgo mt mno mre msn mis) ++ [outC cJ aO fo]))) (va_runV (As := [.int (xs (nI (6 * i) + (1 : Int32)).toNatClampNeg), .int (xs (nI (6 * i) + (2 : Int32)).toNatClampNeg), .int (xs (nI (6 * i) + (3 : Int32)).toNatClampNeg)]) (rest := [.int r]) ⟨hx, hb, hml, hown, hts⟩ (c_X7_mover l D cI cB cZ ta aM aMt aMn aMr aMs aMi H2.size mth mtd msz mto mfr mso mnu rk mpl mwo (nI h) mgo mt mno mre msn mis ((xs (nI (6 * i) + (1 : Int32)).toNatClampNeg)) ((xs (nI (6 * i) + (2 : Int32)).toNatClampNeg)) ((xs (nI (6 * i) + (3 : Int32)).toNatClampNeg)) r 0 e2) (cwV 3 hts gL_law_X7_mover rfl rfl rfl (by decide +kernel) ⟨(Nat.le_of_ble_eq_true rfl), (Nat.le_of_ble_eq_true rfl)⟩) ⟨PW_blind, va_recv hK hP2 rfl (q0 := 20) rfl, PW_at hP2 hD2 hK3 hS2 hA hG [20, 21, 22, 23, 24, 25] rfl (by decide)⟩ rfl rfl hl.1 rfl (lv_room (Nat.le_of_ble_eq_true rfl)) dL_law_745 hc0) hP2 hD2 hS2 hA [20, 21, 22, 23, 24, 25] [0, 1, 2, 3, 4, 5, 6, 7, 8, 9, 10, 11, 12, 13, 14, 15, 16, 17, 18, 19, 26] [0, 1, 2, 3, 4, 5, 6, 7, 8, 9, 10, 11, 12, 13, 14, 15, 16, 17, 18, 19, 21, 22, 23, 24, 25, 26, 20] rfl rfl (by decide) (by decide) (by decide) rfl (fun H3 lo3 hP3 hD3 hS3 => ?_)
  refine lv_icmp_eq (tgt := 1073) hx hb dL_law_748 (by decide) (fun _ => ?_) (fun c9 => absurd rfl c9)
  refine W.widen (k := cells + 1) (n := slots + 6) (by omega) (by omega) ?_
  exact K tl tb pg ps pn pp pf dg ds dn dp df rl rk rp rt kp kb kk kn bb bs1 (nI l0) (nI h) jk jp jb jr 0 mtd msz mto mfr mso mnu rk mpl mwo (nI h) mgo mt mno mre msn mis fo ⟨T0, h, l0, A, R, H0, rfl, rfl, rfl, hc, hm, rfl⟩ H3 lo3 hP3 hD3 hS3 ls (lv_sub hl [0, 1, 2, 3, 4] rfl)
end
