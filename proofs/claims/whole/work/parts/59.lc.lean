/-! cases of the law -/
section
variable {p : Program} {l : Launch} {e : Env} {s : State} {m : MethodId} {below : List Frame} {meth : Method} {c : Code} {D : va_G} {cI cB cZ cJ : ClassId} {ta : Nat → Nat} {sa : Nat} {aV aT aTb aP aPp aPf aD aDp aDf aR aRt aK aB aBb aBs aH aHk aHp aHb aHr aM aMt aMn aMr aMs aMi aO : Nat} {b L : Nat} {xs : Nat → Int32}
set_option maxHeartbeats 4000000 in
set_option maxRecDepth 100000 in
theorem lc_5 (hst : l.stackTraces = false) (E : LE p s m meth c D cI cB cZ cJ ta sa b L xs) {i cells slots : Nat} (hi : 6 * i + 6 ≤ L) (hL : L ≤ 3072) (hcs : cells + 1 ≤ 1052 ∧ slots + 6 ≤ 16861) (K : K73 p l e s m below meth c D cI cB cZ cJ aV aT aTb aP aPp aPf aD aDp aDf aR aRt aK aB aBb aBs aH aHk aHp aHb aHr aM aMt aMn aMr aMs aMi aO b i (cells + 1) (slots + 6)) (tl : Int32) (tb : (Nat → Int32)) (pg : Int32) (ps : Int32) (pn : Int32) (pp : (Nat → Int32)) (pf : (Nat → Int32)) (dg : Int32) (ds : Int32) (dn : Int32) (dp : (Nat → Int32)) (df : (Nat → Int32)) (rl : Int32) (rk : Int32) (rp : Int32) (rt : (Nat → Int32)) (kp : Int32) (kb : Int32) (kk : Int32) (kn : Int32) (bb : (Nat → Int32)) (bs : (Nat → Int32)) (jl : Int32) (jn : Int32) (jk : (Nat → Int32)) (jp : (Nat → Int32)) (jb : (Nat → Int32)) (jr : (Nat → Int32)) (mth : Int32) (mtd : Int32) (msz : Int32) (mto : Int32) (mfr : Int32) (mso : Int32) (mnu : Int32) (mfa : Int32) (mpl : Int32) (mwo : Int64) (msm : Int32) (mgo : Int32) (mt : (Nat → Int32)) (mno : (Nat → Int32)) (mre : (Nat → Int32)) (msn : (Nat → Int32)) (mis : (Nat → Int32)) (fo : Nat → Int64) (hI : Inv tl tb pg ps pn pp pf rk jl jn jk jp jb jr mtd mfa msm mt mno msn) (H : Heap) (lo : List Loc) (hP : va_P D vwCl ((w_VB cI cB cZ aV aT aTb aP aPp aPf aD aDp aDf aR aRt aK aB aBb aBs aH aHk aHp aHb aHr tl tb pg ps pn pp pf dg ds dn dp df rl rk rp rt kp kb kk kn bb bs jl jn jk jp jb jr) ++ ((w_Model cI cB cZ aM aMt aMn aMr aMs aMi mth mtd msz mto mfr mso mnu mfa mpl mwo msm mgo mt mno mre msn mis) ++ [outC cJ aO fo])) H) (hD : va_D (fun q : Nat => s.heap.size ≤ q) ((w_VB cI cB cZ aV aT aTb aP aPp aPf aD aDp aDf aR aRt aK aB aBb aBs aH aHk aHp aHb aHr tl tb pg ps pn pp pf dg ds dn dp df rl rk rp rt kp kb kk kn bb bs jl jn jk jp jb jr) ++ ((w_Model cI cB cZ aM aMt aMn aMr aMs aMi mth mtd msz mto mfr mso mnu mfa mpl mwo msm mgo mt mno mre msn mis) ++ [outC cJ aO fo]))) (hS : va_S (fun q : Nat => s.heap.size ≤ q) s.heap H lo) (ls : Array Slot) (hl : lv_has ls 7 [(0, .ref b), (1, .ref aV), (2, .ref aM), (3, .ref aO), (4, .int (nI (6 * i)))]) : W p l e room_1 s m #[Value.ref b] below meth c H lo cells slots (lw_Z below #[Value.ref b] s) (F0 m 293 ls []) := by
  obtain ⟨⟨hx, hb, hr, hml, hown, hts, hX, hbl, hlocks⟩, hK, hG, hN⟩ := E
  have hA : ∀ q : Nat, s.heap.size ≤ q → (fun q : Nat => s.heap.size ≤ q) q := fun _ h => h
  have hbA : ¬ (fun q : Nat => s.heap.size ≤ q) b := Nat.not_le.mpr hbl
  have hK3 : va_K D vwCl (tyG cI cB cZ) s := hK.sub [0, 1, 2] rfl
  obtain ⟨T0, h, l0, A, R, H0, rfl, rfl, rfl, hc, hm, rfl⟩ := hI
  have hc0 : cells + 0 ≤ room_1.cells ∧ slots + 0 ≤ room_1.slots := ⟨show cells + 0 ≤ 1052 by omega, show slots + 0 ≤ 16861 by omega⟩
  rcases op_node (H0.2.2.1 0 (Nat.zero_le _)) hc hm mth (xs (nI (6 * i) + (1 : Int32)).toNatClampNeg) (xs (nI (6 * i) + (2 : Int32)).toNatClampNeg) with ⟨r1, h1, hno, e2⟩ | ⟨r, e1, e2⟩
  · refine lv_aload_n hx hb dL_law_293 rfl (lv_at hl 1 rfl) ?_
    refine lv_aload_n hx hb dL_law_294 rfl (lv_at hl 0 rfl) ?_
    refine lv_iload hx hb dL_law_295 (lv_at hl 4 rfl) ?_
    refine lv_iconst (v := (1 : Int32)) hx hb dL_law_297 (by decide) ?_
    refine lv_iadd hx hb dL_law_298 ?_
    refine va_sld hx hb hX hbl hbA hS (in6 (k := 1) (by omega) hL) dL_law_299 ?_
    refine lv_aload_n hx hb dL_law_300 rfl (lv_at hl 0 rfl) ?_
    refine lv_iload hx hb dL_law_301 (lv_at hl 4 rfl) ?_
    refine lv_iconst (v := (2 : Int32)) hx hb dL_law_303 (by decide) ?_
    refine lv_iadd hx hb dL_law_304 ?_
    refine va_sld hx hb hX hbl hbA hS (in6 (k := 2) (by omega) hL) dL_law_305 ?_
    refine lv_aload_n hx hb dL_law_306 rfl (lv_at hl 3 rfl) ?_
    have hc1 : cells + 1 + 0 ≤ room_1.cells ∧ slots + 6 + 0 ≤ room_1.slots := ⟨show cells + 1 + 0 ≤ 1052 by omega, show slots + 6 + 0 ≤ 16861 by omega⟩
    have hFc := va_free (wc := (w_VB cI cB cZ aV aT aTb aP aPp aPf aD aDp aDf aR aRt aK aB aBb aBs aH aHk aHp aHb aHr tl tb pg ps pn pp pf dg ds dn dp df rl rk rp rt kp kb kk kn bb bs (nI l0) (nI h) jk jp jb jr) ++ [outC cJ aO fo]) hD hS hA [0, 1, 2, 3, 4, 5, 6, 7, 8, 9, 10, 11, 12, 13, 14, 15, 16, 17, 18, 19, 26] rfl
    refine va_calli (vx_runSW (As := [.ref aV, .int (xs (nI (6 * i) + (1 : Int32)).toNatClampNeg), .int (xs (nI (6 * i) + (2 : Int32)).toNatClampNeg), .ref aO]) (rest := []) ⟨hx, hb, hml, hown, hts⟩ (t_L_node l hst D cI cB cZ ta aV aT aTb aP aPp aPf aD aDp aDf aR aRt aK aB aBb aBs aH aHk aHp aHb aHr H.size tl tb pg ps pn pp pf dg ds dn dp df rl rk rp rt kp kb kk kn bb bs (nI l0) (nI h) jk jp jb jr cJ sa aO fo (xs (nI (6 * i) + (1 : Int32)).toNatClampNeg) (xs (nI (6 * i) + (2 : Int32)).toNatClampNeg) r1 h1 hno) (vx_cwSW 4 hts gL_law_L_node rfl rfl rfl (by decide +kernel) ⟨(Nat.le_of_ble_eq_true rfl), (Nat.le_of_ble_eq_true rfl)⟩) ⟨PL_blind, PL_at hP hD hK hS hA hG hN [0, 1, 2, 3, 4, 5, 6, 7, 8, 9, 10, 11, 12, 13, 14, 15, 16, 17, 18, 19, 26] rfl (by decide)⟩ rfl rfl hl.1 rfl (lv_room (Nat.le_of_ble_eq_true rfl)) dL_law_307 ⟨show cells + 1 ≤ 1052 by omega, show slots + 6 ≤ 16861 by omega⟩) hS (fun q _ h => hFc q h) hFc (fun r u t H2 lo2 ht hvm hw hB hz1 hk1 hS2 => ?_)
    obtain ⟨hP1, hD1⟩ := hB
    rw [ht] at hP1
    subst hw
    obtain ⟨hP9, hD9⟩ := va_join (w1 := (w_VB cI cB cZ aV aT aTb aP aPp aPf aD aDp aDf aR aRt aK aB aBb aBs aH aHk aHp aHb aHr tl tb pg ps pn pp pf dg ds dn dp df rl rk rp rt kp kb kk kn bb bs (nI l0) (nI h) jk jp jb jr) ++ [outC cJ aO fo]) hP hD [0, 1, 2, 3, 4, 5, 6, 7, 8, 9, 10, 11, 12, 13, 14, 15, 16, 17, 18, 19, 26] [20, 21, 22, 23, 24, 25] rfl (wr := (w_Model cI cB cZ aM aMt aMn aMr aMs aMi mth mtd msz mto mfr mso mnu rk mpl mwo (nI h) mgo mt mno mre msn mis)) rfl (by decide) (by decide) hk1 hFc hP1 hD1
    have hP2 : va_P D vwCl ((w_VB cI cB cZ aV aT aTb aP aPp aPf aD aDp aDf aR aRt aK aB aBb aBs aH aHk aHp aHb aHr tl tb pg ps pn pp pf dg ds dn dp df rl rk rp rt kp kb kk kn bb bs (nI l0) (nI h) jk jp jb jr) ++ ((w_Model cI cB cZ aM aMt aMn aMr aMs aMi mth mtd msz mto mfr mso mnu rk mpl mwo (nI h) mgo mt mno mre msn mis) ++ [outC cJ aO fo])) H2 := hP9.sub [6, 7, 8, 9, 10, 11, 12, 13, 14, 15, 16, 17, 18, 19, 20, 21, 22, 23, 24, 25, 0, 1, 2, 3, 4, 5, 26] (zz_fm rfl)
    have hD2 : va_D (fun q : Nat => s.heap.size ≤ q) ((w_VB cI cB cZ aV aT aTb aP aPp aPf aD aDp aDf aR aRt aK aB aBb aBs aH aHk aHp aHb aHr tl tb pg ps pn pp pf dg ds dn dp df rl rk rp rt kp kb kk kn bb bs (nI l0) (nI h) jk jp jb jr) ++ ((w_Model cI cB cZ aM aMt aMn aMr aMs aMi mth mtd msz mto mfr mso mnu rk mpl mwo (nI h) mgo mt mno mre msn mis) ++ [outC cJ aO fo])) := hD9.sub [6, 7, 8, 9, 10, 11, 12, 13, 14, 15, 16, 17, 18, 19, 20, 21, 22, 23, 24, 25, 0, 1, 2, 3, 4, 5, 26] (by decide) rfl
    refine lv_istore (lv' := [(5, .int 1), (0, .ref b), (1, .ref aV), (2, .ref aM), (3, .ref aO), (4, .int (nI (6 * i)))]) hx hb dL_law_310 hl (by decide) rfl (fun ls hl => ?_)
    refine lv_aload_n hx hb dL_law_312 rfl (lv_at hl 3 rfl) ?_
    refine lv_aload_n hx hb dL_law_313 rfl (lv_at hl 1 rfl) ?_
    refine lv_iload hx hb dL_law_314 (lv_at hl 5 rfl) ?_
    refine lv_iconst (v := (1 : Int32)) hx hb dL_law_316 (by decide) ?_
    refine lv_iadd hx hb dL_law_317 ?_
    refine va_sld hx hb hX hbl hbA hS2 (in6 (k := 1) (by omega) hL) dL_law_318 ?_
    refine lv_aload_n hx hb dL_law_319 rfl (lv_at hl 1 rfl) ?_
    refine lv_iload hx hb dL_law_320 (lv_at hl 5 rfl) ?_
    refine lv_iconst (v := (2 : Int32)) hx hb dL_law_322 (by decide) ?_
    refine lv_iadd hx hb dL_law_323 ?_
    refine va_sld hx hb hX hbl hbA hS2 (in6 (k := 2) (by omega) hL) dL_law_324 ?_
    refine gcall_i (ws' := ((w_VB cI cB cZ aV aT aTb aP aPp aPf aD aDp aDf aR aRt aK aB aBb aBs aH aHk aHp aHb aHr tl tb pg ps pn pp pf dg ds dn dp df rl rk rp rt kp kb kk kn bb bs (nI l0) (nI h) jk jp jb jr) ++ ((w_Model cI cB cZ aM aMt aMn aMr aMs aMi 1 mtd msz mto mfr mso mnu rk mpl mwo (nI h) mgo mt mno mre msn mis) ++ [outC cJ aO fo]))) (va_runV (As := [.int (xs (nI (6 * i) + (1 : Int32)).toNatClampNeg), .int (xs (nI (6 * i) + (2 : Int32)).toNatClampNeg)]) (rest := []) ⟨hx, hb, hml, hown, hts⟩ (c_X7_node l D cI cB cZ ta aM aMt aMn aMr aMs aMi H2.size mth mtd msz mto mfr mso mnu rk mpl mwo (nI h) mgo mt mno mre msn mis ((xs (nI (6 * i) + (1 : Int32)).toNatClampNeg)) ((xs (nI (6 * i) + (2 : Int32)).toNatClampNeg)) 0 1 e2) (cwV 2 hts gL_law_X7_node rfl rfl rfl (by decide +kernel) ⟨(Nat.le_of_ble_eq_true rfl), (Nat.le_of_ble_eq_true rfl)⟩) ⟨PW_blind, va_recv hK hP2 rfl (q0 := 20) rfl, PW_at hP2 hD2 hK3 hS2 hA hG [20, 21, 22, 23, 24, 25] rfl (by decide)⟩ rfl rfl hl.1 rfl (lv_room (Nat.le_of_ble_eq_true rfl)) dL_law_325 hc1) hP2 hD2 hS2 hA [20, 21, 22, 23, 24, 25] [0, 1, 2, 3, 4, 5, 6, 7, 8, 9, 10, 11, 12, 13, 14, 15, 16, 17, 18, 19, 26] [0, 1, 2, 3, 4, 5, 6, 7, 8, 9, 10, 11, 12, 13, 14, 15, 16, 17, 18, 19, 21, 22, 23, 24, 25, 26, 20] rfl rfl (by decide) (by decide) (by decide) rfl (fun H3 lo3 hP3 hD3 hS3 => ?_)
    refine lv_istore (lv' := [(6, .int 0), (5, .int 1), (0, .ref b), (1, .ref aV), (2, .ref aM), (3, .ref aO), (4, .int (nI (6 * i)))]) hx hb dL_law_328 hl (by decide) rfl (fun ls hl => ?_)
    refine lv_aload_n hx hb dL_law_330 rfl (lv_at hl 4 rfl) ?_
    refine gcall_i (ws' := ((w_VB cI cB cZ aV aT aTb aP aPp aPf aD aDp aDf aR aRt aK aB aBb aBs aH aHk aHp aHb aHr tl tb pg ps pn pp pf dg ds dn dp df rl rk rp rt kp kb kk kn bb bs (nI l0) (nI h) jk jp jb jr) ++ ((w_Model cI cB cZ aM aMt aMn aMr aMs aMi 1 mtd msz mto mfr mso mnu rk mpl mwo (nI h) mgo mt mno mre msn mis) ++ [outC cJ aO fo]))) (va_runV (As := []) (rest := []) ⟨hx, hb, hml, hown, hts⟩ (c_X7_thrown l D cI cB cZ ta aM aMt aMn aMr aMs aMi H3.size 1 mtd msz mto mfr mso mnu rk mpl mwo (nI h) mgo mt mno mre msn mis 1 rfl) (cwV 0 hts gL_law_X7_thrown rfl rfl rfl (by decide +kernel) ⟨(Nat.le_of_ble_eq_true rfl), (Nat.le_of_ble_eq_true rfl)⟩) ⟨PW_blind, va_recv hK hP3 rfl (q0 := 20) rfl, PW_at hP3 hD3 hK3 hS3 hA hG [20, 21, 22, 23, 24, 25] rfl (by decide)⟩ rfl rfl hl.1 rfl (lv_room (Nat.le_of_ble_eq_true rfl)) dL_law_331 hc1) hP3 hD3 hS3 hA [20, 21, 22, 23, 24, 25] [0, 1, 2, 3, 4, 5, 6, 7, 8, 9, 10, 11, 12, 13, 14, 15, 16, 17, 18, 19, 26] [0, 1, 2, 3, 4, 5, 6, 7, 8, 9, 10, 11, 12, 13, 14, 15, 16, 17, 18, 19, 21, 22, 23, 24, 25, 26, 20] rfl rfl (by decide) (by decide) (by decide) rfl (fun H4 lo4 hP4 hD4 hS4 => ?_)
    refine lv_iload hx hb dL_law_334 (lv_at hl 1 rfl) ?_
    refine lv_icmp_eq (tgt := 341) hx hb dL_law_336 (by decide) (fun _ => ?_) (fun c9 => absurd rfl c9)
    refine lv_iload hx hb dL_law_341 (lv_at hl 1 rfl) ?_
    refine lv_if_ne (tgt := 358) hx hb dL_law_343 (by decide) (fun _ => ?_) (fun c9 => absurd c9 (by decide))
    refine lv_goto (tgt := 1073) hx hb dL_law_358 (by decide) ?_
    exact K tl tb pg ps pn pp pf dg ds dn dp df rl rk rp rt kp kb kk kn bb bs (nI l0) (nI h) jk jp jb jr 1 mtd msz mto mfr mso mnu rk mpl mwo (nI h) mgo mt mno mre msn mis fo ⟨T0, h, l0, A, R, H0, rfl, rfl, rfl, hc, hm, rfl⟩ H4 lo4 hP4 hD4 hS4 ls (lv_sub hl [2, 3, 4, 5, 6] rfl)
  · refine lv_aload_n hx hb dL_law_293 rfl (lv_at hl 1 rfl) ?_
    refine lv_aload_n hx hb dL_law_294 rfl (lv_at hl 0 rfl) ?_
    refine lv_iload hx hb dL_law_295 (lv_at hl 4 rfl) ?_
    refine lv_iconst (v := (1 : Int32)) hx hb dL_law_297 (by decide) ?_
    refine lv_iadd hx hb dL_law_298 ?_
    refine va_sld hx hb hX hbl hbA hS (in6 (k := 1) (by omega) hL) dL_law_299 ?_
    refine lv_aload_n hx hb dL_law_300 rfl (lv_at hl 0 rfl) ?_
    refine lv_iload hx hb dL_law_301 (lv_at hl 4 rfl) ?_
    refine lv_iconst (v := (2 : Int32)) hx hb dL_law_303 (by decide) ?_
    refine lv_iadd hx hb dL_law_304 ?_
    refine va_sld hx hb hX hbl hbA hS (in6 (k := 2) (by omega) hL) dL_law_305 ?_
    refine lv_aload_n hx hb dL_law_306 rfl (lv_at hl 3 rfl) ?_
    have hc1 : cells + 0 + 0 ≤ room_1.cells ∧ slots + 0 + 0 ≤ room_1.slots := ⟨show cells + 0 + 0 ≤ 1052 by omega, show slots + 0 + 0 ≤ 16861 by omega⟩
    have hFc := va_free (wc := (w_VB cI cB cZ aV aT aTb aP aPp aPf aD aDp aDf aR aRt aK aB aBb aBs aH aHk aHp aHb aHr tl tb pg ps pn pp pf dg ds dn dp df rl rk rp rt kp kb kk kn bb bs (nI l0) (nI h) jk jp jb jr) ++ [outC cJ aO fo]) hD hS hA [0, 1, 2, 3, 4, 5, 6, 7, 8, 9, 10, 11, 12, 13, 14, 15, 16, 17, 18, 19, 26] rfl
    refine va_calli (vx_runSW (As := [.ref aV, .int (xs (nI (6 * i) + (1 : Int32)).toNatClampNeg), .int (xs (nI (6 * i) + (2 : Int32)).toNatClampNeg), .ref aO]) (rest := []) ⟨hx, hb, hml, hown, hts⟩ (c_L_node l D cI cB cZ ta aV aT aTb aP aPp aPf aD aDp aDf aR aRt aK aB aBb aBs aH aHk aHp aHb aHr H.size tl tb pg ps pn pp pf dg ds dn dp df rl rk rp rt kp kb kk kn bb bs (nI l0) (nI h) jk jp jb jr cJ sa aO fo (xs (nI (6 * i) + (1 : Int32)).toNatClampNeg) (xs (nI (6 * i) + (2 : Int32)).toNatClampNeg) r e1) (vx_cwSW 4 hts gL_law_L_node rfl rfl rfl (by decide +kernel) ⟨(Nat.le_of_ble_eq_true rfl), (Nat.le_of_ble_eq_true rfl)⟩) ⟨PL_blind, PL_at hP hD hK hS hA hG hN [0, 1, 2, 3, 4, 5, 6, 7, 8, 9, 10, 11, 12, 13, 14, 15, 16, 17, 18, 19, 26] rfl (by decide)⟩ rfl rfl hl.1 rfl (lv_room (Nat.le_of_ble_eq_true rfl)) dL_law_307 hc0) hS (fun q _ h => hFc q h) hFc (fun r9 u t H2 lo2 ht hvm hw hB hz1 hk1 hS2 => ?_)
    obtain ⟨hP1, hD1⟩ := hB
    rw [ht] at hP1
    subst hw
    obtain ⟨hP9, hD9⟩ := va_join (w1 := (w_VB cI cB cZ aV aT aTb aP aPp aPf aD aDp aDf aR aRt aK aB aBb aBs aH aHk aHp aHb aHr tl tb pg ps pn pp pf dg ds dn dp df rl rk rp rt kp kb kk kn bb bs (nI l0) (nI h) jk jp jb jr) ++ [outC cJ aO (vp_updL fo 0 (Int32.toInt64 r))]) hP hD [0, 1, 2, 3, 4, 5, 6, 7, 8, 9, 10, 11, 12, 13, 14, 15, 16, 17, 18, 19, 26] [20, 21, 22, 23, 24, 25] rfl (wr := (w_Model cI cB cZ aM aMt aMn aMr aMs aMi mth mtd msz mto mfr mso mnu rk mpl mwo (nI h) mgo mt mno mre msn mis)) rfl (by decide) (by decide) hk1 hFc hP1 hD1
    have hP2 : va_P D vwCl ((w_VB cI cB cZ aV aT aTb aP aPp aPf aD aDp aDf aR aRt aK aB aBb aBs aH aHk aHp aHb aHr tl tb pg ps pn pp pf dg ds dn dp df rl rk rp rt kp kb kk kn bb bs (nI l0) (nI h) jk jp jb jr) ++ ((w_Model cI cB cZ aM aMt aMn aMr aMs aMi mth mtd msz mto mfr mso mnu rk mpl mwo (nI h) mgo mt mno mre msn mis) ++ [outC cJ aO ((vp_updL fo 0 (Int32.toInt64 r)))])) H2 := hP9.sub [6, 7, 8, 9, 10, 11, 12, 13, 14, 15, 16, 17, 18, 19, 20, 21, 22, 23, 24, 25, 0, 1, 2, 3, 4, 5, 26] (zz_fm rfl)
    have hD2 : va_D (fun q : Nat => s.heap.size ≤ q) ((w_VB cI cB cZ aV aT aTb aP aPp aPf aD aDp aDf aR aRt aK aB aBb aBs aH aHk aHp aHb aHr tl tb pg ps pn pp pf dg ds dn dp df rl rk rp rt kp kb kk kn bb bs (nI l0) (nI h) jk jp jb jr) ++ ((w_Model cI cB cZ aM aMt aMn aMr aMs aMi mth mtd msz mto mfr mso mnu rk mpl mwo (nI h) mgo mt mno mre msn mis) ++ [outC cJ aO ((vp_updL fo 0 (Int32.toInt64 r)))])) := hD9.sub [6, 7, 8, 9, 10, 11, 12, 13, 14, 15, 16, 17, 18, 19, 20, 21, 22, 23, 24, 25, 0, 1, 2, 3, 4, 5, 26] (by decide) rfl
    refine lv_istore (lv' := [(5, .int 0), (0, .ref b), (1, .ref aV), (2, .ref aM), (3, .ref aO), (4, .int (nI (6 * i)))]) hx hb dL_law_310 hl (by decide) rfl (fun ls hl => ?_)
    refine lv_aload_n hx hb dL_law_312 rfl (lv_at hl 3 rfl) ?_
    refine lv_aload_n hx hb dL_law_313 rfl (lv_at hl 1 rfl) ?_
    refine lv_iload hx hb dL_law_314 (lv_at hl 5 rfl) ?_
    refine lv_iconst (v := (1 : Int32)) hx hb dL_law_316 (by decide) ?_
    refine lv_iadd hx hb dL_law_317 ?_
    refine va_sld hx hb hX hbl hbA hS2 (in6 (k := 1) (by omega) hL) dL_law_318 ?_
    refine lv_aload_n hx hb dL_law_319 rfl (lv_at hl 1 rfl) ?_
    refine lv_iload hx hb dL_law_320 (lv_at hl 5 rfl) ?_
    refine lv_iconst (v := (2 : Int32)) hx hb dL_law_322 (by decide) ?_
    refine lv_iadd hx hb dL_law_323 ?_
    refine va_sld hx hb hX hbl hbA hS2 (in6 (k := 2) (by omega) hL) dL_law_324 ?_
    refine gcall_i (ws' := ((w_VB cI cB cZ aV aT aTb aP aPp aPf aD aDp aDf aR aRt aK aB aBb aBs aH aHk aHp aHb aHr tl tb pg ps pn pp pf dg ds dn dp df rl rk rp rt kp kb kk kn bb bs (nI l0) (nI h) jk jp jb jr) ++ ((w_Model cI cB cZ aM aMt aMn aMr aMs aMi 0 mtd msz mto mfr mso mnu rk mpl mwo (nI h) mgo mt mno mre msn mis) ++ [outC cJ aO ((vp_updL fo 0 (Int32.toInt64 r)))]))) (va_runV (As := [.int (xs (nI (6 * i) + (1 : Int32)).toNatClampNeg), .int (xs (nI (6 * i) + (2 : Int32)).toNatClampNeg)]) (rest := []) ⟨hx, hb, hml, hown, hts⟩ (c_X7_node l D cI cB cZ ta aM aMt aMn aMr aMs aMi H2.size mth mtd msz mto mfr mso mnu rk mpl mwo (nI h) mgo mt mno mre msn mis ((xs (nI (6 * i) + (1 : Int32)).toNatClampNeg)) ((xs (nI (6 * i) + (2 : Int32)).toNatClampNeg)) r 0 e2) (cwV 2 hts gL_law_X7_node rfl rfl rfl (by decide +kernel) ⟨(Nat.le_of_ble_eq_true rfl), (Nat.le_of_ble_eq_true rfl)⟩) ⟨PW_blind, va_recv hK hP2 rfl (q0 := 20) rfl, PW_at hP2 hD2 hK3 hS2 hA hG [20, 21, 22, 23, 24, 25] rfl (by decide)⟩ rfl rfl hl.1 rfl (lv_room (Nat.le_of_ble_eq_true rfl)) dL_law_325 hc1) hP2 hD2 hS2 hA [20, 21, 22, 23, 24, 25] [0, 1, 2, 3, 4, 5, 6, 7, 8, 9, 10, 11, 12, 13, 14, 15, 16, 17, 18, 19, 26] [0, 1, 2, 3, 4, 5, 6, 7, 8, 9, 10, 11, 12, 13, 14, 15, 16, 17, 18, 19, 21, 22, 23, 24, 25, 26, 20] rfl rfl (by decide) (by decide) (by decide) rfl (fun H3 lo3 hP3 hD3 hS3 => ?_)
    refine lv_istore (lv' := [(6, .int r), (5, .int 0), (0, .ref b), (1, .ref aV), (2, .ref aM), (3, .ref aO), (4, .int (nI (6 * i)))]) hx hb dL_law_328 hl (by decide) rfl (fun ls hl => ?_)
    refine lv_aload_n hx hb dL_law_330 rfl (lv_at hl 4 rfl) ?_
    refine gcall_i (ws' := ((w_VB cI cB cZ aV aT aTb aP aPp aPf aD aDp aDf aR aRt aK aB aBb aBs aH aHk aHp aHb aHr tl tb pg ps pn pp pf dg ds dn dp df rl rk rp rt kp kb kk kn bb bs (nI l0) (nI h) jk jp jb jr) ++ ((w_Model cI cB cZ aM aMt aMn aMr aMs aMi 0 mtd msz mto mfr mso mnu rk mpl mwo (nI h) mgo mt mno mre msn mis) ++ [outC cJ aO ((vp_updL fo 0 (Int32.toInt64 r)))]))) (va_runV (As := []) (rest := []) ⟨hx, hb, hml, hown, hts⟩ (c_X7_thrown l D cI cB cZ ta aM aMt aMn aMr aMs aMi H3.size 0 mtd msz mto mfr mso mnu rk mpl mwo (nI h) mgo mt mno mre msn mis 0 rfl) (cwV 0 hts gL_law_X7_thrown rfl rfl rfl (by decide +kernel) ⟨(Nat.le_of_ble_eq_true rfl), (Nat.le_of_ble_eq_true rfl)⟩) ⟨PW_blind, va_recv hK hP3 rfl (q0 := 20) rfl, PW_at hP3 hD3 hK3 hS3 hA hG [20, 21, 22, 23, 24, 25] rfl (by decide)⟩ rfl rfl hl.1 rfl (lv_room (Nat.le_of_ble_eq_true rfl)) dL_law_331 hc1) hP3 hD3 hS3 hA [20, 21, 22, 23, 24, 25] [0, 1, 2, 3, 4, 5, 6, 7, 8, 9, 10, 11, 12, 13, 14, 15, 16, 17, 18, 19, 26] [0, 1, 2, 3, 4, 5, 6, 7, 8, 9, 10, 11, 12, 13, 14, 15, 16, 17, 18, 19, 21, 22, 23, 24, 25, 26, 20] rfl rfl (by decide) (by decide) (by decide) rfl (fun H4 lo4 hP4 hD4 hS4 => ?_)
    refine lv_iload hx hb dL_law_334 (lv_at hl 1 rfl) ?_
    refine lv_icmp_eq (tgt := 341) hx hb dL_law_336 (by decide) (fun _ => ?_) (fun c9 => absurd rfl c9)
    refine lv_iload hx hb dL_law_341 (lv_at hl 1 rfl) ?_
    refine lv_if_ne (tgt := 358) hx hb dL_law_343 (by decide) (fun c9 => absurd rfl c9) (fun _ => ?_)
    refine lv_aload_n hx hb dL_law_346 rfl (lv_at hl 5 rfl) ?_
    refine lv_iconst (v := (0 : Int32)) hx hb dL_law_347 (by decide) ?_
    refine va_lald (D := D) hx hb hK hP4 26 3 (cA := cJ) (n := 1) (f := (vp_updL fo 0 (Int32.toInt64 r))) rfl rfl (show ¬ ((0 : Int32) < 0 ∨ 1 ≤ (0 : Int32).toNatClampNeg) by decide) dL_law_348 ?_
    refine lv_iload hx hb dL_law_349 (lv_at hl 0 rfl) ?_
    refine lv_i2l (v := Int32.toInt64 r) hx hb dL_law_351 rfl ?_
    refine W.lcmp hx hb dL_law_352 ?_
    refine lv_if_eq (tgt := 358) hx hb dL_law_353 (by decide) (fun _ => ?_) (fun c9 => absurd ((lg_cmp_eq _ _).mpr rfl) c9)
    refine lv_goto (tgt := 1073) hx hb dL_law_358 (by decide) ?_
    refine W.widen (k := cells + 1) (n := slots + 6) (by omega) (by omega) ?_
    exact K tl tb pg ps pn pp pf dg ds dn dp df rl rk rp rt kp kb kk kn bb bs (nI l0) (nI h) jk jp jb jr 0 mtd msz mto mfr mso mnu rk mpl mwo (nI h) mgo mt mno mre msn mis ((vp_updL fo 0 (Int32.toInt64 r))) ⟨T0, h, l0, A, R, H0, rfl, rfl, rfl, hc, hm, rfl⟩ H4 lo4 hP4 hD4 hS4 ls (lv_sub hl [2, 3, 4, 5, 6] rfl)
end
