/-! cases of the law -/
section
variable {p : Program} {l : Launch} {e : Env} {s : State} {m : MethodId} {below : List Frame} {meth : Method} {c : Code} {D : va_G} {cI cB cZ cJ : ClassId} {ta : Nat → Nat} {sa : Nat} {aV aT aTb aP aPp aPf aD aDp aDf aR aRt aK aB aBb aBs aH aHk aHp aHb aHr aM aMt aMn aMr aMs aMi aO : Nat} {b L : Nat} {xs : Nat → Int32}
set_option maxHeartbeats 4000000 in
set_option maxRecDepth 100000 in
theorem lc_14 (hst : l.stackTraces = false) (E : LE p s m meth c D cI cB cZ cJ ta sa b L xs) {i cells slots : Nat} (hi : 6 * i + 6 ≤ L) (hL : L ≤ 3072) (hcs : cells + 1 ≤ 1052 ∧ slots + 6 ≤ 16861) (K : K73 p l e s m below meth c D cI cB cZ cJ aV aT aTb aP aPp aPf aD aDp aDf aR aRt aK aB aBb aBs aH aHk aHp aHb aHr aM aMt aMn aMr aMs aMi aO b i (cells + 1) (slots + 6)) (tl : Int32) (tb : (Nat → Int32)) (pg : Int32) (ps : Int32) (pn : Int32) (pp : (Nat → Int32)) (pf : (Nat → Int32)) (dg : Int32) (ds : Int32) (dn : Int32) (dp : (Nat → Int32)) (df : (Nat → Int32)) (rl : Int32) (rk : Int32) (rp : Int32) (rt : (Nat → Int32)) (kp : Int32) (kb : Int32) (kk : Int32) (kn : Int32) (bb : (Nat → Int32)) (bs : (Nat → Int32)) (jl : Int32) (jn : Int32) (jk : (Nat → Int32)) (jp : (Nat → Int32)) (jb : (Nat → Int32)) (jr : (Nat → Int32)) (mth : Int32) (mtd : Int32) (msz : Int32) (mto : Int32) (mfr : Int32) (mso : Int32) (mnu : Int32) (mfa : Int32) (mpl : Int32) (mwo : Int64) (msm : Int32) (mgo : Int32) (mt : (Nat → Int32)) (mno : (Nat → Int32)) (mre : (Nat → Int32)) (msn : (Nat → Int32)) (mis : (Nat → Int32)) (fo : Nat → Int64) (hI : Inv tl tb pg ps pn pp pf rk jl jn jk jp jb jr mtd mfa msm mt mno msn) (H : Heap) (lo : List Loc) (hP : va_P D vwCl ((w_VB cI cB cZ aV aT aTb aP aPp aPf aD aDp aDf aR aRt aK aB aBb aBs aH aHk aHp aHb aHr tl tb pg ps pn pp pf dg ds dn dp df rl rk rp rt kp kb kk kn bb bs jl jn jk jp jb jr) ++ ((w_Model cI cB cZ aM aMt aMn aMr aMs aMi mth mtd msz mto mfr mso mnu mfa mpl mwo msm mgo mt mno mre msn mis) ++ [outC cJ aO fo])) H) (hD : va_D (fun q : Nat => s.heap.size ≤ q) ((w_VB cI cB cZ aV aT aTb aP aPp aPf aD aDp aDf aR aRt aK aB aBb aBs aH aHk aHp aHb aHr tl tb pg ps pn pp pf dg ds dn dp df rl rk rp rt kp kb kk kn bb bs jl jn jk jp jb jr) ++ ((w_Model cI cB cZ aM aMt aMn aMr aMs aMi mth mtd msz mto mfr mso mnu mfa mpl mwo msm mgo mt mno mre msn mis) ++ [outC cJ aO fo]))) (hS : va_S (fun q : Nat => s.heap.size ≤ q) s.heap H lo) (ls : Array Slot) (hl : lv_has ls 7 [(0, .ref b), (1, .ref aV), (2, .ref aM), (3, .ref aO), (4, .int (nI (6 * i)))]) : W p l e room_1 s m #[Value.ref b] below meth c H lo cells slots (lw_Z below #[Value.ref b] s) (F0 m 753 ls []) := by
  obtain ⟨⟨hx, hb, hr, hml, hown, hts, hX, hbl, hlocks⟩, hK, hG, hN⟩ := E
  have hA : ∀ q : Nat, s.heap.size ≤ q → (fun q : Nat => s.heap.size ≤ q) q := fun _ h => h
  have hbA : ¬ (fun q : Nat => s.heap.size ≤ q) b := Nat.not_le.mpr hbl
  have hK3 : va_K D vwCl (tyG cI cB cZ) s := hK.sub [0, 1, 2] rfl
  obtain ⟨T0, h, l0, A, R, H0, rfl, rfl, rfl, hc, hm, rfl⟩ := hI
  have hc0 : cells + 0 ≤ room_1.cells ∧ slots + 0 ≤ room_1.slots := ⟨show cells + 0 ≤ 1052 by omega, show slots + 0 ≤ 16861 by omega⟩
  obtain ⟨r, e1, e2⟩ := op_branch (H0.2.2.1 0 (Nat.zero_le _)) hc hm mth (xs (nI (6 * i) + (1 : Int32)).toNatClampNeg) (xs (nI (6 * i) + (2 : Int32)).toNatClampNeg)
  refine lv_aload_n hx hb dL_law_753 rfl (lv_at hl 1 rfl) ?_
  refine lv_aload_n hx hb dL_law_754 rfl (lv_at hl 0 rfl) ?_
  refine lv_iload hx hb dL_law_755 (lv_at hl 4 rfl) ?_
  refine lv_iconst (v := (1 : Int32)) hx hb dL_law_757 (by decide) ?_
  refine lv_iadd hx hb dL_law_758 ?_
  refine va_sld hx hb hX hbl hbA hS (in6 (k := 1) (by omega) hL) dL_law_759 ?_
  refine lv_aload_n hx hb dL_law_760 rfl (lv_at hl 0 rfl) ?_
  refine lv_iload hx hb dL_law_761 (lv_at hl 4 rfl) ?_
  refine lv_iconst (v := (2 : Int32)) hx hb dL_law_763 (by decide) ?_
  refine lv_iadd hx hb dL_law_764 ?_
  refine va_sld hx hb hX hbl hbA hS (in6 (k := 2) (by omega) hL) dL_law_765 ?_
  refine gcall_i (ws' := ((w_VB cI cB cZ aV aT aTb aP aPp aPf aD aDp aDf aR aRt aK aB aBb aBs aH aHk aHp aHb aHr tl tb pg ps pn pp pf dg ds dn dp df rl rk rp rt kp kb kk kn bb bs (nI l0) (nI h) jk jp jb jr) ++ ((w_Model cI cB cZ aM aMt aMn aMr aMs aMi mth mtd msz mto mfr mso mnu rk mpl mwo (nI h) mgo mt mno mre msn mis) ++ [outC cJ aO fo]))) (va_runV (As := [.int (xs (nI (6 * i) + (1 : Int32)).toNatClampNeg), .int (xs (nI (6 * i) + (2 : Int32)).toNatClampNeg)]) (rest := []) ⟨hx, hb, hml, hown, hts⟩ (c_X6_branch l D cI cB cZ ta aV aT aTb aP aPp aPf aD aDp aDf aR aRt aK aB aBb aBs aH aHk aHp aHb aHr H.size tl tb pg ps pn pp pf dg ds dn dp df rl rk rp rt kp kb kk kn bb bs (nI l0) (nI h) jk jp jb jr ((xs (nI (6 * i) + (1 : Int32)).toNatClampNeg)) ((xs (nI (6 * i) + (2 : Int32)).toNatClampNeg)) r e1) (cwV 2 hts gL_law_X6_branch rfl rfl rfl (by decide +kernel) ⟨(Nat.le_of_ble_eq_true rfl), (Nat.le_of_ble_eq_true rfl)⟩) ⟨PW_blind, va_recv hK hP rfl (q0 := 0) rfl, PW_at hP hD hK3 hS hA hG [0, 1, 2, 3, 4, 5, 6, 7, 8, 9, 10, 11, 12, 13, 14, 15, 16, 17, 18, 19] rfl (by decide)⟩ rfl rfl hl.1 rfl (lv_room (Nat.le_of_ble_eq_true rfl)) dL_law_766 hc0) hP hD hS hA [0, 1, 2, 3, 4, 5, 6, 7, 8, 9, 10, 11, 12, 13, 14, 15, 16, 17, 18, 19] [20, 21, 22, 23, 24, 25, 26] [7, 8, 9, 10, 11, 12, 13, 14, 15, 16, 17, 18, 19, 20, 21, 22, 23, 24, 25, 26, 0, 1, 2, 3, 4, 5, 6] rfl rfl (by decide) (by decide) (by decide) rfl (fun H2 lo2 hP2 hD2 hS2 => ?_)
  refine lv_aload_n hx hb dL_law_769 rfl (lv_at hl 2 rfl) ?_
  refine lv_aload_n hx hb dL_law_770 rfl (lv_at hl 0 rfl) ?_
  refine lv_iload hx hb dL_law_771 (lv_at hl 4 rfl) ?_
  refine lv_iconst (v := (1 : Int32)) hx hb dL_law_773 (by decide) ?_
  refine lv_iadd hx hb dL_law_774 ?_
  refine va_sld hx hb hX hbl hbA hS2 (in6 (k := 1) (by omega) hL) dL_law_775 ?_
  refine lv_aload_n hx hb dL_law_776 rfl (lv_at hl 0 rfl) ?_
  refine lv_iload hx hb dL_law_777 (lv_at hl 4 rfl) ?_
  refine lv_iconst (v := (2 : Int32)) hx hb dL_law_779 (by decide) ?_
  refine lv_iadd hx hb dL_law_780 ?_
  refine va_sld hx hb hX hbl hbA hS2 (in6 (k := 2) (by omega) hL) dL_law_781 ?_
  refine gcall_i (ws' := ((w_VB cI cB cZ aV aT aTb aP aPp aPf aD aDp aDf aR aRt aK aB aBb aBs aH aHk aHp aHb aHr tl tb pg ps pn pp pf dg ds dn dp df rl rk rp rt kp kb kk kn bb bs (nI l0) (nI h) jk jp jb jr) ++ ((w_Model cI cB cZ aM aMt aMn aMr aMs aMi 0 mtd msz mto mfr mso mnu rk mpl mwo (nI h) mgo mt mno mre msn mis) ++ [outC cJ aO fo]))) (va_runV (As := [.int (xs (nI (6 * i) + (1 : Int32)).toNatClampNeg), .int (xs (nI (6 * i) + (2 : Int32)).toNatClampNeg)]) (rest := [.int r]) ⟨hx, hb, hml, hown, hts⟩ (c_X7_branch l D cI cB cZ ta aM aMt aMn aMr aMs aMi H2.size mth mtd msz mto mfr mso mnu rk mpl mwo (nI h) mgo mt mno mre msn mis ((xs (nI (6 * i) + (1 : Int32)).toNatClampNeg)) ((xs (nI (6 * i) + (2 : Int32)).toNatClampNeg)) r 0 e2) (cwV 2 hts gL_law_X7_branch rfl rfl rfl (by decide +kernel) ⟨(Nat.le_of_ble_eq_true rfl), (Nat.le_of_ble_eq_true rfl)⟩) ⟨PW_blind, va_recv hK hP2 rfl (q0 := 20) rfl, PW_at hP2 hD2 hK3 hS2 hA hG [20, 21, 22, 23, 24, 25] rfl (by decide)⟩ rfl rfl hl.1 rfl (lv_room (Nat.le_of_ble_eq_true rfl)) dL_law_782 hc0) hP2 hD2 hS2 hA [20, 21, 22, 23, 24, 25] [0, 1, 2, 3, 4, 5, 6, 7, 8, 9, 10, 11, 12, 13, 14, 15, 16, 17, 18, 19, 26] [0, 1, 2, 3, 4, 5, 6, 7, 8, 9, 10, 11, 12, 13, 14, 15, 16, 17, 18, 19, 21, 22, 23, 24, 25, 26, 20] rfl rfl (by decide) (by decide) (by decide) rfl (fun H3 lo3 hP3 hD3 hS3 => ?_)
  refine lv_icmp_eq (tgt := 1073) hx hb dL_law_785 (by decide) (fun _ => ?_) (fun c9 => absurd rfl c9)
  refine W.widen (k := cells + 1) (n := slots + 6) (by omega) (by omega) ?_
  exact K tl tb pg ps pn pp pf dg ds dn dp df rl rk rp rt kp kb kk kn bb bs (nI l0) (nI h) jk jp jb jr 0 mtd msz mto mfr mso mnu rk mpl mwo (nI h) mgo mt mno mre msn mis fo ⟨T0, h, l0, A, R, H0, rfl, rfl, rfl, hc, hm, rfl⟩ H3 lo3 hP3 hD3 hS3 ls (lv_sub hl [0, 1, 2, 3, 4] rfl)
set_option maxHeartbeats 4000000 in
set_option maxRecDepth 100000 in
theorem lc_15 (hst : l.stackTraces = false) (E : LE p s m meth c D cI cB cZ cJ ta sa b L xs) {i cells slots : Nat} (hi : 6 * i + 6 ≤ L) (hL : L ≤ 3072) (hcs : cells + 1 ≤ 1052 ∧ slots + 6 ≤ 16861) (K : K73 p l e s m below meth c D cI cB cZ cJ aV aT aTb aP aPp aPf aD aDp aDf aR aRt aK aB aBb aBs aH aHk aHp aHb aHr aM aMt aMn aMr aMs aMi aO b i (cells + 1) (slots + 6)) (tl : Int32) (tb : (Nat → Int32)) (pg : Int32) (ps : Int32) (pn : Int32) (pp : (Nat → Int32)) (pf : (Nat → Int32)) (dg : Int32) (ds : Int32) (dn : Int32) (dp : (Nat → Int32)) (df : (Nat → Int32)) (rl : Int32) (rk : Int32) (rp : Int32) (rt : (Nat → Int32)) (kp : Int32) (kb : Int32) (kk : Int32) (kn : Int32) (bb : (Nat → Int32)) (bs : (Nat → Int32)) (jl : Int32) (jn : Int32) (jk : (Nat → Int32)) (jp : (Nat → Int32)) (jb : (Nat → Int32)) (jr : (Nat → Int32)) (mth : Int32) (mtd : Int32) (msz : Int32) (mto : Int32) (mfr : Int32) (mso : Int32) (mnu : Int32) (mfa : Int32) (mpl : Int32) (mwo : Int64) (msm : Int32) (mgo : Int32) (mt : (Nat → Int32)) (mno : (Nat → Int32)) (mre : (Nat → Int32)) (msn : (Nat → Int32)) (mis : (Nat → Int32)) (fo : Nat → Int64) (hI : Inv tl tb pg ps pn pp pf rk jl jn jk jp jb jr mtd mfa msm mt mno msn) (H : Heap) (lo : List Loc) (hP : va_P D vwCl ((w_VB cI cB cZ aV aT aTb aP aPp aPf aD aDp aDf aR aRt aK aB aBb aBs aH aHk aHp aHb aHr tl tb pg ps pn pp pf dg ds dn dp df rl rk rp rt kp kb kk kn bb bs jl jn jk jp jb jr) ++ ((w_Model cI cB cZ aM aMt aMn aMr aMs aMi mth mtd msz mto mfr mso mnu mfa mpl mwo msm mgo mt mno mre msn mis) ++ [outC cJ aO fo])) H) (hD : va_D (fun q : Nat => s.heap.size ≤ q) ((w_VB cI cB cZ aV aT aTb aP aPp aPf aD aDp aDf aR aRt aK aB aBb aBs aH aHk aHp aHb aHr tl tb pg ps pn pp pf dg ds dn dp df rl rk rp rt kp kb kk kn bb bs jl jn jk jp jb jr) ++ ((w_Model cI cB cZ aM aMt aMn aMr aMs aMi mth mtd msz mto mfr mso mnu mfa mpl mwo msm mgo mt mno mre msn mis) ++ [outC cJ aO fo]))) (hS : va_S (fun q : Nat => s.heap.size ≤ q) s.heap H lo) (ls : Array Slot) (hl : lv_has ls 7 [(0, .ref b), (1, .ref aV), (2, .ref aM), (3, .ref aO), (4, .int (nI (6 * i)))]) : W p l e room_1 s m #[Value.ref b] below meth c H lo cells slots (lw_Z below #[Value.ref b] s) (F0 m 790 ls []) := by
  obtain ⟨⟨hx, hb, hr, hml, hown, hts, hX, hbl, hlocks⟩, hK, hG, hN⟩ := E
  have hA : ∀ q : Nat, s.heap.size ≤ q → (fun q : Nat => s.heap.size ≤ q) q := fun _ h => h
  have hbA : ¬ (fun q : Nat => s.heap.size ≤ q) b := Nat.not_le.mpr hbl
  have hK3 : va_K D vwCl (tyG cI cB cZ) s := hK.sub [0, 1, 2] rfl
  obtain ⟨T0, h, l0, A, R, H0, rfl, rfl, rfl, hc, hm, rfl⟩ := hI
  have hc0 : cells + 0 ≤ room_1.cells ∧ slots + 0 ≤ room_1.slots := ⟨show cells + 0 ≤ 1052 by omega, show slots + 0 ≤ 16861 by omega⟩
  obtain ⟨r, e1, e2⟩ := op_would (H0.2.2.1 0 (Nat.zero_le _)) hc hm mth (xs (nI (6 * i) + (1 : Int32)).toNatClampNeg) (xs (nI (6 * i) + (2 : Int32)).toNatClampNeg) (xs (nI (6 * i) + (3 : Int32)).toNatClampNeg) (xs (nI (6 * i) + (4 : Int32)).toNatClampNeg)
  refine lv_aload_n hx hb dL_law_790 rfl (lv_at hl 1 rfl) ?_
  refine lv_aload_n hx hb dL_law_791 rfl (lv_at hl 0 rfl) ?_
  refine lv_iload hx hb dL_law_792 (lv_at hl 4 rfl) ?_
  refine lv_iconst (v := (1 : Int32)) hx hb dL_law_794 (by decide) ?_
  refine lv_iadd hx hb dL_law_795 ?_
  refine va_sld hx hb hX hbl hbA hS (in6 (k := 1) (by omega) hL) dL_law_796 ?_
  refine lv_aload_n hx hb dL_law_797 rfl (lv_at hl 0 rfl) ?_
  refine lv_iload hx hb dL_law_798 (lv_at hl 4 rfl) ?_
  refine lv_iconst (v := (2 : Int32)) hx hb dL_law_800 (by decide) ?_
  refine lv_iadd hx hb dL_law_801 ?_
  refine va_sld hx hb hX hbl hbA hS (in6 (k := 2) (by omega) hL) dL_law_802 ?_
  refine lv_aload_n hx hb dL_law_803 rfl (lv_at hl 0 rfl) ?_
  refine lv_iload hx hb dL_law_804 (lv_at hl 4 rfl) ?_
  refine lv_iconst (v := (3 : Int32)) hx hb dL_law_806 (by decide) ?_
  refine lv_iadd hx hb dL_law_807 ?_
  refine va_sld hx hb hX hbl hbA hS (in6 (k := 3) (by omega) hL) dL_law_808 ?_
  refine lv_aload_n hx hb dL_law_809 rfl (lv_at hl 0 rfl) ?_
  refine lv_iload hx hb dL_law_810 (lv_at hl 4 rfl) ?_
  refine lv_iconst (v := (4 : Int32)) hx hb dL_law_812 (by decide) ?_
  refine lv_iadd hx hb dL_law_813 ?_
  refine va_sld hx hb hX hbl hbA hS (in6 (k := 4) (by omega) hL) dL_law_814 ?_
  refine gcall_i (ws' := ((w_VB cI cB cZ aV aT aTb aP aPp aPf aD aDp aDf aR aRt aK aB aBb aBs aH aHk aHp aHb aHr tl tb pg ps pn pp pf dg ds dn dp df rl rk rp rt kp kb kk kn bb bs (nI l0) (nI h) jk jp jb jr) ++ ((w_Model cI cB cZ aM aMt aMn aMr aMs aMi mth mtd msz mto mfr mso mnu rk mpl mwo (nI h) mgo mt mno mre msn mis) ++ [outC cJ aO fo]))) (va_runV (As := [.int (xs (nI (6 * i) + (1 : Int32)).toNatClampNeg), .int (xs (nI (6 * i) + (2 : Int32)).toNatClampNeg), .int (xs (nI (6 * i) + (3 : Int32)).toNatClampNeg), .int (xs (nI (6 * i) + (4 : Int32)).toNatClampNeg)]) (rest := []) ⟨hx, hb, hml, hown, hts⟩ (c_X6_would l D cI cB cZ ta aV aT aTb aP aPp aPf aD aDp aDf aR aRt aK aB aBb aBs aH aHk aHp aHb aHr H.size tl tb pg ps pn pp pf dg ds dn dp df rl rk rp rt kp kb kk kn bb bs (nI l0) (nI h) jk jp jb jr ((xs (nI (6 * i) + (1 : Int32)).toNatClampNeg)) ((xs (nI (6 * i) + (2 : Int32)).toNatClampNeg)) ((xs (nI (6 * i) + (3 : Int32)).toNatClampNeg)) ((xs (nI (6 * i) + (4 : Int32)).toNatClampNeg)) r pf e1) (cwV 4 hts gL_law_X6_would rfl rfl rfl (by decide +kernel) ⟨(Nat.le_of_ble_eq_true rfl), (Nat.le_of_ble_eq_true rfl)⟩) ⟨PW_blind, va_recv hK hP rfl (q0 := 0) rfl, PW_at hP hD hK3 hS hA hG [0, 1, 2, 3, 4, 5, 6, 7, 8, 9, 10, 11, 12, 13, 14, 15, 16, 17, 18, 19] rfl (by decide)⟩ rfl rfl hl.1 rfl (lv_room (Nat.le_of_ble_eq_true rfl)) dL_law_815 hc0) hP hD hS hA [0, 1, 2, 3, 4, 5, 6, 7, 8, 9, 10, 11, 12, 13, 14, 15, 16, 17, 18, 19] [20, 21, 22, 23, 24, 25, 26] [7, 8, 9, 10, 11, 12, 13, 14, 15, 16, 17, 18, 19, 20, 21, 22, 23, 24, 25, 26, 0, 1, 2, 3, 4, 5, 6] rfl rfl (by decide) (by decide) (by decide) rfl (fun H2 lo2 hP2 hD2 hS2 => ?_)
  refine lv_aload_n hx hb dL_law_818 rfl (lv_at hl 2 rfl) ?_
  refine lv_aload_n hx hb dL_law_819 rfl (lv_at hl 0 rfl) ?_
  refine lv_iload hx hb dL_law_820 (lv_at hl 4 rfl) ?_
  refine lv_iconst (v := (1 : Int32)) hx hb dL_law_822 (by decide) ?_
  refine lv_iadd hx hb dL_law_823 ?_
  refine va_sld hx hb hX hbl hbA hS2 (in6 (k := 1) (by omega) hL) dL_law_824 ?_
  refine lv_aload_n hx hb dL_law_825 rfl (lv_at hl 0 rfl) ?_
  refine lv_iload hx hb dL_law_826 (lv_at hl 4 rfl) ?_
  refine lv_iconst (v := (2 : Int32)) hx hb dL_law_828 (by decide) ?_
  refine lv_iadd hx hb dL_law_829 ?_
  refine va_sld hx hb hX hbl hbA hS2 (in6 (k := 2) (by omega) hL) dL_law_830 ?_
  refine lv_aload_n hx hb dL_law_831 rfl (lv_at hl 0 rfl) ?_
  refine lv_iload hx hb dL_law_832 (lv_at hl 4 rfl) ?_
  refine lv_iconst (v := (3 : Int32)) hx hb dL_law_834 (by decide) ?_
  refine lv_iadd hx hb dL_law_835 ?_
  refine va_sld hx hb hX hbl hbA hS2 (in6 (k := 3) (by omega) hL) dL_law_836 ?_
  refine lv_aload_n hx hb dL_law_837 rfl (lv_at hl 0 rfl) ?_
  refine lv_iload hx hb dL_law_838 (lv_at hl 4 rfl) ?_
  refine lv_iconst (v := (4 : Int32)) hx hb dL_law_840 (by decide) ?_
  refine lv_iadd hx hb dL_law_841 ?_
  refine va_sld hx hb hX hbl hbA hS2 (in6 (k := 4) (by omega) hL) dL_law_842 ?_
  refine gcall_i (ws' := ((w_VB cI cB cZ aV aT aTb aP aPp aPf aD aDp aDf aR aRt aK aB aBb aBs aH aHk aHp aHb aHr tl tb pg ps pn pp pf dg ds dn dp df rl rk rp rt kp kb kk kn bb bs (nI l0) (nI h) jk jp jb jr) ++ ((w_Model cI cB cZ aM aMt aMn aMr aMs aMi 0 mtd msz mto mfr mso mnu rk mpl mwo (nI h) mgo mt mno mre msn mis) ++ [outC cJ aO fo]))) (va_runV (As := [.int (xs (nI (6 * i) + (1 : Int32)).toNatClampNeg), .int (xs (nI (6 * i) + (2 : Int32)).toNatClampNeg), .int (xs (nI (6 * i) + (3 : Int32)).toNatClampNeg), .int (xs (nI (6 * i) + (4 : Int32)).toNatClampNeg)]) (rest := [.int r]) ⟨hx, hb, hml, hown, hts⟩ (c_X7_would l D cI cB cZ ta aM aMt aMn aMr aMs aMi H2.size mth mtd msz mto mfr mso mnu rk mpl mwo (nI h) mgo mt mno mre msn mis ((xs (nI (6 * i) + (1 : Int32)).toNatClampNeg)) ((xs (nI (6 * i) + (2 : Int32)).toNatClampNeg)) ((xs (nI (6 * i) + (3 : Int32)).toNatClampNeg)) ((xs (nI (6 * i) + (4 : Int32)).toNatClampNeg)) r 0 mno e2) (cwV 4 hts gL_law_X7_would rfl rfl rfl (by decide +kernel) ⟨(Nat.le_of_ble_eq_true rfl), (Nat.le_of_ble_eq_true rfl)⟩) ⟨PW_blind, va_recv hK hP2 rfl (q0 := 20) rfl, PW_at hP2 hD2 hK3 hS2 hA hG [20, 21, 22, 23, 24, 25] rfl (by decide)⟩ rfl rfl hl.1 rfl (lv_room (Nat.le_of_ble_eq_true rfl)) dL_law_843 hc0) hP2 hD2 hS2 hA [20, 21, 22, 23, 24, 25] [0, 1, 2, 3, 4, 5, 6, 7, 8, 9, 10, 11, 12, 13, 14, 15, 16, 17, 18, 19, 26] [0, 1, 2, 3, 4, 5, 6, 7, 8, 9, 10, 11, 12, 13, 14, 15, 16, 17, 18, 19, 21, 22, 23, 24, 25, 26, 20] rfl rfl (by decide) (by decide) (by decide) rfl (fun H3 lo3 hP3 hD3 hS3 => ?_)
  refine lv_icmp_eq (tgt := 1073) hx hb dL_law_846 (by decide) (fun _ => ?_) (fun c9 => absurd rfl c9)
  refine W.widen (k := cells + 1) (n := slots + 6) (by omega) (by omega) ?_
  exact K tl tb pg ps pn pp pf dg ds dn dp df rl rk rp rt kp kb kk kn bb bs (nI l0) (nI h) jk jp jb jr 0 mtd msz mto mfr mso mnu rk mpl mwo (nI h) mgo mt mno mre msn mis fo ⟨T0, h, l0, A, R, H0, rfl, rfl, rfl, hc, hm, rfl⟩ H3 lo3 hP3 hD3 hS3 ls (lv_sub hl [0, 1, 2, 3, 4] rfl)
set_option maxHeartbeats 4000000 in
set_option maxRecDepth 100000 in
theorem lc_16 (hst : l.stackTraces = false) (E : LE p s m meth c D cI cB cZ cJ ta sa b L xs) {i cells slots : Nat} (hi : 6 * i + 6 ≤ L) (hL : L ≤ 3072) (hcs : cells + 1 ≤ 1052 ∧ slots + 6 ≤ 16861) (K : K73 p l e s m below meth c D cI cB cZ cJ aV aT aTb aP aPp aPf aD aDp aDf aR aRt aK aB aBb aBs aH aHk aHp aHb aHr aM aMt aMn aMr aMs aMi aO b i (cells + 1) (slots + 6)) (tl : Int32) (tb : (Nat → Int32)) (pg : Int32) (ps : Int32) (pn : Int32) (pp : (Nat → Int32)) (pf : (Nat → Int32)) (dg : Int32) (ds : Int32) (dn : Int32) (dp : (Nat → Int32)) (df : (Nat → Int32)) (rl : Int32) (rk : Int32) (rp : Int32) (rt : (Nat → Int32)) (kp : Int32) (kb : Int32) (kk : Int32) (kn : Int32) (bb : (Nat → Int32)) (bs : (Nat → Int32)) (jl : Int32) (jn : Int32) (jk : (Nat → Int32)) (jp : (Nat → Int32)) (jb : (Nat → Int32)) (jr : (Nat → Int32)) (mth : Int32) (mtd : Int32) (msz : Int32) (mto : Int32) (mfr : Int32) (mso : Int32) (mnu : Int32) (mfa : Int32) (mpl : Int32) (mwo : Int64) (msm : Int32) (mgo : Int32) (mt : (Nat → Int32)) (mno : (Nat → Int32)) (mre : (Nat → Int32)) (msn : (Nat → Int32)) (mis : (Nat → Int32)) (fo : Nat → Int64) (hI : Inv tl tb pg ps pn pp pf rk jl jn jk jp jb jr mtd mfa msm mt mno msn) (H : Heap) (lo : List Loc) (hP : va_P D vwCl ((w_VB cI cB cZ aV aT aTb aP aPp aPf aD aDp aDf aR aRt aK aB aBb aBs aH aHk aHp aHb aHr tl tb pg ps pn pp pf dg ds dn dp df rl rk rp rt kp kb kk kn bb bs jl jn jk jp jb jr) ++ ((w_Model cI cB cZ aM aMt aMn aMr aMs aMi mth mtd msz mto mfr mso mnu mfa mpl mwo msm mgo mt mno mre msn mis) ++ [outC cJ aO fo])) H) (hD : va_D (fun q : Nat => s.heap.size ≤ q) ((w_VB cI cB cZ aV aT aTb aP aPp aPf aD aDp aDf aR aRt aK aB aBb aBs aH aHk aHp aHb aHr tl tb pg ps pn pp pf dg ds dn dp df rl rk rp rt kp kb kk kn bb bs jl jn jk jp jb jr) ++ ((w_Model cI cB cZ aM aMt aMn aMr aMs aMi mth mtd msz mto mfr mso mnu mfa mpl mwo msm mgo mt mno mre msn mis) ++ [outC cJ aO fo]))) (hS : va_S (fun q : Nat => s.heap.size ≤ q) s.heap H lo) (ls : Array Slot) (hl : lv_has ls 7 [(0, .ref b), (1, .ref aV), (2, .ref aM), (3, .ref aO), (4, .int (nI (6 * i)))]) : W p l e room_1 s m #[Value.ref b] below meth c H lo cells slots (lw_Z below #[Value.ref b] s) (F0 m 851 ls []) := by
  obtain ⟨⟨hx, hb, hr, hml, hown, hts, hX, hbl, hlocks⟩, hK, hG, hN⟩ := E
  have hA : ∀ q : Nat, s.heap.size ≤ q → (fun q : Nat => s.heap.size ≤ q) q := fun _ h => h
  have hbA : ¬ (fun q : Nat => s.heap.size ≤ q) b := Nat.not_le.mpr hbl
  have hK3 : va_K D vwCl (tyG cI cB cZ) s := hK.sub [0, 1, 2] rfl
  obtain ⟨T0, h, l0, A, R, H0, rfl, rfl, rfl, hc, hm, rfl⟩ := hI
  have hc0 : cells + 0 ≤ room_1.cells ∧ slots + 0 ≤ room_1.slots := ⟨show cells + 0 ≤ 1052 by omega, show slots + 0 ≤ 16861 by omega⟩
  obtain ⟨r, e1, e2⟩ := op_needs (H0.2.2.1 0 (Nat.zero_le _)) hc hm mth (xs (nI (6 * i) + (1 : Int32)).toNatClampNeg) (xs (nI (6 * i) + (2 : Int32)).toNatClampNeg) (xs (nI (6 * i) + (3 : Int32)).toNatClampNeg)
  refine lv_aload_n hx hb dL_law_851 rfl (lv_at hl 1 rfl) ?_
  refine lv_aload_n hx hb dL_law_852 rfl (lv_at hl 0 rfl) ?_
  refine lv_iload hx hb dL_law_853 (lv_at hl 4 rfl) ?_
  refine lv_iconst (v := (1 : Int32)) hx hb dL_law_855 (by decide) ?_
  refine lv_iadd hx hb dL_law_856 ?_
  refine va_sld hx hb hX hbl hbA hS (in6 (k := 1) (by omega) hL) dL_law_857 ?_
  refine lv_aload_n hx hb dL_law_858 rfl (lv_at hl 0 rfl) ?_
  refine lv_iload hx hb dL_law_859 (lv_at hl 4 rfl) ?_
  refine lv_iconst (v := (2 : Int32)) hx hb dL_law_861 (by decide) ?_
  refine lv_iadd hx hb dL_law_862 ?_
  refine va_sld hx hb hX hbl hbA hS (in6 (k := 2) (by omega) hL) dL_law_863 ?_
  refine lv_aload_n hx hb dL_law_864 rfl (lv_at hl 0 rfl) ?_
  refine lv_iload hx hb dL_law_865 (lv_at hl 4 rfl) ?_
  refine lv_iconst (v := (3 : Int32)) hx hb dL_law_867 (by decide) ?_
  refine lv_iadd hx hb dL_law_868 ?_
  refine va_sld hx hb hX hbl hbA hS (in6 (k := 3) (by omega) hL) dL_law_869 ?_
  refine gcall_i (ws' := ((w_VB cI cB cZ aV aT aTb aP aPp aPf aD aDp aDf aR aRt aK aB aBb aBs aH aHk aHp aHb aHr tl tb pg ps pn pp pf dg ds dn dp df rl rk rp rt kp kb kk kn bb bs (nI l0) (nI h) jk jp jb jr) ++ ((w_Model cI cB cZ aM aMt aMn aMr aMs aMi mth mtd msz mto mfr mso mnu rk mpl mwo (nI h) mgo mt mno mre msn mis) ++ [outC cJ aO fo]))) (va_runV (As := [.int (xs (nI (6 * i) + (1 : Int32)).toNatClampNeg), .int (xs (nI (6 * i) + (2 : Int32)).toNatClampNeg), .int (xs (nI (6 * i) + (3 : Int32)).toNatClampNeg)]) (rest := []) ⟨hx, hb, hml, hown, hts⟩ (c_X6_needs l D cI cB cZ ta aV aT aTb aP aPp aPf aD aDp aDf aR aRt aK aB aBb aBs aH aHk aHp aHb aHr H.size tl tb pg ps pn pp pf dg ds dn dp df rl rk rp rt kp kb kk kn bb bs (nI l0) (nI h) jk jp jb jr ((xs (nI (6 * i) + (1 : Int32)).toNatClampNeg)) ((xs (nI (6 * i) + (2 : Int32)).toNatClampNeg)) ((xs (nI (6 * i) + (3 : Int32)).toNatClampNeg)) r e1) (cwV 3 hts gL_law_X6_needs rfl rfl rfl (by decide +kernel) ⟨(Nat.le_of_ble_eq_true rfl), (Nat.le_of_ble_eq_true rfl)⟩) ⟨PW_blind, va_recv hK hP rfl (q0 := 0) rfl, PW_at hP hD hK3 hS hA hG [0, 1, 2, 3, 4, 5, 6, 7, 8, 9, 10, 11, 12, 13, 14, 15, 16, 17, 18, 19] rfl (by decide)⟩ rfl rfl hl.1 rfl (lv_room (Nat.le_of_ble_eq_true rfl)) dL_law_870 hc0) hP hD hS hA [0, 1, 2, 3, 4, 5, 6, 7, 8, 9, 10, 11, 12, 13, 14, 15, 16, 17, 18, 19] [20, 21, 22, 23, 24, 25, 26] [7, 8, 9, 10, 11, 12, 13, 14, 15, 16, 17, 18, 19, 20, 21, 22, 23, 24, 25, 26, 0, 1, 2, 3, 4, 5, 6] rfl rfl (by decide) (by decide) (by decide) rfl (fun H2 lo2 hP2 hD2 hS2 => ?_)
  refine lv_aload_n hx hb dL_law_873 rfl (lv_at hl 2 rfl) ?_
  refine lv_aload_n hx hb dL_law_874 rfl (lv_at hl 0 rfl) ?_
  refine lv_iload hx hb dL_law_875 (lv_at hl 4 rfl) ?_
  refine lv_iconst (v := (1 : Int32)) hx hb dL_law_877 (by decide) ?_
  refine lv_iadd hx hb dL_law_878 ?_
  refine va_sld hx hb hX hbl hbA hS2 (in6 (k := 1) (by omega) hL) dL_law_879 ?_
  refine lv_aload_n hx hb dL_law_880 rfl (lv_at hl 0 rfl) ?_
  refine lv_iload hx hb dL_law_881 (lv_at hl 4 rfl) ?_
  refine lv_iconst (v := (2 : Int32)) hx hb dL_law_883 (by decide) ?_
  refine lv_iadd hx hb dL_law_884 ?_
  refine va_sld hx hb hX hbl hbA hS2 (in6 (k := 2) (by omega) hL) dL_law_885 ?_
  refine lv_aload_n hx hb dL_law_886 rfl (lv_at hl 0 rfl) ?_
  refine lv_iload hx hb dL_law_887 (lv_at hl 4 rfl) ?_
  refine lv_iconst (v := (3 : Int32)) hx hb dL_law_889 (by decide) ?_
  refine lv_iadd hx hb dL_law_890 ?_
  refine va_sld hx hb hX hbl hbA hS2 (in6 (k := 3) (by omega) hL) dL_law_891 ?_
  refine gcall_i (ws' := ((w_VB cI cB cZ aV aT aTb aP aPp aPf aD aDp aDf aR aRt aK aB aBb aBs aH aHk aHp aHb aHr tl tb pg ps pn pp pf dg ds dn dp df rl rk rp rt kp kb kk kn bb bs (nI l0) (nI h) jk jp jb jr) ++ ((w_Model cI cB cZ aM aMt aMn aMr aMs aMi 0 mtd msz mto mfr mso mnu rk mpl mwo (nI h) mgo mt mno mre msn mis) ++ [outC cJ aO fo]))) (va_runV (As := [.int (xs (nI (6 * i) + (1 : Int32)).toNatClampNeg), .int (xs (nI (6 * i) + (2 : Int32)).toNatClampNeg), .int (xs (nI (6 * i) + (3 : Int32)).toNatClampNeg)]) (rest := [.int r]) ⟨hx, hb, hml, hown, hts⟩ (c_X7_needs l D cI cB cZ ta aM aMt aMn aMr aMs aMi H2.size mth mtd msz mto mfr mso mnu rk mpl mwo (nI h) mgo mt mno mre msn mis ((xs (nI (6 * i) + (1 : Int32)).toNatClampNeg)) ((xs (nI (6 * i) + (2 : Int32)).toNatClampNeg)) ((xs (nI (6 * i) + (3 : Int32)).toNatClampNeg)) r 0 mno e2) (cwV 3 hts gL_law_X7_needs rfl rfl rfl (by decide +kernel) ⟨(Nat.le_of_ble_eq_true rfl), (Nat.le_of_ble_eq_true rfl)⟩) ⟨PW_blind, va_recv hK hP2 rfl (q0 := 20) rfl, PW_at hP2 hD2 hK3 hS2 hA hG [20, 21, 22, 23, 24, 25] rfl (by decide)⟩ rfl rfl hl.1 rfl (lv_room (Nat.le_of_ble_eq_true rfl)) dL_law_892 hc0) hP2 hD2 hS2 hA [20, 21, 22, 23, 24, 25] [0, 1, 2, 3, 4, 5, 6, 7, 8, 9, 10, 11, 12, 13, 14, 15, 16, 17, 18, 19, 26] [0, 1, 2, 3, 4, 5, 6, 7, 8, 9, 10, 11, 12, 13, 14, 15, 16, 17, 18, 19, 21, 22, 23, 24, 25, 26, 20] rfl rfl (by decide) (by decide) (by decide) rfl (fun H3 lo3 hP3 hD3 hS3 => ?_)
  refine lv_icmp_eq (tgt := 1073) hx hb dL_law_895 (by decide) (fun _ => ?_) (fun c9 => absurd rfl c9)
  refine W.widen (k := cells + 1) (n := slots + 6) (by omega) (by omega) ?_
  exact K tl tb pg ps pn pp pf dg ds dn dp df rl rk rp rt kp kb kk kn bb bs (nI l0) (nI h) jk jp jb jr 0 mtd msz mto mfr mso mnu rk mpl mwo (nI h) mgo mt mno mre msn mis fo ⟨T0, h, l0, A, R, H0, rfl, rfl, rfl, hc, hm, rfl⟩ H3 lo3 hP3 hD3 hS3 ls (lv_sub hl [0, 1, 2, 3, 4] rfl)
set_option maxHeartbeats 4000000 in
set_option maxRecDepth 100000 in
theorem lc_17 (hst : l.stackTraces = false) (E : LE p s m meth c D cI cB cZ cJ ta sa b L xs) {i cells slots : Nat} (hi : 6 * i + 6 ≤ L) (hL : L ≤ 3072) (hcs : cells + 1 ≤ 1052 ∧ slots + 6 ≤ 16861) (K : K73 p l e s m below meth c D cI cB cZ cJ aV aT aTb aP aPp aPf aD aDp aDf aR aRt aK aB aBb aBs aH aHk aHp aHb aHr aM aMt aMn aMr aMs aMi aO b i (cells + 1) (slots + 6)) (tl : Int32) (tb : (Nat → Int32)) (pg : Int32) (ps : Int32) (pn : Int32) (pp : (Nat → Int32)) (pf : (Nat → Int32)) (dg : Int32) (ds : Int32) (dn : Int32) (dp : (Nat → Int32)) (df : (Nat → Int32)) (rl : Int32) (rk : Int32) (rp : Int32) (rt : (Nat → Int32)) (kp : Int32) (kb : Int32) (kk : Int32) (kn : Int32) (bb : (Nat → Int32)) (bs : (Nat → Int32)) (jl : Int32) (jn : Int32) (jk : (Nat → Int32)) (jp : (Nat → Int32)) (jb : (Nat → Int32)) (jr : (Nat → Int32)) (mth : Int32) (mtd : Int32) (msz : Int32) (mto : Int32) (mfr : Int32) (mso : Int32) (mnu : Int32) (mfa : Int32) (mpl : Int32) (mwo : Int64) (msm : Int32) (mgo : Int32) (mt : (Nat → Int32)) (mno : (Nat → Int32)) (mre : (Nat → Int32)) (msn : (Nat → Int32)) (mis : (Nat → Int32)) (fo : Nat → Int64) (hI : Inv tl tb pg ps pn pp pf rk jl jn jk jp jb jr mtd mfa msm mt mno msn) (H : Heap) (lo : List Loc) (hP : va_P D vwCl ((w_VB cI cB cZ aV aT aTb aP aPp aPf aD aDp aDf aR aRt aK aB aBb aBs aH aHk aHp aHb aHr tl tb pg ps pn pp pf dg ds dn dp df rl rk rp rt kp kb kk kn bb bs jl jn jk jp jb jr) ++ ((w_Model cI cB cZ aM aMt aMn aMr aMs aMi mth mtd msz mto mfr mso mnu mfa mpl mwo msm mgo mt mno mre msn mis) ++ [outC cJ aO fo])) H) (hD : va_D (fun q : Nat => s.heap.size ≤ q) ((w_VB cI cB cZ aV aT aTb aP aPp aPf aD aDp aDf aR aRt aK aB aBb aBs aH aHk aHp aHb aHr tl tb pg ps pn pp pf dg ds dn dp df rl rk rp rt kp kb kk kn bb bs jl jn jk jp jb jr) ++ ((w_Model cI cB cZ aM aMt aMn aMr aMs aMi mth mtd msz mto mfr mso mnu mfa mpl mwo msm mgo mt mno mre msn mis) ++ [outC cJ aO fo]))) (hS : va_S (fun q : Nat => s.heap.size ≤ q) s.heap H lo) (ls : Array Slot) (hl : lv_has ls 7 [(0, .ref b), (1, .ref aV), (2, .ref aM), (3, .ref aO), (4, .int (nI (6 * i)))]) : W p l e room_1 s m #[Value.ref b] below meth c H lo cells slots (lw_Z below #[Value.ref b] s) (F0 m 900 ls []) := by
  obtain ⟨⟨hx, hb, hr, hml, hown, hts, hX, hbl, hlocks⟩, hK, hG, hN⟩ := E
  have hA : ∀ q : Nat, s.heap.size ≤ q → (fun q : Nat => s.heap.size ≤ q) q := fun _ h => h
  have hbA : ¬ (fun q : Nat => s.heap.size ≤ q) b := Nat.not_le.mpr hbl
  have hK3 : va_K D vwCl (tyG cI cB cZ) s := hK.sub [0, 1, 2] rfl
  obtain ⟨T0, h, l0, A, R, H0, rfl, rfl, rfl, hc, hm, rfl⟩ := hI
  have hc0 : cells + 0 ≤ room_1.cells ∧ slots + 0 ≤ room_1.slots := ⟨show cells + 0 ≤ 1052 by omega, show slots + 0 ≤ 16861 by omega⟩
  obtain ⟨r, pf1, h1, l1, jk1, jp1, jr1, mno1, msn1, A1, e1, e2, H1, hc1, hm1⟩ := op_set H0 hc hm mth (xs (nI (6 * i) + (1 : Int32)).toNatClampNeg) (xs (nI (6 * i) + (2 : Int32)).toNatClampNeg) (xs (nI (6 * i) + (3 : Int32)).toNatClampNeg) (xs (nI (6 * i) + (4 : Int32)).toNatClampNeg)
  refine lv_aload_n hx hb dL_law_900 rfl (lv_at hl 1 rfl) ?_
  refine lv_aload_n hx hb dL_law_901 rfl (lv_at hl 0 rfl) ?_
  refine lv_iload hx hb dL_law_902 (lv_at hl 4 rfl) ?_
  refine lv_iconst (v := (1 : Int32)) hx hb dL_law_904 (by decide) ?_
  refine lv_iadd hx hb dL_law_905 ?_
  refine va_sld hx hb hX hbl hbA hS (in6 (k := 1) (by omega) hL) dL_law_906 ?_
  refine lv_aload_n hx hb dL_law_907 rfl (lv_at hl 0 rfl) ?_
  refine lv_iload hx hb dL_law_908 (lv_at hl 4 rfl) ?_
  refine lv_iconst (v := (2 : Int32)) hx hb dL_law_910 (by decide) ?_
  refine lv_iadd hx hb dL_law_911 ?_
  refine va_sld hx hb hX hbl hbA hS (in6 (k := 2) (by omega) hL) dL_law_912 ?_
  refine lv_aload_n hx hb dL_law_913 rfl (lv_at hl 0 rfl) ?_
  refine lv_iload hx hb dL_law_914 (lv_at hl 4 rfl) ?_
  refine lv_iconst (v := (3 : Int32)) hx hb dL_law_916 (by decide) ?_
  refine lv_iadd hx hb dL_law_917 ?_
  refine va_sld hx hb hX hbl hbA hS (in6 (k := 3) (by omega) hL) dL_law_918 ?_
  refine lv_aload_n hx hb dL_law_919 rfl (lv_at hl 0 rfl) ?_
  refine lv_iload hx hb dL_law_920 (lv_at hl 4 rfl) ?_
  refine lv_iconst (v := (4 : Int32)) hx hb dL_law_922 (by decide) ?_
  refine lv_iadd hx hb dL_law_923 ?_
  refine va_sld hx hb hX hbl hbA hS (in6 (k := 4) (by omega) hL) dL_law_924 ?_
  refine gcall_i (ws' := ((w_VB cI cB cZ aV aT aTb aP aPp aPf aD aDp aDf aR aRt aK aB aBb aBs aH aHk aHp aHb aHr tl tb pg ps pn pp pf1 dg ds dn dp df rl rk rp rt kp kb kk kn bb bs (nI l1) (nI h1) jk1 jp1 jb jr1) ++ ((w_Model cI cB cZ aM aMt aMn aMr aMs aMi mth mtd msz mto mfr mso mnu rk mpl mwo (nI h) mgo mt mno mre msn mis) ++ [outC cJ aO fo]))) (va_runV (As := [.int (xs (nI (6 * i) + (1 : Int32)).toNatClampNeg), .int (xs (nI (6 * i) + (2 : Int32)).toNatClampNeg), .int (xs (nI (6 * i) + (3 : Int32)).toNatClampNeg), .int (xs (nI (6 * i) + (4 : Int32)).toNatClampNeg)]) (rest := []) ⟨hx, hb, hml, hown, hts⟩ (c_X6_set l D cI cB cZ ta aV aT aTb aP aPp aPf aD aDp aDf aR aRt aK aB aBb aBs aH aHk aHp aHb aHr H.size tl tb pg ps pn pp pf dg ds dn dp df rl rk rp rt kp kb kk kn bb bs (nI l0) (nI h) jk jp jb jr ((xs (nI (6 * i) + (1 : Int32)).toNatClampNeg)) ((xs (nI (6 * i) + (2 : Int32)).toNatClampNeg)) ((xs (nI (6 * i) + (3 : Int32)).toNatClampNeg)) ((xs (nI (6 * i) + (4 : Int32)).toNatClampNeg)) r pf1 (nI l1) (nI h1) jk1 jp1 jr1 e1) (cwV 4 hts gL_law_X6_set rfl rfl rfl (by decide +kernel) ⟨(Nat.le_of_ble_eq_true rfl), (Nat.le_of_ble_eq_true rfl)⟩) ⟨PW_blind, va_recv hK hP rfl (q0 := 0) rfl, PW_at hP hD hK3 hS hA hG [0, 1, 2, 3, 4, 5, 6, 7, 8, 9, 10, 11, 12, 13, 14, 15, 16, 17, 18, 19] rfl (by decide)⟩ rfl rfl hl.1 rfl (lv_room (Nat.le_of_ble_eq_true rfl)) dL_law_925 hc0) hP hD hS hA [0, 1, 2, 3, 4, 5, 6, 7, 8, 9, 10, 11, 12, 13, 14, 15, 16, 17, 18, 19] [20, 21, 22, 23, 24, 25, 26] [7, 8, 9, 10, 11, 12, 13, 14, 15, 16, 17, 18, 19, 20, 21, 22, 23, 24, 25, 26, 0, 1, 2, 3, 4, 5, 6] rfl rfl (by decide) (by decide) (by decide) rfl (fun H2 lo2 hP2 hD2 hS2 => ?_)
  refine lv_aload_n hx hb dL_law_928 rfl (lv_at hl 2 rfl) ?_
  refine lv_aload_n hx hb dL_law_929 rfl (lv_at hl 0 rfl) ?_
  refine lv_iload hx hb dL_law_930 (lv_at hl 4 rfl) ?_
  refine lv_iconst (v := (1 : Int32)) hx hb dL_law_932 (by decide) ?_
  refine lv_iadd hx hb dL_law_933 ?_
  refine va_sld hx hb hX hbl hbA hS2 (in6 (k := 1) (by omega) hL) dL_law_934 ?_
  refine lv_aload_n hx hb dL_law_935 rfl (lv_at hl 0 rfl) ?_
  refine lv_iload hx hb dL_law_936 (lv_at hl 4 rfl) ?_
  refine lv_iconst (v := (2 : Int32)) hx hb dL_law_938 (by decide) ?_
  refine lv_iadd hx hb dL_law_939 ?_
  refine va_sld hx hb hX hbl hbA hS2 (in6 (k := 2) (by omega) hL) dL_law_940 ?_
  refine lv_aload_n hx hb dL_law_941 rfl (lv_at hl 0 rfl) ?_
  refine lv_iload hx hb dL_law_942 (lv_at hl 4 rfl) ?_
  refine lv_iconst (v := (3 : Int32)) hx hb dL_law_944 (by decide) ?_
  refine lv_iadd hx hb dL_law_945 ?_
  refine va_sld hx hb hX hbl hbA hS2 (in6 (k := 3) (by omega) hL) dL_law_946 ?_
  refine lv_aload_n hx hb dL_law_947 rfl (lv_at hl 0 rfl) ?_
  refine lv_iload hx hb dL_law_948 (lv_at hl 4 rfl) ?_
  refine lv_iconst (v := (4 : Int32)) hx hb dL_law_950 (by decide) ?_
  refine lv_iadd hx hb dL_law_951 ?_
  refine va_sld hx hb hX hbl hbA hS2 (in6 (k := 4) (by omega) hL) dL_law_952 ?_
  refine gcall_i (ws' := ((w_VB cI cB cZ aV aT aTb aP aPp aPf aD aDp aDf aR aRt aK aB aBb aBs aH aHk aHp aHb aHr tl tb pg ps pn pp pf1 dg ds dn dp df rl rk rp rt kp kb kk kn bb bs (nI l1) (nI h1) jk1 jp1 jb jr1) ++ ((w_Model cI cB cZ aM aMt aMn aMr aMs aMi 0 mtd msz mto mfr mso mnu rk mpl mwo (nI h1) mgo mt mno1 mre msn1 mis) ++ [outC cJ aO fo]))) (va_runV (As := [.int (xs (nI (6 * i) + (1 : Int32)).toNatClampNeg), .int (xs (nI (6 * i) + (2 : Int32)).toNatClampNeg), .int (xs (nI (6 * i) + (3 : Int32)).toNatClampNeg), .int (xs (nI (6 * i) + (4 : Int32)).toNatClampNeg)]) (rest := [.int r]) ⟨hx, hb, hml, hown, hts⟩ (c_X7_set l D cI cB cZ ta aM aMt aMn aMr aMs aMi H2.size mth mtd msz mto mfr mso mnu rk mpl mwo (nI h) mgo mt mno mre msn mis ((xs (nI (6 * i) + (1 : Int32)).toNatClampNeg)) ((xs (nI (6 * i) + (2 : Int32)).toNatClampNeg)) ((xs (nI (6 * i) + (3 : Int32)).toNatClampNeg)) ((xs (nI (6 * i) + (4 : Int32)).toNatClampNeg)) r 0 (nI h1) mno1 msn1 e2) (cwV 4 hts gL_law_X7_set rfl rfl rfl (by decide +kernel) ⟨(Nat.le_of_ble_eq_true rfl), (Nat.le_of_ble_eq_true rfl)⟩) ⟨PW_blind, va_recv hK hP2 rfl (q0 := 20) rfl, PW_at hP2 hD2 hK3 hS2 hA hG [20, 21, 22, 23, 24, 25] rfl (by decide)⟩ rfl rfl hl.1 rfl (lv_room (Nat.le_of_ble_eq_true rfl)) dL_law_953 hc0) hP2 hD2 hS2 hA [20, 21, 22, 23, 24, 25] [0, 1, 2, 3, 4, 5, 6, 7, 8, 9, 10, 11, 12, 13, 14, 15, 16, 17, 18, 19, 26] [0, 1, 2, 3, 4, 5, 6, 7, 8, 9, 10, 11, 12, 13, 14, 15, 16, 17, 18, 19, 21, 22, 23, 24, 25, 26, 20] rfl rfl (by decide) (by decide) (by decide) rfl (fun H3 lo3 hP3 hD3 hS3 => ?_)
  refine lv_icmp_eq (tgt := 1073) hx hb dL_law_956 (by decide) (fun _ => ?_) (fun c9 => absurd rfl c9)
  refine W.widen (k := cells + 1) (n := slots + 6) (by omega) (by omega) ?_
  exact K tl tb pg ps pn pp pf1 dg ds dn dp df rl rk rp rt kp kb kk kn bb bs (nI l1) (nI h1) jk1 jp1 jb jr1 0 mtd msz mto mfr mso mnu rk mpl mwo (nI h1) mgo mt mno1 mre msn1 mis fo ⟨T0, h1, l1, A1, R, H1, rfl, rfl, rfl, hc1, hm1, rfl⟩ H3 lo3 hP3 hD3 hS3 ls (lv_sub hl [0, 1, 2, 3, 4] rfl)
set_option maxHeartbeats 4000000 in
set_option maxRecDepth 100000 in
theorem lc_18 (hst : l.stackTraces = false) (E : LE p s m meth c D cI cB cZ cJ ta sa b L xs) {i cells slots : Nat} (hi : 6 * i + 6 ≤ L) (hL : L ≤ 3072) (hcs : cells + 1 ≤ 1052 ∧ slots + 6 ≤ 16861) (K : K73 p l e s m below meth c D cI cB cZ cJ aV aT aTb aP aPp aPf aD aDp aDf aR aRt aK aB aBb aBs aH aHk aHp aHb aHr aM aMt aMn aMr aMs aMi aO b i (cells + 1) (slots + 6)) (tl : Int32) (tb : (Nat → Int32)) (pg : Int32) (ps : Int32) (pn : Int32) (pp : (Nat → Int32)) (pf : (Nat → Int32)) (dg : Int32) (ds : Int32) (dn : Int32) (dp : (Nat → Int32)) (df : (Nat → Int32)) (rl : Int32) (rk : Int32) (rp : Int32) (rt : (Nat → Int32)) (kp : Int32) (kb : Int32) (kk : Int32) (kn : Int32) (bb : (Nat → Int32)) (bs : (Nat → Int32)) (jl : Int32) (jn : Int32) (jk : (Nat → Int32)) (jp : (Nat → Int32)) (jb : (Nat → Int32)) (jr : (Nat → Int32)) (mth : Int32) (mtd : Int32) (msz : Int32) (mto : Int32) (mfr : Int32) (mso : Int32) (mnu : Int32) (mfa : Int32) (mpl : Int32) (mwo : Int64) (msm : Int32) (mgo : Int32) (mt : (Nat → Int32)) (mno : (Nat → Int32)) (mre : (Nat → Int32)) (msn : (Nat → Int32)) (mis : (Nat → Int32)) (fo : Nat → Int64) (hI : Inv tl tb pg ps pn pp pf rk jl jn jk jp jb jr mtd mfa msm mt mno msn) (H : Heap) (lo : List Loc) (hP : va_P D vwCl ((w_VB cI cB cZ aV aT aTb aP aPp aPf aD aDp aDf aR aRt aK aB aBb aBs aH aHk aHp aHb aHr tl tb pg ps pn pp pf dg ds dn dp df rl rk rp rt kp kb kk kn bb bs jl jn jk jp jb jr) ++ ((w_Model cI cB cZ aM aMt aMn aMr aMs aMi mth mtd msz mto mfr mso mnu mfa mpl mwo msm mgo mt mno mre msn mis) ++ [outC cJ aO fo])) H) (hD : va_D (fun q : Nat => s.heap.size ≤ q) ((w_VB cI cB cZ aV aT aTb aP aPp aPf aD aDp aDf aR aRt aK aB aBb aBs aH aHk aHp aHb aHr tl tb pg ps pn pp pf dg ds dn dp df rl rk rp rt kp kb kk kn bb bs jl jn jk jp jb jr) ++ ((w_Model cI cB cZ aM aMt aMn aMr aMs aMi mth mtd msz mto mfr mso mnu mfa mpl mwo msm mgo mt mno mre msn mis) ++ [outC cJ aO fo]))) (hS : va_S (fun q : Nat => s.heap.size ≤ q) s.heap H lo) (ls : Array Slot) (hl : lv_has ls 7 [(0, .ref b), (1, .ref aV), (2, .ref aM), (3, .ref aO), (4, .int (nI (6 * i)))]) : W p l e room_1 s m #[Value.ref b] below meth c H lo cells slots (lw_Z below #[Value.ref b] s) (F0 m 961 ls []) := by
  obtain ⟨⟨hx, hb, hr, hml, hown, hts, hX, hbl, hlocks⟩, hK, hG, hN⟩ := E
  have hA : ∀ q : Nat, s.heap.size ≤ q → (fun q : Nat => s.heap.size ≤ q) q := fun _ h => h
  have hbA : ¬ (fun q : Nat => s.heap.size ≤ q) b := Nat.not_le.mpr hbl
  have hK3 : va_K D vwCl (tyG cI cB cZ) s := hK.sub [0, 1, 2] rfl
  obtain ⟨T0, h, l0, A, R, H0, rfl, rfl, rfl, hc, hm, rfl⟩ := hI
  have hc0 : cells + 0 ≤ room_1.cells ∧ slots + 0 ≤ room_1.slots := ⟨show cells + 0 ≤ 1052 by omega, show slots + 0 ≤ 16861 by omega⟩
  obtain ⟨r, pf1, h1, l1, jk1, jp1, jr1, mno1, msn1, A1, e1, e2, H1, hc1, hm1⟩ := op_copy H0 hc hm mth (xs (nI (6 * i) + (1 : Int32)).toNatClampNeg) (xs (nI (6 * i) + (2 : Int32)).toNatClampNeg)
  refine lv_aload_n hx hb dL_law_961 rfl (lv_at hl 1 rfl) ?_
  refine lv_aload_n hx hb dL_law_962 rfl (lv_at hl 0 rfl) ?_
  refine lv_iload hx hb dL_law_963 (lv_at hl 4 rfl) ?_
  refine lv_iconst (v := (1 : Int32)) hx hb dL_law_965 (by decide) ?_
  refine lv_iadd hx hb dL_law_966 ?_
  refine va_sld hx hb hX hbl hbA hS (in6 (k := 1) (by omega) hL) dL_law_967 ?_
  refine lv_aload_n hx hb dL_law_968 rfl (lv_at hl 0 rfl) ?_
  refine lv_iload hx hb dL_law_969 (lv_at hl 4 rfl) ?_
  refine lv_iconst (v := (2 : Int32)) hx hb dL_law_971 (by decide) ?_
  refine lv_iadd hx hb dL_law_972 ?_
  refine va_sld hx hb hX hbl hbA hS (in6 (k := 2) (by omega) hL) dL_law_973 ?_
  refine gcall_i (ws' := ((w_VB cI cB cZ aV aT aTb aP aPp aPf aD aDp aDf aR aRt aK aB aBb aBs aH aHk aHp aHb aHr tl tb pg ps pn pp pf1 dg ds dn dp df rl rk rp rt kp kb kk kn bb bs (nI l1) (nI h1) jk1 jp1 jb jr1) ++ ((w_Model cI cB cZ aM aMt aMn aMr aMs aMi mth mtd msz mto mfr mso mnu rk mpl mwo (nI h) mgo mt mno mre msn mis) ++ [outC cJ aO fo]))) (va_runV (As := [.int (xs (nI (6 * i) + (1 : Int32)).toNatClampNeg), .int (xs (nI (6 * i) + (2 : Int32)).toNatClampNeg)]) (rest := []) ⟨hx, hb, hml, hown, hts⟩ (c_X6_copy l D cI cB cZ ta aV aT aTb aP aPp aPf aD aDp aDf aR aRt aK aB aBb aBs aH aHk aHp aHb aHr H.size tl tb pg ps pn pp pf dg ds dn dp df rl rk rp rt kp kb kk kn bb bs (nI l0) (nI h) jk jp jb jr ((xs (nI (6 * i) + (1 : Int32)).toNatClampNeg)) ((xs (nI (6 * i) + (2 : Int32)).toNatClampNeg)) r pf1 (nI l1) (nI h1) jk1 jp1 jr1 e1) (cwV 2 hts gL_law_X6_copy rfl rfl rfl (by decide +kernel) ⟨(Nat.le_of_ble_eq_true rfl), (Nat.le_of_ble_eq_true rfl)⟩) ⟨PW_blind, va_recv hK hP rfl (q0 := 0) rfl, PW_at hP hD hK3 hS hA hG [0, 1, 2, 3, 4, 5, 6, 7, 8, 9, 10, 11, 12, 13, 14, 15, 16, 17, 18, 19] rfl (by decide)⟩ rfl rfl hl.1 rfl (lv_room (Nat.le_of_ble_eq_true rfl)) dL_law_974 hc0) hP hD hS hA [0, 1, 2, 3, 4, 5, 6, 7, 8, 9, 10, 11, 12, 13, 14, 15, 16, 17, 18, 19] [20, 21, 22, 23, 24, 25, 26] [7, 8, 9, 10, 11, 12, 13, 14, 15, 16, 17, 18, 19, 20, 21, 22, 23, 24, 25, 26, 0, 1, 2, 3, 4, 5, 6] rfl rfl (by decide) (by decide) (by decide) rfl (fun H2 lo2 hP2 hD2 hS2 => ?_)
  refine lv_aload_n hx hb dL_law_977 rfl (lv_at hl 2 rfl) ?_
  refine lv_aload_n hx hb dL_law_978 rfl (lv_at hl 0 rfl) ?_
  refine lv_iload hx hb dL_law_979 (lv_at hl 4 rfl) ?_
  refine lv_iconst (v := (1 : Int32)) hx hb dL_law_981 (by decide) ?_
  refine lv_iadd hx hb dL_law_982 ?_
  refine va_sld hx hb hX hbl hbA hS2 (in6 (k := 1) (by omega) hL) dL_law_983 ?_
  refine lv_aload_n hx hb dL_law_984 rfl (lv_at hl 0 rfl) ?_
  refine lv_iload hx hb dL_law_985 (lv_at hl 4 rfl) ?_
  refine lv_iconst (v := (2 : Int32)) hx hb dL_law_987 (by decide) ?_
  refine lv_iadd hx hb dL_law_988 ?_
  refine va_sld hx hb hX hbl hbA hS2 (in6 (k := 2) (by omega) hL) dL_law_989 ?_
  refine gcall_i (ws' := ((w_VB cI cB cZ aV aT aTb aP aPp aPf aD aDp aDf aR aRt aK aB aBb aBs aH aHk aHp aHb aHr tl tb pg ps pn pp pf1 dg ds dn dp df rl rk rp rt kp kb kk kn bb bs (nI l1) (nI h1) jk1 jp1 jb jr1) ++ ((w_Model cI cB cZ aM aMt aMn aMr aMs aMi 0 mtd msz mto mfr mso mnu rk mpl mwo (nI h1) mgo mt mno1 mre msn1 mis) ++ [outC cJ aO fo]))) (va_runV (As := [.int (xs (nI (6 * i) + (1 : Int32)).toNatClampNeg), .int (xs (nI (6 * i) + (2 : Int32)).toNatClampNeg)]) (rest := [.int r]) ⟨hx, hb, hml, hown, hts⟩ (c_X7_copy l D cI cB cZ ta aM aMt aMn aMr aMs aMi H2.size mth mtd msz mto mfr mso mnu rk mpl mwo (nI h) mgo mt mno mre msn mis ((xs (nI (6 * i) + (1 : Int32)).toNatClampNeg)) ((xs (nI (6 * i) + (2 : Int32)).toNatClampNeg)) r 0 (nI h1) mno1 msn1 e2) (cwV 2 hts gL_law_X7_copy rfl rfl rfl (by decide +kernel) ⟨(Nat.le_of_ble_eq_true rfl), (Nat.le_of_ble_eq_true rfl)⟩) ⟨PW_blind, va_recv hK hP2 rfl (q0 := 20) rfl, PW_at hP2 hD2 hK3 hS2 hA hG [20, 21, 22, 23, 24, 25] rfl (by decide)⟩ rfl rfl hl.1 rfl (lv_room (Nat.le_of_ble_eq_true rfl)) dL_law_990 hc0) hP2 hD2 hS2 hA [20, 21, 22, 23, 24, 25] [0, 1, 2, 3, 4, 5, 6, 7, 8, 9, 10, 11, 12, 13, 14, 15, 16, 17, 18, 19, 26] [0, 1, 2, 3, 4, 5, 6, 7, 8, 9, 10, 11, 12, 13, 14, 15, 16, 17, 18, 19, 21, 22, 23, 24, 25, 26, 20] rfl rfl (by decide) (by decide) (by decide) rfl (fun H3 lo3 hP3 hD3 hS3 => ?_)
  refine lv_icmp_eq (tgt := 1073) hx hb dL_law_993 (by decide) (fun _ => ?_) (fun c9 => absurd rfl c9)
  refine W.widen (k := cells + 1) (n := slots + 6) (by omega) (by omega) ?_
  exact K tl tb pg ps pn pp pf1 dg ds dn dp df rl rk rp rt kp kb kk kn bb bs (nI l1) (nI h1) jk1 jp1 jb jr1 0 mtd msz mto mfr mso mnu rk mpl mwo (nI h1) mgo mt mno1 mre msn1 mis fo ⟨T0, h1, l1, A1, R, H1, rfl, rfl, rfl, hc1, hm1, rfl⟩ H3 lo3 hP3 hD3 hS3 ls (lv_sub hl [0, 1, 2, 3, 4] rfl)
set_option maxHeartbeats 4000000 in
set_option maxRecDepth 100000 in
theorem lc_19 (hst : l.stackTraces = false) (E : LE p s m meth c D cI cB cZ cJ ta sa b L xs) {i cells slots : Nat} (hi : 6 * i + 6 ≤ L) (hL : L ≤ 3072) (hcs : cells + 1 ≤ 1052 ∧ slots + 6 ≤ 16861) (K : K73 p l e s m below meth c D cI cB cZ cJ aV aT aTb aP aPp aPf aD aDp aDf aR aRt aK aB aBb aBs aH aHk aHp aHb aHr aM aMt aMn aMr aMs aMi aO b i (cells + 1) (slots + 6)) (tl : Int32) (tb : (Nat → Int32)) (pg : Int32) (ps : Int32) (pn : Int32) (pp : (Nat → Int32)) (pf : (Nat → Int32)) (dg : Int32) (ds : Int32) (dn : Int32) (dp : (Nat → Int32)) (df : (Nat → Int32)) (rl : Int32) (rk : Int32) (rp : Int32) (rt : (Nat → Int32)) (kp : Int32) (kb : Int32) (kk : Int32) (kn : Int32) (bb : (Nat → Int32)) (bs : (Nat → Int32)) (jl : Int32) (jn : Int32) (jk : (Nat → Int32)) (jp : (Nat → Int32)) (jb : (Nat → Int32)) (jr : (Nat → Int32)) (mth : Int32) (mtd : Int32) (msz : Int32) (mto : Int32) (mfr : Int32) (mso : Int32) (mnu : Int32) (mfa : Int32) (mpl : Int32) (mwo : Int64) (msm : Int32) (mgo : Int32) (mt : (Nat → Int32)) (mno : (Nat → Int32)) (mre : (Nat → Int32)) (msn : (Nat → Int32)) (mis : (Nat → Int32)) (fo : Nat → Int64) (hI : Inv tl tb pg ps pn pp pf rk jl jn jk jp jb jr mtd mfa msm mt mno msn) (H : Heap) (lo : List Loc) (hP : va_P D vwCl ((w_VB cI cB cZ aV aT aTb aP aPp aPf aD aDp aDf aR aRt aK aB aBb aBs aH aHk aHp aHb aHr tl tb pg ps pn pp pf dg ds dn dp df rl rk rp rt kp kb kk kn bb bs jl jn jk jp jb jr) ++ ((w_Model cI cB cZ aM aMt aMn aMr aMs aMi mth mtd msz mto mfr mso mnu mfa mpl mwo msm mgo mt mno mre msn mis) ++ [outC cJ aO fo])) H) (hD : va_D (fun q : Nat => s.heap.size ≤ q) ((w_VB cI cB cZ aV aT aTb aP aPp aPf aD aDp aDf aR aRt aK aB aBb aBs aH aHk aHp aHb aHr tl tb pg ps pn pp pf dg ds dn dp df rl rk rp rt kp kb kk kn bb bs jl jn jk jp jb jr) ++ ((w_Model cI cB cZ aM aMt aMn aMr aMs aMi mth mtd msz mto mfr mso mnu mfa mpl mwo msm mgo mt mno mre msn mis) ++ [outC cJ aO fo]))) (hS : va_S (fun q : Nat => s.heap.size ≤ q) s.heap H lo) (ls : Array Slot) (hl : lv_has ls 7 [(0, .ref b), (1, .ref aV), (2, .ref aM), (3, .ref aO), (4, .int (nI (6 * i)))]) : W p l e room_1 s m #[Value.ref b] below meth c H lo cells slots (lw_Z below #[Value.ref b] s) (F0 m 998 ls []) := by
  obtain ⟨⟨hx, hb, hr, hml, hown, hts, hX, hbl, hlocks⟩, hK, hG, hN⟩ := E
  have hA : ∀ q : Nat, s.heap.size ≤ q → (fun q : Nat => s.heap.size ≤ q) q := fun _ h => h
  have hbA : ¬ (fun q : Nat => s.heap.size ≤ q) b := Nat.not_le.mpr hbl
  have hK3 : va_K D vwCl (tyG cI cB cZ) s := hK.sub [0, 1, 2] rfl
  obtain ⟨T0, h, l0, A, R, H0, rfl, rfl, rfl, hc, hm, rfl⟩ := hI
  have hc0 : cells + 0 ≤ room_1.cells ∧ slots + 0 ≤ room_1.slots := ⟨show cells + 0 ≤ 1052 by omega, show slots + 0 ≤ 16861 by omega⟩
  obtain ⟨r, pp1, h1, l1, jk1, jp1, jb1, mno1, msn1, A1, e1, e2, H1, hc1, hm1⟩ := op_move H0 hc hm mth (xs (nI (6 * i) + (1 : Int32)).toNatClampNeg) (xs (nI (6 * i) + (2 : Int32)).toNatClampNeg)
  refine lv_aload_n hx hb dL_law_998 rfl (lv_at hl 1 rfl) ?_
  refine lv_aload_n hx hb dL_law_999 rfl (lv_at hl 0 rfl) ?_
  refine lv_iload hx hb dL_law_1000 (lv_at hl 4 rfl) ?_
  refine lv_iconst (v := (1 : Int32)) hx hb dL_law_1002 (by decide) ?_
  refine lv_iadd hx hb dL_law_1003 ?_
  refine va_sld hx hb hX hbl hbA hS (in6 (k := 1) (by omega) hL) dL_law_1004 ?_
  refine lv_aload_n hx hb dL_law_1005 rfl (lv_at hl 0 rfl) ?_
  refine lv_iload hx hb dL_law_1006 (lv_at hl 4 rfl) ?_
  refine lv_iconst (v := (2 : Int32)) hx hb dL_law_1008 (by decide) ?_
  refine lv_iadd hx hb dL_law_1009 ?_
  refine va_sld hx hb hX hbl hbA hS (in6 (k := 2) (by omega) hL) dL_law_1010 ?_
  refine gcall_b (ws' := ((w_VB cI cB cZ aV aT aTb aP aPp aPf aD aDp aDf aR aRt aK aB aBb aBs aH aHk aHp aHb aHr tl tb pg ps pn pp1 pf dg ds dn dp df rl rk rp rt kp kb kk kn bb bs (nI l1) (nI h1) jk1 jp1 jb1 jr) ++ ((w_Model cI cB cZ aM aMt aMn aMr aMs aMi mth mtd msz mto mfr mso mnu rk mpl mwo (nI h) mgo mt mno mre msn mis) ++ [outC cJ aO fo]))) (va_runV (As := [.int (xs (nI (6 * i) + (1 : Int32)).toNatClampNeg), .int (xs (nI (6 * i) + (2 : Int32)).toNatClampNeg)]) (rest := []) ⟨hx, hb, hml, hown, hts⟩ (c_X6_move l D cI cB cZ ta aV aT aTb aP aPp aPf aD aDp aDf aR aRt aK aB aBb aBs aH aHk aHp aHb aHr H.size tl tb pg ps pn pp pf dg ds dn dp df rl rk rp rt kp kb kk kn bb bs (nI l0) (nI h) jk jp jb jr ((xs (nI (6 * i) + (1 : Int32)).toNatClampNeg)) ((xs (nI (6 * i) + (2 : Int32)).toNatClampNeg)) r pp1 (nI l1) (nI h1) jk1 jp1 jb1 e1) (cwV 2 hts gL_law_X6_move rfl rfl rfl (by decide +kernel) ⟨(Nat.le_of_ble_eq_true rfl), (Nat.le_of_ble_eq_true rfl)⟩) ⟨PW_blind, va_recv hK hP rfl (q0 := 0) rfl, PW_at hP hD hK3 hS hA hG [0, 1, 2, 3, 4, 5, 6, 7, 8, 9, 10, 11, 12, 13, 14, 15, 16, 17, 18, 19] rfl (by decide)⟩ rfl rfl hl.1 rfl (lv_room (Nat.le_of_ble_eq_true rfl)) dL_law_1011 hc0) hP hD hS hA [0, 1, 2, 3, 4, 5, 6, 7, 8, 9, 10, 11, 12, 13, 14, 15, 16, 17, 18, 19] [20, 21, 22, 23, 24, 25, 26] [7, 8, 9, 10, 11, 12, 13, 14, 15, 16, 17, 18, 19, 20, 21, 22, 23, 24, 25, 26, 0, 1, 2, 3, 4, 5, 6] rfl rfl (by decide) (by decide) (by decide) rfl (fun H2 lo2 hz2 hP2 hD2 hS2 => ?_)
  refine lv_aload_n hx hb dL_law_1014 rfl (lv_at hl 2 rfl) ?_
  refine lv_aload_n hx hb dL_law_1015 rfl (lv_at hl 0 rfl) ?_
  refine lv_iload hx hb dL_law_1016 (lv_at hl 4 rfl) ?_
  refine lv_iconst (v := (1 : Int32)) hx hb dL_law_1018 (by decide) ?_
  refine lv_iadd hx hb dL_law_1019 ?_
  refine va_sld hx hb hX hbl hbA hS2 (in6 (k := 1) (by omega) hL) dL_law_1020 ?_
  refine lv_aload_n hx hb dL_law_1021 rfl (lv_at hl 0 rfl) ?_
  refine lv_iload hx hb dL_law_1022 (lv_at hl 4 rfl) ?_
  refine lv_iconst (v := (2 : Int32)) hx hb dL_law_1024 (by decide) ?_
  refine lv_iadd hx hb dL_law_1025 ?_
  refine va_sld hx hb hX hbl hbA hS2 (in6 (k := 2) (by omega) hL) dL_law_1026 ?_
  refine gcall_b (ws' := ((w_VB cI cB cZ aV aT aTb aP aPp aPf aD aDp aDf aR aRt aK aB aBb aBs aH aHk aHp aHb aHr tl tb pg ps pn pp1 pf dg ds dn dp df rl rk rp rt kp kb kk kn bb bs (nI l1) (nI h1) jk1 jp1 jb1 jr) ++ ((w_Model cI cB cZ aM aMt aMn aMr aMs aMi 0 mtd msz mto mfr mso mnu rk mpl mwo (nI h1) mgo mt mno1 mre msn1 mis) ++ [outC cJ aO fo]))) (va_runV (As := [.int (xs (nI (6 * i) + (1 : Int32)).toNatClampNeg), .int (xs (nI (6 * i) + (2 : Int32)).toNatClampNeg)]) (rest := [.int r]) ⟨hx, hb, hml, hown, hts⟩ (c_X7_move l D cI cB cZ ta aM aMt aMn aMr aMs aMi H2.size mth mtd msz mto mfr mso mnu rk mpl mwo (nI h) mgo mt mno mre msn mis ((xs (nI (6 * i) + (1 : Int32)).toNatClampNeg)) ((xs (nI (6 * i) + (2 : Int32)).toNatClampNeg)) r 0 (nI h1) mno1 msn1 e2) (cwV 2 hts gL_law_X7_move rfl rfl rfl (by decide +kernel) ⟨(Nat.le_of_ble_eq_true rfl), (Nat.le_of_ble_eq_true rfl)⟩) ⟨PW_blind, va_recv hK hP2 rfl (q0 := 20) rfl, PW_at hP2 hD2 hK3 hS2 hA hG [20, 21, 22, 23, 24, 25] rfl (by decide)⟩ rfl rfl hl.1 rfl (lv_room (Nat.le_of_ble_eq_true rfl)) dL_law_1027 hc0) hP2 hD2 hS2 hA [20, 21, 22, 23, 24, 25] [0, 1, 2, 3, 4, 5, 6, 7, 8, 9, 10, 11, 12, 13, 14, 15, 16, 17, 18, 19, 26] [0, 1, 2, 3, 4, 5, 6, 7, 8, 9, 10, 11, 12, 13, 14, 15, 16, 17, 18, 19, 21, 22, 23, 24, 25, 26, 20] rfl rfl (by decide) (by decide) (by decide) rfl (fun H3 lo3 hz3 hP3 hD3 hS3 => ?_)
  refine lv_icmp_eq (tgt := 1073) hx hb dL_law_1030 (by decide) (fun _ => ?_) (fun c9 => absurd rfl c9)
  refine W.widen (k := cells + 1) (n := slots + 6) (by omega) (by omega) ?_
  exact K tl tb pg ps pn pp1 pf dg ds dn dp df rl rk rp rt kp kb kk kn bb bs (nI l1) (nI h1) jk1 jp1 jb1 jr 0 mtd msz mto mfr mso mnu rk mpl mwo (nI h1) mgo mt mno1 mre msn1 mis fo ⟨T0, h1, l1, A1, R, H1, rfl, rfl, rfl, hc1, hm1, rfl⟩ H3 lo3 hP3 hD3 hS3 ls (lv_sub hl [0, 1, 2, 3, 4] rfl)
set_option maxHeartbeats 4000000 in
set_option maxRecDepth 100000 in
theorem lc_20 (hst : l.stackTraces = false) (E : LE p s m meth c D cI cB cZ cJ ta sa b L xs) {i cells slots : Nat} (hi : 6 * i + 6 ≤ L) (hL : L ≤ 3072) (hcs : cells + 1 ≤ 1052 ∧ slots + 6 ≤ 16861) (K : K73 p l e s m below meth c D cI cB cZ cJ aV aT aTb aP aPp aPf aD aDp aDf aR aRt aK aB aBb aBs aH aHk aHp aHb aHr aM aMt aMn aMr aMs aMi aO b i (cells + 1) (slots + 6)) (tl : Int32) (tb : (Nat → Int32)) (pg : Int32) (ps : Int32) (pn : Int32) (pp : (Nat → Int32)) (pf : (Nat → Int32)) (dg : Int32) (ds : Int32) (dn : Int32) (dp : (Nat → Int32)) (df : (Nat → Int32)) (rl : Int32) (rk : Int32) (rp : Int32) (rt : (Nat → Int32)) (kp : Int32) (kb : Int32) (kk : Int32) (kn : Int32) (bb : (Nat → Int32)) (bs : (Nat → Int32)) (jl : Int32) (jn : Int32) (jk : (Nat → Int32)) (jp : (Nat → Int32)) (jb : (Nat → Int32)) (jr : (Nat → Int32)) (mth : Int32) (mtd : Int32) (msz : Int32) (mto : Int32) (mfr : Int32) (mso : Int32) (mnu : Int32) (mfa : Int32) (mpl : Int32) (mwo : Int64) (msm : Int32) (mgo : Int32) (mt : (Nat → Int32)) (mno : (Nat → Int32)) (mre : (Nat → Int32)) (msn : (Nat → Int32)) (mis : (Nat → Int32)) (fo : Nat → Int64) (hI : Inv tl tb pg ps pn pp pf rk jl jn jk jp jb jr mtd mfa msm mt mno msn) (H : Heap) (lo : List Loc) (hP : va_P D vwCl ((w_VB cI cB cZ aV aT aTb aP aPp aPf aD aDp aDf aR aRt aK aB aBb aBs aH aHk aHp aHb aHr tl tb pg ps pn pp pf dg ds dn dp df rl rk rp rt kp kb kk kn bb bs jl jn jk jp jb jr) ++ ((w_Model cI cB cZ aM aMt aMn aMr aMs aMi mth mtd msz mto mfr mso mnu mfa mpl mwo msm mgo mt mno mre msn mis) ++ [outC cJ aO fo])) H) (hD : va_D (fun q : Nat => s.heap.size ≤ q) ((w_VB cI cB cZ aV aT aTb aP aPp aPf aD aDp aDf aR aRt aK aB aBb aBs aH aHk aHp aHb aHr tl tb pg ps pn pp pf dg ds dn dp df rl rk rp rt kp kb kk kn bb bs jl jn jk jp jb jr) ++ ((w_Model cI cB cZ aM aMt aMn aMr aMs aMi mth mtd msz mto mfr mso mnu mfa mpl mwo msm mgo mt mno mre msn mis) ++ [outC cJ aO fo]))) (hS : va_S (fun q : Nat => s.heap.size ≤ q) s.heap H lo) (ls : Array Slot) (hl : lv_has ls 7 [(0, .ref b), (1, .ref aV), (2, .ref aM), (3, .ref aO), (4, .int (nI (6 * i)))]) : W p l e room_1 s m #[Value.ref b] below meth c H lo cells slots (lw_Z below #[Value.ref b] s) (F0 m 1035 ls []) := by
  obtain ⟨⟨hx, hb, hr, hml, hown, hts, hX, hbl, hlocks⟩, hK, hG, hN⟩ := E
  have hA : ∀ q : Nat, s.heap.size ≤ q → (fun q : Nat => s.heap.size ≤ q) q := fun _ h => h
  have hbA : ¬ (fun q : Nat => s.heap.size ≤ q) b := Nat.not_le.mpr hbl
  have hK3 : va_K D vwCl (tyG cI cB cZ) s := hK.sub [0, 1, 2] rfl
  obtain ⟨T0, h, l0, A, R, H0, rfl, rfl, rfl, hc, hm, rfl⟩ := hI
  have hc0 : cells + 0 ≤ room_1.cells ∧ slots + 0 ≤ room_1.slots := ⟨show cells + 0 ≤ 1052 by omega, show slots + 0 ≤ 16861 by omega⟩
  obtain ⟨r, pn1, pp1, pf1, h1, l1, jk1, jp1, mno1, msn1, A1, e1, e2, H1, hc1, hm1⟩ := op_grow H0 hc hm mth (xs (nI (6 * i) + (1 : Int32)).toNatClampNeg)
  refine lv_aload_n hx hb dL_law_1035 rfl (lv_at hl 1 rfl) ?_
  refine lv_aload_n hx hb dL_law_1036 rfl (lv_at hl 0 rfl) ?_
  refine lv_iload hx hb dL_law_1037 (lv_at hl 4 rfl) ?_
  refine lv_iconst (v := (1 : Int32)) hx hb dL_law_1039 (by decide) ?_
  refine lv_iadd hx hb dL_law_1040 ?_
  refine va_sld hx hb hX hbl hbA hS (in6 (k := 1) (by omega) hL) dL_law_1041 ?_
  refine gcall_i (ws' := ((w_VB cI cB cZ aV aT aTb aP aPp aPf aD aDp aDf aR aRt aK aB aBb aBs aH aHk aHp aHb aHr tl tb pg ps pn1 pp1 pf1 dg ds dn dp df rl rk rp rt kp kb kk kn bb bs (nI l1) (nI h1) jk1 jp1 jb jr) ++ ((w_Model cI cB cZ aM aMt aMn aMr aMs aMi mth mtd msz mto mfr mso mnu rk mpl mwo (nI h) mgo mt mno mre msn mis) ++ [outC cJ aO fo]))) (va_runV (As := [.int (xs (nI (6 * i) + (1 : Int32)).toNatClampNeg)]) (rest := []) ⟨hx, hb, hml, hown, hts⟩ (c_X6_grow l D cI cB cZ ta aV aT aTb aP aPp aPf aD aDp aDf aR aRt aK aB aBb aBs aH aHk aHp aHb aHr H.size tl tb pg ps pn pp pf dg ds dn dp df rl rk rp rt kp kb kk kn bb bs (nI l0) (nI h) jk jp jb jr ((xs (nI (6 * i) + (1 : Int32)).toNatClampNeg)) r pn1 pp1 pf1 (nI l1) (nI h1) jk1 jp1 e1) (cwV 1 hts gL_law_X6_grow rfl rfl rfl (by decide +kernel) ⟨(Nat.le_of_ble_eq_true rfl), (Nat.le_of_ble_eq_true rfl)⟩) ⟨PW_blind, va_recv hK hP rfl (q0 := 0) rfl, PW_at hP hD hK3 hS hA hG [0, 1, 2, 3, 4, 5, 6, 7, 8, 9, 10, 11, 12, 13, 14, 15, 16, 17, 18, 19] rfl (by decide)⟩ rfl rfl hl.1 rfl (lv_room (Nat.le_of_ble_eq_true rfl)) dL_law_1042 hc0) hP hD hS hA [0, 1, 2, 3, 4, 5, 6, 7, 8, 9, 10, 11, 12, 13, 14, 15, 16, 17, 18, 19] [20, 21, 22, 23, 24, 25, 26] [7, 8, 9, 10, 11, 12, 13, 14, 15, 16, 17, 18, 19, 20, 21, 22, 23, 24, 25, 26, 0, 1, 2, 3, 4, 5, 6] rfl rfl (by decide) (by decide) (by decide) rfl (fun H2 lo2 hP2 hD2 hS2 => ?_)
  refine lv_aload_n hx hb dL_law_1045 rfl (lv_at hl 2 rfl) ?_
  refine lv_aload_n hx hb dL_law_1046 rfl (lv_at hl 0 rfl) ?_
  refine lv_iload hx hb dL_law_1047 (lv_at hl 4 rfl) ?_
  refine lv_iconst (v := (1 : Int32)) hx hb dL_law_1049 (by decide) ?_
  refine lv_iadd hx hb dL_law_1050 ?_
  refine va_sld hx hb hX hbl hbA hS2 (in6 (k := 1) (by omega) hL) dL_law_1051 ?_
  refine gcall_i (ws' := ((w_VB cI cB cZ aV aT aTb aP aPp aPf aD aDp aDf aR aRt aK aB aBb aBs aH aHk aHp aHb aHr tl tb pg ps pn1 pp1 pf1 dg ds dn dp df rl rk rp rt kp kb kk kn bb bs (nI l1) (nI h1) jk1 jp1 jb jr) ++ ((w_Model cI cB cZ aM aMt aMn aMr aMs aMi 0 mtd msz mto mfr mso mnu rk mpl mwo (nI h1) mgo mt mno1 mre msn1 mis) ++ [outC cJ aO fo]))) (va_runV (As := [.int (xs (nI (6 * i) + (1 : Int32)).toNatClampNeg)]) (rest := [.int r]) ⟨hx, hb, hml, hown, hts⟩ (c_X7_grow l D cI cB cZ ta aM aMt aMn aMr aMs aMi H2.size mth mtd msz mto mfr mso mnu rk mpl mwo (nI h) mgo mt mno mre msn mis ((xs (nI (6 * i) + (1 : Int32)).toNatClampNeg)) r 0 (nI h1) mno1 msn1 e2) (cwV 1 hts gL_law_X7_grow rfl rfl rfl (by decide +kernel) ⟨(Nat.le_of_ble_eq_true rfl), (Nat.le_of_ble_eq_true rfl)⟩) ⟨PW_blind, va_recv hK hP2 rfl (q0 := 20) rfl, PW_at hP2 hD2 hK3 hS2 hA hG [20, 21, 22, 23, 24, 25] rfl (by decide)⟩ rfl rfl hl.1 rfl (lv_room (Nat.le_of_ble_eq_true rfl)) dL_law_1052 hc0) hP2 hD2 hS2 hA [20, 21, 22, 23, 24, 25] [0, 1, 2, 3, 4, 5, 6, 7, 8, 9, 10, 11, 12, 13, 14, 15, 16, 17, 18, 19, 26] [0, 1, 2, 3, 4, 5, 6, 7, 8, 9, 10, 11, 12, 13, 14, 15, 16, 17, 18, 19, 21, 22, 23, 24, 25, 26, 20] rfl rfl (by decide) (by decide) (by decide) rfl (fun H3 lo3 hP3 hD3 hS3 => ?_)
  refine lv_icmp_eq (tgt := 1073) hx hb dL_law_1055 (by decide) (fun _ => ?_) (fun c9 => absurd rfl c9)
  refine W.widen (k := cells + 1) (n := slots + 6) (by omega) (by omega) ?_
  exact K tl tb pg ps pn1 pp1 pf1 dg ds dn dp df rl rk rp rt kp kb kk kn bb bs (nI l1) (nI h1) jk1 jp1 jb jr 0 mtd msz mto mfr mso mnu rk mpl mwo (nI h1) mgo mt mno1 mre msn1 mis fo ⟨T0, h1, l1, A1, R, H1, rfl, rfl, rfl, hc1, hm1, rfl⟩ H3 lo3 hP3 hD3 hS3 ls (lv_sub hl [0, 1, 2, 3, 4] rfl)
set_option maxHeartbeats 4000000 in
set_option maxRecDepth 100000 in
theorem lc_21 (hst : l.stackTraces = false) (E : LE p s m meth c D cI cB cZ cJ ta sa b L xs) {i cells slots : Nat} (hi : 6 * i + 6 ≤ L) (hL : L ≤ 3072) (hcs : cells + 1 ≤ 1052 ∧ slots + 6 ≤ 16861) (K : K73 p l e s m below meth c D cI cB cZ cJ aV aT aTb aP aPp aPf aD aDp aDf aR aRt aK aB aBb aBs aH aHk aHp aHb aHr aM aMt aMn aMr aMs aMi aO b i (cells + 1) (slots + 6)) (tl : Int32) (tb : (Nat → Int32)) (pg : Int32) (ps : Int32) (pn : Int32) (pp : (Nat → Int32)) (pf : (Nat → Int32)) (dg : Int32) (ds : Int32) (dn : Int32) (dp : (Nat → Int32)) (df : (Nat → Int32)) (rl : Int32) (rk : Int32) (rp : Int32) (rt : (Nat → Int32)) (kp : Int32) (kb : Int32) (kk : Int32) (kn : Int32) (bb : (Nat → Int32)) (bs : (Nat → Int32)) (jl : Int32) (jn : Int32) (jk : (Nat → Int32)) (jp : (Nat → Int32)) (jb : (Nat → Int32)) (jr : (Nat → Int32)) (mth : Int32) (mtd : Int32) (msz : Int32) (mto : Int32) (mfr : Int32) (mso : Int32) (mnu : Int32) (mfa : Int32) (mpl : Int32) (mwo : Int64) (msm : Int32) (mgo : Int32) (mt : (Nat → Int32)) (mno : (Nat → Int32)) (mre : (Nat → Int32)) (msn : (Nat → Int32)) (mis : (Nat → Int32)) (fo : Nat → Int64) (hI : Inv tl tb pg ps pn pp pf rk jl jn jk jp jb jr mtd mfa msm mt mno msn) (H : Heap) (lo : List Loc) (hP : va_P D vwCl ((w_VB cI cB cZ aV aT aTb aP aPp aPf aD aDp aDf aR aRt aK aB aBb aBs aH aHk aHp aHb aHr tl tb pg ps pn pp pf dg ds dn dp df rl rk rp rt kp kb kk kn bb bs jl jn jk jp jb jr) ++ ((w_Model cI cB cZ aM aMt aMn aMr aMs aMi mth mtd msz mto mfr mso mnu mfa mpl mwo msm mgo mt mno mre msn mis) ++ [outC cJ aO fo])) H) (hD : va_D (fun q : Nat => s.heap.size ≤ q) ((w_VB cI cB cZ aV aT aTb aP aPp aPf aD aDp aDf aR aRt aK aB aBb aBs aH aHk aHp aHb aHr tl tb pg ps pn pp pf dg ds dn dp df rl rk rp rt kp kb kk kn bb bs jl jn jk jp jb jr) ++ ((w_Model cI cB cZ aM aMt aMn aMr aMs aMi mth mtd msz mto mfr mso mnu mfa mpl mwo msm mgo mt mno mre msn mis) ++ [outC cJ aO fo]))) (hS : va_S (fun q : Nat => s.heap.size ≤ q) s.heap H lo) (ls : Array Slot) (hl : lv_has ls 7 [(0, .ref b), (1, .ref aV), (2, .ref aM), (3, .ref aO), (4, .int (nI (6 * i)))]) : W p l e room_1 s m #[Value.ref b] below meth c H lo cells slots (lw_Z below #[Value.ref b] s) (F0 m 1060 ls []) := by
  obtain ⟨⟨hx, hb, hr, hml, hown, hts, hX, hbl, hlocks⟩, hK, hG, hN⟩ := E
  have hA : ∀ q : Nat, s.heap.size ≤ q → (fun q : Nat => s.heap.size ≤ q) q := fun _ h => h
  have hbA : ¬ (fun q : Nat => s.heap.size ≤ q) b := Nat.not_le.mpr hbl
  have hK3 : va_K D vwCl (tyG cI cB cZ) s := hK.sub [0, 1, 2] rfl
  obtain ⟨T0, h, l0, A, R, H0, rfl, rfl, rfl, hc, hm, rfl⟩ := hI
  have hc0 : cells + 0 ≤ room_1.cells ∧ slots + 0 ≤ room_1.slots := ⟨show cells + 0 ≤ 1052 by omega, show slots + 0 ≤ 16861 by omega⟩
  obtain ⟨r, pn1, pp1, pf1, mno1, h1, l1, A1, e1, e2, H1, hc1, hm1⟩ := op_undo H0 hc hm mth 
  refine lv_aload_n hx hb dL_law_1060 rfl (lv_at hl 1 rfl) ?_
  refine gcall_i (ws' := ((w_VB cI cB cZ aV aT aTb aP aPp aPf aD aDp aDf aR aRt aK aB aBb aBs aH aHk aHp aHb aHr tl tb pg ps pn1 pp1 pf1 dg ds dn dp df rl rk rp rt kp kb kk kn bb bs (nI l1) (nI h1) jk jp jb jr) ++ ((w_Model cI cB cZ aM aMt aMn aMr aMs aMi mth mtd msz mto mfr mso mnu rk mpl mwo (nI h) mgo mt mno mre msn mis) ++ [outC cJ aO fo]))) (va_runV (As := []) (rest := []) ⟨hx, hb, hml, hown, hts⟩ (c_X6_undo l D cI cB cZ ta aV aT aTb aP aPp aPf aD aDp aDf aR aRt aK aB aBb aBs aH aHk aHp aHb aHr H.size tl tb pg ps pn pp pf dg ds dn dp df rl rk rp rt kp kb kk kn bb bs (nI l0) (nI h) jk jp jb jr r pn1 pp1 pf1 (nI l1) (nI h1) e1) (cwV 0 hts gL_law_X6_undo rfl rfl rfl (by decide +kernel) ⟨(Nat.le_of_ble_eq_true rfl), (Nat.le_of_ble_eq_true rfl)⟩) ⟨PW_blind, va_recv hK hP rfl (q0 := 0) rfl, PW_at hP hD hK3 hS hA hG [0, 1, 2, 3, 4, 5, 6, 7, 8, 9, 10, 11, 12, 13, 14, 15, 16, 17, 18, 19] rfl (by decide)⟩ rfl rfl hl.1 rfl (lv_room (Nat.le_of_ble_eq_true rfl)) dL_law_1061 hc0) hP hD hS hA [0, 1, 2, 3, 4, 5, 6, 7, 8, 9, 10, 11, 12, 13, 14, 15, 16, 17, 18, 19] [20, 21, 22, 23, 24, 25, 26] [7, 8, 9, 10, 11, 12, 13, 14, 15, 16, 17, 18, 19, 20, 21, 22, 23, 24, 25, 26, 0, 1, 2, 3, 4, 5, 6] rfl rfl (by decide) (by decide) (by decide) rfl (fun H2 lo2 hP2 hD2 hS2 => ?_)
  refine lv_aload_n hx hb dL_law_1064 rfl (lv_at hl 2 rfl) ?_
  refine gcall_i (ws' := ((w_VB cI cB cZ aV aT aTb aP aPp aPf aD aDp aDf aR aRt aK aB aBb aBs aH aHk aHp aHb aHr tl tb pg ps pn1 pp1 pf1 dg ds dn dp df rl rk rp rt kp kb kk kn bb bs (nI l1) (nI h1) jk jp jb jr) ++ ((w_Model cI cB cZ aM aMt aMn aMr aMs aMi 0 mtd msz mto mfr mso mnu rk mpl mwo (nI h1) mgo mt mno1 mre msn mis) ++ [outC cJ aO fo]))) (va_runV (As := []) (rest := [.int r]) ⟨hx, hb, hml, hown, hts⟩ (c_X7_undo l D cI cB cZ ta aM aMt aMn aMr aMs aMi H2.size mth mtd msz mto mfr mso mnu rk mpl mwo (nI h) mgo mt mno mre msn mis r 0 (nI h1) mno1 e2) (cwV 0 hts gL_law_X7_undo rfl rfl rfl (by decide +kernel) ⟨(Nat.le_of_ble_eq_true rfl), (Nat.le_of_ble_eq_true rfl)⟩) ⟨PW_blind, va_recv hK hP2 rfl (q0 := 20) rfl, PW_at hP2 hD2 hK3 hS2 hA hG [20, 21, 22, 23, 24, 25] rfl (by decide)⟩ rfl rfl hl.1 rfl (lv_room (Nat.le_of_ble_eq_true rfl)) dL_law_1065 hc0) hP2 hD2 hS2 hA [20, 21, 22, 23, 24, 25] [0, 1, 2, 3, 4, 5, 6, 7, 8, 9, 10, 11, 12, 13, 14, 15, 16, 17, 18, 19, 26] [0, 1, 2, 3, 4, 5, 6, 7, 8, 9, 10, 11, 12, 13, 14, 15, 16, 17, 18, 19, 21, 22, 23, 24, 25, 26, 20] rfl rfl (by decide) (by decide) (by decide) rfl (fun H3 lo3 hP3 hD3 hS3 => ?_)
  refine lv_icmp_eq (tgt := 1073) hx hb dL_law_1068 (by decide) (fun _ => ?_) (fun c9 => absurd rfl c9)
  refine W.widen (k := cells + 1) (n := slots + 6) (by omega) (by omega) ?_
  exact K tl tb pg ps pn1 pp1 pf1 dg ds dn dp df rl rk rp rt kp kb kk kn bb bs (nI l1) (nI h1) jk jp jb jr 0 mtd msz mto mfr mso mnu rk mpl mwo (nI h1) mgo mt mno1 mre msn mis fo ⟨T0, h1, l1, A1, R, H1, rfl, rfl, rfl, hc1, hm1, rfl⟩ H3 lo3 hP3 hD3 hS3 ls (lv_sub hl [0, 1, 2, 3, 4] rfl)
end
