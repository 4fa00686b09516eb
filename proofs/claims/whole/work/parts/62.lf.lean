/-! the loop of the law -/
section
variable {p : Program} {l : Launch} {e : Env} {s : State} {m : MethodId} {below : List Frame} {meth : Method} {c : Code} {D : va_G} {cI cB cZ cJ : ClassId} {ta : Nat → Nat} {sa : Nat} {aV aT aTb aP aPp aPf aD aDp aDf aR aRt aK aB aBb aBs aH aHk aHp aHb aHr aM aMt aMn aMr aMs aMi aO : Nat} {b L : Nat} {xs : Nat → Int32}
theorem lt6 {i L : Nat} (h : 6 * i ≤ L) (hL : L ≤ 3072) (hn : ¬ (Int32.ofNat L - (6 : Int32)) < nI (6 * i)) : 6 * i + 6 ≤ L := by
  by_cases w : 6 ≤ L
  · have e : Int32.ofNat L - (6 : Int32) = nI (L - 6) := pk_sub (a := L) (b := 6) w
    rw [e, nI_ltI (by omega) (by omega)] at hn
    omega
  · exfalso
    have i0 : i = 0 := by omega
    subst i0
    exact hn ((by decide : ∀ k : Fin 6, (Int32.ofNat k.val - (6 : Int32)) < nI (6 * 0)) ⟨L, by omega⟩)
set_option maxHeartbeats 4000000 in
set_option maxRecDepth 100000 in
theorem law_loop (hst : l.stackTraces = false) (E : LE p s m meth c D cI cB cZ cJ ta sa b L xs) (hL : L ≤ 3072) : ∀ (n i : Nat), 6 * i ≤ L → L < 6 * (i + n) → ∀ (tl : Int32) (tb : (Nat → Int32)) (pg : Int32) (ps : Int32) (pn : Int32) (pp : (Nat → Int32)) (pf : (Nat → Int32)) (dg : Int32) (ds : Int32) (dn : Int32) (dp : (Nat → Int32)) (df : (Nat → Int32)) (rl : Int32) (rk : Int32) (rp : Int32) (rt : (Nat → Int32)) (kp : Int32) (kb : Int32) (kk : Int32) (kn : Int32) (bb : (Nat → Int32)) (bs : (Nat → Int32)) (jl : Int32) (jn : Int32) (jk : (Nat → Int32)) (jp : (Nat → Int32)) (jb : (Nat → Int32)) (jr : (Nat → Int32)) (mth : Int32) (mtd : Int32) (msz : Int32) (mto : Int32) (mfr : Int32) (mso : Int32) (mnu : Int32) (mfa : Int32) (mpl : Int32) (mwo : Int64) (msm : Int32) (mgo : Int32) (mt : (Nat → Int32)) (mno : (Nat → Int32)) (mre : (Nat → Int32)) (msn : (Nat → Int32)) (mis : (Nat → Int32)) (fo : Nat → Int64), Inv tl tb pg ps pn pp pf rk jl jn jk jp jb jr mtd mfa msm mt mno msn → ∀ (H : Heap) (lo : List Loc), va_P D vwCl ((w_VB cI cB cZ aV aT aTb aP aPp aPf aD aDp aDf aR aRt aK aB aBb aBs aH aHk aHp aHb aHr tl tb pg ps pn pp pf dg ds dn dp df rl rk rp rt kp kb kk kn bb bs jl jn jk jp jb jr) ++ ((w_Model cI cB cZ aM aMt aMn aMr aMs aMi mth mtd msz mto mfr mso mnu mfa mpl mwo msm mgo mt mno mre msn mis) ++ [outC cJ aO fo])) H → va_D (fun q : Nat => s.heap.size ≤ q) ((w_VB cI cB cZ aV aT aTb aP aPp aPf aD aDp aDf aR aRt aK aB aBb aBs aH aHk aHp aHb aHr tl tb pg ps pn pp pf dg ds dn dp df rl rk rp rt kp kb kk kn bb bs jl jn jk jp jb jr) ++ ((w_Model cI cB cZ aM aMt aMn aMr aMs aMi mth mtd msz mto mfr mso mnu mfa mpl mwo msm mgo mt mno mre msn mis) ++ [outC cJ aO fo])) → va_S (fun q : Nat => s.heap.size ≤ q) s.heap H lo → ∀ ls : Array Slot, lv_has ls 7 [(0, .ref b), (1, .ref aV), (2, .ref aM), (3, .ref aO), (4, .int (nI (6 * i)))] → W p l e room_1 s m #[Value.ref b] below meth c H lo (27 + i) (8663 + 6 * i) (lw_Z below #[Value.ref b] s) (F0 m 23 ls []) := by
  obtain ⟨⟨hx, hb, hr, hml, hown, hts, hX, hbl, hlocks⟩, hK, hG, hN⟩ := id E
  have hbA : ¬ (fun q : Nat => s.heap.size ≤ q) b := Nat.not_le.mpr hbl
  intro n
  induction n with
  | zero => intro i h1 h2; exact absurd h2 (by omega)
  | succ n ih =>
    intro i h1 h2 tl tb pg ps pn pp pf dg ds dn dp df rl rk rp rt kp kb kk kn bb bs jl jn jk jp jb jr mth mtd msz mto mfr mso mnu mfa mpl mwo msm mgo mt mno mre msn mis fo hI H lo hP hD hS ls hl
    refine lv_iload hx hb dL_law_23 (lv_at hl 4 rfl) ?_
    refine lv_aload_n hx hb dL_law_25 rfl (lv_at hl 0 rfl) ?_
    refine va_slen hx hb hX hbl hbA hS dL_law_26 ?_
    refine lv_bipush (v := (6 : Int32)) hx hb dL_law_27 (by decide) ?_
    refine lv_isub hx hb dL_law_29 ?_
    refine lv_icmp_gt (tgt := 1079) hx hb dL_law_30 (by decide) (fun c1 => ?_) (fun c1 => ?_)
    · refine lv_iconst (v := (1 : Int32)) hx hb dL_law_1079 (by decide) ?_
      refine va_forget (fun q hq => hS.2.2 q hq) ?_
      refine W.widen (k := 1052) (n := 16861) (by omega) (by omega) ?_
      exact lw_ret hx hb hr hlocks dL_law_1080
    · have hi : 6 * i + 6 ≤ L := lt6 h1 hL c1
      have hcs : 27 + i + 1 ≤ 1052 ∧ 8663 + 6 * i + 6 ≤ 16861 := ⟨by omega, by omega⟩
      have K : K73 p l e s m below meth c D cI cB cZ cJ aV aT aTb aP aPp aPf aD aDp aDf aR aRt aK aB aBb aBs aH aHk aHp aHb aHr aM aMt aMn aMr aMs aMi aO b i (27 + i + 1) (8663 + 6 * i + 6) := by
        intro tl tb pg ps pn pp pf dg ds dn dp df rl rk rp rt kp kb kk kn bb bs jl jn jk jp jb jr mth mtd msz mto mfr mso mnu mfa mpl mwo msm mgo mt mno mre msn mis fo hI H lo hP hD hS ls hl
        refine lv_iinc (v := nI (6 * (i + 1))) (lv' := [(4, .int (nI (6 * (i + 1)))), (0, .ref b), (1, .ref aV), (2, .ref aM), (3, .ref aO)]) hx hb dL_law_1073 hl (k := 4) rfl (nI_add (6 * i) 6) (by decide) rfl (fun ls hl => ?_)
        refine lv_goto (tgt := 23) hx hb dL_law_1076 (by decide) ?_
        exact ih (i + 1) (by omega) (by omega) tl tb pg ps pn pp pf dg ds dn dp df rl rk rp rt kp kb kk kn bb bs jl jn jk jp jb jr mth mtd msz mto mfr mso mnu mfa mpl mwo msm mgo mt mno mre msn mis fo hI H lo hP hD hS ls (lv_sub hl [1, 2, 3, 4, 0] rfl)
      refine lv_aload_n hx hb dL_law_33 rfl (lv_at hl 0 rfl) ?_
      refine lv_iload hx hb dL_law_34 (lv_at hl 4 rfl) ?_
      refine va_sld hx hb hX hbl hbA hS (vp_in_nI (by omega) (by omega)) dL_law_36 ?_
      refine lv_bipush (v := (31 : Int32)) hx hb dL_law_37 (by decide) ?_
      refine lv_iand hx hb dL_law_39 ?_
      generalize xs (nI (6 * i)).toNatClampNeg &&& (31 : Int32) = v
      by_cases c0_ : v = (0 : Int32)
      · exact lv_tableIn (off := 104) (tgt := 144) hx hb dL_law_40 (by rw [c0_]; decide) (by rw [c0_]; decide) (by rw [c0_]; rfl) (by decide) (lc_0 hst E hi hL hcs K tl tb pg ps pn pp pf dg ds dn dp df rl rk rp rt kp kb kk kn bb bs jl jn jk jp jb jr mth mtd msz mto mfr mso mnu mfa mpl mwo msm mgo mt mno mre msn mis fo hI H lo hP hD hS ls hl)
      by_cases c1_ : v = (1 : Int32)
      · exact lv_tableIn (off := 177) (tgt := 217) hx hb dL_law_40 (by rw [c1_]; decide) (by rw [c1_]; decide) (by rw [c1_]; rfl) (by decide) (lc_1 hst E hi hL hcs K tl tb pg ps pn pp pf dg ds dn dp df rl rk rp rt kp kb kk kn bb bs jl jn jk jp jb jr mth mtd msz mto mfr mso mnu mfa mpl mwo msm mgo mt mno mre msn mis fo hI H lo hP hD hS ls hl)
      by_cases c2_ : v = (2 : Int32)
      · exact lv_tableIn (off := 202) (tgt := 242) hx hb dL_law_40 (by rw [c2_]; decide) (by rw [c2_]; decide) (by rw [c2_]; rfl) (by decide) (lc_2 hst E hi hL hcs K tl tb pg ps pn pp pf dg ds dn dp df rl rk rp rt kp kb kk kn bb bs jl jn jk jp jb jr mth mtd msz mto mfr mso mnu mfa mpl mwo msm mgo mt mno mre msn mis fo hI H lo hP hD hS ls hl)
      by_cases c3_ : v = (3 : Int32)
      · exact lv_tableIn (off := 215) (tgt := 255) hx hb dL_law_40 (by rw [c3_]; decide) (by rw [c3_]; decide) (by rw [c3_]; rfl) (by decide) (lc_3 hst E hi hL hcs K tl tb pg ps pn pp pf dg ds dn dp df rl rk rp rt kp kb kk kn bb bs jl jn jk jp jb jr mth mtd msz mto mfr mso mnu mfa mpl mwo msm mgo mt mno mre msn mis fo hI H lo hP hD hS ls hl)
      by_cases c4_ : v = (4 : Int32)
      · exact lv_tableIn (off := 228) (tgt := 268) hx hb dL_law_40 (by rw [c4_]; decide) (by rw [c4_]; decide) (by rw [c4_]; rfl) (by decide) (lc_4 hst E hi hL hcs K tl tb pg ps pn pp pf dg ds dn dp df rl rk rp rt kp kb kk kn bb bs jl jn jk jp jb jr mth mtd msz mto mfr mso mnu mfa mpl mwo msm mgo mt mno mre msn mis fo hI H lo hP hD hS ls hl)
      by_cases c5_ : v = (5 : Int32)
      · exact lv_tableIn (off := 253) (tgt := 293) hx hb dL_law_40 (by rw [c5_]; decide) (by rw [c5_]; decide) (by rw [c5_]; rfl) (by decide) (lc_5 hst E hi hL hcs K tl tb pg ps pn pp pf dg ds dn dp df rl rk rp rt kp kb kk kn bb bs jl jn jk jp jb jr mth mtd msz mto mfr mso mnu mfa mpl mwo msm mgo mt mno mre msn mis fo hI H lo hP hD hS ls hl)
      by_cases c6_ : v = (6 : Int32)
      · exact lv_tableIn (off := 321) (tgt := 361) hx hb dL_law_40 (by rw [c6_]; decide) (by rw [c6_]; decide) (by rw [c6_]; rfl) (by decide) (lc_6 hst E hi hL hcs K tl tb pg ps pn pp pf dg ds dn dp df rl rk rp rt kp kb kk kn bb bs jl jn jk jp jb jr mth mtd msz mto mfr mso mnu mfa mpl mwo msm mgo mt mno mre msn mis fo hI H lo hP hD hS ls hl)
      by_cases c7_ : v = (7 : Int32)
      · exact lv_tableIn (off := 370) (tgt := 410) hx hb dL_law_40 (by rw [c7_]; decide) (by rw [c7_]; decide) (by rw [c7_]; rfl) (by decide) (lc_7 hst E hi hL hcs K tl tb pg ps pn pp pf dg ds dn dp df rl rk rp rt kp kb kk kn bb bs jl jn jk jp jb jr mth mtd msz mto mfr mso mnu mfa mpl mwo msm mgo mt mno mre msn mis fo hI H lo hP hD hS ls hl)
      by_cases c8_ : v = (8 : Int32)
      · exact lv_tableIn (off := 407) (tgt := 447) hx hb dL_law_40 (by rw [c8_]; decide) (by rw [c8_]; decide) (by rw [c8_]; rfl) (by decide) (lc_8 hst E hi hL hcs K tl tb pg ps pn pp pf dg ds dn dp df rl rk rp rt kp kb kk kn bb bs jl jn jk jp jb jr mth mtd msz mto mfr mso mnu mfa mpl mwo msm mgo mt mno mre msn mis fo hI H lo hP hD hS ls hl)
      by_cases c9_ : v = (9 : Int32)
      · exact lv_tableIn (off := 456) (tgt := 496) hx hb dL_law_40 (by rw [c9_]; decide) (by rw [c9_]; decide) (by rw [c9_]; rfl) (by decide) (lc_9 hst E hi hL hcs K tl tb pg ps pn pp pf dg ds dn dp df rl rk rp rt kp kb kk kn bb bs jl jn jk jp jb jr mth mtd msz mto mfr mso mnu mfa mpl mwo msm mgo mt mno mre msn mis fo hI H lo hP hD hS ls hl)
      by_cases c10_ : v = (10 : Int32)
      · exact lv_tableIn (off := 481) (tgt := 521) hx hb dL_law_40 (by rw [c10_]; decide) (by rw [c10_]; decide) (by rw [c10_]; rfl) (by decide) (lc_10 hst E hi hL hcs K tl tb pg ps pn pp pf dg ds dn dp df rl rk rp rt kp kb kk kn bb bs jl jn jk jp jb jr mth mtd msz mto mfr mso mnu mfa mpl mwo msm mgo mt mno mre msn mis fo hI H lo hP hD hS ls hl)
      by_cases c11_ : v = (11 : Int32)
      · exact lv_tableIn (off := 554) (tgt := 594) hx hb dL_law_40 (by rw [c11_]; decide) (by rw [c11_]; decide) (by rw [c11_]; rfl) (by decide) (lc_11 hst E hi hL hcs K tl tb pg ps pn pp pf dg ds dn dp df rl rk rp rt kp kb kk kn bb bs jl jn jk jp jb jr mth mtd msz mto mfr mso mnu mfa mpl mwo msm mgo mt mno mre msn mis fo hI H lo hP hD hS ls hl)
      by_cases c12_ : v = (12 : Int32)
      · exact lv_tableIn (off := 603) (tgt := 643) hx hb dL_law_40 (by rw [c12_]; decide) (by rw [c12_]; decide) (by rw [c12_]; rfl) (by decide) (lc_12 hst E hi hL hcs K tl tb pg ps pn pp pf dg ds dn dp df rl rk rp rt kp kb kk kn bb bs jl jn jk jp jb jr mth mtd msz mto mfr mso mnu mfa mpl mwo msm mgo mt mno mre msn mis fo hI H lo hP hD hS ls hl)
      by_cases c13_ : v = (13 : Int32)
      · exact lv_tableIn (off := 664) (tgt := 704) hx hb dL_law_40 (by rw [c13_]; decide) (by rw [c13_]; decide) (by rw [c13_]; rfl) (by decide) (lc_13 hst E hi hL hcs K tl tb pg ps pn pp pf dg ds dn dp df rl rk rp rt kp kb kk kn bb bs jl jn jk jp jb jr mth mtd msz mto mfr mso mnu mfa mpl mwo msm mgo mt mno mre msn mis fo hI H lo hP hD hS ls hl)
      by_cases c14_ : v = (14 : Int32)
      · exact lv_tableIn (off := 713) (tgt := 753) hx hb dL_law_40 (by rw [c14_]; decide) (by rw [c14_]; decide) (by rw [c14_]; rfl) (by decide) (lc_14 hst E hi hL hcs K tl tb pg ps pn pp pf dg ds dn dp df rl rk rp rt kp kb kk kn bb bs jl jn jk jp jb jr mth mtd msz mto mfr mso mnu mfa mpl mwo msm mgo mt mno mre msn mis fo hI H lo hP hD hS ls hl)
      by_cases c15_ : v = (15 : Int32)
      · exact lv_tableIn (off := 750) (tgt := 790) hx hb dL_law_40 (by rw [c15_]; decide) (by rw [c15_]; decide) (by rw [c15_]; rfl) (by decide) (lc_15 hst E hi hL hcs K tl tb pg ps pn pp pf dg ds dn dp df rl rk rp rt kp kb kk kn bb bs jl jn jk jp jb jr mth mtd msz mto mfr mso mnu mfa mpl mwo msm mgo mt mno mre msn mis fo hI H lo hP hD hS ls hl)
      by_cases c16_ : v = (16 : Int32)
      · exact lv_tableIn (off := 811) (tgt := 851) hx hb dL_law_40 (by rw [c16_]; decide) (by rw [c16_]; decide) (by rw [c16_]; rfl) (by decide) (lc_16 hst E hi hL hcs K tl tb pg ps pn pp pf dg ds dn dp df rl rk rp rt kp kb kk kn bb bs jl jn jk jp jb jr mth mtd msz mto mfr mso mnu mfa mpl mwo msm mgo mt mno mre msn mis fo hI H lo hP hD hS ls hl)
      by_cases c17_ : v = (17 : Int32)
      · exact lv_tableIn (off := 860) (tgt := 900) hx hb dL_law_40 (by rw [c17_]; decide) (by rw [c17_]; decide) (by rw [c17_]; rfl) (by decide) (lc_17 hst E hi hL hcs K tl tb pg ps pn pp pf dg ds dn dp df rl rk rp rt kp kb kk kn bb bs jl jn jk jp jb jr mth mtd msz mto mfr mso mnu mfa mpl mwo msm mgo mt mno mre msn mis fo hI H lo hP hD hS ls hl)
      by_cases c18_ : v = (18 : Int32)
      · exact lv_tableIn (off := 921) (tgt := 961) hx hb dL_law_40 (by rw [c18_]; decide) (by rw [c18_]; decide) (by rw [c18_]; rfl) (by decide) (lc_18 hst E hi hL hcs K tl tb pg ps pn pp pf dg ds dn dp df rl rk rp rt kp kb kk kn bb bs jl jn jk jp jb jr mth mtd msz mto mfr mso mnu mfa mpl mwo msm mgo mt mno mre msn mis fo hI H lo hP hD hS ls hl)
      by_cases c19_ : v = (19 : Int32)
      · exact lv_tableIn (off := 958) (tgt := 998) hx hb dL_law_40 (by rw [c19_]; decide) (by rw [c19_]; decide) (by rw [c19_]; rfl) (by decide) (lc_19 hst E hi hL hcs K tl tb pg ps pn pp pf dg ds dn dp df rl rk rp rt kp kb kk kn bb bs jl jn jk jp jb jr mth mtd msz mto mfr mso mnu mfa mpl mwo msm mgo mt mno mre msn mis fo hI H lo hP hD hS ls hl)
      by_cases c20_ : v = (20 : Int32)
      · exact lv_tableIn (off := 995) (tgt := 1035) hx hb dL_law_40 (by rw [c20_]; decide) (by rw [c20_]; decide) (by rw [c20_]; rfl) (by decide) (lc_20 hst E hi hL hcs K tl tb pg ps pn pp pf dg ds dn dp df rl rk rp rt kp kb kk kn bb bs jl jn jk jp jb jr mth mtd msz mto mfr mso mnu mfa mpl mwo msm mgo mt mno mre msn mis fo hI H lo hP hD hS ls hl)
      by_cases c21_ : v = (21 : Int32)
      · exact lv_tableIn (off := 1020) (tgt := 1060) hx hb dL_law_40 (by rw [c21_]; decide) (by rw [c21_]; decide) (by rw [c21_]; rfl) (by decide) (lc_21 hst E hi hL hcs K tl tb pg ps pn pp pf dg ds dn dp df rl rk rp rt kp kb kk kn bb bs jl jn jk jp jb jr mth mtd msz mto mfr mso mnu mfa mpl mwo msm mgo mt mno mre msn mis fo hI H lo hP hD hS ls hl)
      refine lv_tableOut (tgt := 1073) hx hb dL_law_40 (ts_out 21 (fun k hk => ?_) (by decide)) (by decide) ?_
      · rcases (show k = 0 ∨ k = 1 ∨ k = 2 ∨ k = 3 ∨ k = 4 ∨ k = 5 ∨ k = 6 ∨ k = 7 ∨ k = 8 ∨ k = 9 ∨ k = 10 ∨ k = 11 ∨ k = 12 ∨ k = 13 ∨ k = 14 ∨ k = 15 ∨ k = 16 ∨ k = 17 ∨ k = 18 ∨ k = 19 ∨ k = 20 ∨ k = 21 by omega) with rfl | rfl | rfl | rfl | rfl | rfl | rfl | rfl | rfl | rfl | rfl | rfl | rfl | rfl | rfl | rfl | rfl | rfl | rfl | rfl | rfl | rfl
        · exact c0_
        · exact c1_
        · exact c2_
        · exact c3_
        · exact c4_
        · exact c5_
        · exact c6_
        · exact c7_
        · exact c8_
        · exact c9_
        · exact c10_
        · exact c11_
        · exact c12_
        · exact c13_
        · exact c14_
        · exact c15_
        · exact c16_
        · exact c17_
        · exact c18_
        · exact c19_
        · exact c20_
        · exact c21_
      · refine W.widen (k := 27 + i + 1) (n := 8663 + 6 * i + 6) (by omega) (by omega) ?_
        exact K tl tb pg ps pn pp pf dg ds dn dp df rl rk rp rt kp kb kk kn bb bs jl jn jk jp jb jr mth mtd msz mto mfr mso mnu mfa mpl mwo msm mgo mt mno mre msn mis fo hI H lo hP hD hS ls hl
end
