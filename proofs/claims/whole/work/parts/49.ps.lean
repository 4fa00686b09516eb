/-! the lines of a text, one by one on both sides -/
def TL (rt mis : Nat → Int32) : Prop := ∀ t, t < 20 → ∃ m, m < 2 ^ 20 ∧ rt t = nI m ∧ ∀ s, s < 4 → mis (4 * t + s) = bI (m.testBit s)
theorem t_three : m_X7_three 115 99 101 = some 13937 ∧ m_X7_three 110 101 115 = some 10360 ∧ m_X7_three 103 114 111 = some 5604 ∧ m_X7_three 108 105 110 = some 9005 ∧ m_X7_three 115 101 116 = some 14006 := by decide +kernel
theorem t_wK : (19683 : Int64) * 13937 + 10360 = wK 0 ∧ (729 : Int64) * 5604 + 567 + 16 = wK 1 ∧ (27 : Int64) * 9005 + 5 = wK 2 ∧ (14006 : Int64) = wK 3 := by decide +kernel
section
variable {T : Nat} {c : Nat → Nat} {tl msz : Int32} {tb mt : Nat → Int32} {α : AS} {dg ds dn : Int32} {dp df mre mis rt : Nat → Int32}
theorem e_addGroup (ok : OKA α) (hg : dg = nI (zG α)) (hn : dn = nI (zN α)) (h : zN α < 20) (x : Int32) : m_X2_addGroup dg dn dp x = some (nI (zG α ||| 2 ^ zN α), nI (zN α + 1), upd dp (zN α) x) := by
  rw [m_X2_addGroup, hn, if_neg (show ¬ (20 : Int32) ≤ nI (zN α) from nI_ge (b := 20) h (by omega)), g_in h (by omega), cl _ (by omega), hg, shl1 h, fa_or, show nI (zN α) + (1 : Int32) = nI (zN α + 1) from nI_1 _]
theorem node2 (B : BY T c tl tb msz mt) (ok : OKA α) (hc : RC α dg ds dn dp df) (hm : RM α mre) {p : Nat} (hp : p ≤ T) (grp : Bool) (rk rp kb kk kn mfa mpl mnu : Int32) (mwo : Int64) :
    (∃ c1 c2 b g1 g2 g3 g4 b', m_X3_readNode rk rp (nI p) kb kk kn tl tb dg dn dp df (bI grp) = some (0, c1, c2, b) ∧ m_X7_readNode msz (nI p) kb 2 mnu mfa mpl mwo mt mre (bI grp) = some (0, g1, g2, g3, g4, c1, c2, b')) ∨
    (∃ α' q kb' kk' kn' dg' dn' dp' df' mto' mfr' mso' mnu' mwo' mre', OKA α' ∧ RC α' dg' ds dn' dp' df' ∧ RM α' mre' ∧ p < q ∧ m_X3_readNode rk rp (nI p) kb kk kn tl tb dg dn dp df (bI grp) = some (1, rk, rp, nI q, kb', kk', kn', dg', dn', dp', df') ∧ m_X7_readNode msz (nI p) kb 2 mnu mfa mpl mwo mt mre (bI grp) = some (1, mto', mfr', mso', mnu', mfa, mpl, mwo', mre') ∧ AH T c tl tb q mto' mfr' mso' mnu' mwo') := by
  have hN1 : 1 ≤ zN α := ok.1
  have h20 : zN α ≤ 20 := ok.2.1
  have hdn : dn = nI (zN α) := hc.2.2.1
  have hm1 : mre 1 = nI (zN α) := hm.2.1
  rw [m_X3_readNode, m_X7_readNode, if_neg (show ¬ ((1 : Int32) < 0 ∨ 442 ≤ (1 : Int32).toNatClampNeg) by decide), show (1 : Int32).toNatClampNeg = 1 from rfl, hm1, m_X3_refuse, f_bad]
  by_cases c0 : zN α < 16
  · rw [if_pos (show dn < (16 : Int32) by rw [hdn]; exact nI_lt (b := 16) c0 (by omega)), if_pos (show nI (zN α) ≤ (15 : Int32) from nI_le (b := 15) (by omega) (by omega))]
    obtain ⟨mto, mfr, mso, mnu, mwo, g1, A⟩ := go B hp kb 2 mnu mwo
    rw [ob5_s g1]
    rcases num0 B A rk rp kb kk kn mfa mpl 0 20 with ⟨kp', kk', kn', a1, a2⟩ | ⟨q, v, q1, q2, v1, rfl, rfl, rfl, a1⟩
    · rw [ob7_s a1, if_pos rfl, if_neg a2, f_bad, ob3_s rfl, show (if mso = 1 then (1 : Int32) else 1) = 1 from ite_self _]
      exact Or.inl ⟨_, _, _, _, _, _, _, _, rfl, rfl⟩
    rw [if_pos rfl, if_neg (show ¬ ((1 : Int32) < 0 ∨ 442 ≤ 1) by decide), k_X7_readNode_63, f_bad, ob3_s rfl, if_neg (show ¬ (3 : Int32) = 1 by decide)]
    rw [if_neg (nI_pos (by omega))] at a1
    by_cases c1 : v < zN α
    · rw [if_pos (show nI v ≤ (20 : Int32) from nI_le (b := 20) (by omega) (by omega))] at a1
      have gb := hm.2.2.2.2.1 v c1
      rw [ob7_s a1, if_neg (by decide), ob1_s (e_isGroup ok hc.1 hc.2.2.1 c1), if_neg (nI_ge c1 (by omega)), show (22 : Int32) + nI v = nI (22 + v) from nI_add 22 v, g_in (by omega) (by omega), cl (22 + v) (by omega), gb]
      cases cg : (zG α).testBit v
      · rw [itf, if_pos (show nI 0 = 0 from rfl), if_pos (show nI 0 = 0 from rfl), m_X3_refuse, ob3_s rfl]
        exact Or.inl ⟨_, _, _, _, _, _, _, _, rfl, rfl⟩
      · rw [itt, if_neg (show ¬ nI 1 = 0 by decide), if_neg (show ¬ nI 1 = 0 by decide), ifb, hdn]
        obtain ⟨ar', d1, d2, d3, d4, d5, d6⟩ := f_adds (show zN α < 20 by omega) mre hm1 (nI v) grp
        obtain ⟨mto, mfr2, mso, mnu, mwo, g2, A2⟩ := go B q2 mfr 3 (nI v) mwo
        have okN : OKA (agr α v grp) := ok_gr ok (by omega) c1 cg
        rw [ob1_s d1, ob5_s g2]
        cases grp
        · obtain ⟨pf', e1, e2, e3⟩ := e_addLeaf (g := v) (show zN α < 20 by omega) dp df (nI v)
          rw [itf, ob4_s e1, k_X3_readNode_89]
          have rc := rc_gr ok hc (g := v) (grp := false) (pg' := dg) (by omega) hc.1 (fun _ => e2) e3
          have rm := rm_gr ok hm (g := v) (by omega) d2 d3 d4 d5 d6
          rcases semi2 B A2 rk rp mfr 2 (nI v) mfa mpl with ⟨c1, c2, kp', kb', kk', kn', g1, g2, g3, g4, g5, s1, s2⟩ | ⟨q', kb', kn', mto', mfr', mso', mnu', mwo', s0, s1, s2, A3⟩
          · rw [ob7_s s1, ob8_s s2]
            exact Or.inl ⟨_, _, _, _, _, _, _, _, rfl, rfl⟩
          · rw [ob7_s s1, ob8_s s2]
            exact Or.inr ⟨_, q', _, _, _, _, _, _, _, _, _, _, _, _, _, okN, rc, rm, by omega, rfl, rfl, A3⟩
        · have e1 := e_addGroup (dp := dp) ok hc.1 rfl (show zN α < 20 by omega) (nI v)
          rw [itt, ob3_s e1, k_X3_readNode_89]
          have rc := rc_gr ok hc (g := v) (grp := true) (pg' := nI (zG α ||| 2 ^ zN α)) (pf' := df) (by omega) rfl (fun h => by cases h) (fun _ _ _ _ _ _ _ => rfl)
          have rm := rm_gr ok hm (g := v) (by omega) d2 d3 d4 d5 d6
          rcases semi2 B A2 rk rp mfr 2 (nI v) mfa mpl with ⟨c1, c2, kp', kb', kk', kn', g1, g2, g3, g4, g5, s1, s2⟩ | ⟨q', kb', kn', mto', mfr', mso', mnu', mwo', s0, s1, s2, A3⟩
          · rw [ob7_s s1, ob8_s s2]
            exact Or.inl ⟨_, _, _, _, _, _, _, _, rfl, rfl⟩
          · rw [ob7_s s1, ob8_s s2]
            exact Or.inr ⟨_, q', _, _, _, _, _, _, _, _, _, _, _, _, _, okN, rc, rm, by omega, rfl, rfl, A3⟩
    · rw [if_pos (nI_le (by omega) (by omega))]
      by_cases c2 : nI v ≤ (20 : Int32)
      · rw [if_pos c2] at a1
        rw [ob7_s a1, if_neg (by decide), ob1_s (e_isGroup_no (Or.inr (nI_le (show zN α ≤ v by omega) (by omega))) hc.2.2.1), if_pos rfl, m_X3_refuse, ob3_s rfl]
        exact Or.inl ⟨_, _, _, _, _, _, _, _, rfl, rfl⟩
      · rw [if_neg c2] at a1
        rw [ob7_s a1, if_pos rfl]
        exact Or.inl ⟨_, _, _, _, _, _, _, _, rfl, rfl⟩
  · rw [if_neg (show ¬ dn < (16 : Int32) by rw [hdn]; exact nI_nlt (b := 16) (by omega) (by omega)), if_neg (show ¬ nI (zN α) ≤ (15 : Int32) from nI_ge (a := 15) (by omega) (by omega)), ob3_s rfl, ob3_s rfl, if_neg (show ¬ (2 : Int32) = 1 by decide)]
    exact Or.inl ⟨_, _, _, _, _, _, _, _, rfl, rfl⟩
/-- the five numbers of a line that sets -/
theorem five2 (B : BY T c tl tb msz mt) {i k : Nat} (hi : i < 20) (hk : k < 4) (rk rp mfa mpl : Int32) : ∀ (d f n n2 : Nat) (α : AS) (df mre : Nat → Int32) (p : Nat) (kb kk kn mto mfr mso mnu mgo : Int32) (mwo : Int64), f + d = 5 → d < n → d < n2 → OKA α → RC α dg ds dn dp df → RM α mre → AH T c tl tb p mto mfr mso mnu mwo →
    (∃ c1 c2 b g1 g2 g3 g4 b', k_X3_readSet_97 tl tb dg ds dn n rk rp rt (nI p) kb kk kn df (nI i) (nI k) (nI f) = some (0, c1, c2, b) ∧ k_X7_readSet_133 msz mt n2 mto mfr mso mnu mfa mpl mwo mgo mre mis (nI i) (nI k) (nI f) = some (0, g1, g2, g3, g4, c1, c2, b')) ∨
    (∃ α' q kb' kk' kn' df' mto' mfr' mso' mnu' mwo' mgo' mre', OKA α' ∧ RC α' dg ds dn dp df' ∧ RM α' mre' ∧ p < q ∧ k_X3_readSet_97 tl tb dg ds dn n rk rp rt (nI p) kb kk kn df (nI i) (nI k) (nI f) = some (1, rk, rp, rt, nI q, kb', kk', kn', df') ∧ k_X7_readSet_133 msz mt n2 mto mfr mso mnu mfa mpl mwo mgo mre mis (nI i) (nI k) (nI f) = some (1, mto', mfr', mso', mnu', mfa, mpl, mwo', mgo', mre', mis) ∧ AH T c tl tb q mto' mfr' mso' mnu' mwo') := by
  intro d
  induction d with
  | zero =>
    intro f n n2 α df mre p kb kk kn mto mfr mso mnu mgo mwo hf hn hn2 ok hc hm A
    obtain ⟨n', rfl⟩ : ∃ n', n = n' + 1 := ⟨n - 1, by omega⟩
    obtain ⟨m', rfl⟩ : ∃ m', n2 = m' + 1 := ⟨n2 - 1, by omega⟩
    rw [k_X3_readSet_97_s, k_X7_readSet_133_s, if_pos (show (5 : Int32) ≤ nI f from nI_le (a := 5) (by omega) (by omega)), if_pos (show (5 : Int32) ≤ nI f from nI_le (a := 5) (by omega) (by omega))]
    rcases semi2 B A rk rp kb kk kn mfa mpl with ⟨c1, c2, kp', kb', kk', kn', g1, g2, g3, g4, g5, s1, s2⟩ | ⟨q', kb', kn', mto', mfr', mso', mnu', mwo', s0, s1, s2, A3⟩
    · rw [ob7_s s1, ob8_s s2]
      exact Or.inl ⟨_, _, _, _, _, _, _, _, rfl, rfl⟩
    · rw [ob7_s s1, ob8_s s2]
      exact Or.inr ⟨α, q', _, _, _, _, _, _, _, _, _, _, _, ok, hc, hm, s0, rfl, rfl, A3⟩
  | succ d ih =>
    intro f n n2 α df mre p kb kk kn mto mfr mso mnu mgo mwo hf hn hn2 ok hc hm A
    obtain ⟨n', rfl⟩ : ∃ n', n = n' + 1 := ⟨n - 1, by omega⟩
    obtain ⟨m', rfl⟩ : ∃ m', n2 = m' + 1 := ⟨n2 - 1, by omega⟩
    have h20 : zN α ≤ 20 := ok.2.1
    obtain ⟨l1, l2, l3, l4, l5, l6⟩ := t_low ⟨f, by omega⟩
    simp only at l1 l2 l3 l4 l5 l6
    rw [k_X3_readSet_97_s, k_X7_readSet_133_s, if_neg (show ¬ (5 : Int32) ≤ nI f from nI_ge (b := 5) (by omega) (by omega)), if_neg (show ¬ (5 : Int32) ≤ nI f from nI_ge (b := 5) (by omega) (by omega)), g_in (by omega) (by omega), g_in (by omega) (by omega), cl f (by omega), l3, l4, ob1_s l1, ob1_s l2]
    rcases num2 B A rk rp kb kk kn mfa mpl mgo (nI (lo5 f)) (nI (hi5 f)) with ⟨c1, c2, kp', kb', kk', kn', g1, g2, g3, g4, g5, g6, s1, s2⟩ | ⟨q, v, kb', mto', mfr', mso', mnu', mwo', q1, v1, v2, v3, s1, s2, A2⟩
    · rw [ob7_s s1, ob9_s s2, if_pos rfl, if_pos rfl]
      exact Or.inl ⟨_, _, _, _, _, _, _, _, rfl, rfl⟩
    · rw [ob7_s s1, ob9_s s2, if_neg (by decide), if_neg (by decide), ob1_s (e_put hi hk (by omega)), ob1_s (f_at i k f), g_in (by omega) (by omega), cl (42 + 20 * i + 5 * k + f) (by omega), show nI f + (1 : Int32) = nI (f + 1) from nI_1 f]
      have w1 : lo5 f ≤ v := Nat.le_of_not_lt (fun h => v2 (nI_lt h (by omega)))
      have w2 : v ≤ hi5 f := (nI_leI (by omega) (by omega)).mp v3
      rcases ih (f + 1) n' m' (aset α i k f v) (upd df (100 * k + 5 * i + f) (nI v)) (upd mre (42 + 20 * i + 5 * k + f) (nI v)) q kb' 2 (nI v) mto' mfr' mso' mnu' (nI v) mwo' (by omega) (by omega) (by omega) (ok_set ok w1 w2) (rc_set hc hk (by omega) hi h20) (rm_set hm hk (by omega) h20) A2 with ⟨c1, c2, b, g1, g2, g3, g4, b', r1, r2⟩ | ⟨α', q', kb2, kk2, kn2, df', mto2, mfr2, mso2, mnu2, mwo2, mgo2, mre2, o1, o2, o3, o4, r1, r2, A3⟩
      · exact Or.inl ⟨c1, c2, b, g1, g2, g3, g4, b', r1, r2⟩
      · exact Or.inr ⟨α', q', kb2, kk2, kn2, df', mto2, mfr2, mso2, mnu2, mwo2, mgo2, mre2, o1, o2, o3, by omega, r1, r2, A3⟩
theorem set2 (B : BY T c tl tb msz mt) (ok : OKA α) (hc : RC α dg ds dn dp df) (hm : RM α mre) (ht : TL rt mis) {p : Nat} (hp : p ≤ T) (rk rp kb kk kn mfa mpl mnu mgo : Int32) (mwo : Int64) :
    (∃ c1 c2 b g1 g2 g3 g4 b', m_X3_readSet rk rp rt (nI p) kb kk kn tl tb dg ds dn df = some (0, c1, c2, b) ∧ m_X7_readSet msz (nI p) kb 2 mnu mfa mpl mwo mgo mt mre mis = some (0, g1, g2, g3, g4, c1, c2, b')) ∨
    (∃ α' q rt' kb' kk' kn' df' mto' mfr' mso' mnu' mwo' mgo' mre' mis', OKA α' ∧ RC α' dg ds dn dp df' ∧ RM α' mre' ∧ TL rt' mis' ∧ p < q ∧ m_X3_readSet rk rp rt (nI p) kb kk kn tl tb dg ds dn df = some (1, rk, rp, rt', nI q, kb', kk', kn', df') ∧ m_X7_readSet msz (nI p) kb 2 mnu mfa mpl mwo mgo mt mre mis = some (1, mto', mfr', mso', mnu', mfa, mpl, mwo', mgo', mre', mis') ∧ AH T c tl tb q mto' mfr' mso' mnu' mwo') := by
  have hN1 : 1 ≤ zN α := ok.1
  have h20 : zN α ≤ 20 := ok.2.1
  have h4 : zS α ≤ 4 := ok.2.2.2.1
  have hS1 : 1 ≤ zS α := ok.2.2.1
  have hds : ds = nI (zS α) := hc.2.1
  have hm0 : mre 0 = nI (zS α) := hm.1
  have hm1 : mre 1 = nI (zN α) := hm.2.1
  obtain ⟨mto, mfr, mso, mnu, mwo, g1, A⟩ := go B hp kb 2 mnu mwo
  rw [m_X3_readSet, m_X7_readSet, ob5_s g1]
  rcases num0 B A rk rp kb kk kn mfa mpl 0 20 with ⟨kp', kk', kn', a1, a2⟩ | ⟨q, v, q1, q2, v1, rfl, rfl, rfl, a1⟩
  · rw [ob7_s a1, if_pos rfl, if_neg a2, f_bad, ob3_s rfl, show (if mso = 1 then (1 : Int32) else 1) = 1 from ite_self _]
    exact Or.inl ⟨_, _, _, _, _, _, _, _, rfl, rfl⟩
  rw [if_pos rfl, if_neg (show ¬ ((1 : Int32) < 0 ∨ 442 ≤ (1 : Int32).toNatClampNeg) by decide), show (1 : Int32).toNatClampNeg = 1 from rfl, hm1, k_X7_readSet_47, f_bad, ob3_s rfl, if_neg (show ¬ (3 : Int32) = 1 by decide)]
  rw [if_neg (nI_pos (by omega))] at a1
  by_cases c1 : v < zN α
  · rw [if_pos (show nI v ≤ (20 : Int32) from nI_le (b := 20) (by omega) (by omega))] at a1
    have gb := hm.2.2.2.2.1 v c1
    rw [ob7_s a1, if_neg (by decide), ob1_s (e_isLeaf ok hc.1 hc.2.2.1 c1), if_neg (nI_ge c1 (by omega)), show (22 : Int32) + nI v = nI (22 + v) from nI_add 22 v, g_in (by omega) (by omega), cl (22 + v) (by omega), gb, m_X3_refuse]
    cases cg : (zG α).testBit v
    · rw [itf, itf, if_neg (by decide), if_neg (by decide)]
      obtain ⟨mto, mfr2, mso, mnu, mwo, g2, A2⟩ := go B q2 mfr 3 (nI v) mwo
      rw [ob5_s g2, hds, show nI (zS α) - (1 : Int32) = nI (zS α - 1) from pk_sub (b := 1) hS1]
      rcases num0 B A2 rk rp mfr 2 (nI v) mfa mpl 0 (nI (zS α - 1)) with ⟨kp', kk', kn', b1, b2⟩ | ⟨q', s, q1', q2', s1, rfl, rfl, rfl, b1⟩
      · rw [ob7_s b1, if_pos rfl, if_neg b2, f_bad, ob3_s rfl, show (if mso = 1 then (1 : Int32) else 1) = 1 from ite_self _]
        exact Or.inl ⟨_, _, _, _, _, _, _, _, rfl, rfl⟩
      rw [if_pos rfl, if_neg (show ¬ ((0 : Int32) < 0 ∨ 442 ≤ (0 : Int32).toNatClampNeg) by decide), show (0 : Int32).toNatClampNeg = 0 from rfl, hm0, k_X7_readSet_105, f_bad, ob3_s rfl, if_neg (show ¬ (3 : Int32) = 1 by decide)]
      rw [if_neg (nI_pos (by omega))] at b1
      by_cases c2 : s < zS α
      · rw [if_pos (nI_le (by omega) (by omega))] at b1
        obtain ⟨m, m1, m2, m3⟩ := ht v (by omega)
        have m4 := m3 s (by omega)
        rw [ob7_s b1, if_neg (by decide), g_in (by omega) (by omega), cl v (by omega), m2, bitI m1 (by omega), g_in2 (by omega) (by omega), g_in2 (by omega) (by omega), if_neg (nI_ge c2 (by omega)), show (4 : Int32) * nI v + nI s = nI (4 * v + s) by rw [show (4 : Int32) = nI 4 from rfl, nI_mul', nI_add], g_in (by omega) (by omega), cl (4 * v + s) (by omega), m4, g_in2 (by omega) (by omega)]
        cases ct : m.testBit s
        · rw [itf, if_pos (show nI 0 = 0 from rfl), if_pos (show bI false = 0 from rfl), shl1 (by omega), fa_or]
          obtain ⟨mto, mfr3, mso, mnu, mwo, g3, A3⟩ := go B q2' mfr2 3 (nI s) mwo
          rw [ob5_s g3]
          have ht2 : TL (upd rt v (nI (m ||| 2 ^ s))) (upd mis (4 * v + s) (vp_nar .boolean 1)) := by
            intro t t1
            by_cases w : t = v
            · refine ⟨m ||| 2 ^ s, Nat.or_lt_two_pow m1 (Nat.pow_lt_pow_right (by omega) (by omega)), by rw [w, pk_us], fun s' h' => ?_⟩
              rw [Nat.testBit_or, Nat.testBit_two_pow]
              by_cases w2 : s = s'
              · rw [← w2, w, pk_us]; simp; rfl
              · rw [w, pk_un (by omega), m3 s' h']; simp [w2]
            · obtain ⟨m', m1', m2', m3'⟩ := ht t t1
              exact ⟨m', m1', by rw [pk_un w]; exact m2', fun s' h' => by rw [pk_un (by omega)]; exact m3' s' h'⟩
          rcases five2 B (rt := upd rt v (nI (m ||| 2 ^ s))) (mis := upd mis (4 * v + s) (vp_nar .boolean 1)) (show v < 20 by omega) (show s < 4 by omega) rk rp mfa mpl 5 0 FU FU α df mre q' mfr2 2 (nI s) mto mfr3 mso mnu mgo mwo (by omega) (by decide) (by decide) ok (hds ▸ hc) hm A3 with ⟨c1, c2, b, g1, g2, g3, g4, b', r1, r2⟩ | ⟨α', q'', kb2, kk2, kn2, df', mto2, mfr2, mso2, mnu2, mwo2, mgo2, mre2, o1, o2, o3, o4, r1, r2, A4⟩
          · exact Or.inl ⟨c1, c2, b, g1, g2, g3, g4, b', r1, r2⟩
          · exact Or.inr ⟨α', q'', _, kb2, kk2, kn2, df', mto2, mfr2, mso2, mnu2, mwo2, mgo2, mre2, _, o1, hds ▸ o2, o3, ht2, by omega, r1, r2, A4⟩
        · rw [itt, if_neg (by decide), if_neg (by decide), m_X3_refuse, ob3_s rfl]
          exact Or.inl ⟨_, _, _, _, _, _, _, _, rfl, rfl⟩
      · rw [if_neg (nI_ge (by omega) (by omega))] at b1
        rw [ob7_s b1, if_pos rfl, if_pos (nI_le (by omega) (by omega))]
        exact Or.inl ⟨_, _, _, _, _, _, _, _, rfl, rfl⟩
    · rw [itt, itt, if_pos (show nI 0 = 0 from rfl), if_pos (show nI 1 = 1 from rfl), ob3_s rfl]
      exact Or.inl ⟨_, _, _, _, _, _, _, _, rfl, rfl⟩
  · rw [if_pos (nI_le (by omega) (by omega))]
    by_cases c2 : nI v ≤ (20 : Int32)
    · rw [if_pos c2] at a1
      rw [ob7_s a1, if_neg (by decide), ob1_s (e_isLeaf_no (Or.inr (nI_le (show zN α ≤ v by omega) (by omega))) hc.2.2.1), if_pos rfl, m_X3_refuse, ob3_s rfl]
      exact Or.inl ⟨_, _, _, _, _, _, _, _, rfl, rfl⟩
    · rw [if_neg c2] at a1
      rw [ob7_s a1, if_pos rfl]
      exact Or.inl ⟨_, _, _, _, _, _, _, _, rfl, rfl⟩
end
