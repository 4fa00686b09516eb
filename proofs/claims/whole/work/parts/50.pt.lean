/-! the whole text on both sides -/
section
variable {T : Nat} {c : Nat → Nat} {tl msz : Int32} {tb mt : Nat → Int32} {α : AS} {dg ds dn : Int32} {dp df mre mis rt : Nat → Int32}
theorem f_noword {mso : Int32} (h : ¬ mso = 2) (mwo x : Int64) : m_X7_isWord mso mwo x = some 0 := by rw [m_X7_isWord, if_neg h]
theorem e_noword {kk : Int32} (h : ¬ kk = 1) (kp kb : Int32) (s : Nat) : m_X5_isWord kp kb kk tb s = some 0 := by rw [m_X5_isWord, if_neg h]
/-- what the token says of the four words -/
theorem tr_word {p q : Nat} {kp kb kk kn mto mfr mso mnu : Int32} {mwo : Int64} (R : TR T c tb p q kp kb kk kn mto mfr mso mnu mwo) : kb = mfr ∧ ((∀ s, s < 4 → m_X5_isWord kp kb kk tb s = some 0 ∧ m_X7_isWord mso mwo (wK s) = some 0) ∨ (kk = 1 ∧ mso = 2 ∧ kp = nI q ∧ mto = nI q ∧ p < q ∧ q ≤ T ∧ ∀ s, s < 4 → ∃ w : Bool, m_X5_isWord kp kb kk tb s = some (bI w) ∧ m_X7_isWord mso mwo (wK s) = some (bI w))) := by
  obtain ⟨r, h⟩ := R
  refine ⟨r, ?_⟩
  rcases h with ⟨rfl, rfl⟩ | ⟨e1, e2, q1, q2, ⟨y1, y2, y3, y4⟩ | ⟨rfl, rfl, _⟩ | ⟨rfl, rfl, _⟩ | ⟨rfl, rfl⟩⟩
  · exact Or.inl (fun s _ => ⟨e_noword (by decide) _ _ _, f_noword (by decide) _ _⟩)
  · exact Or.inr ⟨y1, y2, e1, e2, y3, q2, y4⟩
  · exact Or.inl (fun s _ => ⟨e_noword (by decide) _ _ _, f_noword (by decide) _ _⟩)
  · exact Or.inl (fun s _ => ⟨e_noword (by decide) _ _ _, f_noword (by decide) _ _⟩)
  · exact Or.inl (fun s _ => ⟨e_noword (by decide) _ _ _, f_noword (by decide) _ _⟩)
theorem line2 (B : BY T c tl tb msz mt) (ok : OKA α) (hc : RC α dg ds dn dp df) (hm : RM α mre) (ht : TL rt mis) {p q : Nat} {kp kb kk kn mto mfr mso mnu : Int32} {mwo : Int64} (R : TR T c tb p q kp kb kk kn mto mfr mso mnu mwo) (rk rp mfa mpl mgo : Int32) :
    (∃ c1 c2 b g1 g2 g3 g4 b', m_X3_readLine rk rp rt kp kb kk kn tl tb dg ds dn dp df = some (0, c1, c2, b) ∧ m_X7_readLine msz mto mfr mso mnu mfa mpl mwo mgo mt mre mis = some (0, g1, g2, g3, g4, c1, c2, b')) ∨
    (∃ α' q rt' kb' kk' kn' dg' dn' dp' df' mto' mfr' mso' mnu' mwo' mgo' mre' mis', OKA α' ∧ RC α' dg' ds dn' dp' df' ∧ RM α' mre' ∧ TL rt' mis' ∧ p < q ∧ m_X3_readLine rk rp rt kp kb kk kn tl tb dg ds dn dp df = some (1, rk, rp, rt', nI q, kb', kk', kn', dg', dn', dp', df') ∧ m_X7_readLine msz mto mfr mso mnu mfa mpl mwo mgo mt mre mis = some (1, mto', mfr', mso', mnu', mfa, mpl, mwo', mgo', mre', mis') ∧ AH T c tl tb q mto' mfr' mso' mnu' mwo') := by
  obtain ⟨w1, w2, w3, w4, w5⟩ := t_three
  obtain ⟨z0, z1, z2, z3⟩ := t_wK
  rw [m_X3_readLine, m_X7_readLine, ob1_s w3, z1]
  obtain ⟨rfl, RR⟩ := tr_word R
  rcases RR with h | ⟨rfl, rfl, rfl, rfl, q1, q2, h⟩
  · rw [ob1_s (h 1 (by omega)).1, if_pos rfl, ob1_s (h 2 (by omega)).1, if_pos rfl, ob1_s (h 3 (by omega)).1, if_pos rfl, m_X3_refuse, ob3_s rfl, ob1_s (h 1 (by omega)).2, if_pos rfl, ob1_s w4, z2, ob1_s (h 2 (by omega)).2, if_pos rfl, ob1_s w5, z3, ob1_s (h 3 (by omega)).2, if_pos rfl, f_bad, ob3_s rfl, ite_self]
    exact Or.inl ⟨_, _, _, _, _, _, _, _, rfl, rfl⟩
  · obtain ⟨b1, u1, v1⟩ := h 1 (by omega)
    obtain ⟨b2, u2, v2⟩ := h 2 (by omega)
    obtain ⟨b3, u3, v3⟩ := h 3 (by omega)
    rw [ob1_s u1, ob1_s v1, ifb, ifb]
    cases b1
    · rw [itf, itf, ob1_s w4, z2, ob1_s u2, ob1_s v2, ifb, ifb]
      cases b2
      · rw [itf, itf, ob1_s w5, z3, ob1_s u3, ob1_s v3, ifb, ifb]
        cases b3
        · rw [itf, itf, m_X3_refuse, f_bad, ob3_s rfl, ob3_s rfl, if_neg (show ¬ (2 : Int32) = 1 by decide)]
          exact Or.inl ⟨_, _, _, _, _, _, _, _, rfl, rfl⟩
        · rw [itt, itt]
          rcases set2 B ok hc hm ht q2 rk rp kb 1 kn mfa mpl mnu mgo mwo with ⟨c1, c2, ⟨b, b2, b3, b4, b5, b6⟩, g1, g2, g3, g4, ⟨b1', b2', b3', b4'⟩, r1, r2⟩ | ⟨α', q', rt', kb', kk', kn', df', mto', mfr', mso', mnu', mwo', mgo', mre', mis', o1, o2, o3, o4, o5, r1, r2, A⟩
          · rw [ob9_s r1, ob11_s r2]
            exact Or.inl ⟨_, _, _, _, _, _, _, _, rfl, rfl⟩
          · rw [ob9_s r1, ob11_s r2]
            exact Or.inr ⟨α', q', _, _, _, _, _, _, _, _, _, _, _, _, _, _, _, _, o1, o2, o3, o4, by omega, rfl, rfl, A⟩
      · rw [itt, itt]
        have N := node2 B ok hc hm q2 false rk rp kb 1 kn mfa mpl mnu mwo
        rw [show bI false = 0 from rfl] at N
        rcases N with ⟨c1, c2, ⟨b, b2, b3, b4, b5, b6, b7, b8⟩, g1, g2, g3, g4, ⟨b1', b2'⟩, r1, r2⟩ | ⟨α', q', kb', kk', kn', dg', dn', dp', df', mto', mfr', mso', mnu', mwo', mre', o1, o2, o3, o5, r1, r2, A⟩
        · rw [ob11_s r1, ob9_s r2]
          exact Or.inl ⟨_, _, _, _, _, _, _, _, rfl, rfl⟩
        · rw [ob11_s r1, ob9_s r2]
          exact Or.inr ⟨α', q', _, _, _, _, _, _, _, _, _, _, _, _, _, _, _, _, o1, o2, o3, ht, by omega, rfl, rfl, A⟩
    · rw [itt, itt]
      have N := node2 B ok hc hm q2 true rk rp kb 1 kn mfa mpl mnu mwo
      rw [show bI true = 1 from rfl] at N
      rcases N with ⟨c1, c2, ⟨b, b2, b3, b4, b5, b6, b7, b8⟩, g1, g2, g3, g4, ⟨b1', b2'⟩, r1, r2⟩ | ⟨α', q', kb', kk', kn', dg', dn', dp', df', mto', mfr', mso', mnu', mwo', mre', o1, o2, o3, o5, r1, r2, A⟩
      · rw [ob11_s r1, ob9_s r2]
        exact Or.inl ⟨_, _, _, _, _, _, _, _, rfl, rfl⟩
      · rw [ob11_s r1, ob9_s r2]
        exact Or.inr ⟨α', q', _, _, _, _, _, _, _, _, _, _, _, _, _, _, _, _, o1, o2, o3, ht, by omega, rfl, rfl, A⟩
def al0 (v : Nat) : AS := (1, v, 1, fun _ => 0, fun _ _ _ => 0)
theorem ok_al0 {v : Nat} (h1 : 1 ≤ v) (h2 : v ≤ 4) : OKA (al0 v) := by
  refine ⟨Nat.le_refl _, show 1 ≤ 20 by omega, h1, h2, show 1 < 2 ^ 1 by decide, show (1 : Nat).testBit 0 = true from rfl, ⟨fun i => i, fun i i0 hi => ?_⟩, fun i hi hl => ?_⟩
  · have hi : i < 1 := hi
    omega
  · have hi : i < 1 := hi
    have : i = 0 := by omega
    subst this
    exact absurd hl (show ¬ (1 : Nat).testBit 0 = false by decide)
theorem rc_al0 {v : Nat} : RC (al0 v) 1 (nI v) 1 (upd dp 0 (-1)) df := by
  refine ⟨rfl, rfl, rfl, pk_us, fun i i0 hi => ?_, fun i hi hl => ?_⟩
  · have hi : i < 1 := hi
    omega
  · have hi : i < 1 := hi
    have : i = 0 := by omega
    subst this
    exact absurd hl (show ¬ (1 : Nat).testBit 0 = false by decide)
theorem rm_al0 {v : Nat} (h1 : mre 1 = 1) (h2 : mre 2 = -1) (h3 : mre 22 = 1) : RM (al0 v) (upd mre 0 (nI v)) := by
  refine ⟨pk_us, by rw [pk_un (by omega)]; exact h1, by rw [pk_un (by omega)]; exact h2, fun i i0 hi => ?_, fun i hi => ?_, fun i hi hl => ?_⟩
  · have hi : i < 1 := hi
    omega
  · have hi : i < 1 := hi
    have : i = 0 := by omega
    subst this
    rw [pk_un (by omega)]
    show mre 22 = nI (if (1 : Nat).testBit 0 = true then 1 else 0)
    rw [show (if (1 : Nat).testBit 0 = true then 1 else 0) = 1 from rfl]
    exact h3
  · have hi : i < 1 := hi
    have : i = 0 := by omega
    subst this
    exact absurd hl (show ¬ (1 : Nat).testBit 0 = false by decide)
theorem scenes2 (B : BY T c tl tb msz mt) (h1 : mre 1 = 1) (h2 : mre 2 = -1) (h3 : mre 22 = 1) {p q : Nat} {kp kb kk kn mto mfr mso mnu : Int32} {mwo : Int64} (R : TR T c tb p q kp kb kk kn mto mfr mso mnu mwo) (rk rp mfa mpl mgo : Int32) :
    (∃ c1 c2 b g1 g2 g3 g4 b', m_X3_readScenes rk rp kp kb kk kn tl tb dg ds dn dp = some (0, c1, c2, b) ∧ m_X7_readScenes msz mto mfr mso mnu mfa mpl mwo mgo mt mre = some (0, g1, g2, g3, g4, c1, c2, b')) ∨
    (∃ v q kb' kk' kn' mto' mfr' mso' mnu' mwo', 1 ≤ v ∧ v ≤ 4 ∧ p < q ∧ m_X3_readScenes rk rp kp kb kk kn tl tb dg ds dn dp = some (1, rk, rp, nI q, kb', kk', kn', 1, nI v, 1, upd dp 0 (-1)) ∧ m_X7_readScenes msz mto mfr mso mnu mfa mpl mwo mgo mt mre = some (1, mto', mfr', mso', mnu', mfa, mpl, mwo', nI v, upd mre 0 (nI v)) ∧ AH T c tl tb q mto' mfr' mso' mnu' mwo') := by
  obtain ⟨w1, w2, w3, w4, w5⟩ := t_three
  obtain ⟨z0, z1, z2, z3⟩ := t_wK
  rw [m_X3_readScenes, m_X7_readScenes, ob1_s w1, ob1_s w2, z0]
  obtain ⟨rfl, RR⟩ := tr_word R
  rcases RR with h | ⟨rfl, rfl, rfl, rfl, q1, q2, h⟩
  · rw [ob1_s (h 0 (by omega)).1, if_pos rfl, m_X3_refuse, ob3_s rfl, ob1_s (h 0 (by omega)).2, if_pos rfl, f_bad, ob3_s rfl, ite_self]
    exact Or.inl ⟨_, _, _, _, _, _, _, _, rfl, rfl⟩
  · obtain ⟨b1, u1, v1⟩ := h 0 (by omega)
    rw [ob1_s u1, ob1_s v1, ifb, ifb]
    cases b1
    · rw [itf, itf, m_X3_refuse, f_bad, ob3_s rfl, ob3_s rfl, if_neg (show ¬ (2 : Int32) = 1 by decide)]
      exact Or.inl ⟨_, _, _, _, _, _, _, _, rfl, rfl⟩
    · obtain ⟨mto, mfr, mso, mnu, mwo, g1, A⟩ := go B q2 kb 2 mnu mwo
      rw [itt, itt, ob5_s g1]
      rcases num2 B A rk rp kb 1 kn mfa mpl mgo 1 4 with ⟨c1, c2, kp', kb', kk', kn', g1, g2, g3, g4, g5, g6, s1, s2⟩ | ⟨q', v, kb', mto', mfr', mso', mnu', mwo', q1, v1, v2, v3, s1, s2, A2⟩
      · rw [ob7_s s1, ob9_s s2, if_pos rfl, if_pos rfl]
        exact Or.inl ⟨_, _, _, _, _, _, _, _, rfl, rfl⟩
      · have x1 : 1 ≤ v := Nat.le_of_not_lt (fun h => v2 (show nI v < (1 : Int32) from nI_lt (b := 1) h (by omega)))
        have x2 : v ≤ 4 := (nI_leI (b := 4) (by omega) (by omega)).mp v3
        rw [ob7_s s1, ob9_s s2, if_neg (by decide), if_neg (by decide), m_X2_clear, if_neg (by decide), if_neg (by decide), ob4_s rfl, show (0 : Int32).toNatClampNeg = 0 from rfl]
        rcases semi2 B A2 rk rp kb' 2 (nI v) mfa mpl with ⟨c1, c2, kp', kb', kk', kn', g1, g2, g3, g4, g5, s1, s2⟩ | ⟨q'', kb', kn', mto', mfr', mso', mnu', mwo', s0, s1, s2, A3⟩
        · rw [ob7_s s1, ob8_s s2]
          exact Or.inl ⟨_, _, _, _, _, _, _, _, rfl, rfl⟩
        · rw [ob7_s s1, ob8_s s2]
          exact Or.inr ⟨v, q'', _, _, _, _, _, _, _, _, x1, x2, by omega, rfl, rfl, A3⟩
end
