/-! the text, its end -/
section
variable {T : Nat} {c : Nat → Nat} {tl msz : Int32} {tb mt : Nat → Int32} {α : AS} {dg ds dn : Int32} {dp df mre mis rt : Nat → Int32}
/-- the copy of what was read -/
theorem copy2 (y1 mth mtd msz mto mfr mso mnu mfa mpl : Int32) (mwo : Int64) (msm mgo : Int32) : ∀ (d j n : Nat) (mno : Nat → Int32), j + d = 442 → d < n → ∃ mno', k_X7_text_127 mt n mth mtd msz mto mfr mso mnu mfa mpl mwo msm mgo mno mre mis y1 (nI j) = some (y1, mth, mtd, msz, mto, mfr, mso, mnu, mfa, mpl, mwo, 0, mgo, mno', mre, mis) ∧ (∀ i, j ≤ i → i < 442 → mno' i = mre i) ∧ ∀ i, i < j → mno' i = mno i := by
  intro d
  induction d with
  | zero =>
    intro j n mno hj hn
    obtain ⟨n', rfl⟩ : ∃ n', n = n' + 1 := ⟨n - 1, by omega⟩
    refine ⟨mno, ?_, fun i _ _ => by omega, fun _ _ => rfl⟩
    rw [k_X7_text_127_s, if_pos (show (442 : Int32) ≤ nI j from nI_le (a := 442) (by omega) (by omega))]
  | succ d ih =>
    intro j n mno hj hn
    obtain ⟨n', rfl⟩ : ∃ n', n = n' + 1 := ⟨n - 1, by omega⟩
    obtain ⟨mno', e1, e2, e3⟩ := ih (j + 1) n' (upd mno j (mre j)) (by omega) (by omega)
    refine ⟨mno', ?_, fun i i1 i2 => ?_, fun i i1 => ?_⟩
    · rw [k_X7_text_127_s, if_neg (show ¬ (442 : Int32) ≤ nI j from nI_ge (b := 442) (by omega) (by omega)), g_in (by omega) (by omega), g_in (by omega) (by omega), cl j (by omega), show nI j + (1 : Int32) = nI (j + 1) from nI_1 j]
      exact e1
    · by_cases w : i = j
      · rw [w, e3 j (by omega), pk_us]
      · exact e2 i (by omega) i2
    · rw [e3 i (by omega), pk_un (by omega)]
theorem rm_ext {mno mno' : Nat → Int32} (h20 : zN α ≤ 20) (h : ∀ i, i < 442 → mno' i = mno i) (hm : RM α mno) : RM α mno' := by
  obtain ⟨a1, a2, a3, a4, a5, a6⟩ := hm
  exact ⟨by rw [h _ (by omega)]; exact a1, by rw [h _ (by omega)]; exact a2, by rw [h _ (by omega)]; exact a3, fun i i1 i2 => by rw [h _ (by omega)]; exact a4 i i1 i2, fun i i1 => by rw [h _ (by omega)]; exact a5 i i1, fun i i1 i2 k k1 f f1 => by rw [h _ (by omega)]; exact a6 i i1 i2 k k1 f f1⟩
theorem e_take (ok : OKA α) (hc : RC α dg ds dn dp df) (pg ps pn : Int32) (pp pf : Nat → Int32) : ∃ pp' pf', m_X2_takeFrom pg ps pn pp pf dg ds dn dp df = some (dg, ds, dn, pp', pf') ∧ RC α dg ds dn pp' pf' := by
  have h20 : zN α ≤ 20 := ok.2.1
  obtain ⟨a1, a2, a3, a4, a5, a6⟩ := hc
  refine ⟨va_cpy dp pp 0 0 20, va_cpy df pf 0 0 400, ?_, a1, a2, a3, ?_, fun i i1 i2 => ?_, fun i i1 i2 k k1 f f1 => ?_⟩
  · rw [m_X2_takeFrom, if_pos (by decide), if_pos (by decide)]; rfl
  · rw [pk_cpy_in (by omega) (by omega)]; exact a4
  · rw [pk_cpy_in (by omega) (by omega), show 0 + (i - 0) = i by omega]; exact a5 i i1 i2
  · rw [pk_cpy_in (by omega) (by omega), show 0 + (100 * k + 5 * i + f - 0) = 100 * k + 5 * i + f by omega]; exact a6 i i1 i2 k k1 f f1
/-- the lines, one after another -/
theorem lines2 (B : BY T c tl tb msz mt) (rk rp mfa mpl mth mtd msm : Int32) (mno : Nat → Int32) : ∀ (d p r n n2 : Nat) (α : AS) (dg dn : Int32) (dp df mre mis rt : Nat → Int32) (kb kk kn mto mfr mso mnu mgo : Int32) (mwo : Int64), T - p ≤ d → d < n → d < n2 → r ≤ p → p ≤ T → OKA α → RC α dg ds dn dp df → RM α mre → TL rt mis → AH T c tl tb p mto mfr mso mnu mwo →
    (∃ rl c1 c2 b g1 g2 g3 g4 g5 g6 g7 g8 mre' mis', k_X3_readText_51 tl tb n (nI r) rk rp rt (nI p) kb kk kn dg ds dn dp df = some (0, rl, c1, c2, b) ∧ k_X7_text_98 mt n2 mth mtd msz mto mfr mso mnu mfa mpl mwo msm mgo mno mre mis (nI r) = some (-1 - c2, mth, mtd, g1, g2, g3, g4, g5, c1, g6, g7, msm, g8, mno, mre', mis')) ∨
    (∃ α' r' rt' kp' kb' kk' kn' dg' dn' dp' df' g1 g2 g3 g4 g5 g7 g8 mno' mre' mis', OKA α' ∧ RC α' dg' ds dn' dp' df' ∧ RM α' mno' ∧ k_X3_readText_51 tl tb n (nI r) rk rp rt (nI p) kb kk kn dg ds dn dp df = some (1, nI r', rk, rp, rt', kp', kb', kk', kn', dg', ds, dn', dp', df') ∧ k_X7_text_98 mt n2 mth mtd msz mto mfr mso mnu mfa mpl mwo msm mgo mno mre mis (nI r) = some (nI r', mth, mtd, g1, g2, g3, g4, g5, mfa, mpl, g7, 0, g8, mno', mre', mis')) := by
  have hT : T ≤ 640 := B.1
  intro d
  induction d with
  | zero =>
    intro p r n n2 α dg dn dp df mre mis rt kb kk kn mto mfr mso mnu mgo mwo hd hn hn2 hr hp ok hc hm ht A
    obtain ⟨n', rfl⟩ : ∃ n', n = n' + 1 := ⟨n - 1, by omega⟩
    obtain ⟨m', rfl⟩ : ∃ m', n2 = m' + 1 := ⟨n2 - 1, by omega⟩
    obtain ⟨q, kp', kb', kk', kn', a1, R⟩ := A.2 kb kk kn
    rw [k_X3_readText_51_s, k_X7_text_98_s, if_neg (show ¬ (640 : Int32) < nI r from nI_nlt (a := 640) (by omega) (by omega)), ob4_s a1]
    by_cases w : kk' = 4
    · have w2 : mso = 0 := by
        subst w
        rcases R.2 with ⟨y, _⟩ | ⟨_, _, _, _, ⟨y, _⟩ | ⟨y, _⟩ | ⟨y, _⟩ | ⟨_, y⟩⟩
        · exact absurd y (by decide)
        · exact absurd y (by decide)
        · exact absurd y (by decide)
        · exact absurd y (by decide)
        · exact y
      obtain ⟨mno', e1, e2, e3⟩ := copy2 (mt := mt) (mre := mre) (mis := mis) (nI r) mth mtd msz mto mfr mso mnu mfa mpl mwo msm mgo 442 0 FU mno (by omega) (by decide)
      have e1' : k_X7_text_127 mt FU mth mtd msz mto mfr mso mnu mfa mpl mwo msm mgo mno mre mis (nI r) 0 = _ := e1
      rw [if_pos w, if_pos w2, e1']
      exact Or.inr ⟨α, r, _, _, _, _, _, _, _, _, _, _, _, _, _, _, _, _, _, _, _, ok, hc, rm_ext ok.2.1 (fun i hi => e2 i (by omega) hi) hm, rfl, rfl⟩
    · have w2 : ¬ mso = 0 := by
        rcases R.2 with ⟨_, rfl⟩ | ⟨_, _, _, _, ⟨_, rfl, _⟩ | ⟨_, rfl, _⟩ | ⟨_, rfl, _⟩ | ⟨y, _⟩⟩
        · decide
        · decide
        · decide
        · decide
        · exact absurd y w
      rw [if_neg w, if_neg w2]
      rcases line2 B ok hc hm ht R rk rp mfa mpl mgo with ⟨c1, c2, ⟨b, b2, b3, b4, b5, b6, b7, b8, b9⟩, g1, g2, g3, g4, ⟨b1', b2', b3', b4'⟩, r1, r2⟩ | ⟨α', q', rt', kb', kk', kn', dg', dn', dp', df', mto', mfr', mso', mnu', mwo', mgo', mre', mis', o1, o2, o3, o4, o5, r1, r2, A2⟩
      · rw [ob12_s r1, ob11_s r2, if_pos rfl, if_pos rfl]
        exact Or.inl ⟨_, _, _, _, _, _, _, _, _, _, _, _, _, _, rfl, rfl⟩
      · exact absurd A2.1 (by omega)
  | succ d ih =>
    intro p r n n2 α dg dn dp df mre mis rt kb kk kn mto mfr mso mnu mgo mwo hd hn hn2 hr hp ok hc hm ht A
    obtain ⟨n', rfl⟩ : ∃ n', n = n' + 1 := ⟨n - 1, by omega⟩
    obtain ⟨m', rfl⟩ : ∃ m', n2 = m' + 1 := ⟨n2 - 1, by omega⟩
    obtain ⟨q, kp', kb', kk', kn', a1, R⟩ := A.2 kb kk kn
    rw [k_X3_readText_51_s, k_X7_text_98_s, if_neg (show ¬ (640 : Int32) < nI r from nI_nlt (a := 640) (by omega) (by omega)), ob4_s a1]
    by_cases w : kk' = 4
    · have w2 : mso = 0 := by
        subst w
        rcases R.2 with ⟨y, _⟩ | ⟨_, _, _, _, ⟨y, _⟩ | ⟨y, _⟩ | ⟨y, _⟩ | ⟨_, y⟩⟩
        · exact absurd y (by decide)
        · exact absurd y (by decide)
        · exact absurd y (by decide)
        · exact absurd y (by decide)
        · exact y
      obtain ⟨mno', e1, e2, e3⟩ := copy2 (mt := mt) (mre := mre) (mis := mis) (nI r) mth mtd msz mto mfr mso mnu mfa mpl mwo msm mgo 442 0 FU mno (by omega) (by decide)
      have e1' : k_X7_text_127 mt FU mth mtd msz mto mfr mso mnu mfa mpl mwo msm mgo mno mre mis (nI r) 0 = _ := e1
      rw [if_pos w, if_pos w2, e1']
      exact Or.inr ⟨α, r, _, _, _, _, _, _, _, _, _, _, _, _, _, _, _, _, _, _, _, ok, hc, rm_ext ok.2.1 (fun i hi => e2 i (by omega) hi) hm, rfl, rfl⟩
    · have w2 : ¬ mso = 0 := by
        rcases R.2 with ⟨_, rfl⟩ | ⟨_, _, _, _, ⟨_, rfl, _⟩ | ⟨_, rfl, _⟩ | ⟨_, rfl, _⟩ | ⟨y, _⟩⟩
        · decide
        · decide
        · decide
        · decide
        · exact absurd y w
      rw [if_neg w, if_neg w2]
      rcases line2 B ok hc hm ht R rk rp mfa mpl mgo with ⟨c1, c2, ⟨b, b2, b3, b4, b5, b6, b7, b8, b9⟩, g1, g2, g3, g4, ⟨b1', b2', b3', b4'⟩, r1, r2⟩ | ⟨α', q', rt', kb', kk', kn', dg', dn', dp', df', mto', mfr', mso', mnu', mwo', mgo', mre', mis', o1, o2, o3, o4, o5, r1, r2, A2⟩
      · rw [ob12_s r1, ob11_s r2, if_pos rfl, if_pos rfl]
        exact Or.inl ⟨_, _, _, _, _, _, _, _, _, _, _, _, _, _, rfl, rfl⟩
      · rw [ob12_s r1, ob11_s r2, if_neg (by decide), if_neg (by decide), show nI r + (1 : Int32) = nI (r + 1) from nI_1 r]
        exact ih q' (r + 1) n' m' α' dg' dn' dp' df' mre' mis' rt' kb' kk' kn' mto' mfr' mso' mnu' mgo' mwo' (by omega) (by omega) (by omega) (by omega) A2.1 o1 o2 o3 o4 A2
/-- all of the flags are let down -/
theorem fill0 : ∀ (d j n : Nat) (ar : Nat → Int32), j + d = 20 → d < n → ∃ ar', k_J7_fill_53178_5 20 n ar 0 (nI j) 20 = some ar' ∧ (∀ i, j ≤ i → i < 20 → ar' i = 0) ∧ ∀ i, i < j → ar' i = ar i := by
  intro d
  induction d with
  | zero =>
    intro j n ar hj hn
    obtain ⟨n', rfl⟩ : ∃ n', n = n' + 1 := ⟨n - 1, by omega⟩
    refine ⟨ar, ?_, fun i _ _ => by omega, fun _ _ => rfl⟩
    rw [k_J7_fill_53178_5_s, if_pos (show (20 : Int32) ≤ nI j from nI_le (a := 20) (by omega) (by omega))]
  | succ d ih =>
    intro j n ar hj hn
    obtain ⟨n', rfl⟩ : ∃ n', n = n' + 1 := ⟨n - 1, by omega⟩
    obtain ⟨ar', e1, e2, e3⟩ := ih (j + 1) n' (upd ar j 0) (by omega) (by omega)
    refine ⟨ar', ?_, fun i i1 i2 => ?_, fun i i1 => ?_⟩
    · rw [k_J7_fill_53178_5_s, if_neg (show ¬ (20 : Int32) ≤ nI j from nI_ge (b := 20) (by omega) (by omega)), g_in (by omega) (by omega), cl j (by omega), show nI j + (1 : Int32) = nI (j + 1) from nI_1 j]
      exact e1
    · by_cases w : i = j
      · rw [w, e3 j (by omega), pk_us]
      · exact e2 i (by omega) i2
    · rw [e3 i (by omega), pk_un (by omega)]
theorem zero30 (mth mtd msz mto mfr mso mnu mfa mpl : Int32) (mwo : Int64) (msm mgo : Int32) (mno : Nat → Int32) : ∀ (d j n : Nat) (mre : Nat → Int32), j + d = 442 → d < n → ∃ mre', k_X7_text_30 mt n mth mtd msz mto mfr mso mnu mfa mpl mwo msm mgo mno mre mis (nI j) = k_X7_text_52 mt FU mth mtd msz mto mfr mso mnu mfa mpl mwo msm mgo mno mre' mis 0 := by
  intro d
  induction d with
  | zero =>
    intro j n mre hj hn
    obtain ⟨n', rfl⟩ : ∃ n', n = n' + 1 := ⟨n - 1, by omega⟩
    refine ⟨mre, ?_⟩
    rw [k_X7_text_30_s, if_pos (show (442 : Int32) ≤ nI j from nI_le (a := 442) (by omega) (by omega))]
  | succ d ih =>
    intro j n mre hj hn
    obtain ⟨n', rfl⟩ : ∃ n', n = n' + 1 := ⟨n - 1, by omega⟩
    obtain ⟨mre', e1⟩ := ih (j + 1) n' (upd mre j 0) (by omega) (by omega)
    refine ⟨mre', ?_⟩
    rw [k_X7_text_30_s, if_neg (show ¬ (442 : Int32) ≤ nI j from nI_ge (b := 442) (by omega) (by omega)), g_in (by omega) (by omega), cl j (by omega), show nI j + (1 : Int32) = nI (j + 1) from nI_1 j]
    exact e1
theorem zero52 (mth mtd msz mto mfr mso mnu mfa mpl : Int32) (mwo : Int64) (msm mgo : Int32) (mno mre : Nat → Int32) : ∀ (d j n : Nat) (mis : Nat → Int32), j + d = 80 → d < n → ∃ mis' m', k_X7_text_52 mt n mth mtd msz mto mfr mso mnu mfa mpl mwo msm mgo mno mre mis (nI j) = k_X7_text_52 mt (m' + 1) mth mtd msz mto mfr mso mnu mfa mpl mwo msm mgo mno mre mis' (nI 80) ∧ (∀ i, j ≤ i → i < 80 → mis' i = 0) ∧ ∀ i, i < j → mis' i = mis i := by
  intro d
  induction d with
  | zero =>
    intro j n mis hj hn
    obtain ⟨n', rfl⟩ : ∃ n', n = n' + 1 := ⟨n - 1, by omega⟩
    exact ⟨mis, n', by rw [show j = 80 by omega], fun i _ _ => by omega, fun _ _ => rfl⟩
  | succ d ih =>
    intro j n mis hj hn
    obtain ⟨n', rfl⟩ : ∃ n', n = n' + 1 := ⟨n - 1, by omega⟩
    obtain ⟨mis', m', e1, e2, e3⟩ := ih (j + 1) n' (upd mis j (vp_nar .boolean 0)) (by omega) (by omega)
    refine ⟨mis', m', ?_, fun i i1 i2 => ?_, fun i i1 => ?_⟩
    · rw [k_X7_text_52_s, if_neg (show ¬ (80 : Int32) ≤ nI j from nI_ge (b := 80) (by omega) (by omega)), g_in (by omega) (by omega), cl j (by omega), show nI j + (1 : Int32) = nI (j + 1) from nI_1 j]
      exact e1
    · by_cases w : i = j
      · rw [w, e3 j (by omega), pk_us]; rfl
      · exact e2 i (by omega) i2
    · rw [e3 i (by omega), pk_un (by omega)]
end
