/-! needs -/
section
variable {α : AS} {pg ps pn : Int32} {pp pf mno : Nat → Int32}
def marg (α : AS) (i k : Nat) : Int32 := ((nI (zF α i k 1) * nI (zF α i k 3)) / (100 : Int32)) - ((nI (zF α i k 2) * (100 : Int32)) / nI (zF α i k 4))
theorem bvl_marg (α : AS) (i k : Nat) : bvl α i k k 0 = nI (zF α i k 0) * marg α i k := rfl
theorem bvl_u0 (α : AS) (i k u : Nat) : bvl (aset α i k 0 u) i k k 0 = nI u * marg α i k := by
  have e0 : zF (aset α i k 0 u) i k 0 = u := if_pos ⟨rfl, rfl, rfl⟩
  have e1 : ∀ f, f ≠ 0 → zF (aset α i k 0 u) i k f = zF α i k f := fun f hf => if_neg (fun q => hf q.2.2)
  rw [bvl_marg, e0, marg, marg, e1 1 (by decide), e1 2 (by decide), e1 3 (by decide), e1 4 (by decide)]
theorem marg_bd (ok : OKA α) {i k : Nat} (hi : i < zN α) (hl : (zG α).testBit i = false) (hk : k < 4) : -9990 ≤ (marg α i k).toInt ∧ (marg α i k).toInt ≤ 1998 := by
  have hP := fb ok hi hl hk (f := 1) (by omega)
  have hC := fb ok hi hl hk (f := 2) (by omega)
  have hR := fb ok hi hl hk (f := 3) (by omega)
  have hY := fb ok hi hl hk (f := 4) (by omega)
  simp only [show lo5 4 = 10 from rfl, show hi5 1 = 999 from rfl, show hi5 2 = 999 from rfl, show hi5 3 = 200 from rfl, show hi5 4 = 100 from rfl] at hP hC hR hY
  rw [marg]
  generalize zF α i k 1 = P at hP
  generalize zF α i k 2 = C at hC
  generalize zF α i k 3 = R at hR
  generalize zF α i k 4 = Y at hY
  have e1 : P * R ≤ 999 * 200 := Nat.mul_le_mul hP.2 hR.2
  have e2 : P * R / 100 ≤ 1998 := by omega
  have e3 : C * 100 / Y ≤ C * 100 / 10 := Nat.div_le_div_left hY.1 (by omega)
  have e4 : C * 100 / Y ≤ 9990 := by omega
  rw [pk_mul, show (100 : Int32) = nI 100 from rfl, pk_div (by omega) (by omega) (by omega), pk_mul, pk_div (by omega) (by omega) (by omega)]
  generalize P * R / 100 = x at e2
  generalize C * 100 / Y = y at e4
  rw [pk_sub_toInt (by omega) (by omega)]
  omega
theorem e_marginOfLeaf (ok : OKA α) (hc : RC α pg ps pn pp pf) {i k : Nat} (hi : i < zN α) (hl : (zG α).testBit i = false) (hk : k < 4) : m_X2_marginOfLeaf pf (nI i) (nI k) = some (marg α i k) := by
  have h4 := fb4 ok hi hl hk
  rw [m_X2_marginOfLeaf]
  refine (ob1_s (e_fac ok hc hi hl hk (f := 1) (by omega))).trans ?_
  refine (ob1_s (e_fac ok hc hi hl hk (f := 2) (by omega))).trans ?_
  refine (ob1_s (e_fac ok hc hi hl hk (f := 3) (by omega))).trans ?_
  refine (ob1_s (e_fac ok hc hi hl hk (f := 4) (by omega))).trans ?_
  rw [ob1_s (e_margin (nI_ne0 (by omega) (by omega))), marg]
theorem needs_loop (mth : Int32) {L m x : Int32} (hL : -200000000 ≤ L.toInt ∧ L.toInt ≤ 200000000) (hm : -9990 ≤ m.toInt ∧ m.toInt ≤ 1998) : ∀ (d u n : Nat), u + d = 1000 → d < n → k_X7_needs_60 n mth mno x L m (nI u) = some (fstc (fun u => decide (x.toInt ≤ L.toInt + (u : Int) * m.toInt)) d u, mth, mno) := by
  intro d
  induction d with
  | zero =>
    intro u n hu hn
    obtain ⟨n', rfl⟩ : ∃ n', n = n' + 1 := ⟨n - 1, by omega⟩
    rw [k_X7_needs_60_s, show (1000 : Int32) = nI 1000 from rfl, if_pos (nI_le (by omega) (by omega))]; rfl
  | succ d ih =>
    intro u n hu hn
    obtain ⟨n', rfl⟩ : ∃ n', n = n' + 1 := ⟨n - 1, by omega⟩
    have e1 : (nI u).toInt = (u : Int) := nI_toInt (by omega)
    have b1 : (u : Int) * m.toInt ≤ (u : Int) * 1998 := Int.mul_le_mul_of_nonneg_left hm.2 (by omega)
    have b2 : (u : Int) * (-9990) ≤ (u : Int) * m.toInt := Int.mul_le_mul_of_nonneg_left hm.1 (by omega)
    have e2 : (nI u * m).toInt = (u : Int) * m.toInt := by rw [fb_mulI (by rw [e1]; omega) (by rw [e1]; omega), e1]
    have e3 : (L + nI u * m).toInt = L.toInt + (u : Int) * m.toInt := by rw [fb_addI (by rw [e2]; omega) (by rw [e2]; omega), e2]
    rw [k_X7_needs_60_s, show (1000 : Int32) = nI 1000 from rfl, if_neg (nI_ge (by omega) (by omega)), show nI u + (1 : Int32) = nI (u + 1) from nI_1 u, fstc]
    by_cases q : L + nI u * m < x
    · have q2 := Int32.lt_iff_toInt_lt.mp q
      rw [e3] at q2
      rw [if_pos q, decide_eq_false (by omega), if_neg (by decide)]
      exact ih (u + 1) n' (by omega) (by omega)
    · have q2 : ¬ (L + nI u * m).toInt < x.toInt := fun w => q (Int32.lt_iff_toInt_lt.mpr w)
      rw [e3] at q2
      rw [if_neg q, decide_eq_true (by omega), if_pos rfl]
theorem op_needs (ok : OKA α) (hc : RC α pg ps pn pp pf) (hm : RM α mno) (mth x1 x2 x3 : Int32) : ∃ r, m_X6_needs pg ps pn pp pf x1 x2 x3 = some r ∧ m_X7_needs mth mno x1 x2 x3 = some (r, 0, mno) := by
  have h4 : zS α ≤ 4 := ok.2.2.2.1
  have h20 : zN α ≤ 20 := ok.2.1
  have hN1 : 1 ≤ zN α := ok.1
  rw [m_X6_needs, m_X7_needs, ob1_s (b_isLeaf ok hc.1 hc.2.2.1 x1), ob1_s (d_isLeaf ok hm x1), ifb, ifb, ob1_s (b_isScene ok hc.2.1 x2), ob1_s (d_isScene ok hm x2), ifb, ifb]
  cases h1 : lfR α x1
  · exact ⟨-1, rfl, rfl⟩
  cases h2 : inR (zS α) x2
  · exact ⟨-1, rfl, rfl⟩
  rw [if_pos rfl, if_pos rfl, if_pos rfl, if_pos rfl]
  by_cases l1 : x3 < (-999999999 : Int32)
  · rw [if_pos l1, ob1_s (f_isIn_no (Or.inl l1)), if_pos rfl]; exact ⟨-1, rfl, rfl⟩
  rw [if_neg l1]
  by_cases l2 : x3 ≤ (999999999 : Int32)
  · have l3 : ¬ (999999999 : Int32) < x3 := Int32.not_lt.mpr l2
    have e9 : m_X7_isIn x3 (-999999999 : Int32) (999999999 : Int32) = some 1 := by rw [m_X7_isIn, if_neg l1, if_neg l3]
    rw [if_pos l2, ob1_s e9, if_neg (by decide)]
    obtain ⟨i, hi, rfl, hl⟩ := lfR_t ok h1
    obtain ⟨k, hk, rfl⟩ := inR_t h2 (by omega)
    have hk : k < 4 := by omega
    have w0 : m_X7_valueWith mno (nI i) (nI k) (0 : Int32) (0 : Int32) = some (vsum (lfb α 0) (fun j => bvl (aset α i k 0 0) j k k 0) (zN α), mno) := f_valueWith ok hm hi hl hk (f := 0) (v := 0) (by omega) (by decide) (by decide)
    have w1 : m_X7_valueWith mno (nI i) (nI k) (0 : Int32) (1 : Int32) = some (vsum (lfb α 0) (fun j => bvl (aset α i k 0 1) j k k 0) (zN α), mno) := f_valueWith ok hm hi hl hk (f := 0) (v := 1) (by omega) (by decide) (by decide)
    rw [ob2_s w0, ob2_s w1, vsum_diff (lfb_top ok hi hl) (fun j hj => by rw [bvl_set hj, bvl_set hj]) (zN α) hi, bvl_u0, bvl_u0]
    have em : nI 1 * marg α i k - nI 0 * marg α i k = marg α i k := by
      rw [show nI 1 = (1 : Int32) from rfl, show nI 0 = (0 : Int32) from rfl]; grind
    rw [em]
    have ok0 : OKA (aset α i k 0 0) := ok_set ok (by decide) (by decide)
    have bL := vsum_bd (P := lfb α 0) (g := fun j => bvl (aset α i k 0 0) j k k 0) (zN α) h20 (fun j hj hp => bvl_bd ok0 hj (lfb_leaf hp) hk hk)
    have eV : vsum (lfb α 0) (fun j => bvl α j k k 0) (zN α) - bvl α i k k 0 = vsum (lfb α 0) (fun j => bvl (aset α i k 0 0) j k k 0) (zN α) := by
      have d := vsum_diff (P := lfb α 0) (g := fun j => bvl α j k k 0) (h := fun j => bvl (aset α i k 0 0) j k k 0) (lfb_top ok hi hl) (fun j hj => by rw [bvl_set hj]) (zN α) hi
      rw [bvl_u0, show nI 0 = (0 : Int32) from rfl] at d
      grind
    have v0 : m_X2_nodeValue pg pn pp pf (0 : Int32) (nI k) = some (vsum (lfb α 0) (fun j => bvl α j k k 0) (zN α)) := e_nodeValue ok hc (t := 0) (by omega) hk
    have bm := marg_bd ok hi hl hk
    generalize hLL : vsum (lfb α 0) (fun j => bvl (aset α i k 0 0) j k k 0) (zN α) = L at bL eV
    have hL : -200000000 ≤ L.toInt ∧ L.toInt ≤ 200000000 := by omega
    have nl := needs_loop (mno := mno) 0 (x := x3) hL bm 1000 0 FU (by omega) (by decide)
    have nl2 : k_X7_needs_60 FU 0 mno x3 L (marg α i k) (0 : Int32) = _ := nl
    rw [nl2]
    refine ⟨_, ?_, rfl⟩
    have eU : m_X2_unitsNeeded pg pn pp pf (nI i) (nI k) x3 = some (fstc (fun u => decide (x3.toInt ≤ L.toInt + (u : Int) * (marg α i k).toInt)) 1000 0) := by
      rw [m_X2_unitsNeeded, ob1_s v0, ob1_s (e_leafValue ok hc hi hl hk), ob1_s (e_marginOfLeaf ok hc hi hl hk), eV]
      have x1 : -999999999 ≤ x3.toInt := by
        have := Int32.le_iff_toInt_le.mp (Int32.not_lt.mp l1)
        exact this
      have x2 : x3.toInt ≤ 999999999 := Int32.le_iff_toInt_le.mp l2
      have eM : (x3 - L).toInt = x3.toInt - L.toInt := fb_subI (by omega) (by omega)
      generalize marg α i k = m at bm
      by_cases q1 : 0 < x3 - L
      · have q1' := Int32.lt_iff_toInt_lt.mp q1
        rw [eM, show (0 : Int32).toInt = 0 from rfl] at q1'
        rw [if_pos q1]
        by_cases q2 : 0 < m
        · have q2' := Int32.lt_iff_toInt_lt.mp q2
          rw [show (0 : Int32).toInt = 0 from rfl] at q2'
          have m0 : ¬ m = 0 := fun e => by rw [e] at q2'; exact absurd q2' (by decide)
          rw [if_pos q2, if_neg m0, if_neg (by decide), show T_MOST (0 : Int32).toNatClampNeg = nI 999 from rfl]
          have e1 : (x3 - L - 1).toInt = x3.toInt - L.toInt - 1 := by
            rw [fb_subI (by rw [eM, show (1 : Int32).toInt = 1 from rfl]; omega) (by rw [eM, show (1 : Int32).toInt = 1 from rfl]; omega), eM]; rfl
          have dq : 0 ≤ (x3.toInt - L.toInt - 1) / m.toInt ∧ (x3.toInt - L.toInt - 1) / m.toInt ≤ x3.toInt - L.toInt - 1 := ⟨Int.ediv_nonneg (by omega) (by omega), Int.ediv_le_self _ (by omega)⟩
          have e2 : ((x3 - L - 1) / m).toInt = (x3.toInt - L.toInt - 1) / m.toInt := by
            rw [Int32.toInt_div, e1, Int.tdiv_eq_ediv_of_nonneg (by omega), fb_bmod (by omega) (by omega)]
          have p1 := Int.lt_ediv_add_one_mul_self (x3.toInt - L.toInt - 1) q2'
          have p2 := Int.ediv_mul_le (x3.toInt - L.toInt - 1) (b := m.toInt) (by omega)
          generalize hq : (x3.toInt - L.toInt - 1) / m.toInt = Q at dq e2 p1 p2
          have e3 : ((x3 - L - 1) / m + 1).toInt = Q + 1 := by
            rw [fb_addI (by rw [e2, show (1 : Int32).toInt = 1 from rfl]; omega) (by rw [e2, show (1 : Int32).toInt = 1 from rfl]; omega), e2]; rfl
          have below : ∀ w : Nat, (w : Int) ≤ Q → (w : Int) * m.toInt ≤ Q * m.toInt := fun w hw => Int.mul_le_mul_of_nonneg_right hw (by omega)
          by_cases q3 : nI 999 < (x3 - L - 1) / m + 1
          · have q3' := Int32.lt_iff_toInt_lt.mp q3
            rw [e3, nI_toInt (by omega)] at q3'
            rw [if_pos q3, fstc_no 1000 0 (fun w _ hw => decide_eq_false (by have := below w (by omega); omega))]
          · have q3' : ¬ (nI 999).toInt < ((x3 - L - 1) / m + 1).toInt := fun w => q3 (Int32.lt_iff_toInt_lt.mpr w)
            rw [e3, nI_toInt (by omega)] at q3'
            rw [if_neg q3]
            obtain ⟨u0, hu0⟩ : ∃ u0 : Nat, (u0 : Int) = Q + 1 := ⟨(Q + 1).toNat, by omega⟩
            rw [fstc_hit (u0 := u0) (decide_eq_true (by rw [hu0]; omega)) 1000 0 (by omega) (by omega) (fun w _ hw => decide_eq_false (by have := below w (by omega); omega))]
            congr 1
            refine Int32.toInt_inj.mp ?_
            rw [e3, nI_toInt (by omega), hu0]
        · have q2' : ¬ (0 : Int32).toInt < m.toInt := fun w => q2 (Int32.lt_iff_toInt_lt.mpr w)
          rw [show (0 : Int32).toInt = 0 from rfl] at q2'
          rw [if_neg q2, fstc_no 1000 0 (fun w _ hw => decide_eq_false (by
            have : (w : Int) * m.toInt ≤ (w : Int) * 0 := Int.mul_le_mul_of_nonneg_left (by omega) (by omega)
            omega))]
      · have q1' : ¬ (0 : Int32).toInt < (x3 - L).toInt := fun w => q1 (Int32.lt_iff_toInt_lt.mpr w)
        rw [eM, show (0 : Int32).toInt = 0 from rfl] at q1'
        rw [if_neg q1, fstc_hit (u0 := 0) (decide_eq_true (by simp; omega)) 1000 0 (by omega) (by omega) (fun w _ hw => by omega)]
        rfl
    exact ob1_s eU
  · have l3 : (999999999 : Int32) < x3 := Int32.not_le.mp l2
    rw [if_neg l2, ob1_s (f_isIn_no (Or.inr l3)), if_pos rfl]
    exact ⟨-1, rfl, rfl⟩
end
