/-! bounds of values; the mean effects of both sides -/
section
variable {α : AS} {pg ps pn : Int32} {pp pf mno : Nat → Int32}
theorem bvl_bd (ok : OKA α) {i a b s : Nat} (hi : i < zN α) (hl : (zG α).testBit i = false) (ha : a < 4) (hb : b < 4) : -9980010 ≤ (bvl α i a b s).toInt ∧ (bvl α i a b s).toInt ≤ 1996002 := by
  have hU := fb ok hi hl (selb4 (s := s) (f := 0) ha hb) (f := 0) (by omega)
  have hP := fb ok hi hl (selb4 (s := s) (f := 1) ha hb) (f := 1) (by omega)
  have hC := fb ok hi hl (selb4 (s := s) (f := 2) ha hb) (f := 2) (by omega)
  have hR := fb ok hi hl (selb4 (s := s) (f := 3) ha hb) (f := 3) (by omega)
  have hY := fb ok hi hl (selb4 (s := s) (f := 4) ha hb) (f := 4) (by omega)
  simp only [show lo5 4 = 10 from rfl, show hi5 0 = 999 from rfl, show hi5 1 = 999 from rfl, show hi5 2 = 999 from rfl, show hi5 3 = 200 from rfl, show hi5 4 = 100 from rfl] at hU hP hC hR hY
  rw [bvl]
  generalize zF α i (selb s a b 0) 0 = U at hU
  generalize zF α i (selb s a b 1) 1 = P at hP
  generalize zF α i (selb s a b 2) 2 = C at hC
  generalize zF α i (selb s a b 3) 3 = R at hR
  generalize zF α i (selb s a b 4) 4 = Y at hY
  have e1 : P * R ≤ 999 * 200 := Nat.mul_le_mul hP.2 hR.2
  have e2 : P * R / 100 ≤ 1998 := by omega
  have e3 : C * 100 / Y ≤ C * 100 / 10 := Nat.div_le_div_left hY.1 (by omega)
  have e4 : C * 100 / Y ≤ 9990 := by omega
  rw [pk_mul, show (100 : Int32) = nI 100 from rfl, pk_div (by omega) (by omega) (by omega), pk_mul, pk_div (by omega) (by omega) (by omega)]
  generalize P * R / 100 = x at e2
  generalize C * 100 / Y = y at e4
  have e5 : (nI x - nI y).toInt = (x : Int) - y := pk_sub_toInt (by omega) (by omega)
  have e6 : (nI U).toInt = (U : Int) := nI_toInt (by omega)
  have hz : -9990 ≤ (x : Int) - y ∧ (x : Int) - y ≤ 1998 := by omega
  have b1 : (U : Int) * ((x : Int) - y) ≤ (U : Int) * 1998 := Int.mul_le_mul_of_nonneg_left hz.2 (by omega)
  have b2 : (U : Int) * (-9990) ≤ (U : Int) * ((x : Int) - y) := Int.mul_le_mul_of_nonneg_left hz.1 (by omega)
  have e7 : (nI U * (nI x - nI y)).toInt = (U : Int) * ((x : Int) - y) := by
    rw [fb_mulI (by rw [e5, e6]; omega) (by rw [e5, e6]; omega), e5, e6]
  rw [e7]
  omega
end
theorem div120 {x : Int32} {z : Int} (h : x.toInt = z) : x / (120 : Int32) = Int32.ofInt (z.tdiv 120) := by
  refine Int32.toInt_inj.mp ?_
  rw [Int32.toInt_div, Int32.toInt_ofInt, h]; rfl
theorem div120L {x : Int64} {z : Int} (h : x.toInt = z) (h1 : -2147483648 ≤ z) (h2 : z < 2147483648) : (x / (120 : Int64)).toInt32 = Int32.ofInt (z.tdiv 120) := by
  refine Int32.toInt_inj.mp ?_
  have e : z.tdiv 120 = z.tdiv 120 := rfl
  have b1 : -2147483648 ≤ z.tdiv 120 ∧ z.tdiv 120 < 2147483648 := by
    rcases Int.le_total 0 z with q | q
    · have := Int.tdiv_eq_ediv_of_nonneg (b := 120) q
      rw [this]; omega
    · have h3 : z.tdiv 120 = -((-z).tdiv 120) := by rw [Int.neg_tdiv, Int.neg_neg]
      have := Int.tdiv_eq_ediv_of_nonneg (a := -z) (b := 120) (by omega)
      rw [h3, this]; omega
  rw [Int64.toInt_toInt32, Int64.toInt_div, Int32.toInt_ofInt, h, show (120 : Int64).toInt = 120 from rfl, fb_bmodL (by omega) (by omega)]
theorem e_mean (bb : Nat → Int32) (v : Nat → Int) {f : Nat} (hf : f < 5) (hv : ∀ s, s < 32 → (bb s).toInt = v s) (hd : ∀ s, s < 32 → -9980010 ≤ v s ∧ v s ≤ 1996002) : m_X0_meanEffect bb (nI f) = some (Int32.ofInt ((ps5 v f 32).tdiv 120)) := by
  have key : ∀ (d j n : Nat) (y : Int32), j + d = 32 → d < n → y.toInt = ps5 v f j → k_X0_meanEffect_4 bb n (nI f) y (nI j) = some (Int32.ofInt ((ps5 v f 32).tdiv 120)) := by
    intro d
    induction d with
    | zero =>
      intro j n y hj hn h
      obtain ⟨n', rfl⟩ : ∃ n', n = n' + 1 := ⟨n - 1, by omega⟩
      rw [k_X0_meanEffect_4_s, show (32 : Int32) = nI 32 from rfl, if_pos (nI_le (by omega) (by omega)), div120 (show y.toInt = ps5 v f 32 by rw [h, show j = 32 by omega])]
    | succ d ih =>
      intro j n y hj hn h
      obtain ⟨n', rfl⟩ : ∃ n', n = n' + 1 := ⟨n - 1, by omega⟩
      rw [k_X0_meanEffect_4_s, show (32 : Int32) = nI 32 from rfl, if_neg (nI_ge (by omega) (by omega)), bitI (by omega) (by omega), show nI j + (1 : Int32) = nI (j + 1) from nI_1 j]
      have bd := ps5_bd v hf hd (j + 1) (by omega)
      have pa := pw5_all ⟨f, hf⟩ ⟨j + 1, by omega⟩
      simp only at pa
      have ihj := ih (j + 1) n'
      cases hb : j.testBit f
      · rw [if_pos (by decide)]
        obtain ⟨r, t1, t2, -, -, t5⟩ := t_w5 ⟨j, by omega⟩ ⟨f, hf⟩ hb
        simp only at t1 t2 t5
        have h2 := orp32 (x := j) (by omega) hf
        rw [ob1_s t1, g_in r.isLt (by omega), cl _ (by have := r.isLt; omega), t2, ob1_s (e_step bb (by omega) hf)]
        refine ihj _ (by omega) (by omega) ?_
        rw [ps5, hb, if_neg (by decide)] at bd ⊢
        have d1 := hd j (by omega)
        have d2 := hd (j ||| 2 ^ f) h2
        have s1 : (bb (j ||| 2 ^ f) - bb j).toInt = v (j ||| 2 ^ f) - v j := by
          rw [fb_subI (by rw [hv _ h2, hv j (by omega)]; omega) (by rw [hv _ h2, hv j (by omega)]; omega), hv _ h2, hv j (by omega)]
        have w1 : (nI (w5 j)).toInt = (w5 j : Int) := nI_toInt (by omega)
        have h3 : -11976012 ≤ v (j ||| 2 ^ f) - v j ∧ v (j ||| 2 ^ f) - v j ≤ 11976012 := by omega
        generalize hz : v (j ||| 2 ^ f) - v j = z at h3 s1 bd ⊢
        have h4 : (w5 j : Int) * z ≤ (w5 j : Int) * 11976012 := Int.mul_le_mul_of_nonneg_left h3.2 (by omega)
        have h5 : (w5 j : Int) * (-11976012) ≤ (w5 j : Int) * z := Int.mul_le_mul_of_nonneg_left h3.1 (by omega)
        have m1 : (nI (w5 j) * (bb (j ||| 2 ^ f) - bb j)).toInt = (w5 j : Int) * z := by
          rw [fb_mulI (by rw [w1, s1]; omega) (by rw [w1, s1]; omega), w1, s1]
        rw [fb_addI (by rw [m1, h]; omega) (by rw [m1, h]; omega), m1, h]
      · rw [if_neg (by decide)]
        refine ihj _ (by omega) (by omega) ?_
        rw [ps5, hb, if_pos rfl]; exact h
  rw [m_X0_meanEffect]
  exact key 32 0 FU 0 (by omega) (by have : FU = 5000 := rfl; omega) rfl
section
variable {α : AS} {pg ps pn : Int32} {pp pf mno : Nat → Int32}
theorem f_mean (ok : OKA α) (hm : RM α mno) {i a b f : Nat} (hi : i < zN α) (hl : (zG α).testBit i = false) (ha : a < 4) (hb : b < 4) (hf : f < 5) : m_X7_meanOf mno (nI i) (nI a) (nI b) (nI f) = some (Int32.ofInt ((ps5 (fun s => (bvl α i a b s).toInt) f 32).tdiv 120)) := by
  have hd : ∀ s, s < 32 → -9980010 ≤ (fun s => (bvl α i a b s).toInt) s ∧ (fun s => (bvl α i a b s).toInt) s ≤ 1996002 := fun s _ => bvl_bd ok hi hl ha hb
  have hv : ∀ s, (bvl α i a b s).toInt = (fun s => (bvl α i a b s).toInt) s := fun _ => rfl
  generalize (fun s => (bvl α i a b s).toInt) = v at hd hv ⊢
  have key : ∀ (d j n : Nat) (y : Int64), j + d = 32 → d < n → y.toInt = ps5 v f j → k_X7_meanOf_6 mno n (nI i) (nI a) (nI b) (nI f) y (nI j) = some (Int32.ofInt ((ps5 v f 32).tdiv 120)) := by
    intro d
    induction d with
    | zero =>
      intro j n y hj hn h
      obtain ⟨n', rfl⟩ : ∃ n', n = n' + 1 := ⟨n - 1, by omega⟩
      have bd := ps5_bd v hf hd 32 (by omega)
      have pa := pw5_all ⟨f, hf⟩ ⟨32, by omega⟩
      simp only at pa
      rw [k_X7_meanOf_6_s, show (32 : Int32) = nI 32 from rfl, if_pos (nI_le (by omega) (by omega)), div120L (show y.toInt = ps5 v f 32 by rw [h, show j = 32 by omega]) (by omega) (by omega)]
    | succ d ih =>
      intro j n y hj hn h
      obtain ⟨n', rfl⟩ : ∃ n', n = n' + 1 := ⟨n - 1, by omega⟩
      rw [k_X7_meanOf_6_s, show (32 : Int32) = nI 32 from rfl, if_neg (nI_ge (by omega) (by omega)), bitI (by omega) (by omega), show nI j + (1 : Int32) = nI (j + 1) from nI_1 j]
      have bd := ps5_bd v hf hd (j + 1) (by omega)
      have pa := pw5_all ⟨f, hf⟩ ⟨j + 1, by omega⟩
      simp only at pa
      have ihj := ih (j + 1) n'
      cases hb1 : j.testBit f
      · rw [if_neg (by decide)]
        obtain ⟨r, -, -, t3, t4, t5⟩ := t_w5 ⟨j, by omega⟩ ⟨f, hf⟩ hb1
        simp only at t3 t4 t5
        have h2 := orp32 (x := j) (by omega) hf
        rw [t4, g_in r.isLt (by omega), cl _ (by have := r.isLt; omega), t3, orp hf, ob1_s (f_valueOf ok hm hi hl ha hb h2), ob1_s (f_valueOf ok hm hi hl ha hb (show j < 32 by omega))]
        refine ihj _ (by omega) (by omega) ?_
        rw [ps5, hb1, if_neg (by decide)] at bd ⊢
        have d1 := hd j (by omega)
        have d2 := hd (j ||| 2 ^ f) h2
        have s1 : (bvl α i a b (j ||| 2 ^ f) - bvl α i a b j).toInt64.toInt = v (j ||| 2 ^ f) - v j := by
          rw [Int32.toInt_toInt64, fb_subI (by rw [hv, hv]; omega) (by rw [hv, hv]; omega), hv, hv]
        have w1 : (nI (w5 j)).toInt64.toInt = (w5 j : Int) := by rw [Int32.toInt_toInt64]; exact nI_toInt (by omega)
        have h3 : -11976012 ≤ v (j ||| 2 ^ f) - v j ∧ v (j ||| 2 ^ f) - v j ≤ 11976012 := by omega
        generalize hz : v (j ||| 2 ^ f) - v j = z at h3 s1 bd ⊢
        have h4 : (w5 j : Int) * z ≤ (w5 j : Int) * 11976012 := Int.mul_le_mul_of_nonneg_left h3.2 (by omega)
        have h5 : (w5 j : Int) * (-11976012) ≤ (w5 j : Int) * z := Int.mul_le_mul_of_nonneg_left h3.1 (by omega)
        have m1 : ((nI (w5 j)).toInt64 * (bvl α i a b (j ||| 2 ^ f) - bvl α i a b j).toInt64).toInt = (w5 j : Int) * z := by
          rw [fb_mulL (by rw [w1, s1]; omega) (by rw [w1, s1]; omega), w1, s1]
        rw [fb_addL (by rw [m1, h]; omega) (by rw [m1, h]; omega), m1, h]
      · rw [if_pos (by decide)]
        refine ihj _ (by omega) (by omega) ?_
        rw [ps5, hb1, if_pos rfl]; exact h
  rw [m_X7_meanOf]
  exact key 32 0 FU 0 (by omega) (by have : FU = 5000 := rfl; omega) rfl
end
