/-! the order that flatters, the movers, the branch -/
def absI (d : Int32) : Int32 := if 0 ≤ d then d else 0 - d
theorem neg0 (d : Int32) : -d = 0 - d := by rw [Int32.zero_sub]
section
variable {α : AS} {pg ps pn : Int32} {pp pf mno : Nat → Int32}
def bsum (α : AS) (t a b s : Nat) : Int32 := vsum (stl α t a b) (fun i => bvl α i a b s) (zN α)
theorem f_effOf (ok : OKA α) (hm : RM α mno) {i a b o f : Nat} (hi : i < zN α) (hl : (zG α).testBit i = false) (ha : a < 4) (hb : b < 4) (ho : o < 120) (hf : f < 5) : m_X7_effectOf mno (nI i) (nI a) (nI b) (nI o) (nI f) = some (if howA α i a b = 0 then bvl α i a b (ahd o f ||| 2 ^ f) - bvl α i a b (ahd o f) else 0) := by
  have vb : m_X7_valueOf mno (nI i) (nI b) (nI b) (0 : Int32) = some (bvl α i b b 0) := f_valueOf ok hm hi hl hb hb (s := 0) (by omega)
  have va : m_X7_valueOf mno (nI i) (nI a) (nI a) (0 : Int32) = some (bvl α i a a 0) := f_valueOf ok hm hi hl ha ha (s := 0) (by omega)
  have h3 := how3 α i a b
  rw [m_X7_effectOf, ob1_s (f_how ok hm hi hl ha hb), ob1_s vb, ob1_s va]
  by_cases q : howA α i a b = 0
  · rw [q, if_pos nI_0, if_pos rfl, if_neg (show ¬ (5 : Int32) ≤ nI f from nI_ge (b := 5) hf (by omega)), if_neg (nI_m1 (by omega)), ob1_s (f_step ok hm hi hl ha hb ho hf)]
  · rw [if_neg (nI_ne0 (by omega) (by omega)), if_neg q, show (4 : Int32) + nI (howA α i a b) = nI (4 + howA α i a b) from nI_add 4 _, if_neg (nI_ne (by omega) (by omega) (by omega))]
theorem vsum_stl {t a b : Nat} (g h : Nat → Int32) : ∀ n, vsum (lfb α t) (fun i => if howA α i a b = 0 then g i - h i else 0) n = vsum (stl α t a b) g n - vsum (stl α t a b) h n
  | 0 => by simp [vsum]
  | n + 1 => by
    have ih := vsum_stl (t := t) (a := a) (b := b) g h n
    rw [vsum, vsum, vsum, ih, stl]
    cases lfb α t n
    · simp
    · by_cases q : howA α n a b = 0
      · simp only [q, if_true, Bool.true_and, decide_true]
        rw [ring1]
      · simp [q]
theorem f_effIn (ok : OKA α) (hm : RM α mno) {t a b o f : Nat} (ht : t < zN α) (ha : a < 4) (hb : b < 4) (ho : o < 120) (hf : f < 5) : m_X7_effectIn mno (nI t) (nI a) (nI b) (nI o) (nI f) = some (bsum α t a b (ahd o f ||| 2 ^ f) - bsum α t a b (ahd o f)) := by
  have h20 : zN α ≤ 20 := ok.2.1
  rw [bsum, bsum, ← vsum_stl]
  generalize hg : (fun i => if howA α i a b = 0 then bvl α i a b (ahd o f ||| 2 ^ f) - bvl α i a b (ahd o f) else 0) = g
  have key : ∀ (d j n : Nat), j + d = zN α → d < n → k_X7_effectIn_6 mno n (nI t) (nI a) (nI b) (nI o) (nI f) (vsum (lfb α t) g j) (nI j) = some (vsum (lfb α t) g (zN α)) := by
    intro d
    induction d with
    | zero =>
      intro j n hj hd
      obtain ⟨n', rfl⟩ : ∃ n', n = n' + 1 := ⟨n - 1, by omega⟩
      rw [k_X7_effectIn_6_s, if_neg (by decide), show (1 : Int32).toNatClampNeg = 1 from rfl, hm.2.1, if_pos (nI_le (by omega) (by omega)), show j = zN α by omega]
    | succ d ih =>
      intro j n hj hd
      obtain ⟨n', rfl⟩ : ∃ n', n = n' + 1 := ⟨n - 1, by omega⟩
      have hjN : j < zN α := by omega
      rw [k_X7_effectIn_6_s, if_neg (by decide), show (1 : Int32).toNatClampNeg = 1 from rfl, hm.2.1, if_neg (nI_ge hjN (by omega)), ob1_s (f_isLeafOf ok hm hjN ht), show nI j + (1 : Int32) = nI (j + 1) from nI_1 j]
      have ihj := ih (j + 1) n' (by omega) (by omega)
      cases hb1 : lfb α t j
      · rw [vsum, hb1, if_neg (by decide)] at ihj
        rw [if_pos (by decide)]
        exact ihj
      · rw [vsum, hb1, if_pos rfl] at ihj
        rw [if_neg (by decide), ob1_s (f_effOf ok hm hjN (lfb_leaf hb1) ha hb ho hf)]
        subst hg
        exact ihj
  rw [m_X7_effectIn]
  exact key (zN α) 0 FU (by omega) (by have : FU = 5000 := rfl; omega)
theorem op_flatters (ok : OKA α) (hc : RC α pg ps pn pp pf) (hm : RM α mno) (bb : Nat → Int32) (mth x1 x2 x3 x4 : Int32) : ∃ r bb', m_X6_flatters pg ps pn pp pf bb x1 x2 x3 x4 = some (r, bb') ∧ m_X7_flatters mth mno x1 x2 x3 x4 = some (r, 0) := by
  have hS4 : zS α ≤ 4 := ok.2.2.2.1
  have h20 : zN α ≤ 20 := ok.2.1
  rw [m_X6_flatters, m_X7_flatters, ob1_s (b_isNode ok hc.2.2.1 x1), ob1_s (d_isNode ok hm x1), ifb, ifb, ob1_s (b_isScene ok hc.2.1 x2), ob1_s (d_areScenes ok hm x2 x3), ifb, ifb, ob1_s (b_isScene ok hc.2.1 x3), ifb, ob1_s (b_isFactor x4), ob1_s (d_isFactor x4), ifb, ifb]
  cases h1 : inR (zN α) x1
  · exact ⟨-1, bb, rfl, rfl⟩
  cases h2 : inR (zS α) x2
  · exact ⟨-1, bb, rfl, rfl⟩
  cases h3 : inR (zS α) x3
  · exact ⟨-1, bb, rfl, rfl⟩
  cases h4 : inR 5 x4
  · exact ⟨-1, bb, rfl, rfl⟩
  obtain ⟨t, ht, rfl⟩ := inR_t h1 (by omega)
  obtain ⟨a, ha, rfl⟩ := inR_t h2 (by omega)
  obtain ⟨b, hb, rfl⟩ := inR_t h3 (by omega)
  obtain ⟨f, hf, rfl⟩ := inR_t h4 (by omega)
  have ha : a < 4 := by omega
  have hb : b < 4 := by omega
  rw [if_pos rfl, if_pos rfl, if_pos rfl, if_pos rfl, if_pos rfl, show (true && true) = true from rfl, if_pos rfl, if_pos rfl]
  have e0 : m_X7_effectIn mno (nI t) (nI a) (nI b) (0 : Int32) (nI f) = some (bsum α t a b (ahd 0 f ||| 2 ^ f) - bsum α t a b (ahd 0 f)) := f_effIn ok hm ht ha hb (o := 0) (by omega) hf
  rw [ob1_s e0]
  have best : ∀ (bc : Nat → Int32), (∀ s, s < 32 → bc s = bsum α t a b s) → ∀ (d o n n2 : Nat) (y z : Int32), o + d = 120 → d < n → d < n2 → ∃ r, k_X0_bestOrder_16 bc n (nI f) y z (nI o) = some r ∧ k_X7_flatters_50 mno n2 0 (nI t) (nI a) (nI b) (nI f) y z (nI o) = some (r, 0) := by
    intro bc hbc d
    induction d with
    | zero =>
      intro o n n2 y z ho h1 h2
      obtain ⟨n', rfl⟩ : ∃ n', n = n' + 1 := ⟨n - 1, by omega⟩
      obtain ⟨m', rfl⟩ : ∃ m', n2 = m' + 1 := ⟨n2 - 1, by omega⟩
      refine ⟨y, ?_, ?_⟩
      · rw [k_X0_bestOrder_16_s, show (120 : Int32) = nI 120 from rfl, if_pos (nI_le (by omega) (by omega))]
      · rw [k_X7_flatters_50_s, show (120 : Int32) = nI 120 from rfl, if_pos (nI_le (by omega) (by omega))]
    | succ d ih =>
      intro o n n2 y z ho h1 h2
      obtain ⟨n', rfl⟩ : ∃ n', n = n' + 1 := ⟨n - 1, by omega⟩
      obtain ⟨m', rfl⟩ : ∃ m', n2 = m' + 1 := ⟨n2 - 1, by omega⟩
      have ho1 : o < 120 := by omega
      have t2 := t_ahd ⟨o, ho1⟩ ⟨f, hf⟩
      simp only at t2
      rw [k_X0_bestOrder_16_s, k_X7_flatters_50_s, show (120 : Int32) = nI 120 from rfl, if_neg (nI_ge ho1 (by omega)), if_neg (nI_ge ho1 (by omega)), ob1_s t2.1, ob1_s (e_step bc t2.2.1 hf), hbc _ (orp32 t2.2.1 hf), hbc _ t2.2.1, ob1_s (f_effIn ok hm ht ha hb ho1 hf), show nI o + (1 : Int32) = nI (o + 1) from nI_1 o]
      by_cases q : bsum α t a b (ahd o f ||| 2 ^ f) - bsum α t a b (ahd o f) ≤ z
      · rw [if_pos q, if_neg (Int32.not_lt.mpr q)]
        exact ih (o + 1) n' m' _ _ (by omega) (by omega) (by omega)
      · rw [if_neg q, if_pos (Int32.not_le.mp q)]
        exact ih (o + 1) n' m' _ _ (by omega) (by omega) (by omega)
  obtain ⟨b0, ef, hf0⟩ := e_fill (an := 32) (by omega) bb 0
  have key : ∀ (d j n : Nat) (bc : Nat → Int32), j + d = zN α → d < n → (∀ s, s < 32 → bc s = vsum (stl α t a b) (fun i => bvl α i a b s) j) → ∃ bd, k_X0_mostFlattering_21 pg pn pp pf n bc (nI a) (nI b) (nI f) (nI (mkm (lfb α t) (zN α))) (nI j) = ob1 (m_X0_bestOrder bd (nI f)) (fun r4 => some (r4, bd)) ∧ ∀ s, s < 32 → bd s = bsum α t a b s := by
    intro d
    induction d with
    | zero =>
      intro j n bc hj hd h
      obtain ⟨n', rfl⟩ : ∃ n', n = n' + 1 := ⟨n - 1, by omega⟩
      refine ⟨bc, ?_, fun s hs => by rw [h s hs, show j = zN α by omega, bsum]⟩
      rw [k_X0_mostFlattering_21_s, hc.2.2.1, if_pos (nI_le (by omega) (by omega))]
    | succ d ih =>
      intro j n bc hj hd h
      obtain ⟨n', rfl⟩ : ∃ n', n = n' + 1 := ⟨n - 1, by omega⟩
      have hjN : j < zN α := by omega
      rw [k_X0_mostFlattering_21_s, if_neg (by rw [hc.2.2.1]; exact nI_ge hjN (by omega)), bitI (mtk ok) (by omega), mkm_bit, show nI j + (1 : Int32) = nI (j + 1) from nI_1 j]
      cases hb1 : lfb α t j
      · rw [if_pos (by simp; rfl)]
        exact ih (j + 1) n' bc (by omega) (by omega) (fun s hs => by rw [h s hs, vsum, stl, hb1, if_neg (by simp)])
      · rw [if_neg (by simp [hjN]; decide), ob1_s (e_fate ok hc hjN (lfb_leaf hb1) ha hb)]
        have h3 := how3 α j a b
        by_cases q : howA α j a b = 0
        · obtain ⟨b2, e2, h2⟩ := e_addBlends ok hc hjN (lfb_leaf hb1) ha hb bc
          rw [q, if_pos nI_0, ob1_s e2]
          exact ih (j + 1) n' b2 (by omega) (by omega) (fun s hs => by rw [h2 s hs, h s hs, vsum, stl, hb1, if_pos (by simp [q])])
        · rw [if_neg (nI_ne0 (by omega) (by omega))]
          exact ih (j + 1) n' bc (by omega) (by omega) (fun s hs => by rw [h s hs, vsum, stl, hb1, if_neg (by simp [q])])
  have hN1 : 1 ≤ zN α := ok.1
  have z0 : lfb α t 0 = false := by simp [lfb, ok.2.2.2.2.2.1]
  obtain ⟨bd, k1, k2⟩ := key (zN α - 1) 1 FU b0 (by omega) (by have : FU = 5000 := rfl; omega) (fun s hs => by rw [hf0 s hs]; simp [vsum, stl, z0])
  have t0 := t_ahd ⟨0, by omega⟩ ⟨f, hf⟩
  simp only at t0
  have t00 : m_X6_aheadInOrder (0 : Int32) (nI f) = some (nI (ahd 0 f)) := t0.1
  obtain ⟨r, r1, r2⟩ := best bd k2 119 1 FU FU 0 (bsum α t a b (ahd 0 f ||| 2 ^ f) - bsum α t a b (ahd 0 f)) (by omega) (by decide) (by decide)
  have e3 : m_X0_mostFlattering bb pg pn pp pf (nI t) (nI a) (nI b) (nI f) = some (r, bd) := by
    have e5 : m_X0_bestOrder bd (nI f) = some r := by
      rw [m_X0_bestOrder, ob1_s t00, ob1_s (e_step bd t0.2.1 hf), k2 _ (orp32 t0.2.1 hf), k2 _ t0.2.1]
      exact r1
    rw [m_X0_mostFlattering, ob1_s (e_leavesBelow ok hc ht), ob1_s ef]
    refine k1.trans ?_
    rw [ob1_s e5]
  exact ⟨r, bd, ob2_s e3, r2⟩
end
