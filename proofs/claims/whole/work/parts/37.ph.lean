/-! the effects of a leaf, of a node; the order that flatters most -/
theorem nI_m1 {j : Nat} (hj : j < 2 ^ 31) : ¬ nI j = (-1 : Int32) := fun e => by
  have := congrArg Int32.toInt e
  rw [nI_toInt hj] at this
  have h2 : (-1 : Int32).toInt = -1 := rfl
  omega
section
variable {α : AS} {pg ps pn : Int32} {pp pf mno : Nat → Int32}
theorem bvl_31 (α : AS) (i a b : Nat) : bvl α i b b 0 = bvl α i a b 31 := rfl
theorem bvl_0 (α : AS) (i a b : Nat) : bvl α i a a 0 = bvl α i a b 0 := rfl
theorem f_step (ok : OKA α) (hm : RM α mno) {i a b o f : Nat} (hi : i < zN α) (hl : (zG α).testBit i = false) (ha : a < 4) (hb : b < 4) (ho : o < 120) (hf : f < 5) : m_X7_stepOf mno (nI i) (nI a) (nI b) (nI o) (nI f) = some (bvl α i a b (ahd o f ||| 2 ^ f) - bvl α i a b (ahd o f)) := by
  have key : ∀ (g k dn n res : Nat), k < 5 → dn < 32 → g ≤ n → gat (fAt o) f g k dn = some res → k_X7_stepOf_6 mno n (nI i) (nI a) (nI b) (nI o) (nI f) (nI dn) (nI k) = some (bvl α i a b (res ||| 2 ^ f) - bvl α i a b res) := by
    intro g
    induction g with
    | zero => intro k dn n res hk hd hn h; cases h
    | succ g ih =>
      intro k dn n res hk hd hn h
      obtain ⟨n', rfl⟩ : ∃ n', n = n' + 1 := ⟨n - 1, by omega⟩
      have t := t_fAt ⟨o, ho⟩ ⟨k, hk⟩
      simp only at t
      rw [k_X7_stepOf_6_s, ob1_s t.1]
      rw [gat] at h
      by_cases q : fAt o k = f
      · rw [if_pos q] at h
        cases h
        rw [q, if_pos rfl, orp hf, ob1_s (f_valueOf ok hm hi hl ha hb (orp32 hd hf)), ob1_s (f_valueOf ok hm hi hl ha hb hd)]
      · rw [if_neg q] at h
        rw [if_neg (nI_ne q (by omega) (by omega)), ob1_s t.1, orp t.2, show nI k + (1 : Int32) = nI (k + 1) from nI_1 k]
        by_cases q4 : k < 4
        · rw [if_pos q4] at h
          exact ih (k + 1) _ n' res (by omega) (orp32 hd t.2) (by omega) h
        · rw [if_neg q4] at h; cases h
  rw [m_X7_stepOf]
  exact key 5 0 0 FU _ (by omega) (by omega) (by decide) (t_gat ⟨o, ho⟩ ⟨f, hf⟩)
theorem e_diff (bb : Nat → Int32) : m_X0_blendedDifference bb = some (bb 31 - bb 0) := rfl
/-- the effects of one leaf are the same -/
theorem l_eff (ok : OKA α) (hc : RC α pg ps pn pp pf) (hm : RM α mno) {i a b k : Nat} (hi : i < zN α) (hl : (zG α).testBit i = false) (ha : a < 4) (hb : b < 4) (hk : k < 8) {x4 : Int32} (h4 : x4 = -1 ∨ ∃ o, o < 120 ∧ x4 = nI o) (bb : Nat → Int32) :
    ∃ r bb', m_X0_leafEffect bb pf (nI i) (nI a) (nI b) x4 (nI k) = some (r, bb') ∧ m_X7_effectOf mno (nI i) (nI a) (nI b) x4 (nI k) = some r := by
  obtain ⟨b7, e7, h7⟩ := e_fill (an := 32) (by omega) bb 0
  obtain ⟨b9, e9, h9⟩ := e_addBlends ok hc hi hl ha hb b7
  have hv : ∀ s, s < 32 → b9 s = bvl α i a b s := fun s hs => by rw [h9 s hs, h7 s hs, Int32.zero_add]
  have h3 := how3 α i a b
  have vb := f_valueOf ok hm hi hl hb hb (s := 0) (by omega)
  have va := f_valueOf ok hm hi hl ha ha (s := 0) (by omega)
  rw [bvl_31 α i a b] at vb
  rw [bvl_0 α i a b] at va
  have hvi : ∀ s, s < 32 → (b9 s).toInt = (fun s => (bvl α i a b s).toInt) s := fun s hs => by rw [hv s hs]
  have hbd : ∀ s, s < 32 → -9980010 ≤ (fun s => (bvl α i a b s).toInt) s ∧ (fun s => (bvl α i a b s).toInt) s ≤ 1996002 := fun s _ => bvl_bd ok hi hl ha hb
  have em := fun (f : Nat) (hf : f < 5) => e_mean b9 (fun s => (bvl α i a b s).toInt) hf hvi hbd
  have fm := fun (f : Nat) (hf : f < 5) => f_mean ok hm hi hl ha hb hf
  generalize hV : (fun s => (bvl α i a b s).toInt) = V at hvi hbd em fm
  have rest : ∀ (d j n n2 : Nat) (y : Int32), j + d = 5 → d < n → d < n2 → ∃ r, k_X0_restOfMeans_7 b9 n y (nI j) = some r ∧ k_X7_effectOf_103 mno n2 (nI i) (nI a) (nI b) y (nI j) = some r := by
    intro d
    induction d with
    | zero =>
      intro j n n2 y hj h1 h2
      obtain ⟨n', rfl⟩ : ∃ n', n = n' + 1 := ⟨n - 1, by omega⟩
      obtain ⟨m', rfl⟩ : ∃ m', n2 = m' + 1 := ⟨n2 - 1, by omega⟩
      refine ⟨y, ?_, ?_⟩
      · rw [k_X0_restOfMeans_7_s, show (5 : Int32) = nI 5 from rfl, if_pos (nI_le (by omega) (by omega))]
      · rw [k_X7_effectOf_103_s, show (5 : Int32) = nI 5 from rfl, if_pos (nI_le (by omega) (by omega))]
    | succ d ih =>
      intro j n n2 y hj h1 h2
      obtain ⟨n', rfl⟩ : ∃ n', n = n' + 1 := ⟨n - 1, by omega⟩
      obtain ⟨m', rfl⟩ : ∃ m', n2 = m' + 1 := ⟨n2 - 1, by omega⟩
      rw [k_X0_restOfMeans_7_s, k_X7_effectOf_103_s, show (5 : Int32) = nI 5 from rfl, if_neg (nI_ge (by omega) (by omega)), if_neg (nI_ge (by omega) (by omega)), ob1_s (em j (by omega)), ob1_s (fm j (by omega)), show nI j + (1 : Int32) = nI (j + 1) from nI_1 j]
      exact ih (j + 1) n' m' _ (by omega) (by omega) (by omega)
  have vb0 : m_X7_valueOf mno (nI i) (nI b) (nI b) (0 : Int32) = some (bvl α i a b 31) := vb
  have va0 : m_X7_valueOf mno (nI i) (nI a) (nI a) (0 : Int32) = some (bvl α i a b 0) := va
  rw [m_X0_leafEffect, m_X7_effectOf, ob1_s e7, ob1_s e9, ob1_s (e_fate ok hc hi hl ha hb), ob1_s (f_how ok hm hi hl ha hb), ob1_s vb0, ob1_s va0]
  by_cases q : howA α i a b = 0
  · rw [q, if_pos nI_0, if_pos nI_0]
    by_cases k5 : 5 ≤ k
    · have k5' : (5 : Int32) ≤ nI k := nI_le (a := 5) k5 (by omega)
      rw [if_pos k5', if_pos k5']
      rcases h4 with rfl | ⟨o, ho, rfl⟩
      · rw [if_pos rfl]
        by_cases k7 : k = 7
        · subst k7
          rw [if_pos (show nI 7 = (7 : Int32) from rfl), if_pos (show nI 7 = (7 : Int32) from rfl), if_pos rfl]
          obtain ⟨r, r1, r2⟩ := rest 5 0 FU FU (bvl α i a b 31 - bvl α i a b 0) (by omega) (by decide) (by decide)
          refine ⟨r, b9, ?_, r2⟩
          have e : m_X0_restOfMeans b9 = some r := by
            rw [m_X0_restOfMeans, ob1_s (e_diff b9), hv 31 (by omega), hv 0 (by omega)]
            exact r1
          exact ob1_s e
        · have k7' : ¬ nI k = (7 : Int32) := nI_ne (b := 7) k7 (by omega) (by omega)
          rw [if_neg k7', if_neg k7']
          exact ⟨0, b9, rfl, rfl⟩
      · have o1 : ¬ nI o = (-1 : Int32) := nI_m1 (by omega)
        rw [if_neg o1, if_neg o1]
        refine ⟨0, b9, rfl, ?_⟩
        split <;> rfl
    · have k5' : ¬ (5 : Int32) ≤ nI k := nI_ge (b := 5) (by omega) (by omega)
      rw [if_neg k5', if_neg k5']
      rcases h4 with rfl | ⟨o, ho, rfl⟩
      · rw [if_pos rfl, if_pos rfl]
        exact ⟨_, b9, ob1_s (em k (by omega)), ob1_s (fm k (by omega))⟩
      · have o1 : ¬ nI o = (-1 : Int32) := nI_m1 (by omega)
        have t := t_ahd ⟨o, ho⟩ ⟨k, by omega⟩
        simp only at t
        rw [if_neg o1, if_neg o1, ob1_s t.1, ob1_s (e_step b9 t.2.1 (by omega)), hv _ (orp32 t.2.1 (by omega)), hv _ t.2.1]
        exact ⟨_, b9, rfl, ob1_s (f_step ok hm hi hl ha hb ho (by omega))⟩
  · have q0 : ¬ nI (howA α i a b) = 0 := nI_ne0 (by omega) (by omega)
    rw [if_neg q0, if_neg q0]
    have L41 : ∀ (w : Nat), w < 8 → k_X0_leafEffect_41 pf b9 (nI k) (nI w) = (if k = w then some (bvl α i a b 31 - bvl α i a b 0, b9) else some (0, b9)) := by
      intro w hw
      rw [k_X0_leafEffect_41, ob1_s (e_diff b9), hv 31 (by omega), hv 0 (by omega)]
      by_cases e : k = w
      · rw [if_pos (by rw [e]), if_pos e]
      · rw [if_neg (nI_ne e (by omega) (by omega)), if_neg e]
    rw [show (4 : Int32) + nI (howA α i a b) = nI (4 + howA α i a b) from nI_add 4 _]
    have hc2 : howA α i a b = 1 ∨ howA α i a b = 2 := by omega
    rcases hc2 with e | e
    · rw [e, if_pos (show nI 1 = (1 : Int32) from rfl), show (5 : Int32) = nI 5 from rfl, L41 5 (by omega)]
      by_cases k5 : k = 5
      · rw [if_pos k5, if_pos (by rw [k5])]; exact ⟨_, b9, rfl, rfl⟩
      · rw [if_neg k5, if_neg (nI_ne k5 (by omega) (by omega))]; exact ⟨_, b9, rfl, rfl⟩
    · rw [e, if_neg (show ¬ nI 2 = (1 : Int32) by decide), show (6 : Int32) = nI 6 from rfl, L41 6 (by omega)]
      by_cases k5 : k = 6
      · rw [if_pos k5, if_pos (by rw [k5])]; exact ⟨_, b9, rfl, rfl⟩
      · rw [if_neg k5, if_neg (nI_ne k5 (by omega) (by omega))]; exact ⟨_, b9, rfl, rfl⟩
theorem op_effect (ok : OKA α) (hc : RC α pg ps pn pp pf) (hm : RM α mno) (bb : Nat → Int32) (mth x1 x2 x3 x4 x5 : Int32) : ∃ r bb', m_X6_effect pg ps pn pp pf bb x1 x2 x3 x4 x5 = some (r, bb') ∧ m_X7_effect mth mno x1 x2 x3 x4 x5 = some (r, 0) := by
  have hS4 : zS α ≤ 4 := ok.2.2.2.1
  have h20 : zN α ≤ 20 := ok.2.1
  rw [m_X6_effect, m_X7_effect, ob1_s (b_isNode ok hc.2.2.1 x1), ob1_s (d_isNode ok hm x1), ifb, ifb, ob1_s (b_isScene ok hc.2.1 x2), ob1_s (d_areScenes ok hm x2 x3), ifb, ifb, ob1_s (b_isScene ok hc.2.1 x3), ifb, ob1_s (b_isOrder x4), ob1_s (d_isOrder x4), ifb, ifb]
  cases h1 : inR (zN α) x1
  · exact ⟨-1000000000, bb, rfl, rfl⟩
  cases h2 : inR (zS α) x2
  · exact ⟨-1000000000, bb, rfl, rfl⟩
  cases h3 : inR (zS α) x3
  · exact ⟨-1000000000, bb, rfl, rfl⟩
  obtain ⟨t, ht, rfl⟩ := inR_t h1 (by omega)
  obtain ⟨a, ha, rfl⟩ := inR_t h2 (by omega)
  obtain ⟨b, hb, rfl⟩ := inR_t h3 (by omega)
  rw [if_pos rfl, if_pos rfl, if_pos rfl, if_pos rfl, show (true && true) = true from rfl, if_pos rfl]
  have body : ∀ (x4 : Int32), (x4 = -1 ∨ ∃ o, o < 120 ∧ x4 = nI o) → ∃ r bb', k_X6_effect_50 pg ps pn pp pf bb (nI t) (nI a) (nI b) x4 x5 = some (r, bb') ∧ k_X7_effect_36 mno 0 (nI t) (nI a) (nI b) x4 x5 = some (r, 0) := by
    intro x4 h4
    have f1 : m_X7_isIn x5 (0 : Int32) (7 : Int32) = some (bI (inR 8 x5)) := d_isIn (n := 7) (by omega) x5
    rw [k_X6_effect_50, k_X7_effect_36, ob1_s f1, ifb]
    cases h5 : inR 8 x5
    · rcases inR_f h5 with q | q
      · rw [if_pos q]; exact ⟨_, bb, rfl, rfl⟩
      · by_cases q2 : x5 < 0
        · rw [if_pos q2]; exact ⟨_, bb, rfl, rfl⟩
        · rw [if_neg q2, if_neg (fun e => by
            have e1 := Int32.le_iff_toInt_le.mp e
            have e2 := Int32.le_iff_toInt_le.mp q
            rw [nI_toInt (by omega)] at e2
            have : (7 : Int32).toInt = 7 := rfl
            omega)]
          exact ⟨_, bb, rfl, rfl⟩
    · obtain ⟨k, hk, rfl⟩ := inR_t h5 (by omega)
      rw [if_neg (nI_pos (by omega)), if_pos (show nI k ≤ (7 : Int32) from nI_le (b := 7) (by omega) (by omega)), if_pos rfl]
      have key : ∀ (d j n n2 : Nat) (y : Int32) (bc : Nat → Int32), j + d = zN α → d < n → d < n2 → ∃ r bb', k_X0_nodeEffect_16 pg pn pp pf n bc (nI a) (nI b) x4 (nI k) (nI (mkm (lfb α t) (zN α))) y (nI j) = some (r, bb') ∧ k_X7_effectIn_6 mno n2 (nI t) (nI a) (nI b) x4 (nI k) y (nI j) = some r := by
        intro d
        induction d with
        | zero =>
          intro j n n2 y bc hj hd1 hd2
          obtain ⟨n', rfl⟩ : ∃ n', n = n' + 1 := ⟨n - 1, by omega⟩
          obtain ⟨m', rfl⟩ : ∃ m', n2 = m' + 1 := ⟨n2 - 1, by omega⟩
          refine ⟨y, bc, ?_, ?_⟩
          · rw [k_X0_nodeEffect_16_s, hc.2.2.1, if_pos (nI_le (by omega) (by omega))]
          · rw [k_X7_effectIn_6_s, if_neg (by decide), show (1 : Int32).toNatClampNeg = 1 from rfl, hm.2.1, if_pos (nI_le (by omega) (by omega))]
        | succ d ih =>
          intro j n n2 y bc hj hd1 hd2
          obtain ⟨n', rfl⟩ : ∃ n', n = n' + 1 := ⟨n - 1, by omega⟩
          obtain ⟨m', rfl⟩ : ∃ m', n2 = m' + 1 := ⟨n2 - 1, by omega⟩
          have hjN : j < zN α := by omega
          rw [k_X0_nodeEffect_16_s, k_X7_effectIn_6_s, if_neg (by rw [hc.2.2.1]; exact nI_ge hjN (by omega)), bitI (mtk ok) (by omega), mkm_bit, if_neg (show ¬ ((1 : Int32) < 0 ∨ 442 ≤ (1 : Int32).toNatClampNeg) by decide), show (1 : Int32).toNatClampNeg = 1 from rfl, hm.2.1, if_neg (nI_ge hjN (by omega)), ob1_s (f_isLeafOf ok hm hjN ht), show nI j + (1 : Int32) = nI (j + 1) from nI_1 j]
          cases hb1 : lfb α t j
          · rw [if_pos (by simp; rfl), if_pos (by decide)]
            exact ih (j + 1) n' m' y bc (by omega) (by omega) (by omega)
          · rw [if_neg (by simp [hjN]; decide), if_neg (by decide)]
            obtain ⟨r, b2, e1, e2⟩ := l_eff ok hc hm hjN (lfb_leaf hb1) (show a < 4 by omega) (show b < 4 by omega) hk h4 bc
            rw [ob2_s e1, ob1_s e2]
            exact ih (j + 1) n' m' _ b2 (by omega) (by omega) (by omega)
      have hN1 : 1 ≤ zN α := ok.1
      have z0 : lfb α t 0 = false := by simp [lfb, ok.2.2.2.2.2.1]
      obtain ⟨r, b2, e1, e2⟩ := key (zN α - 1) 1 FU 4999 0 bb (by omega) (by have : FU = 5000 := rfl; omega) (by omega)
      have e3 : m_X0_nodeEffect bb pg pn pp pf (nI t) (nI a) (nI b) x4 (nI k) = some (r, b2) := by
        rw [m_X0_nodeEffect, ob1_s (e_leavesBelow ok hc ht)]; exact e1
      have e4 : m_X7_effectIn mno (nI t) (nI a) (nI b) x4 (nI k) = some r := by
        rw [m_X7_effectIn, show FU = 4999 + 1 from rfl, k_X7_effectIn_6_s, if_neg (by decide), show (1 : Int32).toNatClampNeg = 1 from rfl, hm.2.1, if_neg (show ¬ nI (zN α) ≤ (0 : Int32) from nI_ge (a := 0) (by omega) (by omega))]
        refine (ob1_s (f_isLeafOf ok hm (i := 0) (by omega) ht)).trans ?_
        rw [z0, if_pos (by decide)]
        exact e2
      exact ⟨r, b2, ob2_s e3, ob1_s e4⟩
  by_cases h4 : x4 = -1
  · rw [if_pos h4, if_pos h4]
    exact body x4 (Or.inl h4)
  · rw [if_neg h4, if_neg h4]
    cases h5 : inR 120 x4
    · exact ⟨-1000000000, bb, rfl, rfl⟩
    · obtain ⟨o, ho, rfl⟩ := inR_t h5 (by omega)
      exact body _ (Or.inr ⟨o, ho, rfl⟩)
end
