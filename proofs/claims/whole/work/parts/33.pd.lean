/-! the guards, as truth values on both sides; the simple askings -/
def bI (b : Bool) : Int32 := if b then 1 else 0
theorem ifb {β : Type} {b : Bool} {X Y : β} : (if bI b = 0 then X else Y) = (if b then Y else X) := by
  cases b
  · exact if_pos rfl
  · exact if_neg (by decide)
def inR (n : Nat) (x : Int32) : Bool := decide (¬ x < 0 ∧ ¬ nI n ≤ x)
theorem inR_t {n : Nat} {x : Int32} (h : inR n x = true) (hn : n < 2 ^ 31) : ∃ j, j < n ∧ x = nI j := by
  have h := of_decide_eq_true h
  rcases pk_ix x hn with q | q | q
  · exact absurd q h.1
  · exact absurd q h.2
  · exact q
theorem inR_f {n : Nat} {x : Int32} (h : inR n x = false) : x < 0 ∨ nI n ≤ x := by
  have h := of_decide_eq_false h
  by_cases q : x < 0
  · exact Or.inl q
  · by_cases q2 : nI n ≤ x
    · exact Or.inr q2
    · exact absurd ⟨q, q2⟩ h
theorem inR_n {n j : Nat} (h : j < n) (hn : n < 2 ^ 31) : inR n (nI j) = true := decide_eq_true ⟨nI_pos (by omega), nI_ge h hn⟩
def lfR (α : AS) (x : Int32) : Bool := inR (zN α) x && !((zG α).testBit x.toNatClampNeg)
def grR (α : AS) (x : Int32) : Bool := inR (zN α) x && (zG α).testBit x.toNatClampNeg
section
variable {α : AS} {pg ps pn : Int32} {pp pf mno : Nat → Int32}
theorem lfR_t (ok : OKA α) {x : Int32} (h : lfR α x = true) : ∃ j, j < zN α ∧ x = nI j ∧ (zG α).testBit j = false := by
  have h20 : zN α ≤ 20 := ok.2.1
  rw [lfR, Bool.and_eq_true] at h
  obtain ⟨j, hj, rfl⟩ := inR_t h.1 (by omega)
  refine ⟨j, hj, rfl, ?_⟩
  have h2 := h.2
  rw [cl j (by omega)] at h2
  cases hb : (zG α).testBit j
  · rfl
  · rw [hb] at h2; cases h2
theorem grR_t (ok : OKA α) {x : Int32} (h : grR α x = true) : ∃ j, j < zN α ∧ x = nI j ∧ (zG α).testBit j = true := by
  have h20 : zN α ≤ 20 := ok.2.1
  rw [grR, Bool.and_eq_true] at h
  obtain ⟨j, hj, rfl⟩ := inR_t h.1 (by omega)
  refine ⟨j, hj, rfl, ?_⟩
  have h2 := h.2
  rw [cl j (by omega)] at h2
  exact h2
theorem b_isNode (ok : OKA α) (hn : pn = nI (zN α)) (x : Int32) : m_X2_isNode pn x = some (bI (inR (zN α) x)) := by
  have h20 : zN α ≤ 20 := ok.2.1
  cases h : inR (zN α) x
  · exact e_isNode_no (α := α) (inR_f h) hn
  · obtain ⟨j, hj, rfl⟩ := inR_t h (by omega)
    exact e_isNode h20 hn hj
theorem b_isLeaf (ok : OKA α) (hg : pg = nI (zG α)) (hn : pn = nI (zN α)) (x : Int32) : m_X2_isLeaf pg pn x = some (bI (lfR α x)) := by
  have h20 : zN α ≤ 20 := ok.2.1
  cases h : inR (zN α) x
  · rw [lfR, h]; exact e_isLeaf_no (α := α) (inR_f h) hn
  · obtain ⟨j, hj, rfl⟩ := inR_t h (by omega)
    rw [lfR, h, e_isLeaf ok hg hn hj, cl j (by omega)]
    cases (zG α).testBit j <;> rfl
theorem b_isGroup (ok : OKA α) (hg : pg = nI (zG α)) (hn : pn = nI (zN α)) (x : Int32) : m_X2_isGroup pg pn x = some (bI (grR α x)) := by
  have h20 : zN α ≤ 20 := ok.2.1
  cases h : inR (zN α) x
  · rw [grR, h]; exact e_isGroup_no (α := α) (inR_f h) hn
  · obtain ⟨j, hj, rfl⟩ := inR_t h (by omega)
    rw [grR, h, e_isGroup ok hg hn hj, cl j (by omega)]
    cases (zG α).testBit j <;> rfl
theorem b_isScene (ok : OKA α) (hs : ps = nI (zS α)) (x : Int32) : m_X2_isScene ps x = some (bI (inR (zS α) x)) := by
  have h4 : zS α ≤ 4 := ok.2.2.2.1
  cases h : inR (zS α) x
  · exact e_isScene_no (α := α) (inR_f h) hs
  · obtain ⟨j, hj, rfl⟩ := inR_t h (by omega)
    exact e_isScene h4 hs hj
theorem b_isFactor (x : Int32) : m_X6_isFactor x = some (bI (inR 5 x)) := by
  rw [m_X6_isFactor]
  cases h : inR 5 x
  · rcases inR_f h with q | q
    · rw [if_pos q]; rfl
    · by_cases q2 : x < 0
      · rw [if_pos q2]; rfl
      · rw [if_neg q2]; exact if_pos q
  · have h := of_decide_eq_true h
    rw [if_neg h.1]; exact if_neg h.2
theorem b_isOrder (x : Int32) : m_X6_isOrder x = some (bI (inR 120 x)) := by
  rw [m_X6_isOrder]
  cases h : inR 120 x
  · rcases inR_f h with q | q
    · rw [if_pos q]; rfl
    · by_cases q2 : x < 0
      · rw [if_pos q2]; rfl
      · rw [if_neg q2]; exact if_pos q
  · have h := of_decide_eq_true h
    rw [if_neg h.1]; exact if_neg h.2
theorem d_isIn {n : Nat} (hn : n + 1 < 2 ^ 30) (x : Int32) : m_X7_isIn x (0 : Int32) (nI n) = some (bI (inR (n + 1) x)) := by
  cases h : inR (n + 1) x
  · refine f_isIn_no ?_
    rcases inR_f h with q | q
    · exact Or.inl q
    · have := pred_le (n := n + 1) (by omega) hn q
      rw [nI_pred] at this
      exact Or.inr this
  · obtain ⟨j, hj, rfl⟩ := inR_t h (by omega)
    exact f_isIn (a := 0) (by omega) (by omega) (by omega)
theorem d_isNode (ok : OKA α) (hm : RM α mno) (x : Int32) : m_X7_isNode mno x = some (bI (inR (zN α) x)) := by
  have h20 : zN α ≤ 20 := ok.2.1
  have h1 : 1 ≤ zN α := ok.1
  rw [m_X7_isNode, if_neg (by decide), show (1 : Int32).toNatClampNeg = 1 from rfl, hm.2.1]
  obtain ⟨k, hk⟩ : ∃ k, zN α = k + 1 := ⟨zN α - 1, by omega⟩
  rw [hk, nI_pred, ob1_s (d_isIn (by omega) x)]
theorem d_isScene (ok : OKA α) (hm : RM α mno) (x : Int32) : m_X7_isScene mno x = some (bI (inR (zS α) x)) := by
  have h4 : zS α ≤ 4 := ok.2.2.2.1
  have h1 : 1 ≤ zS α := ok.2.2.1
  rw [m_X7_isScene, if_neg (by decide), show (0 : Int32).toNatClampNeg = 0 from rfl, hm.1]
  obtain ⟨k, hk⟩ : ∃ k, zS α = k + 1 := ⟨zS α - 1, by omega⟩
  rw [hk, nI_pred, ob1_s (d_isIn (by omega) x)]
theorem d_isFactor (x : Int32) : m_X7_isFactor x = some (bI (inR 5 x)) := by
  rw [m_X7_isFactor]
  exact ob1_s (d_isIn (n := 4) (by omega) x)
theorem d_isOrder (x : Int32) : m_X7_isOrder x = some (bI (inR 120 x)) := by
  rw [m_X7_isOrder]
  exact ob1_s (d_isIn (n := 119) (by omega) x)
theorem d_areScenes (ok : OKA α) (hm : RM α mno) (x y : Int32) : m_X7_areScenes mno x y = some (bI (inR (zS α) x && inR (zS α) y)) := by
  rw [m_X7_areScenes, ob1_s (d_isScene ok hm x), ifb, ob1_s (d_isScene ok hm y), ifb]
  cases inR (zS α) x <;> cases inR (zS α) y <;> rfl
theorem d_bit (ok : OKA α) (hm : RM α mno) {j : Nat} (hj : j < zN α) {β : Type} {X : Int32 → Option β} : (if ((22 : Int32) + nI j) < 0 ∨ 442 ≤ ((22 : Int32) + nI j).toNatClampNeg then none else X (mno ((22 : Int32) + nI j).toNatClampNeg)) = X (nI (if (zG α).testBit j then 1 else 0)) := by
  have h20 : zN α ≤ 20 := ok.2.1
  rw [show (22 : Int32) + nI j = nI (22 + j) from nI_add 22 j, g_in (by omega) (by omega), cl _ (by omega), hm.2.2.2.2.1 j hj]
theorem d_isLeaf (ok : OKA α) (hm : RM α mno) (x : Int32) : m_X7_isLeaf mno x = some (bI (lfR α x)) := by
  have h20 : zN α ≤ 20 := ok.2.1
  rw [m_X7_isLeaf, ob1_s (d_isNode ok hm x), ifb, lfR]
  cases h : inR (zN α) x
  · rfl
  · obtain ⟨j, hj, rfl⟩ := inR_t h (by omega)
    refine (d_bit ok hm hj (X := fun v => if v = 0 then some (1 : Int32) else some (0 : Int32))).trans ?_
    rw [cl j (by omega)]
    cases (zG α).testBit j <;> rfl
theorem d_isGroup (ok : OKA α) (hm : RM α mno) (x : Int32) : m_X7_isGroup mno x = some (bI (grR α x)) := by
  have h20 : zN α ≤ 20 := ok.2.1
  rw [m_X7_isGroup, ob1_s (d_isNode ok hm x), ifb, grR]
  cases h : inR (zN α) x
  · rfl
  · obtain ⟨j, hj, rfl⟩ := inR_t h (by omega)
    refine (d_bit ok hm hj (X := fun v => if v = (1 : Int32) then some (1 : Int32) else some (0 : Int32))).trans ?_
    rw [cl j (by omega)]
    cases (zG α).testBit j <;> rfl
/-! factor, value, how -/
theorem op_factor (ok : OKA α) (hc : RC α pg ps pn pp pf) (hm : RM α mno) (mth x1 x2 x3 : Int32) : ∃ r, m_X6_factor pg ps pn pf x1 x2 x3 = some r ∧ m_X7_factor mth mno x1 x2 x3 = some (r, 0) := by
  have h4 : zS α ≤ 4 := ok.2.2.2.1
  have h20 : zN α ≤ 20 := ok.2.1
  rw [m_X6_factor, m_X7_factor, ob1_s (b_isLeaf ok hc.1 hc.2.2.1 x1), ob1_s (d_isLeaf ok hm x1), ifb, ifb, ob1_s (b_isScene ok hc.2.1 x2), ob1_s (d_isScene ok hm x2), ifb, ifb, ob1_s (b_isFactor x3), ob1_s (d_isFactor x3), ifb, ifb]
  cases h1 : lfR α x1
  · exact ⟨-1, rfl, rfl⟩
  cases h2 : inR (zS α) x2
  · exact ⟨-1, rfl, rfl⟩
  cases h3 : inR 5 x3
  · exact ⟨-1, rfl, rfl⟩
  obtain ⟨i, hi, rfl, hl⟩ := lfR_t ok h1
  obtain ⟨k, hk, rfl⟩ := inR_t h2 (by omega)
  obtain ⟨f, hf, rfl⟩ := inR_t h3 (by omega)
  refine ⟨nI (zF α i k f), ?_, ?_⟩
  · exact ob1_s (e_fac ok hc hi hl (by omega) hf)
  · rw [if_pos rfl, if_pos rfl, if_pos rfl]
    refine (ob1_s (f_at i k f)).trans ?_
    rw [g_in (by omega) (by omega), cl _ (by omega), hm.2.2.2.2.2 i hi hl k (by omega) f hf]
theorem op_value (ok : OKA α) (hc : RC α pg ps pn pp pf) (hm : RM α mno) (mth x1 x2 : Int32) : ∃ r, m_X6_value pg ps pn pp pf x1 x2 = some r ∧ m_X7_value mth mno x1 x2 = some (r, 0) := by
  have h4 : zS α ≤ 4 := ok.2.2.2.1
  have h20 : zN α ≤ 20 := ok.2.1
  rw [m_X6_value, m_X7_value, ob1_s (b_isNode ok hc.2.2.1 x1), ob1_s (d_isNode ok hm x1), ifb, ifb, ob1_s (b_isScene ok hc.2.1 x2), ob1_s (d_isScene ok hm x2), ifb, ifb]
  cases h1 : inR (zN α) x1
  · exact ⟨-1000000000, rfl, rfl⟩
  cases h2 : inR (zS α) x2
  · exact ⟨-1000000000, rfl, rfl⟩
  obtain ⟨t, ht, rfl⟩ := inR_t h1 (by omega)
  obtain ⟨k, hk, rfl⟩ := inR_t h2 (by omega)
  exact ⟨_, ob1_s (e_nodeValue ok hc ht (by omega)), ob1_s (f_valueIn ok hm ht (by omega))⟩
theorem op_how (ok : OKA α) (hc : RC α pg ps pn pp pf) (hm : RM α mno) (mth x1 x2 x3 : Int32) : ∃ r, m_X6_how pg ps pn pf x1 x2 x3 = some r ∧ m_X7_how mth mno x1 x2 x3 = some (r, 0) := by
  have h4 : zS α ≤ 4 := ok.2.2.2.1
  have h20 : zN α ≤ 20 := ok.2.1
  rw [m_X6_how, m_X7_how, ob1_s (b_isLeaf ok hc.1 hc.2.2.1 x1), ob1_s (d_isLeaf ok hm x1), ifb, ifb, ob1_s (b_isScene ok hc.2.1 x2), ob1_s (d_areScenes ok hm x2 x3), ifb, ifb, ob1_s (b_isScene ok hc.2.1 x3), ifb]
  cases h1 : lfR α x1
  · exact ⟨-1, rfl, rfl⟩
  cases h2 : inR (zS α) x2
  · exact ⟨-1, rfl, rfl⟩
  cases h3 : inR (zS α) x3
  · exact ⟨-1, rfl, rfl⟩
  obtain ⟨i, hi, rfl, hl⟩ := lfR_t ok h1
  obtain ⟨a, ha, rfl⟩ := inR_t h2 (by omega)
  obtain ⟨b, hb, rfl⟩ := inR_t h3 (by omega)
  exact ⟨_, ob1_s (e_fate ok hc hi hl (by omega) (by omega)), ob1_s (f_how ok hm hi hl (by omega) (by omega))⟩
end
