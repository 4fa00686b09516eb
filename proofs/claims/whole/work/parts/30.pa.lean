/-! the abstract state of the plan, and what each side's cells say of it -/
abbrev AS : Type := Nat × Nat × Nat × (Nat → Nat) × (Nat → Nat → Nat → Nat)
abbrev zN (α : AS) : Nat := α.1
abbrev zS (α : AS) : Nat := α.2.1
abbrev zG (α : AS) : Nat := α.2.2.1
abbrev zP (α : AS) : Nat → Nat := α.2.2.2.1
abbrev zF (α : AS) : Nat → Nat → Nat → Nat := α.2.2.2.2
def lo5 (f : Nat) : Nat := ([0, 0, 0, 1, 10] : List Nat).getD f 0
def hi5 (f : Nat) : Nat := ([999, 999, 999, 200, 100] : List Nat).getD f 0
def OKA (α : AS) : Prop := 1 ≤ zN α ∧ zN α ≤ 20 ∧ 1 ≤ zS α ∧ zS α ≤ 4 ∧ zG α < 2 ^ zN α ∧ (zG α).testBit 0 = true ∧ (∃ rk : Nat → Nat, ∀ i, 0 < i → i < zN α → zP α i < zN α ∧ (zG α).testBit (zP α i) = true ∧ rk (zP α i) < rk i) ∧ ∀ i, i < zN α → (zG α).testBit i = false → ∀ k, k < 4 → ∀ f, f < 5 → lo5 f ≤ zF α i k f ∧ zF α i k f ≤ hi5 f
def RC (α : AS) (pg ps pn : Int32) (pp pf : Nat → Int32) : Prop := pg = nI (zG α) ∧ ps = nI (zS α) ∧ pn = nI (zN α) ∧ pp 0 = -1 ∧ (∀ i, 0 < i → i < zN α → pp i = nI (zP α i)) ∧ ∀ i, i < zN α → (zG α).testBit i = false → ∀ k, k < 4 → ∀ f, f < 5 → pf (100 * k + 5 * i + f) = nI (zF α i k f)
def RM (α : AS) (mno : Nat → Int32) : Prop := mno 0 = nI (zS α) ∧ mno 1 = nI (zN α) ∧ mno 2 = -1 ∧ (∀ i, 0 < i → i < zN α → mno (2 + i) = nI (zP α i)) ∧ (∀ i, i < zN α → mno (22 + i) = nI (if (zG α).testBit i then 1 else 0)) ∧ ∀ i, i < zN α → (zG α).testBit i = false → ∀ k, k < 4 → ∀ f, f < 5 → mno (42 + 20 * i + 5 * k + f) = nI (zF α i k f)
theorem g_in {α : Type} {n N : Nat} {x : Option α} (h : n < N) (hN : N < 2 ^ 31) : (if nI n < 0 ∨ N ≤ (nI n).toNatClampNeg then none else x) = x := if_neg (nI_in h hN)
theorem cl (n : Nat) (h : n < 2 ^ 31) : (nI n).toNatClampNeg = n := nI_clamp h
theorem gbl {α : AS} (h : OKA α) : zG α < 2 ^ 20 := Nat.lt_of_lt_of_le h.2.2.2.2.1 (Nat.pow_le_pow_right (by omega) h.2.1)
/-- a bit of a mask -/
theorem bitI {g i : Nat} (hg : g < 2 ^ 20) (hi : i < 20) : (nI g >>> (nI i &&& 31)) &&& (1 : Int32) = nI (if g.testBit i then 1 else 0) := by
  have e1 : nI i &&& 31 = nI i := by
    rw [show (31 : Int32) = nI (2 ^ 5 - 1) from rfl, fa_mask]; congr 1; exact Nat.mod_eq_of_lt (by omega)
  have e2 : ((nI i).toBitVec.smod 32).toNat = i := by
    have := (by decide : ∀ j : Fin 20, ((nI j.val).toBitVec.smod 32).toNat = j.val) ⟨i, hi⟩
    exact this
  rw [e1, pk_shrN (by omega) _ i e2, show (1 : Int32) = nI (2 ^ 1 - 1) from rfl, fa_mask]
  congr 1
  rw [Nat.testBit_eq_decide_div_mod_eq]
  rcases Nat.mod_two_eq_zero_or_one (g / 2 ^ i) with h | h <;> simp [h]
theorem bitN0 {g i : Nat} : (nI (if g.testBit i then 1 else 0) = (0 : Int32)) ↔ g.testBit i = false := by
  cases g.testBit i
  · exact ⟨fun _ => rfl, fun _ => rfl⟩
  · exact ⟨fun h => absurd h (by decide), fun h => by cases h⟩
theorem shl1 {i : Nat} (hi : i < 20) : (1 : Int32) <<< (nI i &&& 31) = nI (2 ^ i) := by
  exact (by decide : ∀ j : Fin 20, (1 : Int32) <<< (nI j.val &&& 31) = nI (2 ^ j.val)) ⟨i, hi⟩
section
variable {α : AS} {pg ps pn : Int32} {pp pf mno : Nat → Int32}
theorem e_isNode {j : Nat} (hN : zN α ≤ 20) (hn : pn = nI (zN α)) (h : j < zN α) : m_X2_isNode pn (nI j) = some 1 := by
  rw [m_X2_isNode, if_neg (nI_pos (by omega)), hn, if_neg (nI_ge h (by omega))]
theorem e_isNode_no {x : Int32} (h : x < 0 ∨ nI (zN α) ≤ x) (hn : pn = nI (zN α)) : m_X2_isNode pn x = some 0 := by
  rw [m_X2_isNode]
  rcases h with h | h
  · rw [if_pos h]
  · by_cases h0 : x < 0
    · rw [if_pos h0]
    · rw [if_neg h0, hn, if_pos h]
theorem e_isGroup {j : Nat} (ok : OKA α) (hg : pg = nI (zG α)) (hn : pn = nI (zN α)) (h : j < zN α) : m_X2_isGroup pg pn (nI j) = some (nI (if (zG α).testBit j then 1 else 0)) := by
  have h20 : zN α ≤ 20 := ok.2.1
  rw [m_X2_isGroup, ob1_s (e_isNode h20 hn h), if_neg (by decide), hg, bitI (gbl ok) (by omega)]
  cases hb : (zG α).testBit j
  · rfl
  · rfl
theorem e_isGroup_no {x : Int32} (h : x < 0 ∨ nI (zN α) ≤ x) (hn : pn = nI (zN α)) : m_X2_isGroup pg pn x = some 0 := by
  rw [m_X2_isGroup, ob1_s (e_isNode_no h hn), if_pos rfl]
theorem e_isLeaf {j : Nat} (ok : OKA α) (hg : pg = nI (zG α)) (hn : pn = nI (zN α)) (h : j < zN α) : m_X2_isLeaf pg pn (nI j) = some (nI (if (zG α).testBit j then 0 else 1)) := by
  have h20 : zN α ≤ 20 := ok.2.1
  rw [m_X2_isLeaf, ob1_s (e_isNode h20 hn h), if_neg (by decide), hg, bitI (gbl ok) (by omega)]
  cases hb : (zG α).testBit j
  · rfl
  · rfl
theorem e_isLeaf_no {x : Int32} (h : x < 0 ∨ nI (zN α) ≤ x) (hn : pn = nI (zN α)) : m_X2_isLeaf pg pn x = some 0 := by
  rw [m_X2_isLeaf, ob1_s (e_isNode_no h hn), if_pos rfl]
theorem e_isScene {j : Nat} (hS : zS α ≤ 4) (hs : ps = nI (zS α)) (h : j < zS α) : m_X2_isScene ps (nI j) = some 1 := by
  rw [m_X2_isScene, if_neg (nI_pos (by omega)), hs, if_neg (nI_ge h (by omega))]
theorem e_isScene_no {x : Int32} (h : x < 0 ∨ nI (zS α) ≤ x) (hs : ps = nI (zS α)) : m_X2_isScene ps x = some 0 := by
  rw [m_X2_isScene]
  rcases h with h | h
  · rw [if_pos h]
  · by_cases h0 : x < 0
    · rw [if_pos h0]
    · rw [if_neg h0, hs, if_pos h]
/-! the other side -/
theorem f_isIn {j a b : Nat} (h1 : a ≤ j) (h2 : j ≤ b) (hb : b < 2 ^ 31) : m_X7_isIn (nI j) (nI a) (nI b) = some 1 := by
  rw [m_X7_isIn, if_neg (nI_nlt h1 (by omega)), if_neg (nI_nlt h2 hb)]
theorem f_isIn_no {x a b : Int32} (h : x < a ∨ b < x) : m_X7_isIn x a b = some 0 := by
  rw [m_X7_isIn]
  by_cases h0 : x < a
  · rw [if_pos h0]
  · rw [if_neg h0, if_pos (h.resolve_left h0)]
theorem pred_le {n : Nat} (h1 : 1 ≤ n) (h2 : n < 2 ^ 30) {x : Int32} (h : nI n ≤ x) : nI n - (1 : Int32) < x := by
  obtain ⟨k, rfl⟩ : ∃ k, n = k + 1 := ⟨n - 1, by omega⟩
  rw [nI_pred]
  rw [Int32.lt_iff_toInt_lt, nI_toInt (by omega)]
  rw [Int32.le_iff_toInt_le, nI_toInt (by omega)] at h
  omega
theorem f_isNode {j : Nat} (ok : OKA α) (r1 : mno 1 = nI (zN α)) (h : j < zN α) : m_X7_isNode mno (nI j) = some 1 := by
  have h20 : zN α ≤ 20 := ok.2.1
  rw [m_X7_isNode, if_neg (by decide), show (1 : Int32).toNatClampNeg = 1 from rfl, r1]
  obtain ⟨k, hk⟩ : ∃ k, zN α = k + 1 := ⟨zN α - 1, by omega⟩
  rw [hk, nI_pred, show (0 : Int32) = nI 0 from rfl, ob1_s (f_isIn (by omega) (by omega) (by omega))]
theorem f_isNode_no {x : Int32} (ok : OKA α) (r1 : mno 1 = nI (zN α)) (h : x < 0 ∨ nI (zN α) ≤ x) : m_X7_isNode mno x = some 0 := by
  have h20 : zN α ≤ 20 := ok.2.1
  rw [m_X7_isNode, if_neg (by decide), show (1 : Int32).toNatClampNeg = 1 from rfl, r1]
  rw [ob1_s (f_isIn_no (h.imp id (fun q => pred_le ok.1 (by omega) q)))]
end
