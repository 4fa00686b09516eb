/-! node on both sides -/
section
variable {α : AS} {pg ps pn : Int32} {pp pf mno : Nat → Int32}
theorem right2 (ok : OKA α) (hc : RC α pg ps pn pp pf) (hm : RM α mno) (mth y1 : Int32) : ∀ (d j n n2 : Nat) (acc : Int32), j + d = zN α → 1 ≤ j → d < n → d < n2 → ∃ r, k_X2_nodesRightBelow_4 pn pp n y1 acc (nI j) = some r ∧ k_X7_node_68 mno n2 mth y1 acc (nI j) = some (r, mth) := by
  have h20 : zN α ≤ 20 := ok.2.1
  have hpn : pn = nI (zN α) := hc.2.2.1
  have hm1 : mno 1 = nI (zN α) := hm.2.1
  intro d
  induction d with
  | zero =>
    intro j n n2 acc hj h1 hn hn2
    obtain ⟨n', rfl⟩ : ∃ n', n = n' + 1 := ⟨n - 1, by omega⟩
    obtain ⟨m', rfl⟩ : ∃ m', n2 = m' + 1 := ⟨n2 - 1, by omega⟩
    refine ⟨acc, ?_, ?_⟩
    · rw [k_X2_nodesRightBelow_4_s, hpn, if_pos (nI_le (by omega) (by omega))]
    · rw [k_X7_node_68_s, if_neg (show ¬ ((1 : Int32) < 0 ∨ 442 ≤ (1 : Int32).toNatClampNeg) by decide), show (1 : Int32).toNatClampNeg = 1 from rfl, hm1, if_pos (nI_le (by omega) (by omega))]
  | succ d ih =>
    intro j n n2 acc hj h1 hn hn2
    obtain ⟨n', rfl⟩ : ∃ n', n = n' + 1 := ⟨n - 1, by omega⟩
    obtain ⟨m', rfl⟩ : ∃ m', n2 = m' + 1 := ⟨n2 - 1, by omega⟩
    have pe := f_parent hm.2.2.1 hm.2.2.2.1 h20 (show j < zN α by omega)
    rw [if_neg (show ¬ j = 0 by omega)] at pe
    rw [k_X2_nodesRightBelow_4_s, if_neg (show ¬ pn ≤ nI j by rw [hpn]; exact nI_ge (by omega) (by omega)), g_in (by omega) (by omega), cl j (by omega), hc.2.2.2.2.1 j (by omega) (by omega), k_X7_node_68_s, if_neg (show ¬ ((1 : Int32) < 0 ∨ 442 ≤ (1 : Int32).toNatClampNeg) by decide), show (1 : Int32).toNatClampNeg = 1 from rfl, hm1, if_neg (nI_ge (by omega) (by omega)), ob1_s pe, show nI j + (1 : Int32) = nI (j + 1) from nI_1 j]
    by_cases w : nI (zP α j) = y1
    · rw [if_pos w, if_pos w]; exact ih (j + 1) n' m' _ (by omega) (by omega) (by omega) (by omega)
    · rw [if_neg w, if_neg w]; exact ih (j + 1) n' m' _ (by omega) (by omega) (by omega) (by omega)
theorem op_node (ok : OKA α) (hc : RC α pg ps pn pp pf) (hm : RM α mno) (mth x1 x2 : Int32) :
    (∃ r1, m_X2_isNode pn x1 = some r1 ∧ (r1 = 0 ∨ x2 < 0 ∨ ¬ x2 ≤ 3) ∧ m_X7_node mth mno x1 x2 = some (0, 1)) ∨
    (∃ r, m_X6_node pg pn pp x1 x2 = some r ∧ m_X7_node mth mno x1 x2 = some (r, 0)) := by
  have h20 : zN α ≤ 20 := ok.2.1
  have hN1 : 1 ≤ zN α := ok.1
  have i4 : m_X7_isIn x2 (0 : Int32) (3 : Int32) = some (bI (inR 4 x2)) := d_isIn (n := 3) (by omega) x2
  rw [m_X7_node, ob1_s (d_isNode ok hm x1), ifb, k_X7_node_22, m_X7_refuse, ob2_s rfl, ob1_s i4, ifb]
  cases c1 : inR (zN α) x1
  · rw [itf]
    exact Or.inl ⟨0, e_isNode_no (inR_f c1) hc.2.2.1, Or.inl rfl, rfl⟩
  obtain ⟨j, hj, rfl⟩ := inR_t c1 (by omega)
  rw [itt]
  cases c2 : inR 4 x2
  · rw [itf]
    refine Or.inl ⟨1, e_isNode h20 hc.2.2.1 hj, Or.inr ?_, rfl⟩
    rcases inR_f c2 with w | w
    · exact Or.inl w
    · refine Or.inr (fun h => ?_)
      have h : x2 ≤ (3 : Int32) := h
      rw [fa_le] at h w
      have e3 : (3 : Int32).toInt = 3 := rfl
      have e4 : (nI 4).toInt = 4 := rfl
      omega
  obtain ⟨k, hk, rfl⟩ := inR_t c2 (by omega)
  rw [itt]
  refine Or.inr ?_
  have pe := f_parent hm.2.2.1 hm.2.2.2.1 h20 hj
  rw [m_X6_node, ob1_s (e_isNode h20 hc.2.2.1 hj), if_neg (by decide), if_neg (nI_pos (by omega)), if_pos (show nI k ≤ (3 : Int32) from nI_le (b := 3) (by omega) (by omega))]
  rcases (show k = 0 ∨ k = 1 ∨ k = 2 ∨ k = 3 by omega) with rfl | rfl | rfl | rfl
  · rw [if_pos (show nI 0 = (0 : Int32) from rfl), if_pos (show nI 0 = (0 : Int32) from rfl), g_in (by omega) (by omega), cl j (by omega), ob1_s pe]
    refine ⟨_, rfl, ?_⟩
    by_cases w : j = 0
    · rw [if_pos w, w, hc.2.2.2.1]
    · rw [if_neg w, hc.2.2.2.2.1 j (by omega) hj]
  · rw [if_neg (show ¬ nI 1 = (0 : Int32) by decide), if_neg (show ¬ nI 1 = (0 : Int32) by decide), if_pos (show nI 1 = (1 : Int32) from rfl), if_pos (show nI 1 = (1 : Int32) from rfl), ob1_s (e_isGroup ok hc.1 hc.2.2.1 hj), show (22 : Int32) + nI j = nI (22 + j) from nI_add 22 j, g_in (by omega) (by omega), cl (22 + j) (by omega), hm.2.2.2.2.1 j hj]
    cases (zG α).testBit j
    · exact ⟨_, rfl, rfl⟩
    · exact ⟨_, rfl, rfl⟩
  · rw [if_neg (show ¬ nI 2 = (0 : Int32) by decide), if_neg (show ¬ nI 2 = (0 : Int32) by decide), if_neg (show ¬ nI 2 = (1 : Int32) by decide), if_neg (show ¬ nI 2 = (1 : Int32) by decide), if_pos (show nI 2 = (2 : Int32) from rfl), if_neg (show ¬ nI 2 = (3 : Int32) by decide)]
    have hFU : 20 < FU := by decide
    obtain ⟨r, r1, r2⟩ := right2 ok hc hm 0 (nI j) (zN α - 1) 1 FU FU 0 (by omega) (by omega) (by omega) (by omega)
    have r1' : m_X2_nodesRightBelow pn pp (nI j) = some r := r1
    have r2' : k_X7_node_68 mno FU 0 (nI j) 0 1 = some (r, 0) := r2
    rw [ob1_s r1', r2']
    exact ⟨_, rfl, rfl⟩
  · rw [if_neg (show ¬ nI 3 = (0 : Int32) by decide), if_neg (show ¬ nI 3 = (0 : Int32) by decide), if_neg (show ¬ nI 3 = (1 : Int32) by decide), if_neg (show ¬ nI 3 = (1 : Int32) by decide), if_neg (show ¬ nI 3 = (2 : Int32) by decide), if_pos (show nI 3 = (3 : Int32) from rfl), ob1_s (e_leavesBelow ok hc hj), ob1_s (f_leavesOf ok hm hj)]
    exact ⟨_, rfl, rfl⟩
end
