/-! orders (by computing), units, mix, who is right below -/
noncomputable def fAt (o k : Nat) : Nat := ((m_X7_factorAt (nI o) (nI k)).getD 0).toNatClampNeg
noncomputable def ahd (o f : Nat) : Nat := ((m_X6_aheadInOrder (nI o) (nI f)).getD 0).toNatClampNeg
set_option maxRecDepth 100000 in
theorem t_order : ∀ o : Fin 120, (m_X6_digitsOfOrder (nI o.val)).isSome = true ∧ k_X7_order_18 FU 0 (nI o.val) 0 0 = (m_X6_digitsOfOrder (nI o.val)).map (fun r => (r, 0)) := by decide +kernel
set_option maxRecDepth 100000 in
theorem t_fAt : ∀ o : Fin 120, ∀ k : Fin 5, m_X7_factorAt (nI o.val) (nI k.val) = some (nI (fAt o.val k.val)) ∧ fAt o.val k.val < 5 := by decide +kernel
set_option maxRecDepth 100000 in
theorem t_ahd : ∀ o : Fin 120, ∀ f : Fin 5, m_X6_aheadInOrder (nI o.val) (nI f.val) = some (nI (ahd o.val f.val)) ∧ ahd o.val f.val < 32 ∧ (ahd o.val f.val).testBit f.val = false := by decide +kernel
/-- what the other side's loop gathers -/
def gat (fA : Nat → Nat) (f : Nat) : Nat → Nat → Nat → Option Nat
  | 0, _, _ => none
  | n + 1, k, dn => if fA k = f then some dn else if k < 4 then gat fA f n (k + 1) (dn ||| 2 ^ fA k) else none
set_option maxRecDepth 100000 in
theorem t_gat : ∀ o : Fin 120, ∀ f : Fin 5, gat (fAt o.val) f.val 5 0 0 = some (ahd o.val f.val) := by decide +kernel
theorem op_order (mth x1 : Int32) : ∃ r, m_X6_order x1 = some r ∧ m_X7_order mth x1 = some (r, 0) := by
  rw [m_X6_order, m_X7_order, ob1_s (b_isOrder x1), ob1_s (d_isOrder x1), ifb, ifb]
  cases h : inR 120 x1
  · exact ⟨-1, rfl, rfl⟩
  obtain ⟨o, ho, rfl⟩ := inR_t h (by omega)
  have t := t_order ⟨o, ho⟩
  obtain ⟨r, hr⟩ := Option.isSome_iff_exists.mp t.1
  refine ⟨r, ob1_s hr, ?_⟩
  have t2 := t.2
  rw [hr] at t2
  rw [if_pos rfl, t2]
  rfl
section
variable {α : AS} {pg ps pn : Int32} {pp pf mno : Nat → Int32}
def stl (α : AS) (t a b i : Nat) : Bool := lfb α t i && decide (howA α i a b = 0)
def usum (α : AS) (t a b k : Nat) : Int32 := vsum (stl α t a b) (fun i => nI (zF α i k 0)) (zN α)
theorem how3 (α : AS) (i a b : Nat) : howA α i a b < 3 := by
  rw [howA]; split <;> split <;> omega
theorem mtk {t : Nat} (ok : OKA α) : mkm (lfb α t) (zN α) < 2 ^ 20 := Nat.lt_of_lt_of_le (mkm_lt _ _) (Nat.pow_le_pow_right (by omega) ok.2.1)
theorem e_staying (ok : OKA α) (hc : RC α pg ps pn pp pf) {t a b k : Nat} (ht : t < zN α) (ha : a < 4) (hb : b < 4) (hk : k < 4) : m_X0_stayingUnits pg pn pp pf (nI t) (nI a) (nI b) (nI k) = some (usum α t a b k) := by
  have h20 : zN α ≤ 20 := ok.2.1
  have hn := hc.2.2.1
  have key : ∀ (d j n : Nat), j + d = zN α → d < n → k_X0_stayingUnits_16 pg pn pp pf n (nI a) (nI b) (nI k) (nI (mkm (lfb α t) (zN α))) (vsum (stl α t a b) (fun i => nI (zF α i k 0)) j) (nI j) = some (usum α t a b k) := by
    intro d
    induction d with
    | zero =>
      intro j n hj hd
      obtain ⟨n', rfl⟩ : ∃ n', n = n' + 1 := ⟨n - 1, by omega⟩
      rw [k_X0_stayingUnits_16_s, hn, if_pos (nI_le (by omega) (by omega)), show j = zN α by omega, usum]
    | succ d ih =>
      intro j n hj hd
      obtain ⟨n', rfl⟩ : ∃ n', n = n' + 1 := ⟨n - 1, by omega⟩
      have hjN : j < zN α := by omega
      rw [k_X0_stayingUnits_16_s, if_neg (by rw [hn]; exact nI_ge hjN (by omega)), bitI (mtk ok) (by omega), mkm_bit, show nI j + (1 : Int32) = nI (j + 1) from nI_1 j]
      have ihj := ih (j + 1) n' (by omega) (by omega)
      cases hb1 : lfb α t j
      · rw [vsum, stl, hb1, if_neg (by simp)] at ihj
        rw [if_pos (by simp; rfl)]
        exact ihj
      · rw [if_neg (by simp [hjN]; decide), ob1_s (e_fate ok hc hjN (lfb_leaf hb1) ha hb)]
        have h3 := how3 α j a b
        by_cases q : howA α j a b = 0
        · rw [vsum, stl, hb1, if_pos (by simp [q])] at ihj
          rw [q, if_pos nI_0]
          exact (ob1_s (e_fac ok hc hjN (lfb_leaf hb1) hk (f := 0) (by omega))).trans ihj
        · rw [vsum, stl, hb1, if_neg (by simp [q])] at ihj
          rw [if_neg (nI_ne0 (by omega) (by omega))]
          exact ihj
  rw [m_X0_stayingUnits, ob1_s (e_leavesBelow ok hc ht)]
  have h1 : 1 ≤ zN α := ok.1
  have := key (zN α - 1) 1 FU (by omega) (by have : FU = 5000 := rfl; omega)
  rw [show vsum (stl α t a b) (fun i => nI (zF α i k 0)) 1 = 0 by simp [vsum, stl, lfb, ok.2.2.2.2.2.1]] at this
  exact this
theorem f_units (ok : OKA α) (hm : RM α mno) {t a b k : Nat} (ht : t < zN α) (ha : a < 4) (hb : b < 4) (hk : k < 4) : m_X7_unitsOf mno (nI t) (nI a) (nI b) (nI k) = some (usum α t a b k) := by
  have h20 : zN α ≤ 20 := ok.2.1
  have r1 := hm.2.1
  have key : ∀ (d j n : Nat), j + d = zN α → d < n → k_X7_unitsOf_6 mno n (nI t) (nI a) (nI b) (nI k) (vsum (stl α t a b) (fun i => nI (zF α i k 0)) j) (nI j) = some (usum α t a b k) := by
    intro d
    induction d with
    | zero =>
      intro j n hj hd
      obtain ⟨n', rfl⟩ : ∃ n', n = n' + 1 := ⟨n - 1, by omega⟩
      rw [k_X7_unitsOf_6_s, if_neg (by decide), show (1 : Int32).toNatClampNeg = 1 from rfl, r1, if_pos (nI_le (by omega) (by omega)), show j = zN α by omega, usum]
    | succ d ih =>
      intro j n hj hd
      obtain ⟨n', rfl⟩ : ∃ n', n = n' + 1 := ⟨n - 1, by omega⟩
      have hjN : j < zN α := by omega
      rw [k_X7_unitsOf_6_s, if_neg (by decide), show (1 : Int32).toNatClampNeg = 1 from rfl, r1, if_neg (nI_ge hjN (by omega)), ob1_s (f_isLeafOf ok hm hjN ht), show nI j + (1 : Int32) = nI (j + 1) from nI_1 j]
      have ihj := ih (j + 1) n' (by omega) (by omega)
      cases hb1 : lfb α t j
      · rw [vsum, stl, hb1, if_neg (by simp)] at ihj
        rw [if_pos (by decide)]
        exact ihj
      · rw [if_neg (by decide), ob1_s (f_how ok hm hjN (lfb_leaf hb1) ha hb)]
        have h3 := how3 α j a b
        by_cases q : howA α j a b = 0
        · rw [vsum, stl, hb1, if_pos (by simp [q])] at ihj
          rw [q, if_pos nI_0]
          refine (ob1_s (f_at j k 0)).trans ?_
          rw [g_in (by omega) (by omega), cl _ (by omega), hm.2.2.2.2.2 j hjN (lfb_leaf hb1) k hk 0 (by omega)]
          exact ihj
        · rw [vsum, stl, hb1, if_neg (by simp [q])] at ihj
          rw [if_neg (nI_ne0 (by omega) (by omega))]
          exact ihj
  rw [m_X7_unitsOf]
  exact key (zN α) 0 FU (by omega) (by have : FU = 5000 := rfl; omega)
theorem op_mix (ok : OKA α) (hc : RC α pg ps pn pp pf) (hm : RM α mno) (mth x1 x2 x3 : Int32) : ∃ r, m_X6_mix pg ps pn pp pf x1 x2 x3 = some r ∧ m_X7_mix mth mno x1 x2 x3 = some (r, 0) := by
  have h4 : zS α ≤ 4 := ok.2.2.2.1
  have h20 : zN α ≤ 20 := ok.2.1
  rw [m_X6_mix, m_X7_mix, ob1_s (b_isNode ok hc.2.2.1 x1), ob1_s (d_isNode ok hm x1), ifb, ifb, ob1_s (b_isScene ok hc.2.1 x2), ob1_s (d_areScenes ok hm x2 x3), ifb, ifb, ob1_s (b_isScene ok hc.2.1 x3), ifb]
  cases h1 : inR (zN α) x1
  · exact ⟨-1000000000, rfl, rfl⟩
  by_cases h0 : x1 = 0
  · rw [if_pos rfl, if_pos h0, if_pos rfl, if_pos h0]; exact ⟨-1000000000, rfl, rfl⟩
  rw [if_pos rfl, if_neg h0, if_pos rfl, if_neg h0]
  cases h2 : inR (zS α) x2
  · exact ⟨-1000000000, rfl, rfl⟩
  cases h3 : inR (zS α) x3
  · exact ⟨-1000000000, rfl, rfl⟩
  obtain ⟨t, ht, rfl⟩ := inR_t h1 (by omega)
  obtain ⟨a, ha, rfl⟩ := inR_t h2 (by omega)
  obtain ⟨b, hb, rfl⟩ := inR_t h3 (by omega)
  have t0 : t ≠ 0 := fun e => h0 (by rw [e]; rfl)
  obtain ⟨rk, hr⟩ := ok.2.2.2.2.2.2.1
  have hp := (hr t (Nat.pos_of_ne_zero t0) ht).1
  have pe := f_parent hm.2.2.1 hm.2.2.2.1 h20 ht
  rw [if_neg t0] at pe
  rw [if_pos rfl, if_pos rfl, show (true && true) = true from rfl, if_pos rfl, m_X0_mixOf, g_in (by omega) (by omega), cl _ (by omega), hc.2.2.2.2.1 t (Nat.pos_of_ne_zero t0) ht]
  rw [ob1_s (e_staying ok hc hp (by omega) (by omega) (by omega)), ob1_s pe, ob1_s (f_units ok hm hp (by omega) (by omega) (by omega))]
  by_cases z : usum α (zP α t) a b a = 0
  · rw [if_pos z, if_pos z]
    exact ⟨0, rfl, rfl⟩
  · rw [if_neg z, if_neg z, ob1_s (e_staying ok hc hp (by omega) (by omega) (by omega)), ob1_s (e_staying ok hc ht (by omega) (by omega) (by omega)), if_neg z, ob1_s (e_staying ok hc ht (by omega) (by omega) (by omega)), ob1_s (f_units ok hm ht (by omega) (by omega) (by omega)), ob1_s pe, ob1_s (f_units ok hm hp (by omega) (by omega) (by omega)), ob1_s (f_units ok hm ht (by omega) (by omega) (by omega)), if_neg z]
    exact ⟨_, rfl, rfl⟩
end
