/-! the tree: climbing, and masks of leaves -/
def anc (par : Nat → Nat) : Nat → Nat → Nat → Bool
  | 0, i, t => decide (i = t)
  | n + 1, i, t => if i = t then true else if i = 0 then false else anc par n (par i) t
def rch (par : Nat → Nat) : Nat → Nat → Prop
  | 0, i => i = 0
  | n + 1, i => i = 0 ∨ rch par n (par i)
def cli (par : Nat → Nat) (i : Nat) : Nat → Nat
  | 0 => i
  | k + 1 => par (cli par i k)
theorem cli_s (par : Nat → Nat) (i : Nat) : ∀ k, cli par i (k + 1) = cli par (par i) k
  | 0 => rfl
  | k + 1 => by rw [cli, cli_s par i k]; rfl
theorem rch_of (par : Nat → Nat) : ∀ (d i : Nat), (∃ k, k ≤ d ∧ cli par i k = 0) → rch par d i
  | 0, i, h => by
    obtain ⟨k, hk, e⟩ := h
    have : k = 0 := by omega
    subst this; exact e
  | d + 1, i, h => by
    obtain ⟨k, hk, e⟩ := h
    cases k with
    | zero => exact Or.inl e
    | succ k => exact Or.inr (rch_of par d (par i) ⟨k, by omega, by rw [← cli_s]; exact e⟩)
theorem rch_all {α : AS} (ok : OKA α) {i : Nat} (hi : i < zN α) : rch (zP α) 19 i := by
  obtain ⟨rk, hr⟩ := ok.2.2.2.2.2.2.1
  have h20 : zN α ≤ 20 := ok.2.1
  refine rch_of _ _ _ ?_
  apply Classical.byContradiction
  intro hn
  have hz : ∀ k, k ≤ 19 → cli (zP α) i k ≠ 0 := fun k hk e => hn ⟨k, hk, e⟩
  have hin : ∀ k, k ≤ 20 → cli (zP α) i k < zN α := by
    intro k
    induction k with
    | zero => intro _; exact hi
    | succ k ih =>
      intro hk
      exact (hr (cli (zP α) i k) (Nat.pos_of_ne_zero (hz k (by omega))) (ih (by omega))).1
  have hlt : ∀ b a, a < b → b ≤ 20 → rk (cli (zP α) i b) < rk (cli (zP α) i a) := by
    intro b
    induction b with
    | zero => intro a h; omega
    | succ b ih =>
      intro a h1 h2
      have h3 := (hr (cli (zP α) i b) (Nat.pos_of_ne_zero (hz b (by omega))) (hin b (by omega))).2.2
      rcases Nat.lt_or_ge a b with q | q
      · exact Nat.lt_trans h3 (ih a q (by omega))
      · have : a = b := by omega
        subst this; exact h3
  have := fb_holes (zN α) 21 (cli (zP α) i) (fun k hk => hin k (by omega)) (fun a b h1 h2 e => by
    have := hlt b a h1 (by omega)
    rw [e] at this; omega)
  omega
section
variable {α : AS} {pg ps pn : Int32} {pp pf mno : Nat → Int32}
theorem nI_ne {a b : Nat} (h : a ≠ b) (ha : a < 2 ^ 31) (hb : b < 2 ^ 31) : ¬ nI a = nI b := fun e => h ((nI_eq ha hb).mp e)
theorem e_within (ok : OKA α) (hn : pn = nI (zN α)) (h0 : pp 0 = -1) (hp : ∀ i, 0 < i → i < zN α → pp i = nI (zP α i)) {t : Nat} (ht : t < zN α) :
    ∀ (d i st n : Nat), rch (zP α) d i → i < zN α → st + d < 20 → d + 1 < n → k_X2_isWithin_5 pn pp n (nI t) (nI i) (nI st) = some (nI (if anc (zP α) d i t then 1 else 0)) := by
  have h20 : zN α ≤ 20 := ok.2.1
  obtain ⟨rk, hr⟩ := ok.2.2.2.2.2.2.1
  have fin : ∀ (st n : Nat), 0 < n → st < 100 → k_X2_isWithin_5 pn pp n (nI t) (-1) (nI st) = some 0 := by
    intro st n hn0 hst
    obtain ⟨n', rfl⟩ : ∃ n', n = n' + 1 := ⟨n - 1, by omega⟩
    rw [k_X2_isWithin_5_s]
    by_cases h : (20 : Int32) ≤ nI st
    · rw [if_pos h]
    · rw [if_neg h, ob1_s (e_isNode_no (α := α) (Or.inl (by decide)) hn), if_pos rfl]
  intro d
  induction d with
  | zero =>
    intro i st n hr0 hi hst hnn
    obtain ⟨n', rfl⟩ : ∃ n', n = n' + 1 := ⟨n - 1, by omega⟩
    have e0 : i = 0 := hr0
    subst e0
    rw [k_X2_isWithin_5_s, show (20 : Int32) = nI 20 from rfl, if_neg (nI_ge (by omega) (by omega)), ob1_s (e_isNode h20 hn hi), if_neg (by decide)]
    by_cases h : 0 = t
    · subst h; rw [if_pos rfl]; rfl
    · rw [if_neg (nI_ne h (by omega) (by omega)), g_in (by omega) (by omega), cl 0 (by omega), h0, show nI st + (1 : Int32) = nI (st + 1) from nI_1 st, fin (st + 1) n' (by omega) (by omega)]
      simp [anc, h]; rfl
  | succ d ih =>
    intro i st n hr0 hi hst hnn
    obtain ⟨n', rfl⟩ : ∃ n', n = n' + 1 := ⟨n - 1, by omega⟩
    rw [k_X2_isWithin_5_s, show (20 : Int32) = nI 20 from rfl, if_neg (nI_ge (by omega) (by omega)), ob1_s (e_isNode h20 hn hi), if_neg (by decide)]
    by_cases h : i = t
    · subst h; rw [if_pos rfl, anc, if_pos rfl]; rfl
    · rw [if_neg (nI_ne h (by omega) (by omega)), g_in (by omega) (by omega), cl i (by omega), show nI st + (1 : Int32) = nI (st + 1) from nI_1 st]
      by_cases h1 : i = 0
      · subst h1
        rw [h0, fin (st + 1) n' (by omega) (by omega), anc, if_neg h, if_pos rfl]; rfl
      · have h2 := hr i (Nat.pos_of_ne_zero h1) hi
        rw [hp i (Nat.pos_of_ne_zero h1) hi, ih (zP α i) (st + 1) n' (hr0.resolve_left h1) h2.1 (by omega) (by omega), anc, if_neg h, if_neg h1]
theorem e_isWithin (ok : OKA α) (hn : pn = nI (zN α)) (h0 : pp 0 = -1) (hp : ∀ i, 0 < i → i < zN α → pp i = nI (zP α i)) {i t : Nat} (hi : i < zN α) (ht : t < zN α) : m_X2_isWithin pn pp (nI i) (nI t) = some (nI (if anc (zP α) 19 i t then 1 else 0)) := by
  rw [m_X2_isWithin]
  exact e_within ok hn h0 hp ht 19 i 0 FU (rch_all ok hi) hi (by omega) (by decide)
theorem f_parent (r2 : mno 2 = -1) (hp : ∀ i, 0 < i → i < zN α → mno (2 + i) = nI (zP α i)) (h20 : zN α ≤ 20) {i : Nat} (hi : i < zN α) : m_X7_parentOf mno (nI i) = some (if i = 0 then -1 else nI (zP α i)) := by
  rw [m_X7_parentOf, show (2 : Int32) + nI i = nI (2 + i) from nI_add 2 i, g_in (by omega) (by omega), cl _ (by omega)]
  by_cases h : i = 0
  · subst h; rw [if_pos rfl, r2]
  · rw [if_neg h, hp i (Nat.pos_of_ne_zero h) hi]
theorem f_below (ok : OKA α) (r2 : mno 2 = -1) (hp : ∀ i, 0 < i → i < zN α → mno (2 + i) = nI (zP α i)) {t : Nat} (ht : t < zN α) :
    ∀ (d i n : Nat), rch (zP α) d i → i < zN α → d + 1 < n → k_X7_isBelow_2 mno n (nI t) (nI i) = some (nI (if anc (zP α) d i t then 1 else 0)) := by
  have h20 : zN α ≤ 20 := ok.2.1
  obtain ⟨rk, hr⟩ := ok.2.2.2.2.2.2.1
  have m1 : ∀ j : Nat, j < 2 ^ 31 → ¬ nI j = (-1 : Int32) := fun j hj e => by
    have := congrArg Int32.toInt e
    rw [nI_toInt hj] at this
    have h2 : (-1 : Int32).toInt = -1 := rfl
    omega
  have fin : ∀ (n : Nat), 0 < n → k_X7_isBelow_2 mno n (nI t) (-1) = some 0 := by
    intro n hn0
    obtain ⟨n', rfl⟩ : ∃ n', n = n' + 1 := ⟨n - 1, by omega⟩
    rw [k_X7_isBelow_2_s, if_pos rfl, k_X7_isBelow_21, if_neg (fun e => m1 t (by omega) e.symm)]
  intro d
  induction d with
  | zero =>
    intro i n hr0 hi hnn
    obtain ⟨n', rfl⟩ : ∃ n', n = n' + 1 := ⟨n - 1, by omega⟩
    have e0 : i = 0 := hr0
    subst e0
    rw [k_X7_isBelow_2_s, if_neg (m1 0 (by omega))]
    by_cases h : 0 = t
    · subst h; rw [if_pos rfl, k_X7_isBelow_21, if_pos rfl]; rfl
    · rw [if_neg (nI_ne h (by omega) (by omega)), ob1_s (f_parent r2 hp h20 hi), if_pos rfl, fin n' (by omega)]
      simp [anc, h]; rfl
  | succ d ih =>
    intro i n hr0 hi hnn
    obtain ⟨n', rfl⟩ : ∃ n', n = n' + 1 := ⟨n - 1, by omega⟩
    rw [k_X7_isBelow_2_s, if_neg (m1 i (by omega))]
    by_cases h : i = t
    · subst h; rw [if_pos rfl, k_X7_isBelow_21, if_pos rfl, anc, if_pos rfl]; rfl
    · rw [if_neg (nI_ne h (by omega) (by omega)), ob1_s (f_parent r2 hp h20 hi)]
      by_cases h1 : i = 0
      · rw [if_pos h1, fin n' (by omega), anc, if_neg h, if_pos h1]; rfl
      · have h2 := hr i (Nat.pos_of_ne_zero h1) hi
        rw [if_neg h1, ih (zP α i) n' (hr0.resolve_left h1) h2.1 (by omega), anc, if_neg h, if_neg h1]
theorem f_isBelow (ok : OKA α) (r2 : mno 2 = -1) (hp : ∀ i, 0 < i → i < zN α → mno (2 + i) = nI (zP α i)) {i t : Nat} (hi : i < zN α) (ht : t < zN α) : m_X7_isBelow mno (nI i) (nI t) = some (nI (if anc (zP α) 19 i t then 1 else 0)) := by
  rw [m_X7_isBelow]
  exact f_below ok r2 hp ht 19 i FU (rch_all ok hi) hi (by decide)
end
/-- a mask of those below n that P takes -/
def mkm (P : Nat → Bool) : Nat → Nat
  | 0 => 0
  | n + 1 => if P n then mkm P n ||| 2 ^ n else mkm P n
theorem mkm_bit (P : Nat → Bool) (i : Nat) : ∀ n, (mkm P n).testBit i = (decide (i < n) && P i)
  | 0 => by simp [mkm]
  | n + 1 => by
    rw [mkm]
    by_cases h : P n = true
    · rw [if_pos h, Nat.testBit_or, mkm_bit P i n, Nat.testBit_two_pow]
      by_cases h1 : n = i
      · subst h1; simp [h]
      · have : decide (i < n + 1) = decide (i < n) := by
          by_cases h2 : i < n
          · simp [h2]; omega
          · simp [h2]; omega
        rw [this]; simp [h1]
    · rw [if_neg h, mkm_bit P i n]
      by_cases h1 : n = i
      · subst h1; simp [h]
      · have : decide (i < n + 1) = decide (i < n) := by
          by_cases h2 : i < n
          · simp [h2]; omega
          · simp [h2]; omega
        rw [this]
theorem mkm_lt (P : Nat → Bool) : ∀ n, mkm P n < 2 ^ n
  | 0 => by simp [mkm]
  | n + 1 => by
    have ih := mkm_lt P n
    rw [mkm]
    by_cases h : P n = true
    · rw [if_pos h]
      exact Nat.or_lt_two_pow (by rw [Nat.pow_succ]; omega) (by rw [Nat.pow_succ]; have := Nat.two_pow_pos n; omega)
    · rw [if_neg h, Nat.pow_succ]; omega
/-- a leaf that is t or below it -/
def lfb (α : AS) (t i : Nat) : Bool := !((zG α).testBit i) && anc (zP α) 19 i t
section
variable {α : AS} {pg ps pn : Int32} {pp pf mno : Nat → Int32}
theorem bif0 {b : Bool} : (nI (if b then 1 else 0) = (0 : Int32)) ↔ b = false := by
  cases b
  · exact ⟨fun _ => rfl, fun _ => rfl⟩
  · exact ⟨fun h => absurd h (by decide), fun h => by cases h⟩
theorem e_leaves (ok : OKA α) (hc : RC α pg ps pn pp pf) {t : Nat} (ht : t < zN α) :
    ∀ (d j n : Nat), j + d = zN α → d < n → k_X2_leavesBelow_4 pg pn pp n (nI t) (nI (mkm (lfb α t) j)) (nI j) = some (nI (mkm (lfb α t) (zN α))) := by
  have h20 : zN α ≤ 20 := ok.2.1
  obtain ⟨hg, hs, hn, h0, hp, -⟩ := hc
  intro d
  induction d with
  | zero =>
    intro j n hj hd
    obtain ⟨n', rfl⟩ : ∃ n', n = n' + 1 := ⟨n - 1, by omega⟩
    rw [k_X2_leavesBelow_4_s, hn, if_pos (nI_le (by omega) (by omega)), show j = zN α by omega]
  | succ d ih =>
    intro j n hj hd
    obtain ⟨n', rfl⟩ : ∃ n', n = n' + 1 := ⟨n - 1, by omega⟩
    have hjN : j < zN α := by omega
    rw [k_X2_leavesBelow_4_s, if_neg (by rw [hn]; exact nI_ge hjN (by omega)), ob1_s (e_isLeaf ok hg hn hjN)]
    rw [show nI j + (1 : Int32) = nI (j + 1) from nI_1 j]
    have ihj := ih (j + 1) n' (by omega) (by omega)
    cases hb : (zG α).testBit j
    · rw [if_neg (by decide), ob1_s (e_isWithin ok hn h0 hp hjN ht)]
      cases ha : anc (zP α) 19 j t
      · rw [if_pos (by decide)]
        rw [show mkm (lfb α t) (j + 1) = mkm (lfb α t) j by rw [mkm, if_neg (by simp [lfb, ha])]] at ihj
        exact ihj
      · rw [if_neg (by decide), shl1 (by omega), fa_or]
        rw [show mkm (lfb α t) (j + 1) = mkm (lfb α t) j ||| 2 ^ j by rw [mkm, if_pos (by simp [lfb, ha, hb])]] at ihj
        exact ihj
    · rw [if_pos (by decide)]
      rw [show mkm (lfb α t) (j + 1) = mkm (lfb α t) j by rw [mkm, if_neg (by simp [lfb, hb])]] at ihj
      exact ihj
theorem e_leavesBelow (ok : OKA α) (hc : RC α pg ps pn pp pf) {t : Nat} (ht : t < zN α) : m_X2_leavesBelow pg pn pp (nI t) = some (nI (mkm (lfb α t) (zN α))) := by
  rw [m_X2_leavesBelow]
  have h1 : 1 ≤ zN α := ok.1
  have h20 : zN α ≤ 20 := ok.2.1
  have := e_leaves ok hc ht (zN α - 1) 1 FU (by omega) (by have : FU = 5000 := rfl; omega)
  rw [show mkm (lfb α t) 1 = 0 by simp [mkm, lfb, ok.2.2.2.2.2.1]] at this
  exact this
theorem f_isLeafOf (ok : OKA α) (hm : RM α mno) {i t : Nat} (hi : i < zN α) (ht : t < zN α) : m_X7_isLeafOf mno (nI i) (nI t) = some (nI (if lfb α t i then 1 else 0)) := by
  have h20 : zN α ≤ 20 := ok.2.1
  obtain ⟨r0, r1, r2, hp, hg, -⟩ := hm
  rw [m_X7_isLeafOf, show (22 : Int32) + nI i = nI (22 + i) from nI_add 22 i, g_in (by omega) (by omega), cl _ (by omega), hg i hi]
  cases hb : (zG α).testBit i
  · rw [if_pos (by decide), ob1_s (f_isBelow ok r2 hp hi ht)]
    cases ha : anc (zP α) 19 i t
    · rw [if_pos (by decide)]; simp [lfb, ha]; rfl
    · rw [if_neg (by decide)]; simp [lfb, ha, hb]; rfl
  · rw [if_neg (by decide)]; simp [lfb, hb]; rfl
theorem f_leaves (ok : OKA α) (hm : RM α mno) {t : Nat} (ht : t < zN α) :
    ∀ (d j n : Nat), j + d = zN α → d < n → k_X7_leavesOf_4 mno n (nI t) (nI (mkm (lfb α t) j)) (nI j) = some (nI (mkm (lfb α t) (zN α))) := by
  have h20 : zN α ≤ 20 := ok.2.1
  have r1 := hm.2.1
  intro d
  induction d with
  | zero =>
    intro j n hj hd
    obtain ⟨n', rfl⟩ : ∃ n', n = n' + 1 := ⟨n - 1, by omega⟩
    rw [k_X7_leavesOf_4_s, if_neg (by decide), show (1 : Int32).toNatClampNeg = 1 from rfl, r1, if_pos (nI_le (by omega) (by omega)), show j = zN α by omega]
  | succ d ih =>
    intro j n hj hd
    obtain ⟨n', rfl⟩ : ∃ n', n = n' + 1 := ⟨n - 1, by omega⟩
    have hjN : j < zN α := by omega
    rw [k_X7_leavesOf_4_s, if_neg (by decide), show (1 : Int32).toNatClampNeg = 1 from rfl, r1, if_neg (nI_ge hjN (by omega)), ob1_s (f_isLeafOf ok hm hjN ht), show nI j + (1 : Int32) = nI (j + 1) from nI_1 j]
    have ihj := ih (j + 1) n' (by omega) (by omega)
    cases hb : lfb α t j
    · rw [if_pos (by decide)]
      rw [show mkm (lfb α t) (j + 1) = mkm (lfb α t) j by rw [mkm, if_neg (by simp [hb])]] at ihj
      exact ihj
    · rw [if_neg (by decide), shl1 (by omega), fa_or]
      rw [show mkm (lfb α t) (j + 1) = mkm (lfb α t) j ||| 2 ^ j by rw [mkm, if_pos hb]] at ihj
      exact ihj
theorem f_leavesOf (ok : OKA α) (hm : RM α mno) {t : Nat} (ht : t < zN α) : m_X7_leavesOf mno (nI t) = some (nI (mkm (lfb α t) (zN α))) := by
  rw [m_X7_leavesOf]
  have h20 : zN α ≤ 20 := ok.2.1
  exact f_leaves ok hm ht (zN α) 0 FU (by omega) (by have : FU = 5000 := rfl; omega)
end
