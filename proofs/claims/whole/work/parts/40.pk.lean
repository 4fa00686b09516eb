/-! a factor set; would, needs -/
def aset (α : AS) (i k f v : Nat) : AS := (zN α, zS α, zG α, zP α, fun i' k' f' => if i' = i ∧ k' = k ∧ f' = f then v else zF α i' k' f')
theorem t_low : ∀ f : Fin 5, m_X7_lowOf (nI f.val) = some (nI (lo5 f.val)) ∧ m_X7_highOf (nI f.val) = some (nI (hi5 f.val)) ∧ T_LEAST f.val = nI (lo5 f.val) ∧ T_MOST f.val = nI (hi5 f.val) ∧ lo5 f.val ≤ 999 ∧ hi5 f.val ≤ 999 := by decide +kernel
def fvR (x3 x4 : Int32) : Bool := inR 5 x3 && (!(decide (x4 < nI (lo5 x3.toNatClampNeg))) && !(decide (nI (hi5 x3.toNatClampNeg) < x4)))
theorem fvR_t {x3 x4 : Int32} (h : fvR x3 x4 = true) : ∃ f v, f < 5 ∧ x3 = nI f ∧ x4 = nI v ∧ lo5 f ≤ v ∧ v ≤ hi5 f := by
  rw [fvR, Bool.and_eq_true, Bool.and_eq_true] at h
  obtain ⟨f, hf, rfl⟩ := inR_t h.1 (by omega)
  have t := t_low ⟨f, hf⟩
  simp only at t
  rw [cl f (by omega)] at h
  have h1 : ¬ x4 < nI (lo5 f) := by have := h.2.1; simpa using this
  have h2 : ¬ nI (hi5 f) < x4 := by have := h.2.2; simpa using this
  have h3 : ¬ x4 < 0 := fun q => h1 (Int32.lt_of_lt_of_le q (nI_pos' (by omega)))
  obtain ⟨v, hv, rfl⟩ := nI_of h3
  refine ⟨f, v, hf, rfl, rfl, ?_, ?_⟩
  · rw [nI_ltI hv (by omega)] at h1; omega
  · rw [nI_ltI (by omega) hv] at h2; omega
theorem b_isFV (x3 x4 : Int32) : m_X6_isFactorValue x3 x4 = some (bI (fvR x3 x4)) := by
  rw [m_X6_isFactorValue, ob1_s (b_isFactor x3), ifb, fvR]
  cases h : inR 5 x3
  · rfl
  · obtain ⟨f, hf, rfl⟩ := inR_t h (by omega)
    have t := t_low ⟨f, hf⟩
    simp only at t
    rw [if_pos rfl, g_in hf (by omega), g_in hf (by omega), cl f (by omega), t.2.2.1, t.2.2.2.1]
    by_cases q1 : x4 < nI (lo5 f)
    · simp [q1]; rfl
    · by_cases q2 : nI (hi5 f) < x4
      · simp [q1, q2]; rfl
      · simp [q1, q2]; rfl
section
variable {α : AS} {pg ps pn : Int32} {pp pf mno : Nat → Int32}
theorem d_canSet (ok : OKA α) (hm : RM α mno) (x1 x2 x3 x4 : Int32) : m_X7_canSet mno x1 x2 x3 x4 = some (bI (lfR α x1 && (inR (zS α) x2 && fvR x3 x4))) := by
  rw [m_X7_canSet, ob1_s (d_isLeaf ok hm x1), ifb, ob1_s (d_isScene ok hm x2), ifb, ob1_s (d_isFactor x3), ifb, fvR]
  cases lfR α x1
  · rfl
  cases inR (zS α) x2
  · rfl
  cases h : inR 5 x3
  · rfl
  · obtain ⟨f, hf, rfl⟩ := inR_t h (by omega)
    have t := t_low ⟨f, hf⟩
    simp only at t
    rw [if_pos rfl, if_pos rfl, if_pos rfl, ob1_s t.1, ob1_s t.2.1, cl f (by omega)]
    by_cases q1 : x4 < nI (lo5 f)
    · rw [ob1_s (f_isIn_no (Or.inl q1))]; simp [q1]; rfl
    · by_cases q2 : nI (hi5 f) < x4
      · rw [ob1_s (f_isIn_no (Or.inr q2))]; simp [q1, q2]; rfl
      · have e : m_X7_isIn x4 (nI (lo5 f)) (nI (hi5 f)) = some 1 := by rw [m_X7_isIn, if_neg q1, if_neg q2]
        rw [ob1_s e]; simp [q1, q2]; rfl
theorem ok_set (ok : OKA α) {i k f v : Nat} (h1 : lo5 f ≤ v) (h2 : v ≤ hi5 f) : OKA (aset α i k f v) := by
  obtain ⟨a1, a2, a3, a4, a5, a6, a7, a8⟩ := ok
  refine ⟨a1, a2, a3, a4, a5, a6, a7, fun i' hi' hl' k' hk' f' hf' => ?_⟩
  show lo5 f' ≤ (if i' = i ∧ k' = k ∧ f' = f then v else zF α i' k' f') ∧ (if i' = i ∧ k' = k ∧ f' = f then v else zF α i' k' f') ≤ hi5 f'
  by_cases q : i' = i ∧ k' = k ∧ f' = f
  · rw [if_pos q, q.2.2]; exact ⟨h1, h2⟩
  · rw [if_neg q]; exact a8 i' hi' hl' k' hk' f' hf'
theorem rc_set (hc : RC α pg ps pn pp pf) {i k f v : Nat} (hk : k < 4) (hf : f < 5) (hi : i < 20) (h20 : zN α ≤ 20) : RC (aset α i k f v) pg ps pn pp (upd pf (100 * k + 5 * i + f) (nI v)) := by
  obtain ⟨a1, a2, a3, a4, a5, a6⟩ := hc
  refine ⟨a1, a2, a3, a4, a5, fun i' hi' hl' k' hk' f' hf' => ?_⟩
  show upd pf (100 * k + 5 * i + f) (nI v) (100 * k' + 5 * i' + f') = nI (if i' = i ∧ k' = k ∧ f' = f then v else zF α i' k' f')
  have hi2 : i' < zN α := hi'
  by_cases q : i' = i ∧ k' = k ∧ f' = f
  · rw [if_pos q, q.1, q.2.1, q.2.2, pk_us]
  · rw [if_neg q, pk_un (by omega)]; exact a6 i' hi' hl' k' hk' f' hf'
theorem rm_set (hm : RM α mno) {i k f v : Nat} (hk : k < 4) (hf : f < 5) (h20 : zN α ≤ 20) : RM (aset α i k f v) (upd mno (42 + 20 * i + 5 * k + f) (nI v)) := by
  obtain ⟨a1, a2, a3, a4, a5, a6⟩ := hm
  refine ⟨by rw [pk_un (by omega)]; exact a1, by rw [pk_un (by omega)]; exact a2, by rw [pk_un (by omega)]; exact a3, fun i' h1 h2 => ?_, fun i' h1 => ?_, fun i' hi' hl' k' hk' f' hf' => ?_⟩
  · have h2 : i' < zN α := h2
    rw [pk_un (by omega)]; exact a4 i' h1 h2
  · have h1 : i' < zN α := h1
    rw [pk_un (by omega)]; exact a5 i' h1
  · show upd mno (42 + 20 * i + 5 * k + f) (nI v) (42 + 20 * i' + 5 * k' + f') = nI (if i' = i ∧ k' = k ∧ f' = f then v else zF α i' k' f')
    by_cases q : i' = i ∧ k' = k ∧ f' = f
    · rw [if_pos q, q.1, q.2.1, q.2.2, pk_us]
    · rw [if_neg q, pk_un (by omega)]; exact a6 i' hi' hl' k' hk' f' hf'
theorem upd_back {g : Nat → Int32} {x : Nat} {v w : Int32} (h : g x = w) : upd (upd g x v) x w = g := by rw [fa_upd_twice, fa_upd_same h]
theorem anc_top (par : Nat → Nat) : ∀ (d i : Nat), rch par d i → anc par d i 0 = true
  | 0, i, h => by have h : i = 0 := h; rw [h]; rfl
  | d + 1, i, h => by
    rw [anc]
    by_cases q : i = 0
    · rw [if_pos q]
    · rw [if_neg q, if_neg q]; exact anc_top par d (par i) (h.resolve_left q)
theorem lfb_top (ok : OKA α) {i : Nat} (hi : i < zN α) (hl : (zG α).testBit i = false) : lfb α 0 i = true := by
  rw [lfb, hl, anc_top _ _ _ (rch_all ok hi)]; rfl
theorem vsum_diff {P : Nat → Bool} {g h : Nat → Int32} {i : Nat} (hp : P i = true) (e : ∀ j, j ≠ i → g j = h j) : ∀ n, i < n → vsum P g n - vsum P h n = g i - h i
  | 0, q => by omega
  | n + 1, q => by
    rw [vsum, vsum]
    by_cases z : n = i
    · subst z
      have : vsum P g n = vsum P h n := by
        have aux : ∀ m, m ≤ n → vsum P g m = vsum P h m := by
          intro m
          induction m with
          | zero => intro _; rfl
          | succ m ih => intro hm; rw [vsum, vsum, ih (by omega), e m (by omega)]
        exact aux n (Nat.le_refl n)
      rw [hp, if_pos rfl, if_pos rfl, this]
      grind
    · have ih := vsum_diff hp e n (by omega)
      cases P n
      · exact ih
      · rw [if_pos rfl, if_pos rfl, e n z, ← ih]
        grind
theorem bvl_set {i k f v j a b s : Nat} (h : j ≠ i) : bvl (aset α i k f v) j a b s = bvl α j a b s := by
  have e : ∀ k' f', zF (aset α i k f v) j k' f' = zF α j k' f' := fun k' f' => if_neg (fun q => h q.1)
  simp only [bvl, e]
theorem e_put {i k f v : Nat} (hi : i < 20) (hk : k < 4) (hf : f < 5) : m_X2_putFactor pf (nI i) (nI k) (nI f) (nI v) = some (upd pf (100 * k + 5 * i + f) (nI v)) := by
  rw [m_X2_putFactor, e_ix, g_in (by omega) (by omega), cl _ (by omega)]
theorem f_valueWith (ok : OKA α) (hm : RM α mno) {i k f v : Nat} (hi : i < zN α) (hl : (zG α).testBit i = false) (hk : k < 4) (hf : f < 5) (h1 : lo5 f ≤ v) (h2 : v ≤ hi5 f) : m_X7_valueWith mno (nI i) (nI k) (nI f) (nI v) = some (vsum (lfb α 0) (fun j => bvl (aset α i k f v) j k k 0) (zN α), mno) := by
  have h20 : zN α ≤ 20 := ok.2.1
  have hN1 : 1 ≤ zN α := ok.1
  rw [m_X7_valueWith, ob1_s (f_at i k f), g_in (by omega) (by omega), ob1_s (f_at i k f), g_in (by omega) (by omega), cl _ (by omega)]
  refine (ob1_s (f_valueIn (ok_set ok h1 h2) (rm_set hm hk hf h20) (t := 0) (by exact hN1) hk)).trans ?_
  rw [ob1_s (f_at i k f), g_in (by omega) (by omega), cl _ (by omega), upd_back rfl]
  rfl
theorem op_would (ok : OKA α) (hc : RC α pg ps pn pp pf) (hm : RM α mno) (mth x1 x2 x3 x4 : Int32) : ∃ r, m_X6_would pg ps pn pf x1 x2 x3 x4 = some (r, pf) ∧ m_X7_would mth mno x1 x2 x3 x4 = some (r, 0, mno) := by
  have h4 : zS α ≤ 4 := ok.2.2.2.1
  have h20 : zN α ≤ 20 := ok.2.1
  have hN1 : 1 ≤ zN α := ok.1
  rw [m_X6_would, m_X7_would, ob1_s (b_isLeaf ok hc.1 hc.2.2.1 x1), ob1_s (d_canSet ok hm x1 x2 x3 x4), ifb, ifb, ob1_s (b_isScene ok hc.2.1 x2), ifb, ob1_s (b_isFV x3 x4), ifb]
  cases h1 : lfR α x1
  · exact ⟨-1000000000, rfl, rfl⟩
  cases h2 : inR (zS α) x2
  · exact ⟨-1000000000, rfl, rfl⟩
  cases h3 : fvR x3 x4
  · exact ⟨-1000000000, rfl, rfl⟩
  obtain ⟨i, hi, rfl, hl⟩ := lfR_t ok h1
  obtain ⟨k, hk, rfl⟩ := inR_t h2 (by omega)
  obtain ⟨f, v, hf, rfl, rfl, v1, v2⟩ := fvR_t h3
  have hk : k < 4 := by omega
  rw [if_pos rfl, if_pos rfl, if_pos rfl, show (true && (true && true)) = true from rfl, if_pos rfl]
  have hl2 : (zG (aset α i k f v)).testBit i = false := hl
  have ok2 := ok_set ok (i := i) (k := k) v1 v2
  have hc2 := rc_set hc (i := i) (v := v) hk hf (by omega) h20
  refine ⟨bvl (aset α i k f v) i k k 0 - bvl α i k k 0, ?_, ?_⟩
  · have e : m_X2_gainIfSet pf (nI i) (nI k) (nI f) (nI v) = some (bvl (aset α i k f v) i k k 0 - bvl α i k k 0, pf) := by
      rw [m_X2_gainIfSet, ob1_s (e_fac ok hc hi hl hk hf), ob1_s (e_leafValue ok hc hi hl hk), ob1_s (e_put (by omega) hk hf), ob1_s (e_leafValue ok2 hc2 hi hl2 hk), ob1_s (e_put (by omega) hk hf), upd_back (hc.2.2.2.2.2 i hi hl k hk f hf)]
    exact ob2_s e
  · have e0 : m_X7_valueIn mno (0 : Int32) (nI k) = some (vsum (lfb α 0) (fun j => bvl α j k k 0) (zN α)) := f_valueIn ok hm (t := 0) (by omega) hk
    rw [ob2_s (f_valueWith ok hm hi hl hk hf v1 v2), ob1_s e0, vsum_diff (lfb_top ok hi hl) (fun j hj => bvl_set hj) (zN α) hi]
/-! needs -/
def fstc (c : Nat → Bool) : Nat → Nat → Int32
  | 0, _ => -2
  | d + 1, u => if c u then nI u else fstc c d (u + 1)
theorem fstc_hit {c : Nat → Bool} {u0 : Nat} (h1 : c u0 = true) : ∀ (d u : Nat), u ≤ u0 → u0 < u + d → (∀ w, u ≤ w → w < u0 → c w = false) → fstc c d u = nI u0
  | 0, u, q1, q2, _ => by omega
  | d + 1, u, q1, q2, h => by
    rw [fstc]
    by_cases e : u = u0
    · rw [e, h1, if_pos rfl]
    · rw [h u (by omega) (by omega), if_neg (by decide)]
      exact fstc_hit h1 d (u + 1) (by omega) (by omega) (fun w w1 w2 => h w (by omega) w2)
theorem fstc_no {c : Nat → Bool} : ∀ (d u : Nat), (∀ w, u ≤ w → w < u + d → c w = false) → fstc c d u = -2
  | 0, _, _ => rfl
  | d + 1, u, h => by
    rw [fstc, h u (by omega) (by omega), if_neg (by decide)]
    exact fstc_no d (u + 1) (fun w w1 w2 => h w (by omega) (by omega))
end
