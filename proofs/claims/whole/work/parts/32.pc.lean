/-! factors, values, how a leaf is -/
def selb (s a b f : Nat) : Nat := if s.testBit f then b else a
def bvl (α : AS) (i a b s : Nat) : Int32 := nI (zF α i (selb s a b 0) 0) * (((nI (zF α i (selb s a b 1) 1) * nI (zF α i (selb s a b 3) 3)) / (100 : Int32)) - ((nI (zF α i (selb s a b 2) 2) * (100 : Int32)) / nI (zF α i (selb s a b 4) 4)))
def vsum (P : Nat → Bool) (g : Nat → Int32) : Nat → Int32
  | 0 => 0
  | n + 1 => if P n then vsum P g n + g n else vsum P g n
/-- 0 it stays, 1 new, 2 ended -/
def howA (α : AS) (i a b : Nat) : Nat := if zF α i a 0 = 0 then (if zF α i b 0 = 0 then 0 else 1) else (if zF α i b 0 = 0 then 2 else 0)
theorem hi_u : hi5 0 = 999 := rfl
section
variable {α : AS} {pg ps pn : Int32} {pp pf mno : Nat → Int32}
theorem fb {i k f : Nat} (ok : OKA α) (hi : i < zN α) (hl : (zG α).testBit i = false) (hk : k < 4) (hf : f < 5) : lo5 f ≤ zF α i k f ∧ zF α i k f ≤ hi5 f := ok.2.2.2.2.2.2.2 i hi hl k hk f hf
theorem fb9 {i k f : Nat} (ok : OKA α) (hi : i < zN α) (hl : (zG α).testBit i = false) (hk : k < 4) (hf : f < 5) : zF α i k f ≤ 999 := by
  have h := (fb ok hi hl hk hf).2
  have : hi5 f ≤ 999 := (by decide : ∀ j : Fin 5, hi5 j.val ≤ 999) ⟨f, hf⟩
  omega
theorem fb4 {i k : Nat} (ok : OKA α) (hi : i < zN α) (hl : (zG α).testBit i = false) (hk : k < 4) : 10 ≤ zF α i k 4 ∧ zF α i k 4 ≤ 100 := fb ok hi hl hk (f := 4) (by omega)
theorem e_ix (i k f : Nat) : ((nI k * (100 : Int32)) + (nI i * (5 : Int32))) + nI f = nI (100 * k + 5 * i + f) := by
  rw [show (100 : Int32) = nI 100 from rfl, show (5 : Int32) = nI 5 from rfl, pk_mul, pk_mul, nI_add, nI_add]; congr 1; omega
theorem e_factorOf {i k f : Nat} (hi : i < 20) (hk : k < 4) (hf : f < 5) : m_X2_factorOf pf (nI i) (nI k) (nI f) = some (pf (100 * k + 5 * i + f)) := by
  rw [m_X2_factorOf, e_ix, g_in (by omega) (by omega), cl _ (by omega)]
theorem e_fac (ok : OKA α) (hc : RC α pg ps pn pp pf) {i k f : Nat} (hi : i < zN α) (hl : (zG α).testBit i = false) (hk : k < 4) (hf : f < 5) : m_X2_factorOf pf (nI i) (nI k) (nI f) = some (nI (zF α i k f)) := by
  have h20 : zN α ≤ 20 := ok.2.1
  rw [e_factorOf (by omega) hk hf, hc.2.2.2.2.2 i hi hl k hk f hf]
theorem f_ix (i k f : Nat) : (((42 : Int32) + ((20 : Int32) * nI i)) + ((5 : Int32) * nI k)) + nI f = nI (42 + 20 * i + 5 * k + f) := by
  rw [show (42 : Int32) = nI 42 from rfl, show (20 : Int32) = nI 20 from rfl, show (5 : Int32) = nI 5 from rfl, pk_mul, pk_mul, nI_add, nI_add, nI_add]
theorem f_at (i k f : Nat) : m_X7_at (nI i) (nI k) (nI f) = some (nI (42 + 20 * i + 5 * k + f)) := by rw [m_X7_at, f_ix]
theorem f_fac1 (ok : OKA α) (hm : RM α mno) {i k f : Nat} (hi : i < zN α) (hl : (zG α).testBit i = false) (hk : k < 4) (hf : f < 5) : k_X7_factorOf_21 mno (nI f) (nI i) (nI k) = some (nI (zF α i k f)) := by
  have h20 : zN α ≤ 20 := ok.2.1
  rw [k_X7_factorOf_21, ob1_s (f_at i k f), g_in (by omega) (by omega), cl _ (by omega), hm.2.2.2.2.2 i hi hl k hk f hf]
theorem f_fac (ok : OKA α) (hm : RM α mno) {i a b s f : Nat} (hi : i < zN α) (hl : (zG α).testBit i = false) (ha : a < 4) (hb : b < 4) (hs : s < 32) (hf : f < 5) : m_X7_factorOf mno (nI i) (nI a) (nI b) (nI s) (nI f) = some (nI (zF α i (selb s a b f) f)) := by
  rw [m_X7_factorOf, bitI (by omega) (by omega)]
  cases h : s.testBit f
  · rw [if_neg (by decide), f_fac1 ok hm hi hl ha hf, selb, h, if_neg (by decide)]
  · rw [if_pos (by decide), f_fac1 ok hm hi hl hb hf, selb, h, if_pos (by decide)]
theorem selb4 {s a b f : Nat} (ha : a < 4) (hb : b < 4) : selb s a b f < 4 := by
  rw [selb]; split <;> assumption
theorem f_valueOf (ok : OKA α) (hm : RM α mno) {i a b s : Nat} (hi : i < zN α) (hl : (zG α).testBit i = false) (ha : a < 4) (hb : b < 4) (hs : s < 32) : m_X7_valueOf mno (nI i) (nI a) (nI b) (nI s) = some (bvl α i a b s) := by
  have h4 := fb4 ok hi hl (selb4 (s := s) (f := 4) ha hb)
  rw [m_X7_valueOf]
  refine (ob1_s (f_fac ok hm hi hl ha hb hs (f := 1) (by omega))).trans ?_
  refine (ob1_s (f_fac ok hm hi hl ha hb hs (f := 3) (by omega))).trans ?_
  refine (ob1_s (f_fac ok hm hi hl ha hb hs (f := 2) (by omega))).trans ?_
  refine (ob1_s (f_fac ok hm hi hl ha hb hs (f := 4) (by omega))).trans ?_
  refine (if_neg (nI_ne0 (by omega) (by omega))).trans ?_
  refine (ob1_s (f_fac ok hm hi hl ha hb hs (f := 0) (by omega))).trans ?_
  rfl
theorem e_margin {p c r y : Int32} (h : ¬ y = 0) : m_X6_marginOf p c r y = some (((p * r) / (100 : Int32)) - ((c * (100 : Int32)) / y)) := by
  rw [m_X6_marginOf, if_neg h, if_neg h]
theorem e_blended (ok : OKA α) (hc : RC α pg ps pn pp pf) {i a b s : Nat} (hi : i < zN α) (hl : (zG α).testBit i = false) (ha : a < 4) (hb : b < 4) (hs : s < 32) : m_X2_blendedValue pf (nI i) (nI a) (nI b) (nI s) = some (bvl α i a b s) := by
  have s20 : s < 2 ^ 20 := by omega
  have b0 := bitI (g := s) (i := 0) s20 (by omega)
  have b1 := bitI (g := s) (i := 1) s20 (by omega)
  have b2 := bitI (g := s) (i := 2) s20 (by omega)
  have b3 := bitI (g := s) (i := 3) s20 (by omega)
  have b4 := bitI (g := s) (i := 4) s20 (by omega)
  have F := fun (k f : Nat) (hk : k < 4) (hf : f < 5) => e_fac ok hc hi hl hk hf (f := f)
  have L104 : ∀ (k j1 j2 j3 j4 : Nat), k < 4 → j4 < 4 → k_X2_blendedValue_104 pf (nI (zF α i j1 1)) (nI (zF α i j2 2)) (nI (zF α i j3 3)) (nI (zF α i j4 4)) (nI i) (nI k) = some (nI (zF α i k 0) * (((nI (zF α i j1 1) * nI (zF α i j3 3)) / (100 : Int32)) - ((nI (zF α i j2 2) * (100 : Int32)) / nI (zF α i j4 4)))) := by
    intro k j1 j2 j3 j4 hk h4
    have h9 := fb4 ok hi hl h4
    rw [k_X2_blendedValue_104]
    refine (ob1_s (F k 0 hk (by omega))).trans ?_
    rw [ob1_s (e_margin (nI_ne0 (by omega) (by omega)))]
  have L82 : ∀ (k j1 j2 j3 : Nat), k < 4 → k_X2_blendedValue_82 pf (nI i) (nI a) (nI b) (nI s) (nI (zF α i j1 1)) (nI (zF α i j2 2)) (nI (zF α i j3 3)) (nI i) (nI k) = some (nI (zF α i (selb s a b 0) 0) * (((nI (zF α i j1 1) * nI (zF α i j3 3)) / (100 : Int32)) - ((nI (zF α i j2 2) * (100 : Int32)) / nI (zF α i k 4)))) := by
    intro k j1 j2 j3 hk
    rw [k_X2_blendedValue_82]
    refine (ob1_s (F k 4 hk (by omega))).trans ?_
    rw [show (0 : Int32) &&& 31 = nI 0 &&& 31 from rfl, b0]
    cases h : s.testBit 0
    · rw [if_pos (by decide), L104 a j1 j2 j3 k ha hk, selb, h, if_neg (by decide)]
    · rw [if_neg (by decide), L104 b j1 j2 j3 k hb hk, selb, h, if_pos (by decide)]
  have L60 : ∀ (k j1 j2 : Nat), k < 4 → k_X2_blendedValue_60 pf (nI i) (nI a) (nI b) (nI s) (nI (zF α i j1 1)) (nI (zF α i j2 2)) (nI i) (nI k) = some (nI (zF α i (selb s a b 0) 0) * (((nI (zF α i j1 1) * nI (zF α i k 3)) / (100 : Int32)) - ((nI (zF α i j2 2) * (100 : Int32)) / nI (zF α i (selb s a b 4) 4)))) := by
    intro k j1 j2 hk
    rw [k_X2_blendedValue_60]
    refine (ob1_s (F k 3 hk (by omega))).trans ?_
    rw [show (4 : Int32) &&& 31 = nI 4 &&& 31 from rfl, b4]
    cases h : s.testBit 4
    · rw [if_pos (by decide), L82 a j1 j2 k ha, show selb s a b 4 = a by rw [selb, h, if_neg (by decide)]]
    · rw [if_neg (by decide), L82 b j1 j2 k hb, show selb s a b 4 = b by rw [selb, h, if_pos (by decide)]]
  have L38 : ∀ (k j1 : Nat), k < 4 → k_X2_blendedValue_38 pf (nI i) (nI a) (nI b) (nI s) (nI (zF α i j1 1)) (nI i) (nI k) = some (nI (zF α i (selb s a b 0) 0) * (((nI (zF α i j1 1) * nI (zF α i (selb s a b 3) 3)) / (100 : Int32)) - ((nI (zF α i k 2) * (100 : Int32)) / nI (zF α i (selb s a b 4) 4)))) := by
    intro k j1 hk
    rw [k_X2_blendedValue_38]
    refine (ob1_s (F k 2 hk (by omega))).trans ?_
    rw [show (3 : Int32) &&& 31 = nI 3 &&& 31 from rfl, b3]
    cases h : s.testBit 3
    · rw [if_pos (by decide), L60 a j1 k ha, show selb s a b 3 = a by rw [selb, h, if_neg (by decide)]]
    · rw [if_neg (by decide), L60 b j1 k hb, show selb s a b 3 = b by rw [selb, h, if_pos (by decide)]]
  have L16 : ∀ (k : Nat), k < 4 → k_X2_blendedValue_16 pf (nI i) (nI a) (nI b) (nI s) (nI i) (nI k) = some (nI (zF α i (selb s a b 0) 0) * (((nI (zF α i k 1) * nI (zF α i (selb s a b 3) 3)) / (100 : Int32)) - ((nI (zF α i (selb s a b 2) 2) * (100 : Int32)) / nI (zF α i (selb s a b 4) 4)))) := by
    intro k hk
    rw [k_X2_blendedValue_16]
    refine (ob1_s (F k 1 hk (by omega))).trans ?_
    rw [show (2 : Int32) &&& 31 = nI 2 &&& 31 from rfl, b2]
    cases h : s.testBit 2
    · rw [if_pos (by decide), L38 a k ha, show selb s a b 2 = a by rw [selb, h, if_neg (by decide)]]
    · rw [if_neg (by decide), L38 b k hb, show selb s a b 2 = b by rw [selb, h, if_pos (by decide)]]
  rw [m_X2_blendedValue, show (1 : Int32) &&& 31 = nI 1 &&& 31 from rfl, b1]
  cases h : s.testBit 1
  · rw [if_pos (by decide), L16 a ha, bvl, show selb s a b 1 = a by rw [selb, h, if_neg (by decide)]]
  · rw [if_neg (by decide), L16 b hb, bvl, show selb s a b 1 = b by rw [selb, h, if_pos (by decide)]]
theorem e_leafValue (ok : OKA α) (hc : RC α pg ps pn pp pf) {i k : Nat} (hi : i < zN α) (hl : (zG α).testBit i = false) (hk : k < 4) : m_X2_leafValue pf (nI i) (nI k) = some (bvl α i k k 0) := by
  rw [m_X2_leafValue]
  exact ob1_s (e_blended ok hc hi hl hk hk (s := 0) (by omega))
theorem lfb_leaf {t i : Nat} (h : lfb α t i = true) : (zG α).testBit i = false := by
  rw [lfb] at h; simp at h; exact h.1
theorem e_nodeValue (ok : OKA α) (hc : RC α pg ps pn pp pf) {t k : Nat} (ht : t < zN α) (hk : k < 4) : m_X2_nodeValue pg pn pp pf (nI t) (nI k) = some (vsum (lfb α t) (fun i => bvl α i k k 0) (zN α)) := by
  have h20 : zN α ≤ 20 := ok.2.1
  have hn := hc.2.2.1
  have key : ∀ (d j n : Nat), j + d = zN α → d < n → k_X2_nodeValue_12 pg pn pp pf n (nI k) (nI (mkm (lfb α t) (zN α))) (vsum (lfb α t) (fun i => bvl α i k k 0) j) (nI j) = some (vsum (lfb α t) (fun i => bvl α i k k 0) (zN α)) := by
    intro d
    induction d with
    | zero =>
      intro j n hj hd
      obtain ⟨n', rfl⟩ : ∃ n', n = n' + 1 := ⟨n - 1, by omega⟩
      rw [k_X2_nodeValue_12_s, hn, if_pos (nI_le (by omega) (by omega)), show j = zN α by omega]
    | succ d ih =>
      intro j n hj hd
      obtain ⟨n', rfl⟩ : ∃ n', n = n' + 1 := ⟨n - 1, by omega⟩
      have hjN : j < zN α := by omega
      rw [k_X2_nodeValue_12_s, if_neg (by rw [hn]; exact nI_ge hjN (by omega)), bitI (Nat.lt_of_lt_of_le (mkm_lt _ _) (Nat.pow_le_pow_right (by omega) h20)) (by omega), mkm_bit, show nI j + (1 : Int32) = nI (j + 1) from nI_1 j]
      have ihj := ih (j + 1) n' (by omega) (by omega)
      cases hb : lfb α t j
      · rw [vsum, hb, if_neg (by decide)] at ihj
        rw [if_pos (by simp; rfl)]
        exact ihj
      · rw [vsum, hb, if_pos rfl] at ihj
        rw [if_neg (by simp [hjN]; decide), ob1_s (e_leafValue ok hc hjN (lfb_leaf hb) hk)]
        exact ihj
  rw [m_X2_nodeValue, ob1_s (e_leavesBelow ok hc ht)]
  have h1 : 1 ≤ zN α := ok.1
  have := key (zN α - 1) 1 FU (by omega) (by have : FU = 5000 := rfl; omega)
  rw [show vsum (lfb α t) (fun i => bvl α i k k 0) 1 = 0 by simp [vsum, lfb, ok.2.2.2.2.2.1]] at this
  exact this
theorem f_valueIn (ok : OKA α) (hm : RM α mno) {t k : Nat} (ht : t < zN α) (hk : k < 4) : m_X7_valueIn mno (nI t) (nI k) = some (vsum (lfb α t) (fun i => bvl α i k k 0) (zN α)) := by
  have h20 : zN α ≤ 20 := ok.2.1
  have r1 := hm.2.1
  have key : ∀ (d j n : Nat), j + d = zN α → d < n → k_X7_valueIn_5 mno n (nI t) (nI k) (vsum (lfb α t) (fun i => bvl α i k k 0) j) (nI j) = some (vsum (lfb α t) (fun i => bvl α i k k 0) (zN α)) := by
    intro d
    induction d with
    | zero =>
      intro j n hj hd
      obtain ⟨n', rfl⟩ : ∃ n', n = n' + 1 := ⟨n - 1, by omega⟩
      rw [k_X7_valueIn_5_s, if_neg (by decide), show (1 : Int32).toNatClampNeg = 1 from rfl, r1, if_pos (nI_le (by omega) (by omega)), show j = zN α by omega]
    | succ d ih =>
      intro j n hj hd
      obtain ⟨n', rfl⟩ : ∃ n', n = n' + 1 := ⟨n - 1, by omega⟩
      have hjN : j < zN α := by omega
      rw [k_X7_valueIn_5_s, if_neg (by decide), show (1 : Int32).toNatClampNeg = 1 from rfl, r1, if_neg (nI_ge hjN (by omega)), ob1_s (f_isLeafOf ok hm hjN ht), show nI j + (1 : Int32) = nI (j + 1) from nI_1 j]
      have ihj := ih (j + 1) n' (by omega) (by omega)
      cases hb : lfb α t j
      · rw [vsum, hb, if_neg (by decide)] at ihj
        rw [if_pos (by decide)]
        exact ihj
      · rw [vsum, hb, if_pos rfl] at ihj
        rw [if_neg (by decide)]
        exact (ob1_s (f_valueOf ok hm hjN (lfb_leaf hb) hk hk (s := 0) (by omega))).trans ihj
  rw [m_X7_valueIn]
  exact key (zN α) 0 FU (by omega) (by have : FU = 5000 := rfl; omega)
theorem nI_le0 {n : Nat} (h : n < 2 ^ 31) : nI n ≤ 0 ↔ n = 0 := by
  rw [show (0 : Int32) = nI 0 from rfl, nI_leI h (by omega)]; omega
theorem nI_eq0 {n : Nat} (h : n < 2 ^ 31) : nI n = 0 ↔ n = 0 := by
  rw [show (0 : Int32) = nI 0 from rfl, nI_eq h (by omega)]
theorem e_fate (ok : OKA α) (hc : RC α pg ps pn pp pf) {i a b : Nat} (hi : i < zN α) (hl : (zG α).testBit i = false) (ha : a < 4) (hb : b < 4) : m_X0_fateOf pf (nI i) (nI a) (nI b) = some (nI (howA α i a b)) := by
  have h1 := fb9 ok hi hl ha (f := 0) (by omega)
  have h2 := fb9 ok hi hl hb (f := 0) (by omega)
  have fa := e_fac ok hc hi hl ha (f := 0) (by omega)
  have fb := e_fac ok hc hi hl hb (f := 0) (by omega)
  have L18 : ∀ z : Int32, k_X0_fateOf_18 pf (nI i) (nI b) z = if zF α i b 0 = 0 then k_X0_fateOf_38 pf z 0 else k_X0_fateOf_38 pf z 1 := by
    intro z
    rw [k_X0_fateOf_18]
    refine (ob1_s fb).trans ?_
    simp only [nI_le0 (show zF α i b 0 < 2 ^ 31 by omega)]
  rw [m_X0_fateOf]
  refine (ob1_s fa).trans ?_
  simp only [nI_le0 (show zF α i a 0 < 2 ^ 31 by omega), L18, k_X0_fateOf_38, howA]
  by_cases q1 : zF α i a 0 = 0 <;> by_cases q2 : zF α i b 0 = 0 <;> simp [q1, q2] <;> rfl
theorem f_how (ok : OKA α) (hm : RM α mno) {i a b : Nat} (hi : i < zN α) (hl : (zG α).testBit i = false) (ha : a < 4) (hb : b < 4) : m_X7_howOf mno (nI i) (nI a) (nI b) = some (nI (howA α i a b)) := by
  have h20 : zN α ≤ 20 := ok.2.1
  have h1 := fb9 ok hi hl ha (f := 0) (by omega)
  have h2 := fb9 ok hi hl hb (f := 0) (by omega)
  rw [m_X7_howOf]
  refine (ob1_s (f_at i a 0)).trans ?_
  rw [g_in (by omega) (by omega)]
  refine (ob1_s (f_at i b 0)).trans ?_
  rw [g_in (by omega) (by omega), cl _ (by omega), cl _ (by omega), hm.2.2.2.2.2 i hi hl a ha 0 (by omega), hm.2.2.2.2.2 i hi hl b hb 0 (by omega)]
  simp only [nI_eq0 (show zF α i a 0 < 2 ^ 31 by omega), nI_le0 (show zF α i b 0 < 2 ^ 31 by omega), k_X7_howOf_40, nI_le0 (show zF α i a 0 < 2 ^ 31 by omega), nI_eq0 (show zF α i b 0 < 2 ^ 31 by omega), howA]
  by_cases q1 : zF α i a 0 = 0 <;> by_cases q2 : zF α i b 0 = 0 <;> simp [q1, q2] <;> rfl
end
