/-! blends, steps, means -/
theorem ring1 (x y a b : Int32) : (x + a) - (y + b) = (x - y) + (a - b) := by grind
theorem e_fill {an : Nat} (h1 : an < 4000) (ar : Nat → Int32) (v : Int32) : ∃ ar', m_J7_fill_53178 an ar v = some ar' ∧ ∀ j, j < an → ar' j = v := by
  have key : ∀ (d j n : Nat) (ar : Nat → Int32), j + d = an → d < n → (∀ q, q < j → ar q = v) → ∃ ar', k_J7_fill_53178_5 an n ar v (nI j) (Int32.ofNat an) = some ar' ∧ ∀ q, q < an → ar' q = v := by
    intro d
    induction d with
    | zero =>
      intro j n ar hj hd h
      obtain ⟨n', rfl⟩ : ∃ n', n = n' + 1 := ⟨n - 1, by omega⟩
      refine ⟨ar, ?_, fun q hq => h q (by omega)⟩
      rw [k_J7_fill_53178_5_s, show Int32.ofNat an = nI an from rfl, if_pos (nI_le (by omega) (by omega))]
    | succ d ih =>
      intro j n ar hj hd h
      obtain ⟨n', rfl⟩ : ∃ n', n = n' + 1 := ⟨n - 1, by omega⟩
      rw [k_J7_fill_53178_5_s, show Int32.ofNat an = nI an from rfl, if_neg (nI_ge (by omega) (by omega)), g_in (by omega) (by omega), cl _ (by omega), show nI j + (1 : Int32) = nI (j + 1) from nI_1 j]
      exact ih (j + 1) n' _ (by omega) (by omega) (fun q hq => by
        by_cases e : q = j
        · subst e; exact pk_us
        · rw [pk_un e]; exact h q (by omega))
  rw [m_J7_fill_53178]
  exact key an 0 FU ar (by omega) (by have : FU = 5000 := rfl; omega) (fun q hq => by omega)
section
variable {α : AS} {pg ps pn : Int32} {pp pf mno : Nat → Int32}
theorem e_addBlends (ok : OKA α) (hc : RC α pg ps pn pp pf) {i a b : Nat} (hi : i < zN α) (hl : (zG α).testBit i = false) (ha : a < 4) (hb : b < 4) (bb : Nat → Int32) : ∃ bb', m_X0_addBlends bb pf (nI i) (nI a) (nI b) = some bb' ∧ ∀ s, s < 32 → bb' s = bb s + bvl α i a b s := by
  have key : ∀ (d j n : Nat) (bc : Nat → Int32), j + d = 32 → d < n → (∀ q, q < j → bc q = bb q + bvl α i a b q) → (∀ q, j ≤ q → bc q = bb q) → ∃ bb', k_X0_addBlends_3 pf n bc (nI i) (nI a) (nI b) (nI j) = some bb' ∧ ∀ s, s < 32 → bb' s = bb s + bvl α i a b s := by
    intro d
    induction d with
    | zero =>
      intro j n bc hj hd h1 h2
      obtain ⟨n', rfl⟩ : ∃ n', n = n' + 1 := ⟨n - 1, by omega⟩
      refine ⟨bc, ?_, fun q hq => h1 q (by omega)⟩
      rw [k_X0_addBlends_3_s, show (32 : Int32) = nI 32 from rfl, if_pos (nI_le (by omega) (by omega))]
    | succ d ih =>
      intro j n bc hj hd h1 h2
      obtain ⟨n', rfl⟩ : ∃ n', n = n' + 1 := ⟨n - 1, by omega⟩
      rw [k_X0_addBlends_3_s, show (32 : Int32) = nI 32 from rfl, if_neg (nI_ge (by omega) (by omega)), g_in (by omega) (by omega), ob1_s (e_blended ok hc hi hl ha hb (by omega)), g_in (by omega) (by omega), cl _ (by omega), show nI j + (1 : Int32) = nI (j + 1) from nI_1 j]
      exact ih (j + 1) n' _ (by omega) (by omega) (fun q hq => by
        by_cases e : q = j
        · subst e; rw [pk_us, h2 q (by omega)]
        · rw [pk_un e]; exact h1 q (by omega)) (fun q hq => by rw [pk_un (by omega)]; exact h2 q (by omega))
  rw [m_X0_addBlends]
  exact key 32 0 FU bb (by omega) (by have : FU = 5000 := rfl; omega) (fun q hq => by omega) (fun q _ => rfl)
theorem orp {x f : Nat} (hf : f < 5) : nI x ||| ((1 : Int32) <<< (nI f &&& 31)) = nI (x ||| 2 ^ f) := by rw [shl1 (by omega), fa_or]
theorem orp32 {x f : Nat} (hx : x < 32) (hf : f < 5) : x ||| 2 ^ f < 32 := Nat.or_lt_two_pow (n := 5) hx (by have := Nat.pow_lt_pow_right (a := 2) (by omega) hf; omega)
theorem e_step (bb : Nat → Int32) {x f : Nat} (hx : x < 32) (hf : f < 5) : m_X0_stepEffect bb (nI x) (nI f) = some (bb (x ||| 2 ^ f) - bb x) := by
  have h := orp32 hx hf
  rw [m_X0_stepEffect, orp hf, g_in h (by omega), g_in hx (by omega), cl _ (by omega), cl _ (by omega)]
end
def w5 (s : Nat) : Nat := ([24, 6, 4, 6, 24] : List Nat).getD ((if s.testBit 0 then 1 else 0) + (if s.testBit 1 then 1 else 0) + (if s.testBit 2 then 1 else 0) + (if s.testBit 3 then 1 else 0) + (if s.testBit 4 then 1 else 0)) 0
def pw5 (f : Nat) : Nat → Nat
  | 0 => 0
  | s + 1 => if s.testBit f then pw5 f s else pw5 f s + w5 s
def ps5 (v : Nat → Int) (f : Nat) : Nat → Int
  | 0 => 0
  | s + 1 => if s.testBit f then ps5 v f s else ps5 v f s + (w5 s : Int) * (v (s ||| 2 ^ f) - v s)
theorem pw5_all : ∀ f : Fin 5, ∀ j : Fin 33, pw5 f.val j.val ≤ 120 := by decide +kernel
theorem ps5_bd (v : Nat → Int) {f : Nat} (hf : f < 5) (hv : ∀ s, s < 32 → -9980010 ≤ v s ∧ v s ≤ 1996002) : ∀ j, j ≤ 32 → -(pw5 f j * 11976012 : Int) ≤ ps5 v f j ∧ ps5 v f j ≤ (pw5 f j * 11976012 : Int) := by
  intro j
  induction j with
  | zero => intro _; simp [ps5, pw5]
  | succ j ih =>
    intro hj
    have ih := ih (by omega)
    rw [ps5, pw5]
    cases h : j.testBit f
    · rw [if_neg (by decide), if_neg (by decide)]
      have h1 := hv j (by omega)
      have h2 := hv (j ||| 2 ^ f) (orp32 (by omega) hf)
      have h3 : -11976012 ≤ v (j ||| 2 ^ f) - v j ∧ v (j ||| 2 ^ f) - v j ≤ 11976012 := by omega
      generalize v (j ||| 2 ^ f) - v j = z at h3
      have h4 : (w5 j : Int) * z ≤ (w5 j : Int) * 11976012 := Int.mul_le_mul_of_nonneg_left h3.2 (by omega)
      have h5 : (w5 j : Int) * (-11976012) ≤ (w5 j : Int) * z := Int.mul_le_mul_of_nonneg_left h3.1 (by omega)
      generalize (w5 j : Int) * z = q at h4 h5 ⊢
      push_cast
      rw [Int.add_mul]
      constructor <;> omega
    · rw [if_pos rfl, if_pos rfl]
      exact ih
theorem t_w5 : ∀ s : Fin 32, ∀ f : Fin 5, s.val.testBit f.val = false → ∃ r : Fin 5, m_J6_bitCount_0f7a4 (nI s.val) = some (nI r.val) ∧ T_AHEAD r.val = nI (w5 s.val) ∧ T_BY r.val = nI (w5 s.val) ∧ (((((nI s.val &&& (1 : Int32)) + ((nI s.val >>> ((1 : Int32) &&& 31)) &&& (1 : Int32))) + ((nI s.val >>> ((2 : Int32) &&& 31)) &&& (1 : Int32))) + ((nI s.val >>> ((3 : Int32) &&& 31)) &&& (1 : Int32))) + ((nI s.val >>> ((4 : Int32) &&& 31)) &&& (1 : Int32))) = nI r.val ∧ w5 s.val ≤ 24 := by decide +kernel
