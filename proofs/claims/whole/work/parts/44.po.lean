/-! move and grow -/
theorem g_in2 {α : Type} {n N : Nat} {x : Option α} (h : n < N) (hN : N < 2 ^ 31) : (if nI n < 0 ∨ N ≤ n then none else x) = x := if_neg (fun q => q.elim (fun w => nI_pos (by omega) w) (fun w => by omega))
def amv (α : AS) (x g : Nat) : AS := (zN α, zS α, zG α, (fun i => if i = x then g else zP α i), zF α)
def agr (α : AS) (g : Nat) (grp : Bool) : AS := (zN α + 1, zS α, (if grp then zG α ||| 2 ^ zN α else zG α), (fun i => if i = zN α then g else zP α i), (fun i k f => if i = zN α then (if f < 3 then 0 else 100) else zF α i k f))
theorem anc_zero_n (par : Nat → Nat) : ∀ (n i t : Nat), anc par n i t = true → ∀ m, n ≤ m → anc par m i t = true
  | 0, i, t, h, m, hm => by
    have h : i = t := of_decide_eq_true h
    cases m with
    | zero => exact decide_eq_true h
    | succ m => rw [anc, if_pos h]
  | n + 1, i, t, h, m, hm => by
    obtain ⟨m', rfl⟩ : ∃ m', m = m' + 1 := ⟨m - 1, by omega⟩
    rw [anc] at h ⊢
    by_cases q : i = t
    · rw [if_pos q]
    · rw [if_neg q] at h ⊢
      by_cases q0 : i = 0
      · rw [if_pos q0] at h; cases h
      · rw [if_neg q0] at h ⊢
        exact anc_zero_n par n (par i) t h m' (by omega)
/-- climbing on from where it ended changes nothing: nineteen steps are enough -/
theorem anc_more (par : Nat → Nat) : ∀ (d i t m : Nat), rch par d i → d ≤ m → anc par m i t = anc par d i t
  | 0, i, t, m, h, hm => by
    have h : i = 0 := h
    subst h
    cases m with
    | zero => rfl
    | succ m =>
      rw [anc, anc]
      by_cases q : 0 = t
      · simp [q]
      · simp [q]
  | d + 1, i, t, m, h, hm => by
    obtain ⟨m', rfl⟩ : ∃ m', m = m' + 1 := ⟨m - 1, by omega⟩
    rw [anc, anc]
    by_cases q : i = t
    · simp [q]
    · by_cases q0 : i = 0
      · simp [q, q0]
      · rw [if_neg q, if_neg q, if_neg q0, if_neg q0]
        exact anc_more par d (par i) t m' (h.resolve_left q0) (by omega)
theorem anc_par {α : AS} (ok : OKA α) {i x : Nat} (hi : i < zN α) (h0 : 0 < i) (hn : i ≠ x) : anc (zP α) 19 i x = anc (zP α) 19 (zP α i) x := by
  obtain ⟨rk, hr⟩ := ok.2.2.2.2.2.2.1
  have h2 := hr i h0 hi
  have e := anc_more (zP α) 19 i x 20 (rch_all ok hi) (by omega)
  rw [← e, show (20 : Nat) = 19 + 1 from rfl, anc, if_neg hn, if_neg (by omega)]
theorem ok_mv {α : AS} (ok : OKA α) {x g : Nat} (hx : x < zN α) (hx0 : 0 < x) (hg : g < zN α) (hgg : (zG α).testBit g = true) (hw : anc (zP α) 19 g x = false) : OKA (amv α x g) := by
  obtain ⟨a1, a2, a3, a4, a5, a6, ⟨rk, hr⟩, a8⟩ := id ok
  refine ⟨a1, a2, a3, a4, a5, a6, ⟨fun y => if anc (zP α) 19 y x then rk y + (rk g + 1) else rk y, fun i i0 hi => ?_⟩, a8⟩
  have hi : i < zN α := hi
  show (if i = x then g else zP α i) < zN α ∧ (zG α).testBit (if i = x then g else zP α i) = true ∧ (if anc (zP α) 19 (if i = x then g else zP α i) x then rk (if i = x then g else zP α i) + (rk g + 1) else rk (if i = x then g else zP α i)) < (if anc (zP α) 19 i x then rk i + (rk g + 1) else rk i)
  by_cases e : i = x
  · rw [if_pos e, hw, if_neg (by decide), e, show anc (zP α) 19 x x = true by rw [anc, if_pos rfl], if_pos rfl]
    exact ⟨hg, hgg, by omega⟩
  · have h2 := hr i i0 hi
    rw [if_neg e, anc_par ok hi i0 e]
    refine ⟨h2.1, h2.2.1, ?_⟩
    split <;> omega
theorem TB_parent {jk jp jb jr : Nat → Int32} {q x p : Nat} {β γ : AS} (hq : q < 10) (hx : x < zN β) (hx0 : 0 < x) (h20 : zN β ≤ 20) (e1 : jk q = 1) (e2 : jp q = nI x) (e3 : jb q = nI p) (eN : zN γ = zN β) (eS : zS γ = zS β) (eG : zG γ = zG β) (eF : zF γ = zF β) (ex : zP γ x = p) (eP : ∀ i, i ≠ x → zP γ i = zP β i) : TB jk jp jb jr q β γ := by
  intro jn pg ps pn pp pf hc
  obtain ⟨a1, a2, a3, a4, a5, a6⟩ := hc
  refine ⟨pn, upd pp x (nI p), pf, ?_, by rw [eG]; exact a1, by rw [eS]; exact a2, by rw [eN]; exact a3, by rw [pk_un (by omega)]; exact a4, fun i i1 i2 => ?_, fun i i1 i2 k k1 f f1 => by rw [eF]; exact a6 i (by rw [← eN]; exact i1) (by rw [← eG]; exact i2) k k1 f f1⟩
  · rw [m_X1_takeBack, g_in hq (by omega), g_in hq (by omega), cl q (by omega), e1, if_neg (by decide), g_in2 hq (by omega), if_pos rfl, g_in2 hq (by omega), e2, g_in (by omega) (by omega), cl x (by omega), e3, k_X1_takeBack_93, back9 hq]
  · by_cases w : i = x
    · rw [w, pk_us, ex]
    · rw [pk_un w, eP i w]; exact a5 i i1 (by rw [← eN]; exact i2)
theorem TB_grow {jk jp jb jr : Nat → Int32} {q g : Nat} {γ : AS} (hq : q < 10) (hN : 1 ≤ zN γ) (h20 : zN γ < 20) (e1 : jk q = 2) : TB jk jp jb jr q (agr γ g false) γ := by
  intro jn pg ps pn pp pf hc
  obtain ⟨a1, a2, a3, a4, a5, a6⟩ := hc
  refine ⟨nI (zN γ), pp, pf, ?_, a1, a2, rfl, a4, fun i i1 i2 => ?_, fun i i1 i2 k k1 f f1 => ?_⟩
  · have a3 : pn = nI (zN γ + 1) := a3
    have d : m_X2_dropLastLeaf (nI (zN γ + 1)) = some (nI (zN γ)) := by
      rw [m_X2_dropLastLeaf, if_neg (show ¬ nI (zN γ + 1) ≤ (1 : Int32) from nI_ge (a := 1) (by omega) (by omega)), nI_pred]
    rw [m_X1_takeBack, g_in hq (by omega), g_in hq (by omega), cl q (by omega), e1, if_neg (by decide), g_in2 hq (by omega), if_neg (by decide), a3, ob1_s d, k_X1_takeBack_93, back9 hq]
  · have := a5 i i1 (show i < zN γ + 1 by omega)
    rw [this]
    exact congrArg nI (if_neg (by omega))
  · have := a6 i (show i < zN γ + 1 by omega) i2 k k1 f f1
    rw [this]
    exact congrArg nI (if_neg (by omega))
theorem b_lt {G n : Nat} (h : G < 2 ^ n) {i : Nat} (hi : n ≤ i) : G.testBit i = false := Nat.testBit_lt_two_pow (Nat.lt_of_lt_of_le h (Nat.pow_le_pow_right (by omega) hi))
theorem ok_gr {α : AS} (ok : OKA α) {g : Nat} {grp : Bool} (h20 : zN α < 20) (hg : g < zN α) (hgg : (zG α).testBit g = true) : OKA (agr α g grp) := by
  obtain ⟨a1, a2, a3, a4, a5, a6, ⟨rk, hr⟩, a8⟩ := id ok
  have bit : ∀ i, i < zN α → (zG (agr α g grp)).testBit i = (zG α).testBit i := by
    intro i hi
    show (if grp then zG α ||| 2 ^ zN α else zG α).testBit i = _
    cases grp
    · rfl
    · rw [if_pos rfl, Nat.testBit_or, Nat.testBit_two_pow]
      have : ¬ zN α = i := by omega
      simp [this]
  refine ⟨show 1 ≤ zN α + 1 by omega, show zN α + 1 ≤ 20 by omega, a3, a4, ?_, ?_, ⟨fun y => if y = zN α then rk g + 1 else rk y, fun i i0 hi => ?_⟩, fun i hi hl k hk f hf => ?_⟩
  · show (if grp then zG α ||| 2 ^ zN α else zG α) < 2 ^ (zN α + 1)
    have p : 2 ^ (zN α + 1) = 2 * 2 ^ zN α := by rw [Nat.pow_succ]; omega
    cases grp
    · rw [if_neg (by decide), p]; omega
    · rw [if_pos rfl]
      exact Nat.or_lt_two_pow (by omega) (by have := Nat.two_pow_pos (zN α); omega)
  · rw [bit 0 (by omega)]; exact a6
  · have hi : i < zN α + 1 := hi
    show (if i = zN α then g else zP α i) < zN α + 1 ∧ (zG (agr α g grp)).testBit (if i = zN α then g else zP α i) = true ∧ (if (if i = zN α then g else zP α i) = zN α then rk g + 1 else rk (if i = zN α then g else zP α i)) < (if i = zN α then rk g + 1 else rk i)
    by_cases e : i = zN α
    · rw [if_pos e, if_pos e, bit g hg, if_neg (by omega)]
      exact ⟨by omega, hgg, by omega⟩
    · have h2 := hr i i0 (by omega)
      rw [if_neg e, if_neg e, bit _ h2.1, if_neg (by omega)]
      exact ⟨by omega, h2.2.1, h2.2.2⟩
  · have hi : i < zN α + 1 := hi
    show lo5 f ≤ (if i = zN α then (if f < 3 then 0 else 100) else zF α i k f) ∧ (if i = zN α then (if f < 3 then 0 else 100) else zF α i k f) ≤ hi5 f
    by_cases e : i = zN α
    · rw [if_pos e]
      exact (by decide : ∀ f : Fin 5, lo5 f.val ≤ (if f.val < 3 then 0 else 100) ∧ (if f.val < 3 then 0 else 100) ≤ hi5 f.val) ⟨f, hf⟩
    · rw [if_neg e]
      rw [bit i (by omega)] at hl
      exact a8 i (by omega) hl k hk f hf
theorem t_usual : ∀ f : Fin 5, T_USUAL f.val = nI (if f.val < 3 then 0 else 100) := by decide +kernel
theorem e_addLeaf {N g : Nat} (hN : N < 20) (pp pf : Nat → Int32) (x : Int32) : ∃ pf', m_X2_addLeaf (nI N) pp pf x = some (nI N, nI (N + 1), upd pp N x, pf') ∧ (∀ k, k < 4 → ∀ f, f < 5 → pf' (100 * k + 5 * N + f) = nI (if f < 3 then 0 else 100)) ∧ ∀ i, i < 20 → i ≠ N → ∀ k, k < 4 → ∀ f, f < 5 → pf' (100 * k + 5 * i + f) = pf (100 * k + 5 * i + f) := by
  have inner : ∀ (ct : Int32 → (Nat → Int32) → (Nat → Int32) → Int32 → Int32 → Option (Int32 × Int32 × (Nat → Int32) × (Nat → Int32))) (pn : Int32) (pq : Nat → Int32) (k : Nat), k < 4 → ∀ (d f n : Nat) (pf : Nat → Int32), f + d = 5 → d < n → ∃ pf', k_X2_addLeaf_43 ct n pn pq pf (nI N) (nI k) (nI f) = ct pn pq pf' (nI N) (nI (k + 1)) ∧ (∀ f', f ≤ f' → f' < 5 → pf' (100 * k + 5 * N + f') = nI (if f' < 3 then 0 else 100)) ∧ ∀ z, (z < 100 * k + 5 * N + f ∨ 100 * k + 5 * N + 5 ≤ z) → pf' z = pf z := by
    intro ct pn pq k hk d
    induction d with
    | zero =>
      intro f n pf hf hn
      obtain ⟨n', rfl⟩ : ∃ n', n = n' + 1 := ⟨n - 1, by omega⟩
      refine ⟨pf, ?_, fun f' _ _ => by omega, fun _ _ => rfl⟩
      rw [k_X2_addLeaf_43_s, show (5 : Int32) = nI 5 from rfl, if_pos (nI_le (by omega) (by omega)), show nI k + (1 : Int32) = nI (k + 1) from nI_1 k]
    | succ d ih =>
      intro f n pf hf hn
      obtain ⟨n', rfl⟩ : ∃ n', n = n' + 1 := ⟨n - 1, by omega⟩
      have tu := t_usual ⟨f, by omega⟩
      simp only at tu
      obtain ⟨pf', e1, e2, e3⟩ := ih (f + 1) n' (upd pf (100 * k + 5 * N + f) (nI (if f < 3 then 0 else 100))) (by omega) (by omega)
      refine ⟨pf', ?_, fun f' f1 f2 => ?_, fun z hz => ?_⟩
      · rw [k_X2_addLeaf_43_s, show (5 : Int32) = nI 5 from rfl, if_neg (nI_ge (by omega) (by omega)), g_in (by omega) (by omega), cl _ (by omega), tu, ob1_s (e_put (by omega) hk (by omega)), show nI f + (1 : Int32) = nI (f + 1) from nI_1 f]
        exact e1
      · by_cases w : f' = f
        · subst w; rw [e3 _ (by omega), pk_us]
        · exact e2 f' (by omega) f2
      · rw [e3 z (by omega), pk_un (by omega)]
  have outer : ∀ (pn : Int32) (pq : Nat → Int32) (d k n : Nat) (pf : Nat → Int32), k + d = 4 → d < n → ∃ pf', k_X2_addLeaf_35 n pn pq pf (nI N) (nI k) = some (nI N, pn, pq, pf') ∧ (∀ k', k ≤ k' → k' < 4 → ∀ f, f < 5 → pf' (100 * k' + 5 * N + f) = nI (if f < 3 then 0 else 100)) ∧ ∀ z, (∀ k', k ≤ k' → k' < 4 → (z < 100 * k' + 5 * N ∨ 100 * k' + 5 * N + 5 ≤ z)) → pf' z = pf z := by
    intro pn pq d
    induction d with
    | zero =>
      intro k n pf hk hn
      obtain ⟨n', rfl⟩ : ∃ n', n = n' + 1 := ⟨n - 1, by omega⟩
      refine ⟨pf, ?_, fun k' _ _ => by omega, fun _ _ => rfl⟩
      rw [k_X2_addLeaf_35_s, show (4 : Int32) = nI 4 from rfl, if_pos (nI_le (by omega) (by omega))]
    | succ d ih =>
      intro k n pf hk hn
      obtain ⟨n', rfl⟩ : ∃ n', n = n' + 1 := ⟨n - 1, by omega⟩
      obtain ⟨p1, a1, a2, a3⟩ := inner (k_X2_addLeaf_35 n') pn pq k (by omega) 5 0 FU pf (by omega) (by decide)
      obtain ⟨p2, b1, b2, b3⟩ := ih (k + 1) n' p1 (by omega) (by omega)
      refine ⟨p2, ?_, fun k' k1 k2 f hf => ?_, fun z hz => ?_⟩
      · rw [k_X2_addLeaf_35_s, show (4 : Int32) = nI 4 from rfl, if_neg (nI_ge (by omega) (by omega))]
        exact Eq.trans a1 b1
      · by_cases w : k' = k
        · subst w
          rw [b3 _ (fun k'' c1 c2 => by omega)]
          exact a2 f (by omega) hf
        · exact b2 k' (by omega) k2 f hf
      · have := hz k (by omega) (by omega)
        rw [b3 z (fun k' c1 c2 => hz k' (by omega) c2), a3 z (by omega)]
  obtain ⟨pf', e1, e2, e3⟩ := outer (nI (N + 1)) (upd pp N x) 4 0 FU pf (by omega) (by decide)
  refine ⟨pf', ?_, fun k hk f hf => e2 k (by omega) hk f hf, fun i hi hn k hk f hf => e3 _ (fun k' _ c2 => by omega)⟩
  rw [m_X2_addLeaf, if_pos (show nI N < (20 : Int32) from nI_lt (b := 20) hN (by omega)), g_in hN (by omega), cl _ (by omega), show nI N + (1 : Int32) = nI (N + 1) from nI_1 N]
  exact e1
theorem f_adds {N : Nat} (hN : N < 20) (ar : Nat → Int32) (h1 : ar 1 = nI N) (x : Int32) (grp : Bool) : ∃ ar', m_X7_adds ar x (bI grp) = some ar' ∧ ar' 1 = nI (N + 1) ∧ ar' (2 + N) = x ∧ ar' (22 + N) = bI grp ∧ (∀ k, k < 4 → ∀ f, f < 5 → ar' (42 + 20 * N + 5 * k + f) = nI (if f < 3 then 0 else 100)) ∧ ∀ z, z ≠ 1 → z ≠ 2 + N → z ≠ 22 + N → (z < 42 + 20 * N ∨ 62 + 20 * N ≤ z) → ar' z = ar z := by
  have inner : ∀ (ct : (Nat → Int32) → Int32 → Int32 → Option (Nat → Int32)) (k : Nat), k < 4 → ∀ (d f n : Nat) (ar : Nat → Int32), f + d = 5 → d < n → ∃ ar', k_X7_adds_37 ct n ar (nI N) (nI k) (nI f) = ct ar' (nI N) (nI (k + 1)) ∧ (∀ f', f ≤ f' → f' < 5 → ar' (42 + 20 * N + 5 * k + f') = nI (if f' < 3 then 0 else 100)) ∧ ∀ z, (z < 42 + 20 * N + 5 * k + f ∨ 42 + 20 * N + 5 * k + 5 ≤ z) → ar' z = ar z := by
    intro ct k hk d
    induction d with
    | zero =>
      intro f n ar hf hn
      obtain ⟨n', rfl⟩ : ∃ n', n = n' + 1 := ⟨n - 1, by omega⟩
      refine ⟨ar, ?_, fun f' _ _ => by omega, fun _ _ => rfl⟩
      rw [k_X7_adds_37_s, show (5 : Int32) = nI 5 from rfl, if_pos (nI_le (by omega) (by omega)), show nI k + (1 : Int32) = nI (k + 1) from nI_1 k]
    | succ d ih =>
      intro f n ar hf hn
      obtain ⟨n', rfl⟩ : ∃ n', n = n' + 1 := ⟨n - 1, by omega⟩
      obtain ⟨ar', e1, e2, e3⟩ := ih (f + 1) n' (upd ar (42 + 20 * N + 5 * k + f) (nI (if f < 3 then 0 else 100))) (by omega) (by omega)
      have L64 : ∀ v : Int32, k_X7_adds_64 ct (k_X7_adds_37 ct n') ar (nI N) (nI k) (nI f) (nI (42 + 20 * N + 5 * k + f)) v = k_X7_adds_37 ct n' (upd ar (42 + 20 * N + 5 * k + f) v) (nI N) (nI k) (nI (f + 1)) := by
        intro v
        rw [k_X7_adds_64, g_in (by omega) (by omega), cl _ (by omega), show nI f + (1 : Int32) = nI (f + 1) from nI_1 f]
      refine ⟨ar', ?_, fun f' f1 f2 => ?_, fun z hz => ?_⟩
      · rw [k_X7_adds_37_s, show (5 : Int32) = nI 5 from rfl, if_neg (nI_ge (by omega) (by omega)), ob1_s (f_at N k f), L64, L64]
        by_cases w : f < 3
        · rw [if_neg (show ¬ (3 : Int32) ≤ nI f from nI_ge (b := 3) w (by omega))]
          rw [if_pos w] at e1
          exact e1
        · rw [if_pos (show (3 : Int32) ≤ nI f from nI_le (a := 3) (by omega) (by omega))]
          rw [if_neg w] at e1
          exact e1
      · by_cases w : f' = f
        · subst w; rw [e3 _ (by omega), pk_us]
        · exact e2 f' (by omega) f2
      · rw [e3 z (by omega), pk_un (by omega)]
  have outer : ∀ (d k n : Nat) (ar : Nat → Int32), k + d = 4 → d < n → ∃ ar', k_X7_adds_28 n ar (nI N) (nI k) = some (upd ar' 1 (ar' 1 + 1)) ∧ (∀ k', k ≤ k' → k' < 4 → ∀ f, f < 5 → ar' (42 + 20 * N + 5 * k' + f) = nI (if f < 3 then 0 else 100)) ∧ ∀ z, (z < 42 + 20 * N + 5 * k ∨ 62 + 20 * N ≤ z) → ar' z = ar z := by
    intro d
    induction d with
    | zero =>
      intro k n ar hk hn
      obtain ⟨n', rfl⟩ : ∃ n', n = n' + 1 := ⟨n - 1, by omega⟩
      refine ⟨ar, ?_, fun k' _ _ => by omega, fun _ _ => rfl⟩
      rw [k_X7_adds_28_s, show (4 : Int32) = nI 4 from rfl, if_pos (nI_le (by omega) (by omega)), if_neg (by decide), if_neg (by decide), show (1 : Int32).toNatClampNeg = 1 from rfl]
    | succ d ih =>
      intro k n ar hk hn
      obtain ⟨n', rfl⟩ : ∃ n', n = n' + 1 := ⟨n - 1, by omega⟩
      obtain ⟨p1, a1, a2, a3⟩ := inner (k_X7_adds_28 n') k (by omega) 5 0 FU ar (by omega) (by decide)
      obtain ⟨p2, b1, b2, b3⟩ := ih (k + 1) n' p1 (by omega) (by omega)
      refine ⟨p2, ?_, fun k' k1 k2 f hf => ?_, fun z hz => ?_⟩
      · rw [k_X7_adds_28_s, show (4 : Int32) = nI 4 from rfl, if_neg (nI_ge (by omega) (by omega))]
        have a1' : k_X7_adds_37 (k_X7_adds_28 n') FU ar (nI N) (nI k) (0 : Int32) = _ := a1
        rw [a1', b1]
      · by_cases w : k' = k
        · subst w
          rw [b3 _ (by omega)]
          exact a2 f (by omega) hf
        · exact b2 k' (by omega) k2 f hf
      · rw [b3 z (by omega), a3 z (by omega)]
  have e24 : ∀ v : Int32, ∃ ar', k_X7_adds_24 (upd ar (2 + N) x) (nI N) (nI (22 + N)) v = some ar' ∧ ar' 1 = nI (N + 1) ∧ ar' (2 + N) = x ∧ ar' (22 + N) = v ∧ (∀ k, k < 4 → ∀ f, f < 5 → ar' (42 + 20 * N + 5 * k + f) = nI (if f < 3 then 0 else 100)) ∧ ∀ z, z ≠ 1 → z ≠ 2 + N → z ≠ 22 + N → (z < 42 + 20 * N ∨ 62 + 20 * N ≤ z) → ar' z = ar z := by
    intro v
    obtain ⟨ar', o1, o2, o3⟩ := outer 4 0 FU (upd (upd ar (2 + N) x) (22 + N) v) (by omega) (by decide)
    refine ⟨upd ar' 1 (ar' 1 + 1), ?_, ?_, ?_, ?_, fun k hk f hf => ?_, fun z z1 z2 z3 z4 => ?_⟩
    · have o1' : k_X7_adds_28 FU (upd (upd ar (2 + N) x) (22 + N) v) (nI N) (0 : Int32) = _ := o1
      rw [k_X7_adds_24, g_in (by omega) (by omega), cl _ (by omega), o1']
    · rw [pk_us, o3 1 (by omega), pk_un (by omega), pk_un (by omega), h1]; exact nI_1 N
    · rw [pk_un (by omega), o3 _ (by omega), pk_un (by omega), pk_us]
    · rw [pk_un (by omega), o3 _ (by omega), pk_us]
    · rw [pk_un (by omega)]; exact o2 k (by omega) hk f hf
    · rw [pk_un z1, o3 z (by omega), pk_un z3, pk_un z2]
  rw [m_X7_adds, if_neg (by decide), show (1 : Int32).toNatClampNeg = 1 from rfl, h1, show (2 : Int32) + nI N = nI (2 + N) from nI_add 2 N, g_in (by omega) (by omega), cl _ (by omega), show (22 : Int32) + nI N = nI (22 + N) from nI_add 22 N, ifb]
  cases grp
  · rw [if_neg (by decide)]; exact e24 0
  · rw [if_pos rfl]; exact e24 1
section
variable {h l : Nat} {jk jp jb jr : Nat → Int32} {A : Nat → AS} {msn mno pp pf : Nat → Int32} {pg ps pn : Int32}
theorem op_move (H : HIST h l jk jp jb jr A msn) (hc : RC (A 0) pg ps pn pp pf) (hm : RM (A 0) mno) (mth x1 x2 : Int32) :
    ∃ r pp' h' l' jk' jp' jb' mno' msn' A', m_X6_move pg pn pp (nI l) (nI h) jk jp jb x1 x2 = some (r, pp', nI l', nI h', jk', jp', jb') ∧ m_X7_move mth (nI h) mno msn x1 x2 = some (r, 0, nI h', mno', msn') ∧ HIST h' l' jk' jp' jb' jr A' msn' ∧ RC (A' 0) pg ps pn pp' pf ∧ RM (A' 0) mno' := by
  obtain ⟨hh, hl, okA, ht, hr⟩ := id H
  have ok := okA 0 (by omega)
  have h20 : zN (A 0) ≤ 20 := ok.2.1
  have no : ∀ {X : Option (Int32 × (Nat → Int32) × Int32 × Int32 × (Nat → Int32) × (Nat → Int32) × (Nat → Int32))} {Y : Option (Int32 × Int32 × Int32 × (Nat → Int32) × (Nat → Int32))}, X = some (0, pp, nI l, nI h, jk, jp, jb) → Y = some (0, 0, nI h, mno, msn) → ∃ r pp' h' l' jk' jp' jb' mno' msn' A', X = some (r, pp', nI l', nI h', jk', jp', jb') ∧ Y = some (r, 0, nI h', mno', msn') ∧ HIST h' l' jk' jp' jb' jr A' msn' ∧ RC (A' 0) pg ps pn pp' pf ∧ RM (A' 0) mno' := fun e1 e2 => ⟨0, pp, h, l, jk, jp, jb, mno, msn, A, e1, e2, H, hc, hm⟩
  rw [m_X6_move, m_X7_move, ob1_s (b_isNode ok hc.2.2.1 x1), ob1_s (d_isNode ok hm x1), ifb, ifb, ob1_s (b_isGroup ok hc.1 hc.2.2.1 x2), ob1_s (d_isGroup ok hm x2), ifb, ifb]
  cases c1 : inR (zN (A 0)) x1
  · rw [if_neg (by decide), if_neg (by decide)]; exact no rfl rfl
  rw [if_pos rfl, if_pos rfl]
  by_cases c0 : x1 = 0
  · rw [if_pos c0, if_pos c0]; exact no rfl rfl
  rw [if_neg c0, if_neg c0]
  cases c2 : grR (A 0) x2
  · rw [if_neg (by decide), if_neg (by decide)]; exact no rfl rfl
  rw [if_pos rfl, if_pos rfl]
  obtain ⟨x, hx, rfl⟩ := inR_t c1 (by omega)
  obtain ⟨g, hg, rfl, hgg⟩ := grR_t ok c2
  have x0 : 0 < x := Nat.pos_of_ne_zero (fun e => c0 (by rw [e]; rfl))
  have pe := f_parent hm.2.2.1 hm.2.2.2.1 h20 hx
  rw [if_neg (show ¬ x = 0 by omega)] at pe
  obtain ⟨rk, hrk⟩ := ok.2.2.2.2.2.2.1
  have hp := (hrk x x0 hx).1
  rw [g_in (by omega) (by omega), cl x (by omega), hc.2.2.2.2.1 x x0 hx, ob1_s pe]
  by_cases c3 : nI (zP (A 0) x) = nI g
  · rw [if_pos c3, if_pos c3]; exact no rfl rfl
  rw [if_neg c3, if_neg c3, ob1_s (e_isWithin ok hc.2.2.1 hc.2.2.2.1 hc.2.2.2.2.1 hg hx), ob1_s (f_isBelow ok hm.2.2.1 hm.2.2.2.1 hg hx)]
  cases c4 : anc (zP (A 0)) 19 g x
  · rw [if_pos (by decide), if_pos (by decide)]
    obtain ⟨msn', s1, s2, s3⟩ := f_snap hh mno msn
    have kp : m_X1_keepParent (nI l) (nI h) jk jp jb pp (nI x) = some (nI ((l + 1) % 10), nI (h1 h), upd jk ((l + 1) % 10) 1, upd jp ((l + 1) % 10) (nI x), upd jb ((l + 1) % 10) (nI (zP (A 0) x))) := by
      rw [m_X1_keepParent, ob4_s (e_keepAct hh hl jk jp 1 (nI x)), g_in (by omega) (by omega), g_in (by omega) (by omega), cl _ (by omega), cl _ (by omega), hc.2.2.2.2.1 x x0 hx]
    rw [ob5_s kp, g_in2 (show x < 20 by omega) (by omega), ob2_s s1, show (2 : Int32) + nI x = nI (2 + x) from nI_add 2 x, g_in (by omega) (by omega), cl (2 + x) (by omega)]
    have ok2 := ok_mv ok hx x0 hg hgg c4
    refine ⟨_, _, h1 h, (l + 1) % 10, _, _, _, _, msn', _, rfl, rfl, h_push H ok2 hm ?_ ?_ s2 s3, ?_, ?_⟩
    · exact TB_parent (x := x) (p := zP (A 0) x) (by omega) hx x0 h20 pk_us pk_us pk_us rfl rfl rfl rfl rfl (fun i hi => (if_neg hi).symm)
    · intro q hq hn
      exact ⟨pk_un hn, pk_un hn, pk_un hn, fun _ _ => rfl⟩
    · obtain ⟨a1, a2, a3, a4, a5, a6⟩ := hc
      refine ⟨a1, a2, a3, by rw [pk_un (by omega)]; exact a4, fun i i1 i2 => ?_, a6⟩
      show upd pp x (nI g) i = nI (if i = x then g else zP (A 0) i)
      by_cases w : i = x
      · rw [w, pk_us, if_pos rfl]
      · rw [pk_un w, if_neg w]; exact a5 i i1 i2
    · obtain ⟨a1, a2, a3, a4, a5, a6⟩ := hm
      refine ⟨by rw [pk_un (by omega)]; exact a1, by rw [pk_un (by omega)]; exact a2, by rw [pk_un (by omega)]; exact a3, fun i i1 i2 => ?_, fun i i1 => ?_, fun i i1 i2 k k1 f f1 => ?_⟩
      · show upd mno (2 + x) (nI g) (2 + i) = nI (if i = x then g else zP (A 0) i)
        by_cases w : i = x
        · rw [w, pk_us, if_pos rfl]
        · rw [pk_un (by omega), if_neg w]; exact a4 i i1 i2
      · rw [pk_un (by omega)]; exact a5 i i1
      · rw [pk_un (by omega)]; exact a6 i i1 i2 k k1 f f1
  · rw [if_neg (by decide), if_neg (by decide)]; exact no rfl rfl
/-- a node more, on both sides -/
theorem rc_gr {α : AS} (ok : OKA α) (hc : RC α pg ps pn pp pf) {g : Nat} {grp : Bool} {pg' : Int32} {pf' : Nat → Int32} (h20 : zN α < 20) (eg : pg' = nI (if grp then zG α ||| 2 ^ zN α else zG α)) (e1 : grp = false → ∀ k, k < 4 → ∀ f, f < 5 → pf' (100 * k + 5 * zN α + f) = nI (if f < 3 then 0 else 100)) (e2 : ∀ i, i < 20 → i ≠ zN α → ∀ k, k < 4 → ∀ f, f < 5 → pf' (100 * k + 5 * i + f) = pf (100 * k + 5 * i + f)) : RC (agr α g grp) pg' ps (nI (zN α + 1)) (upd pp (zN α) (nI g)) pf' := by
  have hN1 : 1 ≤ zN α := ok.1
  obtain ⟨a1, a2, a3, a4, a5, a6⟩ := hc
  refine ⟨eg, a2, rfl, by rw [pk_un (by omega)]; exact a4, fun i i1 i2 => ?_, fun i i1 i2 k k1 f f1 => ?_⟩
  · have i2 : i < zN α + 1 := i2
    show upd pp (zN α) (nI g) i = nI (if i = zN α then g else zP α i)
    by_cases w : i = zN α
    · rw [w, pk_us, if_pos rfl]
    · rw [pk_un w, if_neg w]; exact a5 i i1 (by omega)
  · have i1 : i < zN α + 1 := i1
    have i2 : (if grp then zG α ||| 2 ^ zN α else zG α).testBit i = false := i2
    show pf' (100 * k + 5 * i + f) = nI (if i = zN α then (if f < 3 then 0 else 100) else zF α i k f)
    by_cases w : i = zN α
    · rw [if_pos w, w]
      cases grp
      · exact e1 rfl k k1 f f1
      · rw [if_pos rfl, w, Nat.testBit_or, Nat.testBit_two_pow] at i2
        simp at i2
    · rw [if_neg w, e2 i (by omega) w k k1 f f1]
      refine a6 i (by omega) ?_ k k1 f f1
      cases grp
      · exact i2
      · rw [if_pos rfl, Nat.testBit_or] at i2
        simp at i2; exact i2.1
theorem rm_gr {α : AS} (ok : OKA α) (hm : RM α mno) {g : Nat} {grp : Bool} {ar' : Nat → Int32} (h20 : zN α < 20) (b1 : ar' 1 = nI (zN α + 1)) (b2 : ar' (2 + zN α) = nI g) (b3 : ar' (22 + zN α) = bI grp) (b4 : ∀ k, k < 4 → ∀ f, f < 5 → ar' (42 + 20 * zN α + 5 * k + f) = nI (if f < 3 then 0 else 100)) (b5 : ∀ z, z ≠ 1 → z ≠ 2 + zN α → z ≠ 22 + zN α → (z < 42 + 20 * zN α ∨ 62 + 20 * zN α ≤ z) → ar' z = mno z) : RM (agr α g grp) ar' := by
  have hN1 : 1 ≤ zN α := ok.1
  have hG := ok.2.2.2.2.1
  obtain ⟨a1, a2, a3, a4, a5, a6⟩ := hm
  refine ⟨by rw [b5 _ (by omega) (by omega) (by omega) (by omega)]; exact a1, b1, by rw [b5 _ (by omega) (by omega) (by omega) (by omega)]; exact a3, fun i i1 i2 => ?_, fun i i1 => ?_, fun i i1 i2 k k1 f f1 => ?_⟩
  · have i2 : i < zN α + 1 := i2
    show ar' (2 + i) = nI (if i = zN α then g else zP α i)
    by_cases w : i = zN α
    · rw [w, b2, if_pos rfl]
    · rw [b5 _ (by omega) (by omega) (by omega) (by omega), if_neg w]; exact a4 i i1 (by omega)
  · have i1 : i < zN α + 1 := i1
    show ar' (22 + i) = nI (if (if grp then zG α ||| 2 ^ zN α else zG α).testBit i then 1 else 0)
    by_cases w : i = zN α
    · rw [w, b3]
      cases grp
      · show bI false = nI (if (zG α).testBit (zN α) then 1 else 0)
        rw [b_lt hG (Nat.le_refl _)]; rfl
      · rw [if_pos rfl, Nat.testBit_or, Nat.testBit_two_pow]; simp; rfl
    · rw [b5 _ (by omega) (by omega) (by omega) (by omega), a5 i (by omega)]
      cases grp
      · rfl
      · have : ¬ zN α = i := by omega
        rw [if_pos rfl, Nat.testBit_or, Nat.testBit_two_pow]; simp [this]
  · have i1 : i < zN α + 1 := i1
    have i2 : (if grp then zG α ||| 2 ^ zN α else zG α).testBit i = false := i2
    show ar' (42 + 20 * i + 5 * k + f) = nI (if i = zN α then (if f < 3 then 0 else 100) else zF α i k f)
    by_cases w : i = zN α
    · rw [if_pos w, w]; exact b4 k k1 f f1
    · rw [if_neg w, b5 _ (by omega) (by omega) (by omega) (by omega)]
      refine a6 i (by omega) ?_ k k1 f f1
      cases grp
      · exact i2
      · rw [if_pos rfl, Nat.testBit_or] at i2
        simp at i2; exact i2.1
theorem op_grow (H : HIST h l jk jp jb jr A msn) (hc : RC (A 0) pg ps pn pp pf) (hm : RM (A 0) mno) (mth x1 : Int32) :
    ∃ r pn' pp' pf' h' l' jk' jp' mno' msn' A', m_X6_grow pg pn pp pf (nI l) (nI h) jk jp x1 = some (r, pn', pp', pf', nI l', nI h', jk', jp') ∧ m_X7_grow mth (nI h) mno msn x1 = some (r, 0, nI h', mno', msn') ∧ HIST h' l' jk' jp' jb jr A' msn' ∧ RC (A' 0) pg ps pn' pp' pf' ∧ RM (A' 0) mno' := by
  obtain ⟨hh, hl, okA, ht, hr⟩ := id H
  have ok := okA 0 (by omega)
  have h20 : zN (A 0) ≤ 20 := ok.2.1
  have hN1 : 1 ≤ zN (A 0) := ok.1
  have no : ∀ (v : Int32) {X : Option (Int32 × Int32 × (Nat → Int32) × (Nat → Int32) × Int32 × Int32 × (Nat → Int32) × (Nat → Int32))} {Y : Option (Int32 × Int32 × Int32 × (Nat → Int32) × (Nat → Int32))}, X = some (v, pn, pp, pf, nI l, nI h, jk, jp) → Y = some (v, 0, nI h, mno, msn) → ∃ r pn' pp' pf' h' l' jk' jp' mno' msn' A', X = some (r, pn', pp', pf', nI l', nI h', jk', jp') ∧ Y = some (r, 0, nI h', mno', msn') ∧ HIST h' l' jk' jp' jb jr A' msn' ∧ RC (A' 0) pg ps pn' pp' pf' ∧ RM (A' 0) mno' := fun v X Y e1 e2 => ⟨v, pn, pp, pf, h, l, jk, jp, mno, msn, A, e1, e2, H, hc, hm⟩
  rw [m_X6_grow, m_X7_grow, ob1_s (b_isGroup ok hc.1 hc.2.2.1 x1), ob1_s (d_isGroup ok hm x1), ifb, ifb]
  cases c2 : grR (A 0) x1
  · rw [if_neg (by decide), if_neg (by decide)]; exact no (-1) rfl rfl
  rw [if_pos rfl, if_pos rfl, if_neg (show ¬ ((1 : Int32) < 0 ∨ 442 ≤ (1 : Int32).toNatClampNeg) by decide), show (1 : Int32).toNatClampNeg = 1 from rfl, show mno 1 = nI (zN (A 0)) from hm.2.1, show pn = nI (zN (A 0)) from hc.2.2.1]
  obtain ⟨g, hg, rfl, hgg⟩ := grR_t ok c2
  by_cases c3 : zN (A 0) < 20
  · rw [if_pos (show nI (zN (A 0)) < (20 : Int32) from nI_lt (b := 20) c3 (by omega)), if_neg (show ¬ nI (zN (A 0)) = (20 : Int32) from nI_ne (b := 20) (by omega) (by omega) (by omega))]
    obtain ⟨msn', s1, s2, s3⟩ := f_snap hh mno msn
    obtain ⟨pf', e1, e2, e3⟩ := e_addLeaf (g := g) c3 pp pf (nI g)
    obtain ⟨ar', d1, d2, d3, d4, d5, d6⟩ := f_adds c3 mno hm.2.1 (nI g) false
    have d1' : m_X7_adds mno (nI g) (0 : Int32) = some ar' := d1
    have kg : m_X1_keepGrowth (nI l) (nI h) jk jp = some (nI ((l + 1) % 10), nI (h1 h), upd jk ((l + 1) % 10) 2, upd jp ((l + 1) % 10) (-1)) := by
      rw [m_X1_keepGrowth, ob4_s (e_keepAct hh hl jk jp 2 (-1))]
    rw [ob4_s kg, ob4_s e1, ob2_s s1, ob1_s d1', if_neg (by decide), d2, nI_pred]
    refine ⟨_, _, _, _, h1 h, (l + 1) % 10, _, _, ar', msn', _, rfl, rfl, h_push H (ok_gr ok (g := g) (grp := false) c3 hg hgg) hm ?_ ?_ s2 s3, ?_, ?_⟩
    · exact TB_grow (by omega) hN1 c3 pk_us
    · intro q hq hn
      exact ⟨pk_un hn, pk_un hn, rfl, fun _ _ => rfl⟩
    · exact rc_gr ok hc c3 hc.1 (fun _ => e2) e3
    · exact rm_gr ok hm c3 d2 d3 d4 d5 d6
  · have e20 : zN (A 0) = 20 := by omega
    rw [if_neg (show ¬ nI (zN (A 0)) < (20 : Int32) from nI_nlt (b := 20) (by omega) (by omega)), if_pos (show nI (zN (A 0)) = (20 : Int32) by rw [e20]; rfl)]
    have e1 : nI (zN (A 0)) = pn := hc.2.2.1.symm
    rw [e1]
    exact no (-2) rfl rfl
end
