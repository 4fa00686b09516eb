/-! the tokens, one by one on both sides -/
def dig (b : Nat) : Bool := decide (48 ≤ b ∧ b ≤ 57)
def ltr (b : Nat) : Bool := decide (97 ≤ b ∧ b ≤ 122)
def tI (b : Nat) : Int32 := (nI b).toInt8.toInt32
def BY (T : Nat) (c : Nat → Nat) (tl : Int32) (tb : Nat → Int32) (msz : Int32) (mt : Nat → Int32) : Prop := T ≤ 640 ∧ tl = nI T ∧ msz = nI T ∧ ∀ j, j < 640 → c j < 256 ∧ mt j = nI (c j) ∧ tb j = tI (c j)
theorem by_of {T : Nat} {tl mtd : Int32} {tb mt : Nat → Int32} (R : RT T tl tb mtd mt) : ∃ c, BY T c tl tb mtd mt := by
  obtain ⟨hT, h1, h2, h⟩ := R
  refine ⟨fun j => (tb j).toBitVec.toNat % 256, hT, h1, h2, fun j hj => ?_⟩
  obtain ⟨a1, a2⟩ := h j hj
  have e : tb j &&& 255 = nI ((tb j).toBitVec.toNat % 256) := by
    have q : tb j = nI (tb j).toBitVec.toNat := by
      apply Int32.toBitVec_inj.mp
      show (tb j).toBitVec = BitVec.ofNat 32 (tb j).toBitVec.toNat
      rw [BitVec.ofNat_toNat, BitVec.setWidth_eq]
    calc tb j &&& 255 = nI (tb j).toBitVec.toNat &&& nI (2 ^ 8 - 1) := by rw [← q]; rfl
      _ = nI ((tb j).toBitVec.toNat % 2 ^ 8) := fa_mask _ _
  refine ⟨Nat.mod_lt _ (by omega), by rw [a1, e], ?_⟩
  rw [tI, ← e, fa_byte_low, a2]
theorem t_by : ∀ b : Fin 256, ((tI b.val = 32 ↔ b.val = 32) ∧ (tI b.val = 10 ↔ b.val = 10) ∧ (tI b.val = 59 ↔ b.val = 59)) ∧ ((nI b.val = 32 ↔ b.val = 32) ∧ (nI b.val = 10 ↔ b.val = 10) ∧ (nI b.val = 59 ↔ b.val = 59)) ∧ (decide (tI b.val < 48) || decide (57 < tI b.val)) = !(dig b.val) ∧ (decide (tI b.val < 97) || decide (122 < tI b.val)) = !(ltr b.val) ∧ (dig b.val || ltr b.val → tI b.val = nI b.val) ∧ m_X7_isLetter (nI b.val) = some (bI (ltr b.val)) ∧ m_X7_isDigit (nI b.val) = some (bI (dig b.val)) := by decide +kernel
theorem itf {β : Sort _} {X Y : β} : (if false = true then X else Y) = Y := if_neg (by decide)
theorem itt {β : Sort _} {X Y : β} : (if true = true then X else Y) = X := if_pos rfl
theorem if2 {β : Type} {p q : Prop} [Decidable p] [Decidable q] {b : Bool} (h : (decide p || decide q) = !b) {X Y : β} : (if p then X else if q then X else Y) = if b then Y else X := by
  cases b <;> by_cases w : p <;> by_cases w2 : q <;> simp [w, w2] at h ⊢
section
variable {T : Nat} {c : Nat → Nat} {tl msz : Int32} {tb mt : Nat → Int32}
theorem byt (B : BY T c tl tb msz mt) {j : Nat} (hj : j < 640) : ((tI (c j) = 32 ↔ c j = 32) ∧ (tI (c j) = 10 ↔ c j = 10) ∧ (tI (c j) = 59 ↔ c j = 59)) ∧ ((nI (c j) = 32 ↔ c j = 32) ∧ (nI (c j) = 10 ↔ c j = 10) ∧ (nI (c j) = 59 ↔ c j = 59)) ∧ (decide (tI (c j) < 48) || decide (57 < tI (c j))) = !(dig (c j)) ∧ (decide (tI (c j) < 97) || decide (122 < tI (c j))) = !(ltr (c j)) ∧ (dig (c j) || ltr (c j) → tI (c j) = nI (c j)) ∧ m_X7_isLetter (nI (c j)) = some (bI (ltr (c j))) ∧ m_X7_isDigit (nI (c j)) = some (bI (dig (c j))) := t_by ⟨c j, (B.2.2.2 j hj).1⟩
/-- blanks -/
theorem skip2 (B : BY T c tl tb msz mt) (mfr mso mnu : Int32) (mwo : Int64) : ∀ (d p n n2 : Nat), p + d = T → d < n → d < n2 → ∃ q, p ≤ q ∧ q ≤ T ∧ k_X5_skipBlanks_0 tl tb n (nI p) = some (nI q) ∧ k_X7_go_0 msz mt n2 (nI p) mfr mso mnu mwo = k_X7_go_52 msz mt (nI q) mfr mso mnu mwo := by
  obtain ⟨hT, htl, hms, hb⟩ := id B
  intro d
  induction d with
  | zero =>
    intro p n n2 hp hn hn2
    obtain ⟨n', rfl⟩ : ∃ n', n = n' + 1 := ⟨n - 1, by omega⟩
    obtain ⟨m', rfl⟩ : ∃ m', n2 = m' + 1 := ⟨n2 - 1, by omega⟩
    refine ⟨p, by omega, by omega, ?_, ?_⟩
    · rw [k_X5_skipBlanks_0_s, htl, if_pos (nI_le (by omega) (by omega))]
    · rw [k_X7_go_0_s, hms, if_pos (nI_le (by omega) (by omega))]
  | succ d ih =>
    intro p n n2 hp hn hn2
    obtain ⟨n', rfl⟩ : ∃ n', n = n' + 1 := ⟨n - 1, by omega⟩
    obtain ⟨m', rfl⟩ : ∃ m', n2 = m' + 1 := ⟨n2 - 1, by omega⟩
    obtain ⟨q, q1, q2, q3, q4⟩ := ih (p + 1) n' m' (by omega) (by omega) (by omega)
    obtain ⟨⟨t1, t2, t3⟩, ⟨s1, s2, s3⟩, _⟩ := byt B (show p < 640 by omega)
    obtain ⟨b1, b2, b3⟩ := hb p (by omega)
    rw [k_X5_skipBlanks_0_s, k_X7_go_0_s, if_neg (show ¬ tl ≤ nI p by rw [htl]; exact nI_ge (by omega) (by omega)), if_neg (show ¬ msz ≤ nI p by rw [hms]; exact nI_ge (by omega) (by omega)), g_in (by omega) (by omega), g_in (by omega) (by omega), g_in (by omega) (by omega), g_in (by omega) (by omega), cl p (by omega), b2, b3, k_X5_skipBlanks_48, k_X7_go_39, show nI p + (1 : Int32) = nI (p + 1) from nI_1 p, q3, q4]
    by_cases w1 : c p = 32
    · rw [if_pos (t1.mpr w1), if_pos (s1.mpr w1)]; exact ⟨q, by omega, q2, rfl, rfl⟩
    rw [if_neg (fun e => w1 (t1.mp e)), if_neg (fun e => w1 (s1.mp e))]
    by_cases w2 : c p = 10
    · rw [if_pos (t2.mpr w2), if_pos (s2.mpr w2)]; exact ⟨q, by omega, q2, rfl, rfl⟩
    rw [if_neg (fun e => w2 (t2.mp e)), if_neg (fun e => w2 (s2.mp e))]
    exact ⟨p, by omega, by omega, rfl, rfl⟩
/-- words as numbers -/
def wv (d : Nat → Nat) : Nat → Nat
  | 0 => 0
  | k + 1 => 27 * wv d k + d k
theorem wv_inj {d e : Nat → Nat} : ∀ (n m : Nat), (∀ j, j < n → 1 ≤ d j ∧ d j ≤ 26) → (∀ j, j < m → 1 ≤ e j ∧ e j ≤ 26) → wv d n = wv e m → n = m ∧ ∀ j, j < n → d j = e j
  | 0, 0, _, _, _ => ⟨rfl, fun _ h => absurd h (Nat.not_lt_zero _)⟩
  | 0, m + 1, _, he, h => by
    have := he m (by omega)
    rw [wv, wv] at h; omega
  | n + 1, 0, hd, _, h => by
    have := hd n (by omega)
    rw [wv, wv] at h; omega
  | n + 1, m + 1, hd, he, h => by
    have h1 := hd n (by omega)
    have h2 := he m (by omega)
    rw [wv, wv] at h
    have e1 : d n = e m := by omega
    obtain ⟨e2, e3⟩ := wv_inj n m (fun j hj => hd j (by omega)) (fun j hj => he j (by omega)) (by omega)
    subst e2
    refine ⟨rfl, fun j hj => ?_⟩
    by_cases w : j = n
    · rw [w]; exact e1
    · exact e3 j (by omega)
theorem wv_bd {d : Nat → Nat} : ∀ (n : Nat), (∀ j, j < n → d j ≤ 26) → wv d n < 27 ^ n
  | 0, _ => by rw [wv]; decide
  | n + 1, h => by
    have := wv_bd n (fun j hj => h j (by omega))
    have h2 := h n (by omega)
    rw [wv, Nat.pow_succ]; omega
theorem wv_cong {d e : Nat → Nat} : ∀ (n : Nat), (∀ j, j < n → d j = e j) → wv d n = wv e n
  | 0, _ => rfl
  | n + 1, h => by rw [wv, wv, wv_cong n (fun j hj => h j (by omega)), h n (by omega)]
theorem lN_inj {a b : Nat} (ha : a < 2 ^ 63) (hb : b < 2 ^ 63) : lN a = lN b ↔ a = b := by
  refine ⟨fun h => ?_, fun h => by rw [h]⟩
  have := congrArg (fun x : Int64 => x.toBitVec.toNat) h
  have e : ∀ n, n < 2 ^ 63 → (lN n).toBitVec.toNat = n := fun n hn => by
    show (BitVec.ofNat 64 n).toNat = n
    rw [BitVec.toNat_ofNat]; exact Nat.mod_eq_of_lt (by omega)
  simp only [e a ha, e b hb] at this
  exact this
def wb (s j : Nat) : Nat := (([[115, 99, 101, 110, 101, 115], [103, 114, 111, 117, 112], [108, 105, 110, 101], [115, 101, 116]] : List (List Nat)).getD s []).getD j 0
def wl (s : Nat) : Nat := ([6, 5, 4, 3] : List Nat).getD s 0
theorem t_wl : ∀ s : Fin 4, m_J0_length_8abf5 s.val = some (nI (wl s.val)) ∧ wl s.val ≤ 6 ∧ ∀ j : Fin 6, j.val < wl s.val → m_J0_charAt_5068e s.val (nI j.val) = some (nI (wb s.val j.val)) ∧ 97 ≤ wb s.val j.val ∧ wb s.val j.val ≤ 122 := by decide +kernel
def wK (s : Nat) : Int64 := lN (wv (fun j => wb s j - 96) (wl s))
/-- the word that stands from q to p -/
def sameW (c : Nat → Nat) (q p s : Nat) : Bool := decide (p - q = wl s ∧ ∀ j, j < wl s → c (q + j) = wb s j)
theorem e_isWord (B : BY T c tl tb msz mt) {q p s : Nat} (hs : s < 4) (hq : q < p) (hp : p ≤ T) (hl : ∀ j, q ≤ j → j < p → ltr (c j) = true) : m_X5_isWord (nI p) (nI q) 1 tb s = some (bI (sameW c q p s)) := by
  obtain ⟨hT, htl, hms, hb⟩ := id B
  obtain ⟨u1, u2, u3⟩ := t_wl ⟨s, hs⟩
  simp only at u1 u2 u3
  rw [m_X5_isWord, if_pos rfl, ob1_s u1, pk_sub (by omega)]
  by_cases w : p - q = wl s
  · rw [if_pos (by rw [w])]
    have key : ∀ (d j n : Nat), j + d = wl s → d < n → (∀ i, i < j → c (q + i) = wb s i) → k_X5_isWord_28 (nI p) (nI q) 1 tb s n (nI j) = some (bI (sameW c q p s)) := by
      intro d
      induction d with
      | zero =>
        intro j n hj hn hi
        obtain ⟨n', rfl⟩ : ∃ n', n = n' + 1 := ⟨n - 1, by omega⟩
        rw [k_X5_isWord_28_s, ob1_s u1, if_pos (nI_le (by omega) (by omega)), show sameW c q p s = true from decide_eq_true ⟨w, fun i h => hi i (by omega)⟩]
        rfl
      | succ d ih =>
        intro j n hj hn hi
        obtain ⟨n', rfl⟩ : ∃ n', n = n' + 1 := ⟨n - 1, by omega⟩
        obtain ⟨b1, b2, b3⟩ := hb (q + j) (by omega)
        obtain ⟨v1, v2, v3⟩ := u3 ⟨j, by omega⟩ (by simp only; omega)
        simp only at v1 v2 v3
        have tl1 := (byt B (show q + j < 640 by omega)).2.2.2.2.1 (by rw [hl (q + j) (by omega) (by omega)]; simp)
        rw [k_X5_isWord_28_s, ob1_s u1, if_neg (nI_ge (by omega) (by omega)), nI_add, g_in (by omega) (by omega), ob1_s v1, cl _ (by omega), b3, tl1, show nI j + (1 : Int32) = nI (j + 1) from nI_1 j]
        by_cases x : c (q + j) = wb s j
        · rw [if_pos (by rw [x])]
          exact ih (j + 1) n' (by omega) (by omega) (fun i h => by
            by_cases y : i = j
            · rw [y]; exact x
            · exact hi i (by omega))
        · rw [if_neg (nI_ne x (by omega) (by omega)), show sameW c q p s = false from decide_eq_false (fun h => x (h.2 j (by omega)))]
          rfl
    exact key (wl s) 0 FU (by omega) (Nat.lt_of_le_of_lt u2 (by decide)) (fun i h => absurd h (Nat.not_lt_zero _))
  · rw [if_neg (nI_ne w (by omega) (by omega)), show sameW c q p s = false from decide_eq_false (fun h => w h.1)]
    rfl
theorem ltr_26 {b : Nat} (h : ltr b = true) : 97 ≤ b ∧ b ≤ 122 := of_decide_eq_true h
theorem f_isWord {q p s : Nat} (hs : s < 4) (hq : q < p) (hl : ∀ j, q ≤ j → j < p → ltr (c j) = true) : m_X7_isWord 2 (lN (wv (fun j => c (q + j) - 96) (min 7 (p - q)))) (wK s) = some (bI (sameW c q p s)) := by
  obtain ⟨u1, u2, u3⟩ := t_wl ⟨s, hs⟩
  simp only at u1 u2 u3
  have hd : ∀ j, j < min 7 (p - q) → 1 ≤ c (q + j) - 96 ∧ c (q + j) - 96 ≤ 26 := fun j hj => by
    have := ltr_26 (hl (q + j) (by omega) (by omega)); omega
  have he : ∀ j, j < wl s → 1 ≤ wb s j - 96 ∧ wb s j - 96 ≤ 26 := fun j hj => by
    obtain ⟨v1, v2, v3⟩ := u3 ⟨j, by omega⟩ hj
    simp only at v2 v3
    omega
  have b1 : wv (fun j => c (q + j) - 96) (min 7 (p - q)) < 2 ^ 63 := Nat.lt_of_lt_of_le (wv_bd _ (fun j hj => (hd j hj).2)) (Nat.le_trans (Nat.pow_le_pow_right (by omega) (Nat.min_le_left _ _)) (by decide))
  have b2 : wv (fun j => wb s j - 96) (wl s) < 2 ^ 63 := Nat.lt_of_lt_of_le (wv_bd _ (fun j hj => (he j hj).2)) (Nat.le_trans (Nat.pow_le_pow_right (by omega) u2) (by decide))
  rw [m_X7_isWord, if_pos rfl]
  by_cases w : wv (fun j => c (q + j) - 96) (min 7 (p - q)) = wv (fun j => wb s j - 96) (wl s)
  · rw [if_pos ((lg_cmp_eq _ _).mpr (by rw [w, wK]))]
    obtain ⟨e1, e2⟩ := wv_inj _ _ hd he w
    rw [show sameW c q p s = true from decide_eq_true ⟨by omega, fun j hj => by
      have x1 := e2 j (by omega)
      have x2 := hd j (by omega)
      have x3 := he j hj
      omega⟩]
    rfl
  · rw [wK, if_neg (fun h => w ((lN_inj b1 b2).mp ((lg_cmp_eq _ _).mp h)))]
    rw [show sameW c q p s = false from decide_eq_false (fun h => w (by
      rw [show min 7 (p - q) = wl s by omega]
      exact wv_cong _ (fun j hj => by simp only [h.2 j hj])))]
    rfl
theorem nI_mul' (a b : Nat) : nI a * nI b = nI (a * b) := (Int32.ofNat_mul a b).symm
def VD (nl nd : Nat) (kn mnu : Int32) : Prop := nl = 0 → nd ≤ 4 → ∃ v, v < 10 ^ nd ∧ kn = nI v ∧ mnu = nI v
/-- the run of letters and digits -/
theorem run2 (B : BY T c tl tb msz mt) {q : Nat} (kk mso : Int32) : ∀ (d p n n2 nl nd : Nat) (kn mnu : Int32) (mwo : Int64), p + d = T → d < n → d < n2 → q ≤ p → nl + nd = p - q → (q < p → ltr (c q) = true → 1 ≤ nl) → (q < p → ltr (c q) = false → 1 ≤ nd) → (nd = 0 → ∀ j, q ≤ j → j < p → ltr (c j) = true) → VD nl nd kn mnu → (nd = 0 → mwo = lN (wv (fun j => c (q + j) - 96) (min 7 (p - q)))) → q < T → ltr (c q) || dig (c q) →
    ∃ p', p ≤ p' ∧ q < p' ∧ p' ≤ T ∧ ∃ kk' kn' mso' mnu' mwo', k_X5_readRun_9 tl tb n (nI p) kk kn (nI nl) (nI nd) = some (nI p', kk', kn') ∧ k_X7_go_177 msz mt n2 (nI p) (nI q) mso mnu mwo (bI (ltr (c q))) (bI (if ltr (c q) then decide (nd = 0) else decide (nl = 0))) = some (nI p', nI q, mso', mnu', mwo') ∧ ((kk' = 0 ∧ mso' = 1) ∨ (kk' = 1 ∧ mso' = 2 ∧ (∀ j, q ≤ j → j < p' → ltr (c j) = true) ∧ mwo' = lN (wv (fun j => c (q + j) - 96) (min 7 (p' - q)))) ∨ (kk' = 2 ∧ mso' = 3 ∧ ∃ v, v < 10000 ∧ kn' = nI v ∧ mnu' = nI v)) := by
  obtain ⟨hT, htl, hms, hb⟩ := id B
  have stop : ∀ (p nl nd : Nat) (kn mnu : Int32) (mwo : Int64), q < p → p ≤ T → nl + nd = p - q → (q < p → ltr (c q) = true → 1 ≤ nl) → (q < p → ltr (c q) = false → 1 ≤ nd) → (nd = 0 → ∀ j, q ≤ j → j < p → ltr (c j) = true) → VD nl nd kn mnu → (nd = 0 → mwo = lN (wv (fun j => c (q + j) - 96) (min 7 (p - q)))) →
      ∃ kk' kn' mso' mnu' mwo', k_X5_readRun_107 tl tb (nI p) kk kn (nI nl) (nI nd) = some (nI p, kk', kn') ∧ (if bI (if ltr (c q) then decide (nd = 0) else decide (nl = 0)) = 0 then (k_X7_go_334 msz mt (nI p) (nI q) mso mnu mwo) else (if bI (ltr (c q)) = 0 then (if (nI p - nI q) ≤ (4 : Int32) then (k_X7_go_338 msz mt (nI p) (nI q) mso mnu mwo (bI (ltr (c q)))) else (k_X7_go_334 msz mt (nI p) (nI q) mso mnu mwo)) else (k_X7_go_338 msz mt (nI p) (nI q) mso mnu mwo (bI (ltr (c q)))))) = some (nI p, nI q, mso', mnu', mwo') ∧ ((kk' = 0 ∧ mso' = 1) ∨ (kk' = 1 ∧ mso' = 2 ∧ (∀ j, q ≤ j → j < p → ltr (c j) = true) ∧ mwo' = lN (wv (fun j => c (q + j) - 96) (min 7 (p - q)))) ∨ (kk' = 2 ∧ mso' = 3 ∧ ∃ v, v < 10000 ∧ kn' = nI v ∧ mnu' = nI v)) := by
    intro p nl nd kn mnu mwo hq hp hs h1 h2 h3 h4 h5
    have h1 := h1 hq
    have h2 := h2 hq
    rw [ifb, ifb]
    cases hL : ltr (c q)
    · have h2 := h2 hL
      simp only [itf]
      by_cases z : nl = 0
      · rw [show decide (nl = 0) = true from decide_eq_true z, itt, pk_sub (by omega), k_X5_readRun_107, if_pos (show nI nl ≤ 0 by rw [z]; decide), k_X5_readRun_123, if_pos (show nI nl = 0 by rw [z]; rfl), if_neg (nI_nle (by omega) (by omega))]
        by_cases y : nd ≤ 4
        · obtain ⟨v, v1, v2, v3⟩ := h4 z y
          rw [if_neg (show ¬ (4 : Int32) < nI nd from nI_nlt (a := 4) y (by omega)), if_pos (show nI (p - q) ≤ (4 : Int32) from nI_le (b := 4) (by omega) (by omega)), k_X5_readRun_142, k_X7_go_338, show bI false = 0 from rfl, if_pos rfl, k_X7_go_347]
          exact ⟨_, _, _, _, _, rfl, rfl, Or.inr (Or.inr ⟨rfl, rfl, v, Nat.lt_of_lt_of_le v1 (Nat.pow_le_pow_right (n := 10) (by omega) y), v2, v3⟩)⟩
        · rw [if_pos (show (4 : Int32) < nI nd from nI_lt (a := 4) (by omega) (by omega)), if_neg (show ¬ nI (p - q) ≤ (4 : Int32) from nI_ge (b := p - q) (a := 4) (by omega) (by omega)), k_X5_readRun_141, k_X5_readRun_142, k_X7_go_334, k_X7_go_347]
          exact ⟨_, _, _, _, _, rfl, rfl, Or.inl ⟨rfl, rfl⟩⟩
      · rw [show decide (nl = 0) = false from decide_eq_false z, itf, k_X5_readRun_107, if_neg (nI_nle (by omega) (by omega)), if_neg (nI_ne0 (by omega) (by omega)), k_X5_readRun_123, if_neg (nI_ne0 (by omega) (by omega)), k_X5_readRun_141, k_X5_readRun_142, k_X7_go_334, k_X7_go_347]
        exact ⟨_, _, _, _, _, rfl, rfl, Or.inl ⟨rfl, rfl⟩⟩
    · have h1 := h1 hL
      rw [itt, itt]
      by_cases z : nd = 0
      · rw [show decide (nd = 0) = true from decide_eq_true z, itt, k_X5_readRun_107, if_neg (nI_nle (by omega) (by omega)), if_pos (show nI nd = 0 by rw [z]; rfl), k_X7_go_338, show bI true = 1 from rfl, if_neg (by decide), k_X7_go_347]
        exact ⟨_, _, _, _, _, rfl, rfl, Or.inr (Or.inl ⟨rfl, rfl, h3 z, h5 z⟩)⟩
      · rw [show decide (nd = 0) = false from decide_eq_false z, itf, k_X5_readRun_107, if_neg (nI_nle (by omega) (by omega)), if_neg (nI_ne0 (by omega) (by omega)), k_X5_readRun_123, if_neg (nI_ne0 (by omega) (by omega)), k_X5_readRun_141, k_X5_readRun_142, k_X7_go_334, k_X7_go_347]
        exact ⟨_, _, _, _, _, rfl, rfl, Or.inl ⟨rfl, rfl⟩⟩
  intro d
  induction d with
  | zero =>
    intro p n n2 nl nd kn mnu mwo hp hn hn2 hq hs h1 h2 h3 h4 h5 hqT hfirst
    obtain ⟨n', rfl⟩ : ∃ n', n = n' + 1 := ⟨n - 1, by omega⟩
    obtain ⟨m', rfl⟩ : ∃ m', n2 = m' + 1 := ⟨n2 - 1, by omega⟩
    obtain ⟨kk', kn', mso', mnu', mwo', r1, r2, r3⟩ := stop p nl nd kn mnu mwo (by omega) (by omega) hs h1 h2 h3 h4 h5
    refine ⟨p, by omega, by omega, by omega, kk', kn', mso', mnu', mwo', ?_, ?_, r3⟩
    · rw [k_X5_readRun_9_s, if_pos (show tl ≤ nI p by rw [htl]; exact nI_le (by omega) (by omega))]
      exact r1
    · have ta : m_X7_tapeAt msz mt (nI p) = some 0 := by
        rw [m_X7_tapeAt, if_pos (show msz ≤ nI p by rw [hms]; exact nI_le (by omega) (by omega))]
      rw [k_X7_go_177_s, ob1_s ta, ob1_s (show m_X7_isLetter 0 = some 0 from rfl), if_pos rfl, ob1_s ta, ob1_s (show m_X7_isDigit 0 = some 0 from rfl), if_pos rfl]
      exact r2
  | succ d ih =>
    intro p n n2 nl nd kn mnu mwo hp hn hn2 hq hs h1 h2 h3 h4 h5 hqT hfirst
    obtain ⟨n', rfl⟩ : ∃ n', n = n' + 1 := ⟨n - 1, by omega⟩
    obtain ⟨m', rfl⟩ : ∃ m', n2 = m' + 1 := ⟨n2 - 1, by omega⟩
    obtain ⟨_, _, t4, t5, t6, t7, t8⟩ := byt B (show p < 640 by omega)
    obtain ⟨b1, b2, b3⟩ := hb p (by omega)
    have ta : m_X7_tapeAt msz mt (nI p) = some (nI (c p)) := by
      rw [m_X7_tapeAt, if_neg (show ¬ msz ≤ nI p by rw [hms]; exact nI_ge (by omega) (by omega)), g_in (by omega) (by omega), cl p (by omega), b2]
    rw [k_X5_readRun_9_s, if_neg (show ¬ tl ≤ nI p by rw [htl]; exact nI_ge (by omega) (by omega)), g_in (by omega) (by omega), cl p (by omega), b3, if2 t4, k_X7_go_177_s, ob1_s ta, ob1_s t7, ifb, ob1_s ta, ob1_s t8, ifb, k_X5_readRun_79, if2 t5, k_X5_readRun_94, show nI p + (1 : Int32) = nI (p + 1) from nI_1 p, show nI nl + (1 : Int32) = nI (nl + 1) from nI_1 nl, show nI nd + (1 : Int32) = nI (nd + 1) from nI_1 nd, k_X5_readRun_73, k_X5_readRun_73, k_X5_readRun_94, k_X5_readRun_94, show nI p + (1 : Int32) = nI (p + 1) from nI_1 p]
    by_cases al : dig (c p) = false ∧ ltr (c p) = false
    · rw [al.1, al.2]
      simp only [itf]
      have hqp : q < p := by
        rcases Nat.lt_or_eq_of_le hq with w | w
        · exact w
        · subst w
          rw [al.1, al.2] at hfirst
          cases hfirst
      obtain ⟨kk', kn', mso', mnu', mwo', r1, r2, r3⟩ := stop p nl nd kn mnu mwo hqp (by omega) hs h1 h2 h3 h4 h5
      exact ⟨p, by omega, by omega, by omega, kk', kn', mso', mnu', mwo', r1, r2, r3⟩
    · have body : ∀ {X : Option (Int32 × Int32 × Int32 × Int32 × Int64)}, (if ltr (c p) then k_X7_go_205 msz mt (k_X7_go_177 msz mt m') (nI p) (nI q) mso mnu mwo (bI (ltr (c q))) (bI (if ltr (c q) then decide (nd = 0) else decide (nl = 0))) else if dig (c p) then k_X7_go_205 msz mt (k_X7_go_177 msz mt m') (nI p) (nI q) mso mnu mwo (bI (ltr (c q))) (bI (if ltr (c q) then decide (nd = 0) else decide (nl = 0))) else X) = k_X7_go_177 msz mt m' (nI (p + 1)) (nI q) mso (if p - q < 4 then (10 : Int32) * mnu + nI (c p) - 48 else mnu) (if p - q < 7 then (27 : Int64) * mwo + (nI (c p)).toInt64 - 96 else mwo) (bI (ltr (c q))) (bI ((if ltr (c q) then decide (nd = 0) else decide (nl = 0)) && (ltr (c p) == ltr (c q)))) := by
        intro X
        have one : k_X7_go_205 msz mt (k_X7_go_177 msz mt m') (nI p) (nI q) mso mnu mwo (bI (ltr (c q))) (bI (if ltr (c q) then decide (nd = 0) else decide (nl = 0))) = k_X7_go_177 msz mt m' (nI (p + 1)) (nI q) mso (if p - q < 4 then (10 : Int32) * mnu + nI (c p) - 48 else mnu) (if p - q < 7 then (27 : Int64) * mwo + (nI (c p)).toInt64 - 96 else mwo) (bI (ltr (c q))) (bI ((if ltr (c q) then decide (nd = 0) else decide (nl = 0)) && (ltr (c p) == ltr (c q)))) := by
          have g234 : ∀ z0 : Int32, k_X7_go_234 msz mt (k_X7_go_177 msz mt m') (nI p) (nI q) mso mnu mwo (bI (ltr (c q))) (nI (c p)) z0 = k_X7_go_177 msz mt m' (nI (p + 1)) (nI q) mso (if p - q < 4 then (10 : Int32) * mnu + nI (c p) - 48 else mnu) (if p - q < 7 then (27 : Int64) * mwo + (nI (c p)).toInt64 - 96 else mwo) (bI (ltr (c q))) z0 := by
            intro z0
            rw [k_X7_go_234, k_X7_go_269, k_X7_go_269, k_X7_go_299, k_X7_go_299, k_X7_go_299, k_X7_go_299, pk_sub hq, show nI p + (1 : Int32) = nI (p + 1) from nI_1 p]
            by_cases x4 : p - q < 4
            · rw [if_neg (show ¬ (7 : Int32) ≤ nI (p - q) from nI_ge (b := 7) (by omega) (by omega)), if_neg (show ¬ (4 : Int32) ≤ nI (p - q) from nI_ge (b := 4) (by omega) (by omega)), if_pos x4, if_pos (by omega)]
            · by_cases x7 : p - q < 7
              · rw [if_neg (show ¬ (7 : Int32) ≤ nI (p - q) from nI_ge (b := 7) (by omega) (by omega)), if_pos (show (4 : Int32) ≤ nI (p - q) from nI_le (a := 4) (by omega) (by omega)), if_neg x4, if_pos x7]
              · rw [if_pos (show (7 : Int32) ≤ nI (p - q) from nI_le (a := 7) (by omega) (by omega)), if_pos (show (4 : Int32) ≤ nI (p - q) from nI_le (a := 4) (by omega) (by omega)), if_neg x4, if_neg x7]
          rw [k_X7_go_205, g_in (by omega) (by omega), cl p (by omega), b2, k_X7_go_233, g234, ifb, ob1_s t7, g234]
          cases (if ltr (c q) then decide (nd = 0) else decide (nl = 0))
          · rw [if_neg (by decide)]; rfl
          · rw [if_pos rfl]
            cases ltr (c p) <;> cases ltr (c q) <;> rfl
        rw [one]
        cases xl : ltr (c p)
        · cases xd : dig (c p)
          · exact absurd ⟨xd, xl⟩ al
          · rfl
        · rfl
      rw [body]
      cases xl : ltr (c p)
      · -- a digit
        have xd : dig (c p) = true := by
          cases xd : dig (c p)
          · exact absurd ⟨xd, xl⟩ al
          · rfl
        have hc : 48 ≤ c p ∧ c p ≤ 57 := of_decide_eq_true xd
        rw [if_pos xd]
        have hqd : q = p → ltr (c q) = false := fun e => by rw [e]; exact xl
        have flag : ((if ltr (c q) then decide (nd = 0) else decide (nl = 0)) && (false == ltr (c q))) = (if ltr (c q) then decide (nd + 1 = 0) else decide (nl = 0)) := by
          cases ltr (c q) <;> simp
        rw [flag]
        have ihh : ∀ kn', VD nl (nd + 1) kn' (if p - q < 4 then (10 : Int32) * mnu + nI (c p) - 48 else mnu) → _ := fun kn' hv => ih (p + 1) n' m' nl (nd + 1) kn' (if p - q < 4 then (10 : Int32) * mnu + nI (c p) - 48 else mnu) (if p - q < 7 then (27 : Int64) * mwo + (nI (c p)).toInt64 - 96 else mwo) (by omega) (by omega) (by omega) (by omega) (by omega) (fun _ e => by
            rcases Nat.lt_or_eq_of_le hq with w | w
            · exact h1 w e
            · rw [hqd w] at e; cases e) (fun _ _ => by omega) (fun e => by omega) hv (fun e => by omega) hqT hfirst
        by_cases x5 : nd + 1 ≤ 4
        · rw [if_neg (show ¬ (4 : Int32) < nI (nd + 1) from nI_nlt (a := 4) x5 (by omega))]
          obtain ⟨p', a1, a2, a3, r⟩ := ihh (kn * 10 + tI (c p) - 48) (fun e1 e2 => by
            obtain ⟨v, v1, v2, v3⟩ := h4 e1 (by omega)
            rw [if_pos (by omega)]
            refine ⟨v * 10 + (c p - 48), by rw [Nat.pow_succ]; omega, ?_, ?_⟩
            · rw [v2, t6 (by rw [xd]; rfl), show (10 : Int32) = nI 10 from rfl, show (48 : Int32) = nI 48 from rfl, nI_mul', nI_add, pk_sub (by omega)]
              congr 1; omega
            · rw [v3, show (10 : Int32) = nI 10 from rfl, show (48 : Int32) = nI 48 from rfl, nI_mul', nI_add, pk_sub (by omega)]
              congr 1; omega)
          exact ⟨p', by omega, a2, a3, r⟩
        · rw [if_pos (show (4 : Int32) < nI (nd + 1) from nI_lt (a := 4) (by omega) (by omega))]
          obtain ⟨p', a1, a2, a3, r⟩ := ihh 0 (fun e1 e2 => by omega)
          exact ⟨p', by omega, a2, a3, r⟩
      · -- a letter
        have hc := ltr_26 xl
        have xd : dig (c p) = false := decide_eq_false (by omega)
        rw [if_neg (by rw [xd]; decide), if_pos rfl]
        have hqd : q = p → ltr (c q) = true := fun e => by rw [e]; exact xl
        have flag : ((if ltr (c q) then decide (nd = 0) else decide (nl = 0)) && (true == ltr (c q))) = (if ltr (c q) then decide (nd = 0) else decide (nl + 1 = 0)) := by
          cases ltr (c q) <;> simp
        rw [flag]
        obtain ⟨p', a1, a2, a3, r⟩ := ih (p + 1) n' m' (nl + 1) nd kn (if p - q < 4 then (10 : Int32) * mnu + nI (c p) - 48 else mnu) (if p - q < 7 then (27 : Int64) * mwo + (nI (c p)).toInt64 - 96 else mwo) (by omega) (by omega) (by omega) (by omega) (by omega) (fun _ _ => by omega) (fun _ e => by
            rcases Nat.lt_or_eq_of_le hq with w | w
            · exact h2 w e
            · rw [hqd w] at e; cases e) (fun e j j1 j2 => by
            by_cases w : j = p
            · rw [w]; exact xl
            · exact h3 e j j1 (by omega)) (fun e => by omega) (fun e => by
            by_cases x7 : p - q < 7
            · rw [if_pos x7, h5 e, show min 7 (p + 1 - q) = (p - q) + 1 by omega, show min 7 (p - q) = p - q by omega, wv, nI_l (by omega), show (27 : Int64) = lN 27 from rfl, show (96 : Int64) = lN 96 from rfl, lN_mul, lN_add, lN_sub (by omega), show q + (p - q) = p by omega]
              congr 1; omega
            · rw [if_neg x7, h5 e, show min 7 (p + 1 - q) = 7 by omega, show min 7 (p - q) = 7 by omega]) hqT hfirst
        exact ⟨p', by omega, a2, a3, r⟩
/-- the token that both sides hold after reading at p -/
def TR (T : Nat) (c : Nat → Nat) (tb : Nat → Int32) (p q : Nat) (kp kb kk kn mto mfr mso mnu : Int32) (mwo : Int64) : Prop :=
  kb = mfr ∧ ((kk = 0 ∧ mso = 1) ∨ (kp = nI q ∧ mto = nI q ∧ p ≤ q ∧ q ≤ T ∧ (
    (kk = 1 ∧ mso = 2 ∧ p < q ∧ ∀ s, s < 4 → ∃ w : Bool, m_X5_isWord kp kb kk tb s = some (bI w) ∧ m_X7_isWord mso mwo (wK s) = some (bI w)) ∨
    (kk = 2 ∧ mso = 3 ∧ p < q ∧ ∃ v, v < 10000 ∧ kn = nI v ∧ mnu = nI v) ∨ (kk = 3 ∧ mso = 4 ∧ p < q) ∨ (kk = 4 ∧ mso = 0))))
theorem adv (B : BY T c tl tb msz mt) {p : Nat} (hp : p ≤ T) (kb kk kn mfr mso mnu : Int32) (mwo : Int64) : ∃ q kp' kb' kk' kn' mto' mfr' mso' mnu' mwo', m_X5_advance (nI p) kb kk kn tl tb = some (kp', kb', kk', kn') ∧ m_X7_go msz (nI p) mfr mso mnu mwo mt = some (mto', mfr', mso', mnu', mwo') ∧ TR T c tb p q kp' kb' kk' kn' mto' mfr' mso' mnu' mwo' := by
  obtain ⟨hT, htl, hms, hb⟩ := id B
  have hFU : 640 < FU := by decide
  obtain ⟨x, x1, x2, x3, x4⟩ := skip2 B mfr mso mnu mwo (T - p) p FU FU (by omega) (by omega) (by omega)
  rw [m_X5_advance, m_X5_skipBlanks, ob1_s x3, m_X7_go, x4, k_X7_go_52]
  by_cases big : 600 ≤ x ∧ 600 < T
  · rw [if_neg (show ¬ nI x < (600 : Int32) from nI_nlt (b := 600) big.1 (by omega)), if_neg (show ¬ tl ≤ (600 : Int32) by rw [htl]; exact nI_ge (a := 600) big.2 (by omega)), if_neg (show ¬ msz ≤ (600 : Int32) by rw [hms]; exact nI_ge (a := 600) big.2 (by omega)), if_neg (show ¬ nI x < (600 : Int32) from nI_nlt (b := 600) big.1 (by omega))]
    exact ⟨0, _, _, _, _, _, _, _, _, _, rfl, rfl, rfl, Or.inl ⟨rfl, rfl⟩⟩
  · have e1 : (if nI x < (600 : Int32) then k_X5_advance_50 tl tb (nI x) (nI x) kk kn else if tl ≤ (600 : Int32) then k_X5_advance_50 tl tb (nI x) (nI x) kk kn else some (nI x, 600, 0, kn)) = k_X5_advance_50 tl tb (nI x) (nI x) kk kn := by
      by_cases w : x < 600
      · rw [if_pos (show nI x < (600 : Int32) from nI_lt (b := 600) w (by omega))]
      · rw [if_neg (show ¬ nI x < (600 : Int32) from nI_nlt (b := 600) (by omega) (by omega)), if_pos (show tl ≤ (600 : Int32) by rw [htl]; exact nI_le (b := 600) (by omega) (by omega))]
    have e2 : (if msz ≤ (600 : Int32) then k_X7_go_93 msz mt (nI x) (nI x) mso mnu mwo else if nI x < (600 : Int32) then k_X7_go_93 msz mt (nI x) (nI x) mso mnu mwo else some (nI x, 600, 1, mnu, mwo)) = k_X7_go_93 msz mt (nI x) (nI x) mso mnu mwo := by
      by_cases w : T ≤ 600
      · rw [if_pos (show msz ≤ (600 : Int32) by rw [hms]; exact nI_le (b := 600) w (by omega))]
      · rw [if_neg (show ¬ msz ≤ (600 : Int32) by rw [hms]; exact nI_ge (a := 600) (by omega) (by omega)), if_pos (show nI x < (600 : Int32) from nI_lt (b := 600) (by omega) (by omega))]
    rw [e1, e2, k_X5_advance_50, k_X7_go_93]
    by_cases hx : x < T
    · rw [if_pos (show nI x < tl by rw [htl]; exact nI_lt hx (by omega)), if_pos (show nI x < msz by rw [hms]; exact nI_lt hx (by omega)), g_in (by omega) (by omega), g_in (by omega) (by omega), cl x (by omega)]
      obtain ⟨⟨_, _, t3⟩, ⟨_, _, s3⟩, t4, t5, t6, t7, t8⟩ := byt B (show x < 640 by omega)
      obtain ⟨b1, b2, b3⟩ := hb x (by omega)
      rw [b2, b3, ob1_s t7, ob1_s t8, ifb, ifb]
      by_cases w59 : c x = 59
      · rw [if_pos (t3.mpr w59), w59, show ltr 59 = false from rfl, show dig 59 = false from rfl, itf, itf, if_pos (by decide), k_X7_go_146, show nI x + (1 : Int32) = nI (x + 1) from nI_1 x]
        exact ⟨x + 1, _, _, _, _, _, _, _, _, _, rfl, rfl, rfl, Or.inr ⟨rfl, rfl, by omega, by omega, Or.inr (Or.inr (Or.inl ⟨rfl, rfl, by omega⟩))⟩⟩
      · rw [if_neg (fun e => w59 (t3.mp e)), if_neg (fun e => w59 (s3.mp e)), m_X5_readRun]
        by_cases al : dig (c x) = false ∧ ltr (c x) = false
        · obtain ⟨n', hn'⟩ : ∃ n', FU = n' + 1 := ⟨FU - 1, by omega⟩
          have e5 : k_X5_readRun_9 tl tb FU (nI x) kk 0 0 0 = some (nI x, 0, 0) := by
            rw [hn', k_X5_readRun_9_s, if_neg (show ¬ tl ≤ nI x by rw [htl]; exact nI_ge (by omega) (by omega)), g_in (by omega) (by omega), cl x (by omega), b3, if2 t4, al.1, itf, k_X5_readRun_79, if2 t5, al.2, itf, k_X5_readRun_107, if_pos (by decide), k_X5_readRun_123, if_pos rfl, if_pos (by decide), k_X5_readRun_141, k_X5_readRun_142]
          rw [ob3_s e5, al.1, al.2, itf, itf, k_X7_go_146]
          exact ⟨0, _, _, _, _, _, _, _, _, _, rfl, rfl, rfl, Or.inl ⟨rfl, rfl⟩⟩
        · have hf : ltr (c x) || dig (c x) := by
            cases xl : ltr (c x)
            · cases xd : dig (c x)
              · exact absurd ⟨xd, xl⟩ al
              · rfl
            · rfl
          obtain ⟨p', a1, a2, a3, kk', kn', mso', mnu', mwo', r1, r2, r3⟩ := run2 B (q := x) kk mso (T - x) x FU FU 0 0 0 0 0 (by omega) (by omega) (by omega) (by omega) (by omega) (fun h => absurd h (Nat.lt_irrefl _)) (fun h => absurd h (Nat.lt_irrefl _)) (fun _ j j1 j2 => by omega) (fun _ _ => ⟨0, by decide, rfl, rfl⟩) (fun _ => by rw [Nat.sub_self]; rfl) hx hf
          have r1' : k_X5_readRun_9 tl tb FU (nI x) kk 0 0 0 = some (nI p', kk', kn') := r1
          have fl : (if ltr (c x) then decide (0 = 0) else decide (0 = 0)) = true := by cases ltr (c x) <;> rfl
          rw [fl] at r2
          have r2' : k_X7_go_160 msz mt (nI x) (nI x) mso mnu mwo (nI (c x)) = some (nI p', nI x, mso', mnu', mwo') := by
            rw [k_X7_go_160, ob1_s t7]; exact r2
          rw [ob3_s r1', r2']
          have pick : ∀ {X : Option (Int32 × Int32 × Int32 × Int32 × Int64)}, (if ltr (c x) then (some (nI p', nI x, mso', mnu', mwo') : Option (Int32 × Int32 × Int32 × Int32 × Int64)) else if dig (c x) then some (nI p', nI x, mso', mnu', mwo') else X) = some (nI p', nI x, mso', mnu', mwo') := by
            intro X
            revert hf
            cases ltr (c x) <;> cases dig (c x) <;> intro hf
            · cases hf
            · rfl
            · rfl
            · rfl
          rw [pick]
          refine ⟨p', _, _, _, _, _, _, _, _, _, rfl, rfl, rfl, ?_⟩
          rcases r3 with ⟨y1, y2⟩ | ⟨y1, y2, y3, y4⟩ | ⟨y1, y2, y3⟩
          · exact Or.inl ⟨y1, y2⟩
          · refine Or.inr ⟨rfl, rfl, by omega, a3, Or.inl ⟨y1, y2, by omega, fun s hs => ⟨sameW c x p' s, ?_, ?_⟩⟩⟩
            · rw [y1]; exact e_isWord B hs a2 a3 y3
            · rw [y2, y4]; exact f_isWord hs a2 y3
          · exact Or.inr ⟨rfl, rfl, by omega, a3, Or.inr (Or.inl ⟨y1, y2, by omega, y3⟩)⟩
    · rw [if_neg (show ¬ nI x < tl by rw [htl]; exact nI_nlt (by omega) (by omega)), if_neg (show ¬ nI x < msz by rw [hms]; exact nI_nlt (by omega) (by omega))]
      exact ⟨x, _, _, _, _, _, _, _, _, _, rfl, rfl, rfl, Or.inr ⟨rfl, rfl, x1, x2, Or.inr (Or.inr (Or.inr ⟨rfl, rfl⟩))⟩⟩
/-- the other side's token, of which this side reads the like next -/
def AH (T : Nat) (c : Nat → Nat) (tl : Int32) (tb : Nat → Int32) (p : Nat) (mto mfr mso mnu : Int32) (mwo : Int64) : Prop := p ≤ T ∧ ∀ kb kk kn, ∃ q kp' kb' kk' kn', m_X5_advance (nI p) kb kk kn tl tb = some (kp', kb', kk', kn') ∧ TR T c tb p q kp' kb' kk' kn' mto mfr mso mnu mwo
theorem go (B : BY T c tl tb msz mt) {p : Nat} (hp : p ≤ T) (mfr mso mnu : Int32) (mwo : Int64) : ∃ mto' mfr' mso' mnu' mwo', m_X7_go msz (nI p) mfr mso mnu mwo mt = some (mto', mfr', mso', mnu', mwo') ∧ AH T c tl tb p mto' mfr' mso' mnu' mwo' := by
  obtain ⟨q, kp', kb', kk', kn', mto', mfr', mso', mnu', mwo', h1, h2, h3⟩ := adv B hp 0 0 0 mfr mso mnu mwo
  refine ⟨mto', mfr', mso', mnu', mwo', h2, hp, fun kb kk kn => ?_⟩
  obtain ⟨q2, kp2, kb2, kk2, kn2, mto2, mfr2, mso2, mnu2, mwo2, g1, g2, g3⟩ := adv B hp kb kk kn mfr mso mnu mwo
  rw [g2] at h2
  cases h2
  exact ⟨q2, kp2, kb2, kk2, kn2, g1, g3⟩
theorem f_bad {mfr mso mfa mpl x : Int32} : m_X7_bad mfr mso mfa mpl x = some (0, (if mso = 1 then 1 else x), mfr) := by
  rw [m_X7_bad, k_X7_bad_14, k_X7_bad_14]
  by_cases w : mso = 1
  · rw [if_pos w, if_pos w]
  · rw [if_neg w, if_neg w]
/-- a number in its range -/
theorem num2 (B : BY T c tl tb msz mt) {p : Nat} {mto mfr mso mnu : Int32} {mwo : Int64} (A : AH T c tl tb p mto mfr mso mnu mwo) (rk rp kb kk kn mfa mpl mgo x1 x2 : Int32) :
    (∃ c1 c2 kp' kb' kk' kn' g1 g2 g3 g4 g5 g6, m_X3_readNumber rk rp (nI p) kb kk kn tl tb x1 x2 = some (0, c1, c2, kp', kb', kk', kn') ∧ m_X7_takes msz mto mfr mso mnu mfa mpl mwo mgo mt x1 x2 = some (0, g1, g2, g3, g4, c1, c2, g5, g6)) ∨
    (∃ q v kb' mto' mfr' mso' mnu' mwo', p < q ∧ v < 10000 ∧ ¬ nI v < x1 ∧ nI v ≤ x2 ∧ m_X3_readNumber rk rp (nI p) kb kk kn tl tb x1 x2 = some (1, rk, rp, nI q, kb', 2, nI v) ∧ m_X7_takes msz mto mfr mso mnu mfa mpl mwo mgo mt x1 x2 = some (1, mto', mfr', mso', mnu', mfa, mpl, mwo', nI v) ∧ AH T c tl tb q mto' mfr' mso' mnu' mwo') := by
  obtain ⟨hp, A⟩ := A
  obtain ⟨q, kp', kb', kk', kn', a1, rfl, a2⟩ := A kb kk kn
  rw [m_X3_readNumber, ob4_s a1, m_X3_refuse, k_X3_readNumber_46, m_X3_refuse, m_X7_takes, f_bad, f_bad]
  by_cases w : kk' = 2
  · subst w
    rcases a2 with ⟨y, _⟩ | ⟨e1, e2, q1, q2, ⟨y, _⟩ | ⟨_, rfl, y2, v, v1, rfl, rfl⟩ | ⟨y, _⟩ | ⟨y, _⟩⟩
    · exact absurd y (by decide)
    · exact absurd y (by decide)
    · rw [if_pos rfl, if_pos rfl]
      by_cases z1 : nI v < x1
      · rw [if_pos z1, ob1_s (f_isIn_no (Or.inl z1)), if_pos rfl, ob3_s rfl, ob3_s rfl, if_neg (by decide)]
        exact Or.inl ⟨_, _, _, _, _, _, _, _, _, _, _, _, rfl, rfl⟩
      · rw [if_neg z1]
        by_cases z2 : nI v ≤ x2
        · obtain ⟨mto', mfr', mso', mnu', mwo', g1, g2⟩ := go B q2 kb' 3 (nI v) mwo
          have i1 : m_X7_isIn (nI v) x1 x2 = some 1 := by
            rw [m_X7_isIn, if_neg z1, if_neg (fun h => (fa_of_lt h).2.1 z2)]
          rw [if_pos z2, ob1_s i1, if_neg (by decide), e2, ob5_s g1, e1]
          exact Or.inr ⟨q, v, _, _, _, _, _, _, y2, v1, z1, z2, rfl, rfl, g2⟩
        · rw [if_neg z2, ob1_s (f_isIn_no (Or.inr (fa_of_nle z2))), if_pos rfl, ob3_s rfl, ob3_s rfl, if_neg (by decide)]
          exact Or.inl ⟨_, _, _, _, _, _, _, _, _, _, _, _, rfl, rfl⟩
    · exact absurd y (by decide)
    · exact absurd y (by decide)
  · have n3 : ¬ mso = 3 := by
      rcases a2 with ⟨_, rfl⟩ | ⟨e1, e2, q1, q2, ⟨_, rfl, _⟩ | ⟨y, _⟩ | ⟨_, rfl, _⟩ | ⟨_, rfl⟩⟩
      · decide
      · decide
      · exact absurd y w
      · decide
      · decide
    rw [if_neg w, if_neg n3, ob3_s rfl, ob3_s rfl, show (if mso = 1 then (1 : Int32) else 1) = 1 from ite_self _]
    exact Or.inl ⟨_, _, _, _, _, _, _, _, _, _, _, _, rfl, rfl⟩
/-- a number, the range being asked later -/
theorem num0 (B : BY T c tl tb msz mt) {p : Nat} {mto mfr mso mnu : Int32} {mwo : Int64} (A : AH T c tl tb p mto mfr mso mnu mwo) (rk rp kb kk kn mfa mpl x1 x2 : Int32) :
    (∃ kp' kk' kn', m_X3_readNumber rk rp (nI p) kb kk kn tl tb x1 x2 = some (0, 1, mfr, kp', mfr, kk', kn') ∧ ¬ mso = 3) ∨
    (∃ q v, p < q ∧ q ≤ T ∧ v < 10000 ∧ mso = 3 ∧ mnu = nI v ∧ mto = nI q ∧ m_X3_readNumber rk rp (nI p) kb kk kn tl tb x1 x2 = (if nI v < x1 then some (0, 2, mfr, nI q, mfr, 2, nI v) else if nI v ≤ x2 then some (1, rk, rp, nI q, mfr, 2, nI v) else some (0, 2, mfr, nI q, mfr, 2, nI v))) := by
  obtain ⟨hp, A⟩ := A
  obtain ⟨q, kp', kb', kk', kn', a1, rfl, a2⟩ := A kb kk kn
  rw [m_X3_readNumber, ob4_s a1, m_X3_refuse, k_X3_readNumber_46, m_X3_refuse]
  by_cases w : kk' = 2
  · subst w
    rcases a2 with ⟨y, _⟩ | ⟨e1, e2, q1, q2, ⟨y, _⟩ | ⟨_, rfl, y2, v, v1, rfl, rfl⟩ | ⟨y, _⟩ | ⟨y, _⟩⟩
    · exact absurd y (by decide)
    · exact absurd y (by decide)
    · rw [if_pos rfl, ob3_s rfl, e1]
      exact Or.inr ⟨q, v, y2, q2, v1, rfl, rfl, e2, rfl⟩
    · exact absurd y (by decide)
    · exact absurd y (by decide)
  · have n3 : ¬ mso = 3 := by
      rcases a2 with ⟨_, rfl⟩ | ⟨e1, e2, q1, q2, ⟨_, rfl, _⟩ | ⟨y, _⟩ | ⟨_, rfl, _⟩ | ⟨_, rfl⟩⟩
      · decide
      · decide
      · exact absurd y w
      · decide
      · decide
    rw [if_neg w, ob3_s rfl]
    exact Or.inl ⟨_, _, _, rfl, n3⟩
/-- the end of a line -/
theorem semi2 (B : BY T c tl tb msz mt) {p : Nat} {mto mfr mso mnu : Int32} {mwo : Int64} (A : AH T c tl tb p mto mfr mso mnu mwo) (rk rp kb kk kn mfa mpl : Int32) :
    (∃ c1 c2 kp' kb' kk' kn' g1 g2 g3 g4 g5, m_X3_readSemicolon rk rp (nI p) kb kk kn tl tb = some (0, c1, c2, kp', kb', kk', kn') ∧ m_X7_readEnd msz mto mfr mso mnu mfa mpl mwo mt = some (0, g1, g2, g3, g4, c1, c2, g5)) ∨
    (∃ q kb' kn' mto' mfr' mso' mnu' mwo', p < q ∧ m_X3_readSemicolon rk rp (nI p) kb kk kn tl tb = some (1, rk, rp, nI q, kb', 3, kn') ∧ m_X7_readEnd msz mto mfr mso mnu mfa mpl mwo mt = some (1, mto', mfr', mso', mnu', mfa, mpl, mwo') ∧ AH T c tl tb q mto' mfr' mso' mnu' mwo') := by
  obtain ⟨hp, A⟩ := A
  obtain ⟨q, kp', kb', kk', kn', a1, rfl, a2⟩ := A kb kk kn
  rw [m_X3_readSemicolon, ob4_s a1, m_X3_refuse, m_X7_readEnd, f_bad, ob3_s rfl, ob3_s rfl]
  by_cases w : kk' = 3
  · subst w
    rcases a2 with ⟨y, _⟩ | ⟨e1, e2, q1, q2, ⟨y, _⟩ | ⟨y, _⟩ | ⟨_, rfl, y2⟩ | ⟨y, _⟩⟩
    · exact absurd y (by decide)
    · exact absurd y (by decide)
    · exact absurd y (by decide)
    · obtain ⟨mto', mfr', mso', mnu', mwo', g1, g2⟩ := go B q2 kb' 4 mnu mwo
      rw [if_pos rfl, if_pos rfl, e2, ob5_s g1, e1]
      exact Or.inr ⟨q, _, _, _, _, _, _, _, y2, rfl, rfl, g2⟩
    · exact absurd y (by decide)
  · have n3 : ¬ mso = 4 := by
      rcases a2 with ⟨_, rfl⟩ | ⟨e1, e2, q1, q2, ⟨_, rfl, _⟩ | ⟨_, rfl, _⟩ | ⟨y, _⟩ | ⟨_, rfl⟩⟩
      · decide
      · decide
      · decide
      · exact absurd y w
      · decide
    rw [if_neg w, if_neg n3, if_pos rfl, show (if mso = 1 then (1 : Int32) else 1) = 1 from ite_self _]
    exact Or.inl ⟨_, _, _, _, _, _, _, _, _, _, _, rfl, rfl⟩
end
