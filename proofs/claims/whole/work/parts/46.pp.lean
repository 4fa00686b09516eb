/-! the tape -/
def RT (T : Nat) (tl : Int32) (tb : Nat → Int32) (mtd : Int32) (mt : Nat → Int32) : Prop := T ≤ 640 ∧ tl = nI T ∧ mtd = nI T ∧ ∀ j, j < 640 → mt j = tb j &&& 255 ∧ (tb j).toInt8.toInt32 = tb j
theorem sh255 (x : Int32) : ∀ s : Fin 4, (x >>> (nI (8 * s.val) &&& 31)) &&& 255 = ((x.toUInt32 >>> ((nI (8 * s.val)).toUInt32 &&& Int32.toUInt32 31)).toInt32) &&& 255 := by
  intro s
  refine b_ext (fun i hi => ?_)
  rw [b_and, b_and, b_255, b_sshr (8 * s.val) (by omega) x hi, b_ushr (8 * s.val) (by omega) x i]
  by_cases q : i < 8
  · rw [if_pos (by omega)]
  · simp [q]
theorem bytes4 (x : Int32) : ∀ (d T n n2 : Nat) (tb mt : Nat → Int32), d ≤ 4 → T + d ≤ 640 → d < n → d < n2 → (∀ j, j < 640 → mt j = tb j &&& 255 ∧ (tb j).toInt8.toInt32 = tb j) → ∃ tb' mt', k_X4_addNumber_3 n (nI T) tb x (nI (8 * d) - 8) = some (nI (T + d), tb') ∧ k_X7_lays_3 n2 (nI T) mt x (nI (8 * d) - 8) = some (nI (T + d), mt') ∧ ∀ j, j < 640 → mt' j = tb' j &&& 255 ∧ (tb' j).toInt8.toInt32 = tb' j := by
  intro d
  induction d with
  | zero =>
    intro T n n2 tb mt hd hT hn hn2 h
    obtain ⟨n', rfl⟩ : ∃ n', n = n' + 1 := ⟨n - 1, by omega⟩
    obtain ⟨m', rfl⟩ : ∃ m', n2 = m' + 1 := ⟨n2 - 1, by omega⟩
    refine ⟨tb, mt, ?_, ?_, h⟩
    · rw [k_X4_addNumber_3_s, if_pos (by decide)]; rfl
    · rw [k_X7_lays_3_s, if_pos (by decide)]; rfl
  | succ d ih =>
    intro T n n2 tb mt hd hT hn hn2 h
    obtain ⟨n', rfl⟩ : ∃ n', n = n' + 1 := ⟨n - 1, by omega⟩
    obtain ⟨m', rfl⟩ : ∃ m', n2 = m' + 1 := ⟨n2 - 1, by omega⟩
    have e8 : nI (8 * (d + 1)) - 8 = nI (8 * d) := by
      rw [show (8 : Int32) = nI 8 from rfl, pk_sub (by omega)]; congr 1
    have e8' : nI (8 * d) + (-8 : Int32) = nI (8 * d) - 8 := by grind
    have sh := sh255 x ⟨d, by omega⟩
    simp only at sh
    obtain ⟨tb', mt', a1, a2, a3⟩ := ih (T + 1) n' m' (upd tb T (vp_nar .byte ((x >>> (nI (8 * d) &&& 31)).toInt8.toInt32))) (upd mt T (((x.toUInt32 >>> ((nI (8 * d)).toUInt32 &&& Int32.toUInt32 31)).toInt32) &&& 255)) (by omega) (by omega) (by omega) (by omega) (fun j hj => by
      by_cases w : j = T
      · subst w
        rw [pk_us, pk_us, vp_nar_byte]
        refine ⟨?_, ?_⟩
        · rw [bp_b, bp_b, sh]
        · rw [fb_byte_twice, fb_byte_twice]
      · rw [pk_un w, pk_un w]; exact h j hj)
    refine ⟨tb', mt', ?_, ?_, a3⟩
    · rw [k_X4_addNumber_3_s, e8, if_neg (nI_pos (by omega)), if_neg (show ¬ (640 : Int32) ≤ nI T from nI_ge (b := 640) (by omega) (by omega)), g_in (by omega) (by omega), cl _ (by omega), show nI T + (1 : Int32) = nI (T + 1) from nI_1 T, e8']
      rw [show T + (d + 1) = T + 1 + d by omega]
      exact a1
    · rw [k_X7_lays_3_s, e8, if_neg (nI_pos (by omega)), g_in (by omega) (by omega), cl _ (by omega), show nI T + (1 : Int32) = nI (T + 1) from nI_1 T, e8']
      rw [show T + (d + 1) = T + 1 + d by omega]
      exact a2
theorem lay1 (x : Int32) {T : Nat} (hT : T + 4 ≤ 640) {tb mt : Nat → Int32} (h : ∀ j, j < 640 → mt j = tb j &&& 255 ∧ (tb j).toInt8.toInt32 = tb j) : ∃ tb' mt', m_X4_addNumber (nI T) tb x = some (nI (T + 4), tb') ∧ m_X7_lays (nI T) mt x = some (nI (T + 4), mt') ∧ ∀ j, j < 640 → mt' j = tb' j &&& 255 ∧ (tb' j).toInt8.toInt32 = tb' j := bytes4 x 4 T FU FU tb mt (by omega) hT (by decide) (by decide) h
theorem op_feed {T : Nat} {tl mtd : Int32} {tb mt : Nat → Int32} (R : RT T tl tb mtd mt) (mth x1 x2 x3 x4 x5 : Int32) : ∃ r T' tl' tb' mtd' mt', m_X6_feed tl tb x1 x2 x3 x4 x5 = some (r, tl', tb') ∧ m_X7_feed mth mtd mt x1 x2 x3 x4 x5 = some (r, 0, mtd', mt') ∧ RT T' tl' tb' mtd' mt' := by
  obtain ⟨hT, rfl, rfl, h⟩ := id R
  rw [m_X6_feed, m_X7_feed, show nI T + (20 : Int32) = nI (T + 20) from nI_add T 20]
  by_cases q : T + 20 ≤ 640
  · have q' : nI (T + 20) ≤ (640 : Int32) := nI_le (b := 640) q (by omega)
    rw [if_pos q', if_pos q']
    obtain ⟨t1, m1, a1, b1, h1⟩ := lay1 x1 (T := T) (by omega) h
    obtain ⟨t2, m2, a2, b2, h2⟩ := lay1 x2 (T := T + 4) (by omega) h1
    obtain ⟨t3, m3, a3, b3, h3⟩ := lay1 x3 (T := T + 4 + 4) (by omega) h2
    obtain ⟨t4, m4, a4, b4, h4⟩ := lay1 x4 (T := T + 4 + 4 + 4) (by omega) h3
    obtain ⟨t5, m5, a5, b5, h5⟩ := lay1 x5 (T := T + 4 + 4 + 4 + 4) (by omega) h4
    rw [ob2_s a1, ob2_s a2, ob2_s a3, ob2_s a4, ob2_s a5, ob2_s b1, ob2_s b2, ob2_s b3, ob2_s b4, ob2_s b5]
    exact ⟨_, T + 4 + 4 + 4 + 4 + 4, _, _, _, _, rfl, rfl, by omega, rfl, rfl, h5⟩
  · have q' : ¬ nI (T + 20) ≤ (640 : Int32) := nI_ge (a := 640) (by omega) (by omega)
    rw [if_neg q', if_neg q']
    exact ⟨_, T, _, _, _, _, rfl, rfl, R⟩
theorem op_end {T : Nat} {tl mtd : Int32} {tb mt : Nat → Int32} (R : RT T tl tb mtd mt) (mth x1 : Int32) : ∃ r T' tl' mtd', m_X6_end tl x1 = some (r, tl') ∧ m_X7_end mth mtd x1 = some (r, 0, mtd') ∧ RT T' tl' tb mtd' mt := by
  obtain ⟨hT, rfl, rfl, h⟩ := id R
  rw [m_X6_end, m_X7_end]
  by_cases q : x1 < 0
  · rw [if_pos q, if_pos q]; exact ⟨_, T, _, _, rfl, rfl, R⟩
  · rw [if_neg q, if_neg q]
    by_cases q2 : x1 ≤ nI T
    · rw [if_pos q2, if_pos q2]
      obtain ⟨j, hj, rfl⟩ := nI_of q
      rw [nI_leI hj (by omega)] at q2
      exact ⟨_, j, _, _, rfl, rfl, by omega, rfl, rfl, h⟩
    · rw [if_neg q2, if_neg q2]; exact ⟨_, T, _, _, rfl, rfl, R⟩
/-! the number of ones -/
theorem and_f (w : Nat) {c d y z : Nat} (hc : c < 2 ^ w) (hd : d < 2 ^ w) : (c + 2 ^ w * y) &&& (d + 2 ^ w * z) = (c &&& d) + 2 ^ w * (y &&& z) := by
  apply Nat.eq_of_testBit_eq
  intro i
  have hcd : c &&& d < 2 ^ w := Nat.and_lt_two_pow c hd
  rw [Nat.testBit_and, Nat.add_comm c, Nat.add_comm d, Nat.add_comm (c &&& d), Nat.testBit_two_pow_mul_add y hc, Nat.testBit_two_pow_mul_add z hd, Nat.testBit_two_pow_mul_add _ hcd]
  by_cases q : i < w
  · simp [q]
  · simp [q]
