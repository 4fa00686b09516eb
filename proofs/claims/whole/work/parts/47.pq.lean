/-! the number of ones, both ways; now -/
theorem and16 {c d y z : Nat} (hc : c < 16) (hd : d < 16) : (c + 16 * y) &&& (d + 16 * z) = (c &&& d) + 16 * (y &&& z) := and_f 4 hc hd
def n5 (u : Nat) : Nat := (u / 2) &&& 5
def p4 (u : Nat) : Nat := u % 2 + u / 2 % 2 + u / 4 % 2 + u / 8 % 2
theorem t_n5 : ∀ u : Fin 16, ∀ e : Fin 2, (u.val / 2 + 8 * e.val) &&& 5 = n5 u.val ∧ n5 u.val ≤ u.val := by decide +kernel
theorem t_n3 : ∀ v : Fin 16, ∀ e : Fin 4, (v.val / 4 + 4 * e.val) &&& 3 = (v.val / 4) &&& 3 := by decide +kernel
theorem t_p4 : ∀ u : Fin 16, ((u.val - n5 u.val) &&& 3) + (((u.val - n5 u.val) / 4) &&& 3) = p4 u.val ∧ p4 u.val ≤ 4 := by decide +kernel
theorem t_15 : ∀ v : Fin 16, v.val &&& 15 = v.val ∧ v.val &&& 0 = 0 := by decide +kernel
def a1n (m : Nat) : Nat := m - (m / 2 &&& 1431655765)
def b1n (a : Nat) : Nat := (a &&& 858993459) + (a / 4 &&& 858993459)
def c1n (b : Nat) : Nat := (b + b / 16) &&& 252645135
theorem nib {m : Nat} (h : m < 2 ^ 20) : ∃ u0 u1 u2 u3 u4, u0 < 16 ∧ u1 < 16 ∧ u2 < 16 ∧ u3 < 16 ∧ u4 < 16 ∧ m = u0 + 16 * (u1 + 16 * (u2 + 16 * (u3 + 16 * u4))) := ⟨m % 16, m / 16 % 16, m / 256 % 16, m / 4096 % 16, m / 65536, by omega, by omega, by omega, by omega, by omega, by omega⟩
theorem a1_nib {u0 u1 u2 u3 u4 : Nat} (h0 : u0 < 16) (h1 : u1 < 16) (h2 : u2 < 16) (h3 : u3 < 16) (h4 : u4 < 16) : a1n (u0 + 16 * (u1 + 16 * (u2 + 16 * (u3 + 16 * u4)))) = (u0 - n5 u0) + 16 * ((u1 - n5 u1) + 16 * ((u2 - n5 u2) + 16 * ((u3 - n5 u3) + 16 * (u4 - n5 u4)))) := by
  have e : (u0 + 16 * (u1 + 16 * (u2 + 16 * (u3 + 16 * u4)))) / 2 = (u0 / 2 + 8 * (u1 % 2)) + 16 * ((u1 / 2 + 8 * (u2 % 2)) + 16 * ((u2 / 2 + 8 * (u3 % 2)) + 16 * ((u3 / 2 + 8 * (u4 % 2)) + 16 * ((u4 / 2 + 8 * 0) + 16 * 0)))) := by omega
  have t0 := t_n5 ⟨u0, h0⟩ ⟨u1 % 2, by omega⟩
  have t1 := t_n5 ⟨u1, h1⟩ ⟨u2 % 2, by omega⟩
  have t2 := t_n5 ⟨u2, h2⟩ ⟨u3 % 2, by omega⟩
  have t3 := t_n5 ⟨u3, h3⟩ ⟨u4 % 2, by omega⟩
  have t4 := t_n5 ⟨u4, h4⟩ ⟨0, by omega⟩
  simp only at t0 t1 t2 t3 t4
  rw [a1n, e, show (1431655765 : Nat) = 5 + 16 * (5 + 16 * (5 + 16 * (5 + 16 * (5 + 16 * 1365)))) from rfl, and16 (by omega) (by omega), and16 (by omega) (by omega), and16 (by omega) (by omega), and16 (by omega) (by omega), and16 (by omega) (by omega), t0.1, t1.1, t2.1, t3.1, t4.1, Nat.zero_and]
  omega
theorem b1_nib {v0 v1 v2 v3 v4 : Nat} (h0 : v0 < 16) (h1 : v1 < 16) (h2 : v2 < 16) (h3 : v3 < 16) (h4 : v4 < 16) : b1n (v0 + 16 * (v1 + 16 * (v2 + 16 * (v3 + 16 * v4)))) = ((v0 &&& 3) + (v0 / 4 &&& 3)) + 16 * (((v1 &&& 3) + (v1 / 4 &&& 3)) + 16 * (((v2 &&& 3) + (v2 / 4 &&& 3)) + 16 * (((v3 &&& 3) + (v3 / 4 &&& 3)) + 16 * ((v4 &&& 3) + (v4 / 4 &&& 3))))) := by
  have e : (v0 + 16 * (v1 + 16 * (v2 + 16 * (v3 + 16 * v4)))) / 4 = (v0 / 4 + 4 * (v1 % 4)) + 16 * ((v1 / 4 + 4 * (v2 % 4)) + 16 * ((v2 / 4 + 4 * (v3 % 4)) + 16 * ((v3 / 4 + 4 * (v4 % 4)) + 16 * ((v4 / 4 + 4 * 0) + 16 * 0)))) := by omega
  have f : v0 + 16 * (v1 + 16 * (v2 + 16 * (v3 + 16 * v4))) = v0 + 16 * (v1 + 16 * (v2 + 16 * (v3 + 16 * (v4 + 16 * 0)))) := by omega
  have t0 := t_n3 ⟨v0, h0⟩ ⟨v1 % 4, by omega⟩
  have t1 := t_n3 ⟨v1, h1⟩ ⟨v2 % 4, by omega⟩
  have t2 := t_n3 ⟨v2, h2⟩ ⟨v3 % 4, by omega⟩
  have t3 := t_n3 ⟨v3, h3⟩ ⟨v4 % 4, by omega⟩
  have t4 := t_n3 ⟨v4, h4⟩ ⟨0, by omega⟩
  simp only at t0 t1 t2 t3 t4
  rw [b1n, e, f, show (858993459 : Nat) = 3 + 16 * (3 + 16 * (3 + 16 * (3 + 16 * (3 + 16 * 819)))) from rfl, and16 (by omega) (by omega), and16 (by omega) (by omega), and16 (by omega) (by omega), and16 (by omega) (by omega), and16 (by omega) (by omega), and16 (by omega) (by omega), and16 (by omega) (by omega), and16 (by omega) (by omega), and16 (by omega) (by omega), and16 (by omega) (by omega), t0, t1, t2, t3, t4, Nat.zero_and]
  omega
theorem c1_nib {p0 p1 p2 p3 q4 : Nat} (h0 : p0 ≤ 4) (h1 : p1 ≤ 4) (h2 : p2 ≤ 4) (h3 : p3 ≤ 4) (h4 : q4 ≤ 4) : c1n (p0 + 16 * (p1 + 16 * (p2 + 16 * (p3 + 16 * q4)))) = (p0 + p1) + 256 * (p2 + p3) + 65536 * q4 := by
  have e : (p0 + 16 * (p1 + 16 * (p2 + 16 * (p3 + 16 * q4)))) + (p0 + 16 * (p1 + 16 * (p2 + 16 * (p3 + 16 * q4)))) / 16 = (p0 + p1) + 16 * ((p1 + p2) + 16 * ((p2 + p3) + 16 * ((p3 + q4) + 16 * (q4 + 16 * 0)))) := by omega
  have t0 := t_15 ⟨p0 + p1, by omega⟩
  have t1 := t_15 ⟨p1 + p2, by omega⟩
  have t2 := t_15 ⟨p2 + p3, by omega⟩
  have t3 := t_15 ⟨p3 + q4, by omega⟩
  have t4 := t_15 ⟨q4, by omega⟩
  simp only at t0 t1 t2 t3 t4
  rw [c1n, e, show (252645135 : Nat) = 15 + 16 * (0 + 16 * (15 + 16 * (0 + 16 * (15 + 16 * 240)))) from rfl, and16 (by omega) (by omega), and16 (by omega) (by omega), and16 (by omega) (by omega), and16 (by omega) (by omega), and16 (by omega) (by omega), t0.1, t1.2, t2.1, t3.2, t4.1, Nat.zero_and]
  omega
def cntN (m : Nat) : Nat → Nat
  | 0 => 0
  | k + 1 => cntN m k + m / 2 ^ k % 2
theorem cnt_nib {u v : Nat} (hu : u < 16) : ∀ k, cntN (u + 16 * v) (4 + k) = p4 u + cntN v k
  | 0 => by
    have e0 : (u + 16 * v) % 2 = u % 2 := by omega
    have e1 : (u + 16 * v) / 2 % 2 = u / 2 % 2 := by omega
    have e2 : (u + 16 * v) / 4 % 2 = u / 4 % 2 := by omega
    have e3 : (u + 16 * v) / 8 % 2 = u / 8 % 2 := by omega
    show 0 + (u + 16 * v) / 1 % 2 + (u + 16 * v) / 2 % 2 + (u + 16 * v) / 4 % 2 + (u + 16 * v) / 8 % 2 = p4 u + 0
    rw [Nat.div_one, e0, e1, e2, e3, p4, Nat.zero_add, Nat.add_zero]
  | k + 1 => by
    show cntN (u + 16 * v) (4 + k) + (u + 16 * v) / 2 ^ (4 + k) % 2 = p4 u + (cntN v k + v / 2 ^ k % 2)
    rw [cnt_nib hu k, Nat.pow_add, ← Nat.div_div_eq_div_mul, show (u + 16 * v) / 2 ^ 4 = v by omega, Nat.add_assoc]
theorem fin_c {a b c d e : Nat} (h0 : a ≤ 4) (h1 : b ≤ 4) (h2 : c ≤ 4) (h3 : d ≤ 4) (h4 : e ≤ 4) : (a + b + 256 * (c + d) + 65536 * e + (a + b + 256 * (c + d) + 65536 * e) / 256 + (a + b + 256 * (c + d) + 65536 * e + (a + b + 256 * (c + d) + 65536 * e) / 256) / 65536) % 64 = a + b + c + d + e := by
  have e1 : (a + b + 256 * (c + d) + 65536 * e) / 256 = c + d + 256 * e := by omega
  have e2 : (a + b + 256 * (c + d) + 65536 * e + (c + d + 256 * e)) / 65536 = e := by omega
  have e3 : a + b + 256 * (c + d) + 65536 * e + (c + d + 256 * e) + e = (a + b + c + d + e) + 64 * (4 * (c + d) + 1024 * e + 4 * e) := by omega
  rw [e1, e2, e3, Nat.add_mul_mod_self_left]
  omega
theorem fin_b {a b c d e : Nat} (h0 : a ≤ 4) (h1 : b ≤ 4) (h2 : c ≤ 4) (h3 : d ≤ 4) (h4 : e ≤ 4) : a + 16 * (b + 16 * (c + 16 * (d + 16 * e))) < 2 ^ 20 := by omega
theorem fin_d {a b c d e : Nat} (h0 : a ≤ 4) (h1 : b ≤ 4) (h2 : c ≤ 4) (h3 : d ≤ 4) (h4 : e ≤ 4) : a + b + 256 * (c + d) + 65536 * e < 2 ^ 20 := by omega
theorem bc_nat {m : Nat} (h : m < 2 ^ 20) : (c1n (b1n (a1n m)) + c1n (b1n (a1n m)) / 256 + (c1n (b1n (a1n m)) + c1n (b1n (a1n m)) / 256) / 65536) % 64 = cntN m 20 ∧ a1n m ≤ m ∧ b1n (a1n m) < 2 ^ 20 ∧ c1n (b1n (a1n m)) < 2 ^ 20 := by
  obtain ⟨u0, u1, u2, u3, u4, h0, h1, h2, h3, h4, rfl⟩ := nib h
  have t0 := t_p4 ⟨u0, h0⟩
  have t1 := t_p4 ⟨u1, h1⟩
  have t2 := t_p4 ⟨u2, h2⟩
  have t3 := t_p4 ⟨u3, h3⟩
  have t4 := t_p4 ⟨u4, h4⟩
  simp only at t0 t1 t2 t3 t4
  have ha := a1_nib h0 h1 h2 h3 h4
  have hb := b1_nib (v0 := u0 - n5 u0) (v1 := u1 - n5 u1) (v2 := u2 - n5 u2) (v3 := u3 - n5 u3) (v4 := u4 - n5 u4) (by omega) (by omega) (by omega) (by omega) (by omega)
  rw [t0.1, t1.1, t2.1, t3.1, t4.1] at hb
  rw [← ha] at hb
  have hc := c1_nib t0.2 t1.2 t2.2 t3.2 t4.2
  rw [← hb] at hc
  have hcn : cntN (u0 + 16 * (u1 + 16 * (u2 + 16 * (u3 + 16 * u4)))) 20 = p4 u0 + p4 u1 + p4 u2 + p4 u3 + p4 u4 := by
    rw [show (20 : Nat) = 4 + (4 + (4 + (4 + (4 + 0)))) from rfl, cnt_nib h0, cnt_nib h1, cnt_nib h2, cnt_nib h3, show cntN u4 (4 + 0) = p4 u4 from cnt_nib (v := 0) h4 0]
    simp only [Nat.add_assoc]
  rw [hcn, hc]
  exact ⟨fin_c t0.2 t1.2 t2.2 t3.2 t4.2, Nat.sub_le _ _, by rw [hb]; exact fin_b t0.2 t1.2 t2.2 t3.2 t4.2, fin_d t0.2 t1.2 t2.2 t3.2 t4.2⟩
theorem us {n : Nat} (hn : n < 2 ^ 31) (s : Int32) (k : Nat) (hs : ((s.toUInt32 &&& Int32.toUInt32 31).toBitVec % 32).toNat = k) : ((nI n).toUInt32 >>> (s.toUInt32 &&& Int32.toUInt32 31)).toInt32 = nI (n / 2 ^ k) := pk_ushrN (by omega) s k hs
theorem e_bitCount {m : Nat} (h : m < 2 ^ 20) : m_J6_bitCount_0f7a4 (nI m) = some (nI (cntN m 20)) := by
  obtain ⟨h1, h2, h3, h4⟩ := bc_nat h
  have ea : nI m - ((((nI m).toUInt32 >>> ((1 : Int32).toUInt32 &&& Int32.toUInt32 31)).toInt32) &&& (1431655765 : Int32)) = nI (a1n m) := by
    rw [us (by omega) 1 1 (by decide), show (1431655765 : Int32) = nI 1431655765 from rfl, fa_and, pk_sub (Nat.le_trans Nat.and_le_left (by omega)), a1n]
  have eb : (nI (a1n m) &&& (858993459 : Int32)) + ((((nI (a1n m)).toUInt32 >>> ((2 : Int32).toUInt32 &&& Int32.toUInt32 31)).toInt32) &&& (858993459 : Int32)) = nI (b1n (a1n m)) := by
    rw [us (by omega) 2 2 (by decide), show (858993459 : Int32) = nI 858993459 from rfl, fa_and, fa_and, nI_add, b1n]
  have ec : (nI (b1n (a1n m)) + (((nI (b1n (a1n m))).toUInt32 >>> ((4 : Int32).toUInt32 &&& Int32.toUInt32 31)).toInt32)) &&& (252645135 : Int32) = nI (c1n (b1n (a1n m))) := by
    rw [us (by omega) 4 4 (by decide), show (252645135 : Int32) = nI 252645135 from rfl, nI_add, fa_and, c1n]
  have ed : nI (c1n (b1n (a1n m))) + (((nI (c1n (b1n (a1n m)))).toUInt32 >>> ((8 : Int32).toUInt32 &&& Int32.toUInt32 31)).toInt32) = nI (c1n (b1n (a1n m)) + c1n (b1n (a1n m)) / 256) := by
    rw [us (by omega) 8 8 (by decide), nI_add]
  have ee : nI (c1n (b1n (a1n m)) + c1n (b1n (a1n m)) / 256) + (((nI (c1n (b1n (a1n m)) + c1n (b1n (a1n m)) / 256)).toUInt32 >>> ((16 : Int32).toUInt32 &&& Int32.toUInt32 31)).toInt32) = nI (c1n (b1n (a1n m)) + c1n (b1n (a1n m)) / 256 + (c1n (b1n (a1n m)) + c1n (b1n (a1n m)) / 256) / 65536) := by
    rw [us (by omega) 16 16 (by decide), nI_add]
  rw [m_J6_bitCount_0f7a4, ea, eb, ec, ed, ee, show (63 : Int32) = nI (2 ^ 6 - 1) from rfl, fa_mask, show (2 : Nat) ^ 6 = 64 from rfl, h1]
theorem f_count {m : Nat} (h : m < 2 ^ 20) : m_X7_count (nI m) = some (nI (cntN m 20)) := by
  have key : ∀ (d k n : Nat), k + d = 20 → d < n → k_X7_count_4 n (nI m) (nI (cntN m k)) (nI k) = some (nI (cntN m 20)) := by
    intro d
    induction d with
    | zero =>
      intro k n hk hn
      obtain ⟨n', rfl⟩ : ∃ n', n = n' + 1 := ⟨n - 1, by omega⟩
      rw [k_X7_count_4_s, show (20 : Int32) = nI 20 from rfl, if_pos (nI_le (by omega) (by omega)), show k = 20 by omega]
    | succ d ih =>
      intro k n hk hn
      obtain ⟨n', rfl⟩ : ∃ n', n = n' + 1 := ⟨n - 1, by omega⟩
      rw [k_X7_count_4_s, show (20 : Int32) = nI 20 from rfl, if_neg (nI_ge (by omega) (by omega)), bitI h (by omega), nI_add, show nI k + (1 : Int32) = nI (k + 1) from nI_1 k]
      have e : cntN m k + (if m.testBit k then 1 else 0) = cntN m (k + 1) := by
        rw [cntN, Nat.testBit_eq_decide_div_mod_eq]
        rcases Nat.mod_two_eq_zero_or_one (m / 2 ^ k) with w | w <;> simp [w]
      rw [e]
      exact ih (k + 1) n' (by omega) (by omega)
  rw [m_X7_count]
  exact key 20 0 FU (by omega) (by decide)
theorem op_now {α : AS} (ok : OKA α) {pg ps pn : Int32} {pp pf mno : Nat → Int32} (hc : RC α pg ps pn pp pf) (hm : RM α mno) {T : Nat} {tl mtd : Int32} {tb mt : Nat → Int32} (R : RT T tl tb mtd mt) (jn mth x1 : Int32) : ∃ r, m_X6_now tl pg ps pn pp jn x1 = some r ∧ m_X7_now mth mtd jn mno x1 = some (r, 0) := by
  have hN1 : 1 ≤ zN α := ok.1
  rw [m_X6_now, m_X7_now]
  by_cases c0 : x1 = (0 : Int32)
  · subst c0
    rw [if_pos rfl, if_pos rfl, if_neg (by decide)]
    exact ⟨_, rfl, by rw [hc.2.1, ← hm.1]; rfl⟩
  rw [if_neg c0, if_neg c0]
  by_cases c1 : x1 = (1 : Int32)
  · subst c1
    rw [if_pos rfl, if_pos rfl, if_neg (by decide)]
    exact ⟨_, rfl, by rw [hc.2.2.1, ← hm.2.1]; rfl⟩
  rw [if_neg c1, if_neg c1]
  by_cases c2 : x1 = (2 : Int32)
  · rw [if_pos c2, if_pos c2]
    have e1 : m_X2_leavesBelow pg pn pp (0 : Int32) = some (nI (mkm (lfb α 0) (zN α))) := e_leavesBelow ok hc (t := 0) (by omega)
    have e2 : m_X7_leavesOf mno (0 : Int32) = some (nI (mkm (lfb α 0) (zN α))) := f_leavesOf ok hm (t := 0) (by omega)
    rw [ob1_s e1, ob1_s e2, ob1_s (e_bitCount (mtk ok)), ob1_s (f_count (mtk ok))]
    exact ⟨_, rfl, rfl⟩
  rw [if_neg c2, if_neg c2]
  by_cases c3 : x1 = (3 : Int32)
  · rw [if_pos c3, if_pos c3]; exact ⟨_, rfl, rfl⟩
  rw [if_neg c3, if_neg c3]
  by_cases c4 : x1 = (4 : Int32)
  · rw [if_pos c4, if_pos c4, R.2.1, R.2.2.1]; exact ⟨_, rfl, rfl⟩
  rw [if_neg c4, if_neg c4]
  exact ⟨_, rfl, rfl⟩
