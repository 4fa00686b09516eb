/-! movers and branch -/
section
variable {α : AS} {pg ps pn : Int32} {pp pf mno : Nat → Int32}
def far (α : AS) (t a b : Nat) : Int32 := absI (vsum (lfb α t) (fun i => bvl α i b b 0) (zN α) - vsum (lfb α t) (fun i => bvl α i a a 0) (zN α))
theorem f_far (ok : OKA α) (hm : RM α mno) {t a b : Nat} (ht : t < zN α) (ha : a < 4) (hb : b < 4) : m_X7_farOf mno (nI t) (nI a) (nI b) = some (far α t a b) := by
  have e : m_X7_differenceOf mno (nI t) (nI a) (nI b) = some (vsum (lfb α t) (fun i => bvl α i b b 0) (zN α) - vsum (lfb α t) (fun i => bvl α i a a 0) (zN α)) := by
    rw [m_X7_differenceOf, ob1_s (f_valueIn ok hm ht hb), ob1_s (f_valueIn ok hm ht ha)]
  rw [m_X7_farOf, ob1_s e, far, absI]
  split
  · rfl
  · rw [neg0]
theorem anc_leaf (ok : OKA α) {i : Nat} (hl : (zG α).testBit i = false) : ∀ (n j : Nat), j < zN α → anc (zP α) n j i = true → j = i := by
  obtain ⟨rk, hr⟩ := ok.2.2.2.2.2.2.1
  intro n
  induction n with
  | zero => intro j hj h; exact of_decide_eq_true h
  | succ n ih =>
    intro j hj h
    rw [anc] at h
    by_cases q : j = i
    · exact q
    · rw [if_neg q] at h
      by_cases q0 : j = 0
      · rw [if_pos q0] at h; cases h
      · rw [if_neg q0] at h
        have h2 := hr j (Nat.pos_of_ne_zero q0) hj
        have h3 := ih (zP α j) h2.1 h
        rw [h3, hl] at h2
        exact absurd h2.2.1 (by decide)
theorem lfb_self {i : Nat} (hl : (zG α).testBit i = false) : lfb α i i = true := by
  rw [lfb, hl, anc, if_pos rfl]; rfl
theorem lfb_only (ok : OKA α) {i j : Nat} (hl : (zG α).testBit i = false) (hj : j < zN α) (h : lfb α i j = true) : j = i := by
  rw [lfb, Bool.and_eq_true] at h
  exact anc_leaf ok hl 19 j hj h.2
theorem vsum_none (P : Nat → Bool) (g : Nat → Int32) : ∀ n, (∀ j, j < n → P j = false) → vsum P g n = 0
  | 0, _ => rfl
  | n + 1, h => by rw [vsum, h n (by omega), if_neg (by decide), vsum_none P g n (fun j hj => h j (by omega))]
theorem vsum_one {P : Nat → Bool} {g : Nat → Int32} {i : Nat} (hi : P i = true) : ∀ n, i < n → (∀ j, j < n → P j = true → j = i) → vsum P g n = g i
  | 0, h, _ => by omega
  | n + 1, h, h2 => by
    rw [vsum]
    by_cases q : n = i
    · rw [q, hi, if_pos rfl, vsum_none P g i (fun j hj => by
        cases e : P j
        · rfl
        · have := h2 j (by omega) e
          omega), Int32.zero_add]
    · have e : P n = false := by
        cases e : P n
        · rfl
        · exact absurd (h2 n (by omega) e) q
      rw [e, if_neg (by decide)]
      exact vsum_one hi n (by omega) (fun j hj => h2 j (by omega))
theorem far_leaf (ok : OKA α) {i a b : Nat} (hi : i < zN α) (hl : (zG α).testBit i = false) : far α i a b = absI (bvl α i b b 0 - bvl α i a a 0) := by
  rw [far, vsum_one (lfb_self hl) (zN α) hi (fun j hj h => lfb_only ok hl hj h), vsum_one (lfb_self hl) (zN α) hi (fun j hj h => lfb_only ok hl hj h)]
/-- who goes ahead of i -/
def ahP (α : AS) (a b i j : Nat) : Bool := !((zG α).testBit j) && (decide (far α i a b < far α j a b) || (decide (j < i) && decide (far α j a b = far α i a b)))
theorem e_ahead (ok : OKA α) (hc : RC α pg ps pn pp pf) {a b i : Nat} (hi : i < zN α) (hl : (zG α).testBit i = false) {bs : Nat → Int32} (hbs : ∀ j, j < zN α → (zG α).testBit j = false → bs j = far α j a b) : m_X0_moversAheadOf bs pg pn (nI i) = some (nI (fb_ct (ahP α a b i) (zN α))) := by
  have h20 : zN α ≤ 20 := ok.2.1
  have L62 : ∀ (ct : Int32 → Int32 → Int32 → Option Int32) (y2 : Int32) (j : Nat) (y4 z0 : Bool), j < zN α → k_X0_moversAheadOf_62 bs pg pn ct (nI i) y2 (nI j) (bI y4) (bI z0) = if (!((zG α).testBit j) && (y4 || z0)) then ct (nI i) (y2 + 1) (nI j + 1) else ct (nI i) y2 (nI j + 1) := by
    intro ct y2 j y4 z0 hj
    rw [k_X0_moversAheadOf_62, ob1_s (e_isLeaf ok hc.1 hc.2.2.1 hj), ifb, ifb]
    cases (zG α).testBit j <;> cases y4 <;> cases z0 <;> first | rfl | (rw [if_neg (by decide)]; rfl) | (rw [if_pos (by decide)]; rfl)
  have key : ∀ (d j n : Nat), j + d = zN α → d < n → k_X0_moversAheadOf_4 bs pg pn n (nI i) (nI (fb_ct (ahP α a b i) j)) (nI j) = some (nI (fb_ct (ahP α a b i) (zN α))) := by
    intro d
    induction d with
    | zero =>
      intro j n hj hd
      obtain ⟨n', rfl⟩ : ∃ n', n = n' + 1 := ⟨n - 1, by omega⟩
      rw [k_X0_moversAheadOf_4_s, hc.2.2.1, if_pos (nI_le (by omega) (by omega)), show j = zN α by omega]
    | succ d ih =>
      intro j n hj hd
      obtain ⟨n', rfl⟩ : ∃ n', n = n' + 1 := ⟨n - 1, by omega⟩
      have hjN : j < zN α := by omega
      have ihj := ih (j + 1) n' (by omega) (by omega)
      have L35 : ∀ (z : Bool), k_X0_moversAheadOf_35 bs pg pn (k_X0_moversAheadOf_4 bs pg pn n') (nI i) (nI (fb_ct (ahP α a b i) j)) (nI j) (bI z) = if (!((zG α).testBit j) && (z || (decide (j < i) && decide (bs j = bs i)))) then k_X0_moversAheadOf_4 bs pg pn n' (nI i) (nI (fb_ct (ahP α a b i) j) + 1) (nI (j + 1)) else k_X0_moversAheadOf_4 bs pg pn n' (nI i) (nI (fb_ct (ahP α a b i) j)) (nI (j + 1)) := by
        intro z
        rw [k_X0_moversAheadOf_35, g_in (by omega) (by omega), g_in (by omega) (by omega), cl _ (by omega), cl _ (by omega), k_X0_moversAheadOf_61]
        have l0 := L62 (k_X0_moversAheadOf_4 bs pg pn n') (nI (fb_ct (ahP α a b i) j)) j z false hjN
        have l1 := L62 (k_X0_moversAheadOf_4 bs pg pn n') (nI (fb_ct (ahP α a b i) j)) j z true hjN
        rw [show nI j + (1 : Int32) = nI (j + 1) from nI_1 j] at l0 l1
        rw [show bI false = (0 : Int32) from rfl] at l0
        rw [show bI true = (1 : Int32) from rfl] at l1
        by_cases q1 : bs j = bs i
        · rw [if_pos q1]
          by_cases q2 : j < i
          · rw [if_neg (nI_ge q2 (by omega)), l1]; simp [q1, q2]
          · rw [if_pos (nI_le (by omega) (by omega)), l0]; simp [q2]
        · rw [if_neg q1, l0]; simp [q1]
      rw [k_X0_moversAheadOf_4_s, if_neg (by rw [hc.2.2.1]; exact nI_ge hjN (by omega)), g_in (by omega) (by omega), g_in (by omega) (by omega), cl _ (by omega), cl _ (by omega)]
      have l0 := L35 false
      have l1 := L35 true
      rw [show bI false = (0 : Int32) from rfl] at l0
      rw [show bI true = (1 : Int32) from rfl] at l1
      have step : (if bs j ≤ bs i then k_X0_moversAheadOf_35 bs pg pn (k_X0_moversAheadOf_4 bs pg pn n') (nI i) (nI (fb_ct (ahP α a b i) j)) (nI j) (0 : Int32) else k_X0_moversAheadOf_35 bs pg pn (k_X0_moversAheadOf_4 bs pg pn n') (nI i) (nI (fb_ct (ahP α a b i) j)) (nI j) (1 : Int32)) = if ahP α a b i j then k_X0_moversAheadOf_4 bs pg pn n' (nI i) (nI (fb_ct (ahP α a b i) j) + 1) (nI (j + 1)) else k_X0_moversAheadOf_4 bs pg pn n' (nI i) (nI (fb_ct (ahP α a b i) j)) (nI (j + 1)) := by
        rw [l0, l1, ahP]
        cases hbj : (zG α).testBit j
        · rw [← hbs i hi hl, ← hbs j hjN hbj]
          by_cases q : bs j ≤ bs i
          · rw [if_pos q]; simp [Int32.not_lt.mpr q]
          · rw [if_neg q]; simp [Int32.not_le.mp q]
        · simp
      rw [step]
      rw [fb_ct_succ] at ihj
      cases hp : ahP α a b i j
      · rw [hp] at ihj
        rw [if_neg (by decide)]
        exact ihj
      · rw [hp] at ihj
        rw [if_pos rfl, show nI (fb_ct (ahP α a b i) j) + (1 : Int32) = nI (fb_ct (ahP α a b i) j + 1) from nI_1 _]
        exact ihj
  rw [m_X0_moversAheadOf]
  have h1 : 1 ≤ zN α := ok.1
  have := key (zN α - 1) 1 FU (by omega) (by have : FU = 5000 := rfl; omega)
  rw [show fb_ct (ahP α a b i) 1 = 0 by rw [fb_ct_succ]; simp [fb_ct, ahP, ok.2.2.2.2.2.1]] at this
  exact this
theorem op_mover (ok : OKA α) (hc : RC α pg ps pn pp pf) (hm : RM α mno) (bs : Nat → Int32) (mth x1 x2 x3 : Int32) : ∃ r bs', m_X6_mover pg ps pn pf bs x1 x2 x3 = some (r, bs') ∧ m_X7_mover mth mno x1 x2 x3 = some (r, 0) := by
  have hS4 : zS α ≤ 4 := ok.2.2.2.1
  have h20 : zN α ≤ 20 := ok.2.1
  have hN1 : 1 ≤ zN α := ok.1
  rw [m_X6_mover, m_X7_mover, ob1_s (b_isScene ok hc.2.1 x1), ob1_s (d_areScenes ok hm x1 x2), ifb, ifb, ob1_s (b_isScene ok hc.2.1 x2), ifb]
  cases h2 : inR (zS α) x1
  · exact ⟨-1, bs, rfl, rfl⟩
  cases h3 : inR (zS α) x2
  · exact ⟨-1, bs, rfl, rfl⟩
  obtain ⟨a, ha, rfl⟩ := inR_t h2 (by omega)
  obtain ⟨b, hb, rfl⟩ := inR_t h3 (by omega)
  have ha : a < 4 := by omega
  have hb : b < 4 := by omega
  rw [if_pos rfl, if_pos rfl, show (true && true) = true from rfl, if_pos rfl]
  have sizes : ∀ (d j n : Nat) (bc : Nat → Int32), j + d = zN α → d < n → (∀ q, q < j → (zG α).testBit q = false → bc q = far α q a b) → ∃ bd, k_X0_moverAt_3 pg pn pf n bc (nI a) (nI b) x3 (nI j) = k_X0_moverAt_67 pg pn pf FU bd x3 1 ∧ ∀ q, q < zN α → (zG α).testBit q = false → bd q = far α q a b := by
    intro d
    induction d with
    | zero =>
      intro j n bc hj hd h
      obtain ⟨n', rfl⟩ : ∃ n', n = n' + 1 := ⟨n - 1, by omega⟩
      refine ⟨bc, ?_, fun q hq hl => h q (by omega) hl⟩
      rw [k_X0_moverAt_3_s, hc.2.2.1, if_pos (nI_le (by omega) (by omega))]
    | succ d ih =>
      intro j n bc hj hd h
      obtain ⟨n', rfl⟩ : ∃ n', n = n' + 1 := ⟨n - 1, by omega⟩
      have hjN : j < zN α := by omega
      rw [k_X0_moverAt_3_s, if_neg (by rw [hc.2.2.1]; exact nI_ge hjN (by omega)), ob1_s (e_isLeaf ok hc.1 hc.2.2.1 hjN), show nI j + (1 : Int32) = nI (j + 1) from nI_1 j]
      cases hbj : (zG α).testBit j
      · rw [if_neg (by decide), ob1_s (e_leafValue ok hc hjN hbj hb), ob1_s (e_leafValue ok hc hjN hbj ha), g_in (by omega) (by omega), cl _ (by omega)]
        refine ih (j + 1) n' _ (by omega) (by omega) (fun q hq hl => ?_)
        by_cases e : q = j
        · subst e
          rw [pk_us, far_leaf ok hjN hbj, absI]
        · rw [pk_un e]; exact h q (by omega) hl
      · rw [if_pos (by decide)]
        refine ih (j + 1) n' bc (by omega) (by omega) (fun q hq hl => h q ?_ hl)
        rcases Nat.lt_or_ge q j with r | r
        · exact r
        · exfalso
          have : q = j := by omega
          rw [this, hbj] at hl; cases hl
  obtain ⟨bd, s1, s2⟩ := sizes (zN α - 1) 1 FU bs (by omega) (by have : FU = 5000 := rfl; omega) (fun q hq hl => by
    exfalso
    have : q = 0 := by omega
    rw [this, ok.2.2.2.2.2.1] at hl; cases hl)
  have inner : ∀ (ct : Int32 → Int32 → Int32 → Int32 → Int32 → Option (Int32 × Int32)) (i : Nat), i < zN α → (zG α).testBit i = false → ∀ (d j n : Nat), j + d = zN α → d < n → k_X7_mover_48 mno ct n 0 (nI a) (nI b) x3 (nI i) (nI (fb_ct (ahP α a b i) j)) (nI j) = if nI (fb_ct (ahP α a b i) (zN α)) = x3 then some (nI i, 0) else ct 0 (nI a) (nI b) x3 (nI (i + 1)) := by
    intro ct i hi hl d
    induction d with
    | zero =>
      intro j n hj hd
      obtain ⟨n', rfl⟩ : ∃ n', n = n' + 1 := ⟨n - 1, by omega⟩
      rw [k_X7_mover_48_s, if_neg (by decide), show (1 : Int32).toNatClampNeg = 1 from rfl, hm.2.1, if_pos (nI_le (by omega) (by omega)), show j = zN α by omega, show nI i + (1 : Int32) = nI (i + 1) from nI_1 i]
    | succ d ih =>
      intro j n hj hd
      obtain ⟨n', rfl⟩ : ∃ n', n = n' + 1 := ⟨n - 1, by omega⟩
      have hjN : j < zN α := by omega
      have ihj := ih (j + 1) n' (by omega) (by omega)
      rw [fb_ct_succ] at ihj
      rw [k_X7_mover_48_s, if_neg (by decide), show (1 : Int32).toNatClampNeg = 1 from rfl, hm.2.1, if_neg (nI_ge hjN (by omega)), ob1_s (d_isLeaf ok hm (nI j)), ifb, show lfR α (nI j) = !((zG α).testBit j) by rw [lfR, inR_n hjN (by omega), cl _ (by omega)]; rfl, show nI j + (1 : Int32) = nI (j + 1) from nI_1 j]
      cases hbj : (zG α).testBit j
      · rw [show (!false) = true from rfl, if_pos rfl, ob1_s (f_far ok hm hjN ha hb), ob1_s (f_far ok hm hi ha hb), ob1_s (f_far ok hm hjN ha hb), ob1_s (f_far ok hm hi ha hb), show nI (fb_ct (ahP α a b i) j) + (1 : Int32) = nI (fb_ct (ahP α a b i) j + 1) from nI_1 _]
        by_cases q1 : far α i a b < far α j a b
        · have hp : ahP α a b i j = true := by simp [ahP, hbj, q1]
          rw [hp] at ihj
          rw [if_pos q1]; exact ihj
        · rw [if_neg q1]
          by_cases q2 : j < i
          · rw [if_neg (nI_ge q2 (by omega))]
            by_cases q3 : far α j a b = far α i a b
            · have hp : ahP α a b i j = true := by simp [ahP, hbj, q2, q3]
              rw [hp] at ihj
              rw [if_pos q3]; exact ihj
            · have hp : ahP α a b i j = false := by simp [ahP, q1, q3]
              rw [hp] at ihj
              rw [if_neg q3]; exact ihj
          · have hp : ahP α a b i j = false := by simp [ahP, q1, q2]
            rw [hp] at ihj
            rw [if_pos (nI_le (by omega) (by omega))]; exact ihj
      · have hp : ahP α a b i j = false := by simp [ahP, hbj]
        rw [hp] at ihj
        rw [show (!true) = false from rfl, if_neg (by decide)]
        exact ihj
  have find : ∀ (d i n n2 : Nat), i + d = zN α → d < n → d < n2 → ∃ r, k_X0_moverAt_67 pg pn pf n bd x3 (nI i) = some (r, bd) ∧ k_X7_mover_19 mno n2 0 (nI a) (nI b) x3 (nI i) = some (r, 0) := by
    intro d
    induction d with
    | zero =>
      intro i n n2 hi h1 h2
      obtain ⟨n', rfl⟩ : ∃ n', n = n' + 1 := ⟨n - 1, by omega⟩
      obtain ⟨m', rfl⟩ : ∃ m', n2 = m' + 1 := ⟨n2 - 1, by omega⟩
      refine ⟨-1, ?_, ?_⟩
      · rw [k_X0_moverAt_67_s, hc.2.2.1, if_pos (nI_le (by omega) (by omega))]
      · rw [k_X7_mover_19_s, if_neg (by decide), show (1 : Int32).toNatClampNeg = 1 from rfl, hm.2.1, if_pos (nI_le (by omega) (by omega))]
    | succ d ih =>
      intro i n n2 hi h1 h2
      obtain ⟨n', rfl⟩ : ∃ n', n = n' + 1 := ⟨n - 1, by omega⟩
      obtain ⟨m', rfl⟩ : ∃ m', n2 = m' + 1 := ⟨n2 - 1, by omega⟩
      have hiN : i < zN α := by omega
      have ihi := ih (i + 1) n' m' (by omega) (by omega) (by omega)
      rw [k_X0_moverAt_67_s, k_X7_mover_19_s, if_neg (by rw [hc.2.2.1]; exact nI_ge hiN (by omega)), if_neg (show ¬ ((1 : Int32) < 0 ∨ 442 ≤ (1 : Int32).toNatClampNeg) by decide), show (1 : Int32).toNatClampNeg = 1 from rfl, hm.2.1, if_neg (nI_ge hiN (by omega)), ob1_s (e_isLeaf ok hc.1 hc.2.2.1 hiN), ob1_s (d_isLeaf ok hm (nI i)), ifb, show lfR α (nI i) = !((zG α).testBit i) by rw [lfR, inR_n hiN (by omega), cl _ (by omega)]; rfl, show nI i + (1 : Int32) = nI (i + 1) from nI_1 i]
      cases hbi : (zG α).testBit i
      · have hin := inner (k_X7_mover_19 mno m') i hiN hbi (zN α) 0 FU (by omega) (by have : FU = 5000 := rfl; omega)
        rw [if_neg (by decide), ob1_s (e_ahead ok hc hiN hbi s2), show (!false) = true from rfl, if_pos rfl]
        have hin2 : k_X7_mover_48 mno (k_X7_mover_19 mno m') FU 0 (nI a) (nI b) x3 (nI i) (0 : Int32) (0 : Int32) = if nI (fb_ct (ahP α a b i) (zN α)) = x3 then some (nI i, 0) else k_X7_mover_19 mno m' 0 (nI a) (nI b) x3 (nI (i + 1)) := hin
        rw [hin2]
        by_cases q : nI (fb_ct (ahP α a b i) (zN α)) = x3
        · rw [if_pos q, if_pos q]; exact ⟨_, rfl, rfl⟩
        · rw [if_neg q, if_neg q]; exact ihi
      · rw [if_pos (by decide), show (!true) = false from rfl, if_neg (by decide)]
        exact ihi
  obtain ⟨r, f1, f2⟩ := find (zN α - 1) 1 FU 4999 (by omega) (by have : FU = 5000 := rfl; omega) (by omega)
  refine ⟨r, bd, ob2_s (s1.trans f1), ?_⟩
  rw [show FU = 4999 + 1 from rfl, k_X7_mover_19_s, if_neg (by decide), show (1 : Int32).toNatClampNeg = 1 from rfl, hm.2.1, if_neg (show ¬ nI (zN α) ≤ (0 : Int32) from nI_ge (a := 0) (by omega) (by omega))]
  have l0 : m_X7_isLeaf mno (0 : Int32) = some (bI false) := by
    have := d_isLeaf ok hm (nI 0)
    rw [show lfR α (nI 0) = false by rw [lfR, cl _ (by omega), ok.2.2.2.2.2.1]; simp] at this
    exact this
  rw [ob1_s l0, ifb, if_neg (by decide)]
  exact f2
theorem vsum_bd {P : Nat → Bool} {g : Nat → Int32} : ∀ n, n ≤ 20 → (∀ j, j < n → P j = true → -9980010 ≤ (g j).toInt ∧ (g j).toInt ≤ 1996002) → -(n * 9980010 : Int) ≤ (vsum P g n).toInt ∧ (vsum P g n).toInt ≤ (n * 9980010 : Int)
  | 0, _, _ => by simp [vsum]
  | n + 1, hn, h => by
    have ih := vsum_bd n (by omega) (fun j hj hp => h j (by omega) hp)
    rw [vsum]
    cases hp : P n
    · rw [if_neg (by decide)]; push_cast; omega
    · rw [if_pos rfl]
      have h2 := h n (by omega) hp
      rw [fb_addI (by omega) (by omega)]
      push_cast; omega
theorem far_nn (ok : OKA α) {t a b : Nat} (ha : a < 4) (hb : b < 4) : (0 : Int32) ≤ far α t a b := by
  have h20 : zN α ≤ 20 := ok.2.1
  have b1 := vsum_bd (P := lfb α t) (g := fun i => bvl α i b b 0) (zN α) h20 (fun j hj hp => bvl_bd ok hj (lfb_leaf hp) hb hb)
  have b2 := vsum_bd (P := lfb α t) (g := fun i => bvl α i a a 0) (zN α) h20 (fun j hj hp => bvl_bd ok hj (lfb_leaf hp) ha ha)
  rw [far, absI]
  generalize vsum (lfb α t) (fun i => bvl α i b b 0) (zN α) = x at b1
  generalize vsum (lfb α t) (fun i => bvl α i a a 0) (zN α) = y at b2
  have e := fb_subI (x := x) (y := y) (by omega) (by omega)
  split
  · assumption
  · rename_i q
    have q := Int32.not_le.mp q
    rw [Int32.lt_iff_toInt_lt, e] at q
    have z : (0 : Int32).toInt = 0 := rfl
    rw [Int32.le_iff_toInt_le, fb_subI (by rw [e, z]; omega) (by rw [e, z]; omega), e]
    omega
theorem op_branch (ok : OKA α) (hc : RC α pg ps pn pp pf) (hm : RM α mno) (mth x1 x2 : Int32) : ∃ r, m_X6_branch pg ps pn pp pf x1 x2 = some r ∧ m_X7_branch mth mno x1 x2 = some (r, 0) := by
  have hS4 : zS α ≤ 4 := ok.2.2.2.1
  have h20 : zN α ≤ 20 := ok.2.1
  have hN1 : 1 ≤ zN α := ok.1
  rw [m_X6_branch, m_X7_branch, ob1_s (b_isScene ok hc.2.1 x1), ob1_s (d_areScenes ok hm x1 x2), ifb, ifb, ob1_s (b_isScene ok hc.2.1 x2), ifb]
  cases h2 : inR (zS α) x1
  · exact ⟨-1, rfl, rfl⟩
  cases h3 : inR (zS α) x2
  · exact ⟨-1, rfl, rfl⟩
  obtain ⟨a, ha, rfl⟩ := inR_t h2 (by omega)
  obtain ⟨b, hb, rfl⟩ := inR_t h3 (by omega)
  have ha : a < 4 := by omega
  have hb : b < 4 := by omega
  rw [if_pos rfl, if_pos rfl, show (true && true) = true from rfl, if_pos rfl]
  have key : ∀ (d j n n2 : Nat) (y3 y4 : Int32), j + d = zN α → d < n → d < n2 → ((y3 = -2 ∧ y4 = -1) ∨ ∃ g, g < zN α ∧ y3 = nI g ∧ y4 = far α g a b) → ∃ r, k_X0_greatestGroup_9 pg pn pp pf n (nI a) (nI b) y3 y4 (nI j) = some r ∧ k_X7_branch_22 mno n2 0 (nI a) (nI b) y3 (nI j) = some (r, 0) := by
    intro d
    induction d with
    | zero =>
      intro j n n2 y3 y4 hj h1 h2 hy
      obtain ⟨n', rfl⟩ : ∃ n', n = n' + 1 := ⟨n - 1, by omega⟩
      obtain ⟨m', rfl⟩ : ∃ m', n2 = m' + 1 := ⟨n2 - 1, by omega⟩
      refine ⟨y3, ?_, ?_⟩
      · rw [k_X0_greatestGroup_9_s, hc.2.2.1, if_pos (nI_le (by omega) (by omega))]
      · rw [k_X7_branch_22_s, if_neg (by decide), show (1 : Int32).toNatClampNeg = 1 from rfl, hm.2.1, if_pos (nI_le (by omega) (by omega))]
    | succ d ih =>
      intro j n n2 y3 y4 hj h1 h2 hy
      obtain ⟨n', rfl⟩ : ∃ n', n = n' + 1 := ⟨n - 1, by omega⟩
      obtain ⟨m', rfl⟩ : ∃ m', n2 = m' + 1 := ⟨n2 - 1, by omega⟩
      have hjN : j < zN α := by omega
      rw [k_X0_greatestGroup_9_s, k_X7_branch_22_s, if_neg (by rw [hc.2.2.1]; exact nI_ge hjN (by omega)), if_neg (show ¬ ((1 : Int32) < 0 ∨ 442 ≤ (1 : Int32).toNatClampNeg) by decide), show (1 : Int32).toNatClampNeg = 1 from rfl, hm.2.1, if_neg (nI_ge hjN (by omega)), ob1_s (b_isGroup ok hc.1 hc.2.2.1 (nI j)), ob1_s (d_isGroup ok hm (nI j)), ifb, ifb, k_X7_branch_66, show nI j + (1 : Int32) = nI (j + 1) from nI_1 j]
      cases hbj : grR α (nI j)
      · exact ih (j + 1) n' m' y3 y4 (by omega) (by omega) (by omega) hy
      · rw [if_pos rfl, if_pos rfl, ob1_s (e_nodeValue ok hc hjN hb), ob1_s (e_nodeValue ok hc hjN ha)]
        have efar : (if 0 ≤ vsum (lfb α j) (fun i => bvl α i b b 0) (zN α) - vsum (lfb α j) (fun i => bvl α i a a 0) (zN α) then vsum (lfb α j) (fun i => bvl α i b b 0) (zN α) - vsum (lfb α j) (fun i => bvl α i a a 0) (zN α) else 0 - (vsum (lfb α j) (fun i => bvl α i b b 0) (zN α) - vsum (lfb α j) (fun i => bvl α i a a 0) (zN α))) = far α j a b := rfl
        rw [efar]
        rcases hy with ⟨rfl, rfl⟩ | ⟨g, hg, rfl, rfl⟩
        · have nn := far_nn ok (t := j) ha hb
          have q : ¬ far α j a b ≤ (-1 : Int32) := by
            intro q
            rw [Int32.le_iff_toInt_le] at q nn
            have z : (0 : Int32).toInt = 0 := rfl
            have z1 : (-1 : Int32).toInt = -1 := rfl
            omega
          rw [if_neg q, if_pos rfl]
          exact ih (j + 1) n' m' _ _ (by omega) (by omega) (by omega) (Or.inr ⟨j, hjN, rfl, rfl⟩)
        · have g2 : ¬ nI g = (-2 : Int32) := fun e => by
            have := congrArg Int32.toInt e
            rw [nI_toInt (by omega)] at this
            have h2 : (-2 : Int32).toInt = -2 := rfl
            omega
          rw [if_neg g2, ob1_s (f_far ok hm hjN ha hb), ob1_s (f_far ok hm hg ha hb)]
          by_cases q : far α j a b ≤ far α g a b
          · rw [if_pos q, if_pos q]
            exact ih (j + 1) n' m' _ _ (by omega) (by omega) (by omega) (Or.inr ⟨g, hg, rfl, rfl⟩)
          · rw [if_neg q, if_neg q]
            exact ih (j + 1) n' m' _ _ (by omega) (by omega) (by omega) (Or.inr ⟨j, hjN, rfl, rfl⟩)
  obtain ⟨r, r1, r2⟩ := key (zN α - 1) 1 FU FU (-2) (-1) (by omega) (by have : FU = 5000 := rfl; omega) (by have : FU = 5000 := rfl; omega) (Or.inl ⟨rfl, rfl⟩)
  exact ⟨r, ob1_s r1, r2⟩
end
