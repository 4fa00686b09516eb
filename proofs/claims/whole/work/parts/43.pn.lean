/-! set and copy -/
theorem back9 {q : Nat} (hq : q < 10) : ((nI q + (10 : Int32)) - (1 : Int32)) - ((nI q + (10 : Int32)) - (1 : Int32)) / (10 : Int32) * (10 : Int32) = nI ((q + 9) % 10) := by
  rw [show nI q + (10 : Int32) = nI (q + 10) from nI_add q 10, show nI (q + 10) - (1 : Int32) = nI (q + 9) from nI_pred (q + 9)]
  exact pk_rem (d := 10) (by omega) (by omega) (by omega)
theorem TB_scene {jk jp jb jr : Nat → Int32} {q sc : Nat} {β γ : AS} (hq : q < 10) (hsc : sc < 4) (h20 : zN β ≤ 20) (e1 : jk q = 0) (e2 : jp q = nI sc) (eN : zN γ = zN β) (eS : zS γ = zS β) (eG : zG γ = zG β) (eP : zP γ = zP β)
    (eF : ∀ i, i < zN β → (zG β).testBit i = false → ∀ k, k < 4 → k ≠ sc → ∀ f, f < 5 → zF γ i k f = zF β i k f) (er : ∀ i, i < zN β → (zG β).testBit i = false → ∀ f, f < 5 → jr (100 * q + (5 * i + f)) = nI (zF γ i sc f)) : TB jk jp jb jr q β γ := by
  intro jn pg ps pn pp pf hc
  obtain ⟨a1, a2, a3, a4, a5, a6⟩ := hc
  refine ⟨pn, pp, va_cpy jr pf (q * 100) (sc * 100) 100, ?_, by rw [eG]; exact a1, by rw [eS]; exact a2, by rw [eN]; exact a3, a4, fun i i1 i2 => by rw [eP]; exact a5 i i1 (by rw [← eN]; exact i2), fun i i1 i2 k k1 f f1 => ?_⟩
  · rw [m_X1_takeBack, g_in hq (by omega), g_in hq (by omega), cl q (by omega), e1, if_pos rfl, e2, show nI q * (100 : Int32) = nI (q * 100) from pk_mul q 100, show nI sc * (100 : Int32) = nI (sc * 100) from pk_mul sc 100, cl _ (by omega), cl _ (by omega), show (100 : Int32).toNatClampNeg = 100 from rfl, if_pos ⟨nI_pos (by omega), nI_pos (by omega), by decide, by omega, by omega⟩, k_X1_takeBack_93, back9 hq]
  · rw [eN] at i1
    rw [eG] at i2
    by_cases w : k = sc
    · subst w
      rw [pk_cpy_in (by omega) (by omega), ← er i i1 i2 f f1]
      congr 1; omega
    · rw [pk_cpy_out (by omega), eF i i1 i2 k k1 w f f1]
      exact a6 i i1 i2 k k1 f f1
theorem e_keepScene {h l sc : Nat} (hh : h ≤ 10) (hl : l < 10) (hsc : sc < 4) (jk jp jr pf : Nat → Int32) : m_X1_keepScene (nI l) (nI h) jk jp jr pf (nI sc) = some (nI ((l + 1) % 10), nI (h1 h), upd jk ((l + 1) % 10) 0, upd jp ((l + 1) % 10) (nI sc), va_cpy pf jr (sc * 100) ((l + 1) % 10 * 100) 100) := by
  rw [m_X1_keepScene, ob4_s (e_keepAct hh hl jk jp 0 (nI sc)), show nI sc * (100 : Int32) = nI (sc * 100) from pk_mul sc 100, show nI ((l + 1) % 10) * (100 : Int32) = nI ((l + 1) % 10 * 100) from pk_mul _ 100, cl _ (by omega), cl _ (by omega), show (100 : Int32).toNatClampNeg = 100 from rfl, if_pos ⟨nI_pos (by omega), nI_pos (by omega), by decide, by omega, by omega⟩]
/-- the ring beside the new slot is as it was -/
theorem ring_keep {l : Nat} {jk jp jb jr pf : Nat → Int32} {x y : Int32} {sc : Nat} : ∀ q, q < 10 → q ≠ (l + 1) % 10 → upd jk ((l + 1) % 10) x q = jk q ∧ upd jp ((l + 1) % 10) y q = jp q ∧ jb q = jb q ∧ ∀ j, j < 100 → va_cpy pf jr (sc * 100) ((l + 1) % 10 * 100) 100 (100 * q + j) = jr (100 * q + j) := by
  intro q hq hn
  refine ⟨pk_un hn, pk_un hn, rfl, fun j hj => pk_cpy_out ?_⟩
  omega
section
variable {h l : Nat} {jk jp jb jr : Nat → Int32} {A : Nat → AS} {msn mno pp pf : Nat → Int32} {pg ps pn : Int32}
theorem op_set (H : HIST h l jk jp jb jr A msn) (hc : RC (A 0) pg ps pn pp pf) (hm : RM (A 0) mno) (mth x1 x2 x3 x4 : Int32) :
    ∃ r pf' h' l' jk' jp' jr' mno' msn' A', m_X6_set pg ps pn pf (nI l) (nI h) jk jp jr x1 x2 x3 x4 = some (r, pf', nI l', nI h', jk', jp', jr') ∧ m_X7_set mth (nI h) mno msn x1 x2 x3 x4 = some (r, 0, nI h', mno', msn') ∧ HIST h' l' jk' jp' jb jr' A' msn' ∧ RC (A' 0) pg ps pn pp pf' ∧ RM (A' 0) mno' := by
  obtain ⟨hh, hl, okA, ht, hr⟩ := id H
  have ok := okA 0 (by omega)
  have h4 : zS (A 0) ≤ 4 := ok.2.2.2.1
  have h20 : zN (A 0) ≤ 20 := ok.2.1
  rw [m_X6_set, m_X7_set, ob1_s (b_isLeaf ok hc.1 hc.2.2.1 x1), ob1_s (d_canSet ok hm x1 x2 x3 x4), ifb, ifb, ob1_s (b_isScene ok hc.2.1 x2), ifb, ob1_s (b_isFV x3 x4), ifb]
  have no : ∀ {X : Option (Int32 × (Nat → Int32) × Int32 × Int32 × (Nat → Int32) × (Nat → Int32) × (Nat → Int32))} {Y : Option (Int32 × Int32 × Int32 × (Nat → Int32) × (Nat → Int32))}, X = some (-1, pf, nI l, nI h, jk, jp, jr) → Y = some (-1, 0, nI h, mno, msn) → ∃ r pf' h' l' jk' jp' jr' mno' msn' A', X = some (r, pf', nI l', nI h', jk', jp', jr') ∧ Y = some (r, 0, nI h', mno', msn') ∧ HIST h' l' jk' jp' jb jr' A' msn' ∧ RC (A' 0) pg ps pn pp pf' ∧ RM (A' 0) mno' := fun e1 e2 => ⟨-1, pf, h, l, jk, jp, jr, mno, msn, A, e1, e2, H, hc, hm⟩
  cases c1 : lfR (A 0) x1
  · exact no rfl rfl
  cases c2 : inR (zS (A 0)) x2
  · exact no rfl rfl
  cases c3 : fvR x3 x4
  · exact no rfl rfl
  obtain ⟨i, hi, rfl, hlf⟩ := lfR_t ok c1
  obtain ⟨k, hk, rfl⟩ := inR_t c2 (by omega)
  obtain ⟨f, v, hf, rfl, rfl, v1, v2⟩ := fvR_t c3
  have hk : k < 4 := by omega
  obtain ⟨msn', s1, s2, s3⟩ := f_snap hh mno msn
  rw [if_pos rfl, if_pos rfl, if_pos rfl, show (true && (true && true)) = true from rfl, if_pos rfl, ob1_s (e_fac ok hc hi hlf hk hf), ob5_s (e_keepScene hh hl hk jk jp jr pf), ob1_s (e_put (by omega) hk hf), ob2_s s1, ob1_s (f_at i k f), g_in (by omega) (by omega), ob1_s (f_at i k f), g_in (by omega) (by omega), cl _ (by omega), hm.2.2.2.2.2 i hi hlf k hk f hf]
  have ok2 := ok_set ok (i := i) (k := k) v1 v2
  refine ⟨_, _, h1 h, (l + 1) % 10, _, _, _, _, msn', _, rfl, rfl, h_push H ok2 hm ?_ ring_keep s2 s3, rc_set hc hk hf (by omega) h20, rm_set hm hk hf h20⟩
  refine TB_scene (sc := k) (by omega) hk h20 pk_us pk_us rfl rfl rfl rfl (fun i' _ _ k' _ kn f' _ => ?_) (fun i' i1 i2 f' f1 => ?_)
  · exact (if_neg (fun w => kn w.2.1)).symm
  · have i1 : i' < zN (A 0) := i1
    rw [pk_cpy_in (by omega) (by omega), ← hc.2.2.2.2.2 i' i1 i2 k hk f' f1]
    congr 1; omega
/-! copy -/
def cpA (α : AS) (a b j f : Nat) : AS := (zN α, zS α, zG α, zP α, fun i' k' f' => if k' = b ∧ (i' < j ∨ (i' = j ∧ f' < f)) then zF α i' a f' else zF α i' k' f')
theorem cp_step {α : AS} {a b j f : Nat} (hab : a ≠ b) : aset (cpA α a b j f) j b f (zF α j a f) = cpA α a b j (f + 1) := by
  have : (fun i' k' f' => if i' = j ∧ k' = b ∧ f' = f then zF α j a f else zF (cpA α a b j f) i' k' f') = (fun i' k' f' => if k' = b ∧ (i' < j ∨ (i' = j ∧ f' < f + 1)) then zF α i' a f' else zF α i' k' f') := by
    funext i' k' f'
    show (if i' = j ∧ k' = b ∧ f' = f then zF α j a f else if k' = b ∧ (i' < j ∨ (i' = j ∧ f' < f)) then zF α i' a f' else zF α i' k' f') = _
    by_cases w : i' = j ∧ k' = b ∧ f' = f
    · rw [if_pos w, if_pos ⟨w.2.1, Or.inr ⟨w.1, by omega⟩⟩, w.1, w.2.2]
    · rw [if_neg w]
      by_cases w2 : k' = b ∧ (i' < j ∨ (i' = j ∧ f' < f))
      · rw [if_pos w2, if_pos ⟨w2.1, w2.2.imp id (fun q => ⟨q.1, by omega⟩)⟩]
      · have w4 : ¬ (k' = b ∧ (i' < j ∨ (i' = j ∧ f' < f + 1))) := by omega
        rw [if_neg w2, if_neg w4]
  show (zN α, zS α, zG α, zP α, fun i' k' f' => if i' = j ∧ k' = b ∧ f' = f then zF α j a f else zF (cpA α a b j f) i' k' f') = (zN α, zS α, zG α, zP α, fun i' k' f' => if k' = b ∧ (i' < j ∨ (i' = j ∧ f' < f + 1)) then zF α i' a f' else zF α i' k' f')
  rw [this]
theorem cp_next {α : AS} {a b j : Nat} : cpA α a b j 5 = cpA α a b j 5 := rfl
theorem ok_cp {α : AS} (ok : OKA α) {a b j f : Nat} (ha : a < 4) : OKA (cpA α a b j f) := by
  obtain ⟨a1, a2, a3, a4, a5, a6, a7, a8⟩ := ok
  refine ⟨a1, a2, a3, a4, a5, a6, a7, fun i' hi' hl' k' hk' f' hf' => ?_⟩
  show lo5 f' ≤ (if k' = b ∧ (i' < j ∨ (i' = j ∧ f' < f)) then zF α i' a f' else zF α i' k' f') ∧ (if k' = b ∧ (i' < j ∨ (i' = j ∧ f' < f)) then zF α i' a f' else zF α i' k' f') ≤ hi5 f'
  split
  · exact a8 i' hi' hl' a ha f' hf'
  · exact a8 i' hi' hl' k' hk' f' hf'
theorem rc_congr {α β : AS} (eN : zN β = zN α) (eS : zS β = zS α) (eG : zG β = zG α) (eP : zP β = zP α) (eF : ∀ i, i < zN α → (zG α).testBit i = false → ∀ k, k < 4 → ∀ f, f < 5 → zF β i k f = zF α i k f) (hc : RC α pg ps pn pp pf) : RC β pg ps pn pp pf := by
  obtain ⟨a1, a2, a3, a4, a5, a6⟩ := hc
  exact ⟨by rw [eG]; exact a1, by rw [eS]; exact a2, by rw [eN]; exact a3, a4, fun i i1 i2 => by rw [eP]; exact a5 i i1 (by rw [← eN]; exact i2), fun i i1 i2 k k1 f f1 => by rw [eF i (by rw [← eN]; exact i1) (by rw [← eG]; exact i2) k k1 f f1]; exact a6 i (by rw [← eN]; exact i1) (by rw [← eG]; exact i2) k k1 f f1⟩
theorem rm_congr {α β : AS} (eN : zN β = zN α) (eS : zS β = zS α) (eG : zG β = zG α) (eP : zP β = zP α) (eF : ∀ i, i < zN α → (zG α).testBit i = false → ∀ k, k < 4 → ∀ f, f < 5 → zF β i k f = zF α i k f) (hc : RM α mno) : RM β mno := by
  obtain ⟨a1, a2, a3, a4, a5, a6⟩ := hc
  exact ⟨by rw [eS]; exact a1, by rw [eN]; exact a2, a3, fun i i1 i2 => by rw [eP]; exact a4 i i1 (by rw [← eN]; exact i2), fun i i1 => by rw [eG]; exact a5 i (by rw [← eN]; exact i1), fun i i1 i2 k k1 f f1 => by rw [eF i (by rw [← eN]; exact i1) (by rw [← eG]; exact i2) k k1 f f1]; exact a6 i (by rw [← eN]; exact i1) (by rw [← eG]; exact i2) k k1 f f1⟩
/-- both copies, leaf by leaf -/
theorem cp_both {α : AS} (ok : OKA α) {a b : Nat} (ha : a < 4) (hb : b < 4) (hab : a ≠ b) (msm : Int32) (ms : Nat → Int32) :
    ∀ (d j n n2 : Nat) (pf mno : Nat → Int32) (y : Int32), j + d = zN α → d < n → d < n2 → RC (cpA α a b j 0) pg ps pn pp pf → RM (cpA α a b j 0) mno → ∃ r pf' mno', k_X2_copyScene_5 pg pn n pf (nI a) (nI b) y (nI j) = some (r, pf') ∧ k_X7_copy_30 n2 0 msm mno ms (nI a) (nI b) y (nI j) = some (r, 0, msm, mno', ms) ∧ RC (cpA α a b (zN α) 0) pg ps pn pp pf' ∧ RM (cpA α a b (zN α) 0) mno' := by
  have h20 : zN α ≤ 20 := ok.2.1
  intro d
  induction d with
  | zero =>
    intro j n n2 pf mno y hj hn hn2 hc hm
    obtain ⟨n', rfl⟩ : ∃ n', n = n' + 1 := ⟨n - 1, by omega⟩
    obtain ⟨m', rfl⟩ : ∃ m', n2 = m' + 1 := ⟨n2 - 1, by omega⟩
    have e : j = zN α := by omega
    subst e
    refine ⟨y, pf, mno, ?_, ?_, hc, hm⟩
    · rw [k_X2_copyScene_5_s, show pn = nI (zN α) from hc.2.2.1, if_pos (nI_le (show zN α ≤ zN α by omega) (by omega))]
    · rw [k_X7_copy_30_s, if_neg (by decide), show (1 : Int32).toNatClampNeg = 1 from rfl, show mno 1 = nI (zN α) from hm.2.1, if_pos (nI_le (show zN α ≤ zN α by omega) (by omega))]
  | succ d ih =>
    intro j n n2 pf mno y hj hn hn2 hc hm
    obtain ⟨n', rfl⟩ : ∃ n', n = n' + 1 := ⟨n - 1, by omega⟩
    obtain ⟨m', rfl⟩ : ∃ m', n2 = m' + 1 := ⟨n2 - 1, by omega⟩
    have hjN : j < zN α := by omega
    have hn1 : pn = nI (zN α) := hc.2.2.1
    have hm1 : mno 1 = nI (zN α) := hm.2.1
    rw [k_X2_copyScene_5_s, k_X7_copy_30_s, if_neg (by rw [hn1]; exact nI_ge hjN (by omega)), if_neg (show ¬ ((1 : Int32) < 0 ∨ 442 ≤ (1 : Int32).toNatClampNeg) by decide), show (1 : Int32).toNatClampNeg = 1 from rfl, hm1, if_neg (nI_ge hjN (by omega))]
    -- the five factors of one node
    have inner : ∀ (c f w w2 : Nat) (pf mno : Nat → Int32) (y : Int32), f + c = 5 → c < w → c < w2 → (zG α).testBit j = false → RC (cpA α a b j f) pg ps pn pp pf → RM (cpA α a b j f) mno → ∃ y' pf' mno', k_X2_copyScene_17 pg pn (k_X2_copyScene_5 pg pn n') w pf (nI a) (nI b) y (nI j) (nI f) = k_X2_copyScene_5 pg pn n' pf' (nI a) (nI b) y' (nI (j + 1)) ∧ k_X7_copy_44 (k_X7_copy_30 m') w2 0 msm mno ms (nI a) (nI b) y (nI j) (nI f) = k_X7_copy_30 m' 0 msm mno' ms (nI a) (nI b) y' (nI (j + 1)) ∧ RC (cpA α a b j 5) pg ps pn pp pf' ∧ RM (cpA α a b j 5) mno' := by
      intro c
      induction c with
      | zero =>
        intro f w w2 pf mno y hf hw hw2 hlf hc hm
        obtain ⟨w', rfl⟩ : ∃ w', w = w' + 1 := ⟨w - 1, by omega⟩
        obtain ⟨v', rfl⟩ : ∃ v', w2 = v' + 1 := ⟨w2 - 1, by omega⟩
        have e : f = 5 := by omega
        subst e
        have okc : OKA (cpA α a b j 5) := ok_cp ok ha
        refine ⟨y, pf, mno, ?_, ?_, hc, hm⟩
        · have l0 := e_isLeaf okc hc.1 hc.2.2.1 (j := j) hjN
          rw [k_X2_copyScene_17_s, ob1_s l0, show (zG (cpA α a b j 5)).testBit j = false from hlf, if_neg (by decide), if_pos (show (5 : Int32) ≤ nI 5 by decide), show nI j + (1 : Int32) = nI (j + 1) from nI_1 j]
        · rw [k_X7_copy_44_s, if_pos (show (5 : Int32) ≤ nI 5 by decide), show nI j + (1 : Int32) = nI (j + 1) from nI_1 j]
      | succ c ihc =>
        intro f w w2 pf mno y hf hw hw2 hlf hc hm
        obtain ⟨w', rfl⟩ : ∃ w', w = w' + 1 := ⟨w - 1, by omega⟩
        obtain ⟨v', rfl⟩ : ∃ v', w2 = v' + 1 := ⟨w2 - 1, by omega⟩
        have okc : OKA (cpA α a b j f) := ok_cp ok ha
        have hlc : (zG (cpA α a b j f)).testBit j = false := hlf
        have l0 := e_isLeaf okc hc.1 hc.2.2.1 (j := j) hjN
        have l1 := d_isLeaf okc hm (nI j)
        have l2 : lfR (cpA α a b j f) (nI j) = true := by
          rw [lfR, inR_n (show j < zN (cpA α a b j f) from hjN) (show zN α < 2 ^ 31 by omega), cl _ (by omega), hlc]; rfl
        have za : zF (cpA α a b j f) j a f = zF α j a f := if_neg (fun q => hab q.1)
        have zb : zF (cpA α a b j f) j b f = zF α j b f := if_neg (fun q => by omega)
        have ea := e_fac okc hc (i := j) (k := a) (f := f) hjN hlc ha (by omega)
        have eb := e_fac okc hc (i := j) (k := b) (f := f) hjN hlc hb (by omega)
        rw [za] at ea
        rw [zb] at eb
        have ma := hm.2.2.2.2.2 j hjN hlc a ha f (by omega)
        have mb := hm.2.2.2.2.2 j hjN hlc b hb f (by omega)
        rw [za] at ma
        rw [zb] at mb
        have rc2 := rc_set hc (i := j) (k := b) (f := f) (v := zF α j a f) hb (by omega) (by omega) h20
        have rm2 := rm_set hm (i := j) (k := b) (f := f) (v := zF α j a f) hb (by omega) h20
        rw [cp_step hab] at rc2 rm2
        have k91 : ∀ y9 : Int32, k_X7_copy_91 (k_X7_copy_30 m') (k_X7_copy_44 (k_X7_copy_30 m') v') 0 msm mno ms (nI a) (nI b) y9 (nI j) (nI f) = k_X7_copy_44 (k_X7_copy_30 m') v' 0 msm (upd mno (42 + 20 * j + 5 * b + f) (nI (zF α j a f))) ms (nI a) (nI b) y9 (nI j) (nI (f + 1)) := by
          intro y9
          rw [k_X7_copy_91, ob1_s (f_at j b f), ob1_s (f_at j a f), g_in (by omega) (by omega), g_in (by omega) (by omega), cl _ (by omega), cl _ (by omega), ma, show nI f + (1 : Int32) = nI (f + 1) from nI_1 f]
        rw [k_X2_copyScene_17_s, k_X7_copy_44_s, ob1_s l0, hlc, if_neg (by decide), if_neg (show ¬ (5 : Int32) ≤ nI f from nI_ge (b := 5) (by omega) (by omega)), ob1_s ea, ob1_s eb, if_neg (show ¬ (5 : Int32) ≤ nI f from nI_ge (b := 5) (by omega) (by omega)), ob1_s l1, l2, ifb, if_pos rfl, ob1_s (f_at j a f), g_in (by omega) (by omega), ob1_s (f_at j b f), g_in (by omega) (by omega), cl _ (by omega), cl _ (by omega), ma, mb, k91, k91, show nI f + (1 : Int32) = nI (f + 1) from nI_1 f]
        by_cases q : zF α j b f = zF α j a f
        · rw [if_pos (by rw [q]), if_pos (by rw [q])]
          have rc3 : RC (cpA α a b j (f + 1)) pg ps pn pp pf := by
            refine rc_congr (α := cpA α a b j f) rfl rfl rfl rfl (fun i' _ _ k' _ f' _ => ?_) hc
            rw [← cp_step hab]
            show (if i' = j ∧ k' = b ∧ f' = f then zF α j a f else zF (cpA α a b j f) i' k' f') = zF (cpA α a b j f) i' k' f'
            by_cases w3 : i' = j ∧ k' = b ∧ f' = f
            · rw [if_pos w3, w3.1, w3.2.1, w3.2.2, zb, q]
            · rw [if_neg w3]
          exact ihc (f + 1) w' v' pf _ y (by omega) (by omega) (by omega) hlf rc3 rm2
        · have n1 := fb9 ok hjN hlf ha (f := f) (by omega)
          have n2 := fb9 ok hjN hlf hb (f := f) (by omega)
          rw [if_neg (nI_ne q (by omega) (by omega)), if_neg (nI_ne (fun e => q e.symm) (by omega) (by omega)), ob1_s (e_put (by omega) hb (by omega))]
          exact ihc (f + 1) w' v' _ _ _ (by omega) (by omega) (by omega) hlf rc2 rm2
    have same : ∀ (β : AS), zN β = zN α → True := fun _ _ => trivial
    cases hbj : (zG α).testBit j
    · obtain ⟨y', pf', mno', g1, g2, g3, g4⟩ := inner 5 0 FU FU pf mno y (by omega) (by decide) (by decide) hbj hc hm
      have eF : ∀ i, i < zN α → (zG α).testBit i = false → ∀ k, k < 4 → ∀ f, f < 5 → zF (cpA α a b (j + 1) 0) i k f = zF (cpA α a b j 5) i k f := by
        intro i _ _ k _ f hf
        show (if k = b ∧ (i < j + 1 ∨ (i = j + 1 ∧ f < 0)) then zF α i a f else zF α i k f) = (if k = b ∧ (i < j ∨ (i = j ∧ f < 5)) then zF α i a f else zF α i k f)
        have : (k = b ∧ (i < j + 1 ∨ (i = j + 1 ∧ f < 0))) ↔ (k = b ∧ (i < j ∨ (i = j ∧ f < 5))) := by omega
        by_cases w : k = b ∧ (i < j ∨ (i = j ∧ f < 5))
        · rw [if_pos w, if_pos (this.mpr w)]
        · rw [if_neg w, if_neg (fun z => w (this.mp z))]
      have g1' : k_X2_copyScene_17 pg pn (k_X2_copyScene_5 pg pn n') FU pf (nI a) (nI b) y (nI j) (0 : Int32) = _ := g1
      have g2' : k_X7_copy_44 (k_X7_copy_30 m') FU 0 msm mno ms (nI a) (nI b) y (nI j) (0 : Int32) = _ := g2
      rw [g1', g2']
      exact ih (j + 1) n' m' pf' mno' y' (by omega) (by omega) (by omega) (rc_congr (α := cpA α a b j 5) rfl rfl rfl rfl eF g3) (rm_congr (α := cpA α a b j 5) rfl rfl rfl rfl eF g4)
    · have okc : OKA (cpA α a b j 0) := ok_cp ok ha
      have l0 := e_isLeaf okc hc.1 hc.2.2.1 (j := j) hjN
      have l1 := d_isLeaf okc hm (nI j)
      have l2 : lfR (cpA α a b j 0) (nI j) = false := by
        rw [lfR, cl _ (by omega), show (zG (cpA α a b j 0)).testBit j = true from hbj]; simp
      have eF : ∀ i, i < zN α → (zG α).testBit i = false → ∀ k, k < 4 → ∀ f, f < 5 → zF (cpA α a b (j + 1) 0) i k f = zF (cpA α a b j 0) i k f := by
        intro i _ hli k _ f hf
        have hij : i ≠ j := fun e => by rw [e, hbj] at hli; cases hli
        show (if k = b ∧ (i < j + 1 ∨ (i = j + 1 ∧ f < 0)) then zF α i a f else zF α i k f) = (if k = b ∧ (i < j ∨ (i = j ∧ f < 0)) then zF α i a f else zF α i k f)
        have : (k = b ∧ (i < j + 1 ∨ (i = j + 1 ∧ f < 0))) ↔ (k = b ∧ (i < j ∨ (i = j ∧ f < 0))) := by omega
        by_cases w : k = b ∧ (i < j ∨ (i = j ∧ f < 0))
        · rw [if_pos w, if_pos (this.mpr w)]
        · rw [if_neg w, if_neg (fun z => w (this.mp z))]
      rw [show FU = 4999 + 1 from rfl, k_X2_copyScene_17_s, k_X7_copy_44_s, ob1_s l0, show (zG (cpA α a b j 0)).testBit j = true from hbj, if_pos (by decide), if_neg (show ¬ (5 : Int32) ≤ 0 by decide), ob1_s l1, l2, ifb, if_neg (by decide), show nI j + (1 : Int32) = nI (j + 1) from nI_1 j]
      exact ih (j + 1) n' m' pf mno y (by omega) (by omega) (by omega) (rc_congr (α := cpA α a b j 0) rfl rfl rfl rfl eF hc) (rm_congr (α := cpA α a b j 0) rfl rfl rfl rfl eF hm)
theorem op_copy (H : HIST h l jk jp jb jr A msn) (hc : RC (A 0) pg ps pn pp pf) (hm : RM (A 0) mno) (mth x1 x2 : Int32) :
    ∃ r pf' h' l' jk' jp' jr' mno' msn' A', m_X6_copy pg ps pn pf (nI l) (nI h) jk jp jr x1 x2 = some (r, pf', nI l', nI h', jk', jp', jr') ∧ m_X7_copy mth (nI h) mno msn x1 x2 = some (r, 0, nI h', mno', msn') ∧ HIST h' l' jk' jp' jb jr' A' msn' ∧ RC (A' 0) pg ps pn pp pf' ∧ RM (A' 0) mno' := by
  obtain ⟨hh, hl, okA, ht, hr⟩ := id H
  have ok := okA 0 (by omega)
  have h4 : zS (A 0) ≤ 4 := ok.2.2.2.1
  have h20 : zN (A 0) ≤ 20 := ok.2.1
  have hN1 : 1 ≤ zN (A 0) := ok.1
  rw [m_X6_copy, m_X7_copy, ob1_s (b_isScene ok hc.2.1 x1), ob1_s (d_areScenes ok hm x1 x2), ifb, ifb, ob1_s (b_isScene ok hc.2.1 x2), ifb]
  have no : ∀ {X : Option (Int32 × (Nat → Int32) × Int32 × Int32 × (Nat → Int32) × (Nat → Int32) × (Nat → Int32))} {Y : Option (Int32 × Int32 × Int32 × (Nat → Int32) × (Nat → Int32))}, X = some (-1, pf, nI l, nI h, jk, jp, jr) → Y = some (-1, 0, nI h, mno, msn) → ∃ r pf' h' l' jk' jp' jr' mno' msn' A', X = some (r, pf', nI l', nI h', jk', jp', jr') ∧ Y = some (r, 0, nI h', mno', msn') ∧ HIST h' l' jk' jp' jb jr' A' msn' ∧ RC (A' 0) pg ps pn pp pf' ∧ RM (A' 0) mno' := fun e1 e2 => ⟨-1, pf, h, l, jk, jp, jr, mno, msn, A, e1, e2, H, hc, hm⟩
  cases c1 : inR (zS (A 0)) x1
  · exact no rfl rfl
  cases c2 : inR (zS (A 0)) x2
  · exact no rfl rfl
  rw [if_pos rfl, if_pos rfl, show (true && true) = true from rfl, if_pos rfl]
  by_cases c3 : x1 = x2
  · rw [if_pos c3, if_pos c3]; exact no rfl rfl
  rw [if_neg c3, if_neg c3]
  obtain ⟨a, ha, rfl⟩ := inR_t c1 (by omega)
  obtain ⟨b, hb, rfl⟩ := inR_t c2 (by omega)
  have ha : a < 4 := by omega
  have hb : b < 4 := by omega
  have hab : a ≠ b := fun e => c3 (by rw [e])
  obtain ⟨msn', s1, s2, s3⟩ := f_snap hh mno msn
  have c0 : ∀ j, j ≤ 1 → RC (cpA (A 0) a b j 0) pg ps pn pp pf ∧ RM (cpA (A 0) a b j 0) mno := by
    intro j hj
    have eF : ∀ i, i < zN (A 0) → (zG (A 0)).testBit i = false → ∀ k, k < 4 → ∀ f, f < 5 → zF (cpA (A 0) a b j 0) i k f = zF (A 0) i k f := by
      intro i _ hli k _ f _
      refine if_neg (fun q => ?_)
      have : i = 0 := by omega
      rw [this, ok.2.2.2.2.2.1] at hli; cases hli
    exact ⟨rc_congr (α := A 0) rfl rfl rfl rfl eF hc, rm_congr (α := A 0) rfl rfl rfl rfl eF hm⟩
  obtain ⟨r, pf', mno', g1, g2, g3, g4⟩ := cp_both ok ha hb hab (nI (h1 h)) msn' (zN (A 0) - 1) 1 FU 4999 pf mno 0 (by omega) (by have : FU = 5000 := rfl; omega) (by omega) (c0 1 (by omega)).1 (c0 1 (by omega)).2
  have e1 : m_X2_copyScene pg pn pf (nI a) (nI b) = some (r, pf') := g1
  have l1 := d_isLeaf ok hm (nI 0)
  rw [show lfR (A 0) (nI 0) = false by rw [lfR, cl _ (by omega), ok.2.2.2.2.2.1]; simp] at l1
  have l2 : m_X7_isLeaf mno (0 : Int32) = some (bI false) := l1
  have e2 : k_X7_copy_30 FU 0 (nI (h1 h)) mno msn' (nI a) (nI b) 0 0 = some (r, 0, nI (h1 h), mno', msn') := by
    rw [show FU = 4999 + 1 from rfl, k_X7_copy_30_s, if_neg (by decide), show (1 : Int32).toNatClampNeg = 1 from rfl, show mno 1 = nI (zN (A 0)) from hm.2.1, if_neg (show ¬ nI (zN (A 0)) ≤ (0 : Int32) from nI_ge (a := 0) (by omega) (by omega)), show FU = 4999 + 1 from rfl, k_X7_copy_44_s, if_neg (by decide), ob1_s l2, ifb, if_neg (by decide)]
    exact g2
  rw [ob5_s (e_keepScene hh hl hb jk jp jr pf), ob2_s e1, ob2_s s1, e2]
  refine ⟨r, pf', h1 h, (l + 1) % 10, _, _, _, mno', msn', _, rfl, rfl, h_push H (ok_cp ok (b := b) (j := zN (A 0)) (f := 0) ha) hm ?_ ring_keep s2 s3, g3, g4⟩
  refine TB_scene (sc := b) (by omega) hb h20 pk_us pk_us rfl rfl rfl rfl (fun i' _ _ k' _ kn f' _ => ?_) (fun i' i1 i2 f' f1 => ?_)
  · exact (if_neg (fun w => kn w.1)).symm
  · have i1 : i' < zN (A 0) := i1
    rw [pk_cpy_in (by omega) (by omega), ← hc.2.2.2.2.2 i' i1 i2 b hb f' f1]
    congr 1; omega
end
