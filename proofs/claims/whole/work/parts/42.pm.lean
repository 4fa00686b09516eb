/-! what can be undone, on both sides -/
def TB (jk jp jb jr : Nat → Int32) (q : Nat) (β γ : AS) : Prop := ∀ (jn pg ps pn : Int32) (pp pf : Nat → Int32), RC β pg ps pn pp pf → ∃ pn' pp' pf', m_X1_takeBack (nI q) jn jk jp jb jr pn pp pf = some (nI ((q + 9) % 10), jn - 1, pn', pp', pf') ∧ RC γ pg ps pn' pp' pf'
def HIST (h l : Nat) (jk jp jb jr : Nat → Int32) (A : Nat → AS) (msn : Nat → Int32) : Prop := h ≤ 10 ∧ l < 10 ∧ (∀ i, i ≤ h → OKA (A i)) ∧ (∀ i, i < h → TB jk jp jb jr ((l + 10 - i) % 10) (A i) (A (i + 1))) ∧ ∀ i, i < h → RM (A (i + 1)) (fun j => msn (442 * (h - 1 - i) + j))
def h1 (h : Nat) : Nat := if h < 10 then h + 1 else 10
theorem TB_frame {jk jp jb jr jk' jp' jb' jr' : Nat → Int32} {q : Nat} {β γ : AS} (hq : q < 10) (e1 : jk' q = jk q) (e2 : jp' q = jp q) (e3 : jb' q = jb q) (e4 : ∀ j, j < 100 → jr' (100 * q + j) = jr (100 * q + j)) (h : TB jk jp jb jr q β γ) : TB jk' jp' jb' jr' q β γ := by
  intro jn pg ps pn pp pf hc
  obtain ⟨pn', pp', pf', h1, h2⟩ := h jn pg ps pn pp pf hc
  refine ⟨pn', pp', pf', ?_, h2⟩
  rw [← h1]
  have ec : ∀ dp, va_cpy jr' pf (nI q * (100 : Int32)).toNatClampNeg dp (100 : Int32).toNatClampNeg = va_cpy jr pf (nI q * (100 : Int32)).toNatClampNeg dp (100 : Int32).toNatClampNeg := by
    intro dp
    funext k
    rw [show nI q * (100 : Int32) = nI (q * 100) from pk_mul q 100, cl _ (by omega), show (100 : Int32).toNatClampNeg = 100 from rfl]
    by_cases w : dp ≤ k ∧ k < dp + 100
    · rw [pk_cpy_in w.1 w.2, pk_cpy_in w.1 w.2]
      have := e4 (k - dp) (by omega)
      rw [show q * 100 + (k - dp) = 100 * q + (k - dp) by omega]; exact this
    · rw [pk_cpy_out (by omega), pk_cpy_out (by omega)]
  simp only [m_X1_takeBack, cl q (show q < 2 ^ 31 by omega), e1, e2, e3, ec, k_X1_takeBack_93]
/-- a row laid behind, the oldest gone when there are ten -/
theorem f_snap {h : Nat} (hh : h ≤ 10) (mno msn : Nat → Int32) : ∃ msn', m_X7_snap (nI h) mno msn = some (nI (h1 h), msn') ∧ (∀ j, j < 442 → msn' (442 * (h1 h - 1) + j) = mno j) ∧ ∀ r j, r < h1 h - 1 → j < 442 → msn' (442 * r + j) = if h < 10 then msn (442 * r + j) else msn (442 * (r + 1) + j) := by
  have L52 : ∀ (g : Nat), g < 10 → ∀ (d y n : Nat) (ms : Nat → Int32), y + d = 442 → d < n → ∃ ms', k_X7_snap_52 mno n (nI g) ms (nI y) = some (nI (g + 1), ms') ∧ (∀ j, y ≤ j → j < 442 → ms' (442 * g + j) = mno j) ∧ ∀ k, (k < 442 * g + y ∨ 442 * g + 442 ≤ k) → ms' k = ms k := by
    intro g hg d
    induction d with
    | zero =>
      intro y n ms hy hn
      obtain ⟨n', rfl⟩ : ∃ n', n = n' + 1 := ⟨n - 1, by omega⟩
      refine ⟨ms, ?_, fun j _ _ => by omega, fun _ _ => rfl⟩
      rw [k_X7_snap_52_s, show (442 : Int32) = nI 442 from rfl, if_pos (nI_le (by omega) (by omega)), show nI g + (1 : Int32) = nI (g + 1) from nI_1 g]
    | succ d ih =>
      intro y n ms hy hn
      obtain ⟨n', rfl⟩ : ∃ n', n = n' + 1 := ⟨n - 1, by omega⟩
      obtain ⟨ms', e1, e2, e3⟩ := ih (y + 1) n' (upd ms (442 * g + y) (mno y)) (by omega) (by omega)
      refine ⟨ms', ?_, fun j j1 j2 => ?_, fun k hk => ?_⟩
      · rw [k_X7_snap_52_s, show (442 : Int32) = nI 442 from rfl, if_neg (nI_ge (by omega) (by omega)), g_in (by omega) (by omega), pk_mul, nI_add, g_in (by omega) (by omega), cl _ (by omega), cl _ (by omega), show nI y + (1 : Int32) = nI (y + 1) from nI_1 y]
        exact e1
      · by_cases w : j = y
        · subst w; rw [e3 _ (by omega), pk_us]
        · exact e2 j (by omega) j2
      · rw [e3 k (by omega), pk_un (by omega)]
  have L11 : ∀ (d y n : Nat) (ms : Nat → Int32), y + d = 3978 → d < n → ∃ ms', k_X7_snap_11 mno n (nI 10) ms (nI y) = k_X7_snap_52 mno FU (nI 9) ms' (0 : Int32) ∧ (∀ k, y ≤ k → k < 3978 → ms' k = ms (k + 442)) ∧ ∀ k, k < y → ms' k = ms k := by
    intro d
    induction d with
    | zero =>
      intro y n ms hy hn
      obtain ⟨n', rfl⟩ : ∃ n', n = n' + 1 := ⟨n - 1, by omega⟩
      refine ⟨ms, ?_, fun k _ _ => by omega, fun _ _ => rfl⟩
      rw [k_X7_snap_11_s, show (3978 : Int32) = nI 3978 from rfl, if_pos (nI_le (by omega) (by omega)), k_X7_snap_50, show nI 10 - (1 : Int32) = nI 9 from rfl]
    | succ d ih =>
      intro y n ms hy hn
      obtain ⟨n', rfl⟩ : ∃ n', n = n' + 1 := ⟨n - 1, by omega⟩
      obtain ⟨ms', e1, e2, e3⟩ := ih (y + 1) n' (upd ms y (ms (y + 442))) (by omega) (by omega)
      refine ⟨ms', ?_, fun k k1 k2 => ?_, fun k hk => ?_⟩
      · rw [k_X7_snap_11_s, show (3978 : Int32) = nI 3978 from rfl, if_neg (nI_ge (by omega) (by omega)), show nI y + (442 : Int32) = nI (y + 442) from nI_add y 442, g_in (by omega) (by omega), g_in (by omega) (by omega), cl _ (by omega), cl _ (by omega), show nI y + (1 : Int32) = nI (y + 1) from nI_1 y]
        exact e1
      · by_cases w : k = y
        · subst w; rw [e3 _ (by omega), pk_us]
        · rw [e2 k (by omega) k2, pk_un (by omega)]
      · rw [e3 k (by omega), pk_un (by omega)]
  rw [m_X7_snap]
  by_cases q : h = 10
  · subst q
    obtain ⟨m1, a1, a2, -⟩ := L11 3978 0 FU msn (by omega) (by decide)
    obtain ⟨m2, b1, b2, b3⟩ := L52 9 (by omega) 442 0 FU m1 (by omega) (by decide)
    refine ⟨m2, ?_, ?_, ?_⟩
    · rw [if_pos (show nI 10 = (10 : Int32) from rfl)]
      exact a1.trans b1
    · intro j hj
      exact b2 j (by omega) hj
    · intro r j hr hj
      have hr : r < 9 := hr
      rw [b3 _ (by omega), a2 _ (by omega) (by omega), if_neg (by omega), show 442 * (r + 1) + j = 442 * r + j + 442 by omega]
  · obtain ⟨m2, b1, b2, b3⟩ := L52 h (by omega) 442 0 FU msn (by omega) (by decide)
    have e : h1 h = h + 1 := if_pos (by omega)
    refine ⟨m2, ?_, ?_, ?_⟩
    · rw [if_neg (show ¬ nI h = (10 : Int32) from nI_ne (b := 10) q (by omega) (by omega)), k_X7_snap_50, e]
      exact b1
    · intro j hj
      rw [e]
      exact b2 j (by omega) hj
    · intro r j hr hj
      rw [e] at hr
      rw [b3 _ (by omega), if_pos (by omega)]
theorem e_keepAct {h l : Nat} (hh : h ≤ 10) (hl : l < 10) (jk jp : Nat → Int32) (x1 x2 : Int32) : m_X1_keepAct (nI l) (nI h) jk jp x1 x2 = some (nI ((l + 1) % 10), nI (h1 h), upd jk ((l + 1) % 10) x1, upd jp ((l + 1) % 10) x2) := by
  have e : (nI l + (1 : Int32)) - (nI l + (1 : Int32)) / (10 : Int32) * (10 : Int32) = nI ((l + 1) % 10) := by
    rw [show nI l + (1 : Int32) = nI (l + 1) from nI_1 l]
    exact pk_rem (d := 10) (by omega) (by omega) (by omega)
  rw [m_X1_keepAct, e, g_in (by omega) (by omega), g_in (by omega) (by omega), cl _ (by omega), show nI h + (1 : Int32) = nI (h + 1) from nI_1 h, h1]
  by_cases q : h < 10
  · rw [if_neg (show ¬ (10 : Int32) < nI (h + 1) from nI_nlt (b := 10) (a := 10) (by omega) (by omega) |> fun _ => by rw [show (10 : Int32) = nI 10 from rfl, nI_ltI (by omega) (by omega)]; omega), if_pos q]
  · rw [if_pos (show (10 : Int32) < nI (h + 1) by rw [show (10 : Int32) = nI 10 from rfl, nI_ltI (by omega) (by omega)]; omega), if_neg q]; rfl
/-- an act laid behind the others -/
theorem h_push {h l : Nat} {jk jp jb jr jk' jp' jb' jr' : Nat → Int32} {A : Nat → AS} {msn msn' mno : Nat → Int32} {β : AS} (H : HIST h l jk jp jb jr A msn) (okb : OKA β) (hm : RM (A 0) mno)
    (hT : TB jk' jp' jb' jr' ((l + 1) % 10) β (A 0)) (f1 : ∀ q, q < 10 → q ≠ (l + 1) % 10 → jk' q = jk q ∧ jp' q = jp q ∧ jb' q = jb q ∧ ∀ j, j < 100 → jr' (100 * q + j) = jr (100 * q + j))
    (s1 : ∀ j, j < 442 → msn' (442 * (h1 h - 1) + j) = mno j) (s2 : ∀ r j, r < h1 h - 1 → j < 442 → msn' (442 * r + j) = if h < 10 then msn (442 * r + j) else msn (442 * (r + 1) + j)) :
    HIST (h1 h) ((l + 1) % 10) jk' jp' jb' jr' (fun i => match i with | 0 => β | i + 1 => A i) msn' := by
  obtain ⟨hh, hl, ok, ht, hr⟩ := H
  have hb : h1 h ≤ 10 ∧ h1 h ≤ h + 1 ∧ 1 ≤ h1 h ∧ (h < 10 → h1 h = h + 1) ∧ (¬ h < 10 → h1 h = 10) := by
    rw [h1]; split <;> omega
  have rmc : ∀ (γ : AS) (f g : Nat → Int32), OKA γ → (∀ j, j < 442 → g j = f j) → RM γ f → RM γ g := by
    intro γ f g ok hg hf
    have h20 : zN γ ≤ 20 := ok.2.1
    obtain ⟨a1, a2, a3, a4, a5, a6⟩ := hf
    exact ⟨by rw [hg _ (by omega)]; exact a1, by rw [hg _ (by omega)]; exact a2, by rw [hg _ (by omega)]; exact a3, fun i i1 i2 => by rw [hg _ (by omega)]; exact a4 i i1 i2, fun i i1 => by rw [hg _ (by omega)]; exact a5 i i1, fun i i1 i2 k k1 f f1 => by rw [hg _ (by omega)]; exact a6 i i1 i2 k k1 f f1⟩
  refine ⟨hb.1, Nat.mod_lt _ (by omega), ?_, ?_, ?_⟩
  · intro i hi
    cases i with
    | zero => exact okb
    | succ i => exact ok i (by omega)
  · intro i hi
    cases i with
    | zero =>
      rw [show ((l + 1) % 10 + 10 - 0) % 10 = (l + 1) % 10 by omega]
      exact hT
    | succ i =>
      have e : ((l + 1) % 10 + 10 - (i + 1)) % 10 = (l + 10 - i) % 10 := by omega
      rw [e]
      have q := f1 ((l + 10 - i) % 10) (by omega) (by omega)
      exact TB_frame (by omega) q.1 q.2.1 q.2.2.1 q.2.2.2 (ht i (by omega))
  · intro i hi
    cases i with
    | zero =>
      refine rmc _ _ _ (ok 0 (by omega)) (fun j hj => ?_) hm
      rw [show h1 h - 1 - 0 = h1 h - 1 by omega]
      exact s1 j hj
    | succ i =>
      have w := hr i (by omega)
      refine rmc _ _ _ (ok (i + 1) (by omega)) (fun j hj => ?_) w
      show msn' (442 * (h1 h - 1 - (i + 1)) + j) = msn (442 * (h - 1 - i) + j)
      rw [s2 _ j (by omega) hj]
      by_cases q : h < 10
      · have := hb.2.2.2.1 q
        rw [if_pos q]; congr 2; omega
      · have := hb.2.2.2.2 q
        rw [if_neg q]; congr 2; omega
theorem op_undo {h l : Nat} {jk jp jb jr : Nat → Int32} {A : Nat → AS} {msn : Nat → Int32} (H : HIST h l jk jp jb jr A msn) {pg ps pn : Int32} {pp pf mno : Nat → Int32} (hc : RC (A 0) pg ps pn pp pf) (hm : RM (A 0) mno) (mth : Int32) :
    ∃ r pn' pp' pf' mno' h' l' A', m_X6_undo pn pp pf (nI l) (nI h) jk jp jb jr = some (r, pn', pp', pf', nI l', nI h') ∧ m_X7_undo mth (nI h) mno msn = some (r, 0, nI h', mno') ∧ HIST h' l' jk jp jb jr A' msn ∧ RC (A' 0) pg ps pn' pp' pf' ∧ RM (A' 0) mno' := by
  obtain ⟨hh, hl, ok, ht, hr⟩ := id H
  rw [m_X6_undo, m_X7_undo]
  by_cases q : h = 0
  · subst q
    rw [if_pos nI_0, if_pos nI_0]
    exact ⟨-1, pn, pp, pf, mno, 0, l, A, rfl, rfl, H, hc, hm⟩
  · rw [if_neg (nI_ne0 (by omega) (by omega)), if_neg (nI_ne0 (by omega) (by omega))]
    have t0 := ht 0 (by omega)
    rw [show (l + 10 - 0) % 10 = l by omega] at t0
    obtain ⟨pn', pp', pf', e1, e2⟩ := t0 (nI h) pg ps pn pp pf hc
    obtain ⟨g, rfl⟩ : ∃ g, h = g + 1 := ⟨h - 1, by omega⟩
    rw [nI_pred] at e1
    have L26 : ∀ (d y n : Nat) (mo : Nat → Int32), y + d = 442 → d < n → ∃ mo', k_X7_undo_26 msn n 0 (nI g) mo (nI y) = some (nI g, 0, nI g, mo') ∧ (∀ j, y ≤ j → j < 442 → mo' j = msn (442 * g + j)) ∧ ∀ j, j < y → mo' j = mo j := by
      intro d
      induction d with
      | zero =>
        intro y n mo hy hn
        obtain ⟨n', rfl⟩ : ∃ n', n = n' + 1 := ⟨n - 1, by omega⟩
        refine ⟨mo, ?_, fun j _ _ => by omega, fun _ _ => rfl⟩
        rw [k_X7_undo_26_s, show (442 : Int32) = nI 442 from rfl, if_pos (nI_le (by omega) (by omega))]
      | succ d ih =>
        intro y n mo hy hn
        obtain ⟨n', rfl⟩ : ∃ n', n = n' + 1 := ⟨n - 1, by omega⟩
        obtain ⟨mo', a1, a2, a3⟩ := ih (y + 1) n' (upd mo y (msn (442 * g + y))) (by omega) (by omega)
        refine ⟨mo', ?_, fun j j1 j2 => ?_, fun j hj => ?_⟩
        · rw [k_X7_undo_26_s, show (442 : Int32) = nI 442 from rfl, if_neg (nI_ge (by omega) (by omega)), pk_mul, nI_add, g_in (by omega) (by omega), g_in (by omega) (by omega), cl _ (by omega), cl _ (by omega), show nI y + (1 : Int32) = nI (y + 1) from nI_1 y]
          exact a1
        · by_cases w : j = y
          · subst w; rw [a3 _ (by omega), pk_us]
          · exact a2 j (by omega) j2
        · rw [a3 j (by omega), pk_un (by omega)]
    obtain ⟨mo', a1, a2, -⟩ := L26 442 0 FU mno (by omega) (by decide)
    have rm1 := hr 0 (by omega)
    have ok1 := ok 1 (by omega)
    refine ⟨nI g, pn', pp', pf', mo', g, (l + 9) % 10, fun i => A (i + 1), ?_, ?_, ⟨by omega, by omega, fun i hi => ok (i + 1) (by omega), fun i hi => ?_, fun i hi => ?_⟩, e2, ?_⟩
    · exact ob5_s e1
    · rw [nI_pred]; exact a1
    · have := ht (i + 1) (by omega)
      rw [show ((l + 9) % 10 + 10 - i) % 10 = (l + 10 - (i + 1)) % 10 by omega]
      exact this
    · have := hr (i + 1) (by omega)
      rw [show g - 1 - i = g + 1 - 1 - (i + 1) by omega]
      exact this
    · have h20 : zN (A 1) ≤ 20 := ok1.2.1
      obtain ⟨b1, b2, b3, b4, b5, b6⟩ := rm1
      have e : ∀ j, j < 442 → mo' j = (fun j => msn (442 * (g + 1 - 1 - 0) + j)) j := fun j hj => by
        rw [a2 j (by omega) hj]
        show _ = msn (442 * (g + 1 - 1 - 0) + j)
        rw [show g + 1 - 1 - 0 = g by omega]
      exact ⟨by rw [e _ (by omega)]; exact b1, by rw [e _ (by omega)]; exact b2, by rw [e _ (by omega)]; exact b3, fun i i1 i2 => by rw [e _ (by have i2 : i < zN (A 1) := i2; omega)]; exact b4 i i1 i2, fun i i1 => by rw [e _ (by have i1 : i < zN (A 1) := i1; omega)]; exact b5 i i1, fun i i1 i2 k k1 f f1 => by rw [e _ (by have i1 : i < zN (A 1) := i1; omega)]; exact b6 i i1 i2 k k1 f f1⟩
