/-! the text -/
section
variable {h l : Nat} {jk jp jb jr : Nat → Int32} {A : Nat → AS} {msn : Nat → Int32}
theorem h_none (H : HIST h l jk jp jb jr A msn) {α : AS} (ok : OKA α) : HIST 0 l jk jp jb jr (fun _ => α) msn := ⟨by omega, H.2.1, fun _ _ => ok, fun i hi => absurd hi (Nat.not_lt_zero _), fun i hi => absurd hi (Nat.not_lt_zero _)⟩
theorem op_text {T : Nat} {tl mtd : Int32} {tb mt : Nat → Int32} (R : RT T tl tb mtd mt) {pg ps pn : Int32} {pp pf mno : Nat → Int32} (H : HIST h l jk jp jb jr A msn) (hc : RC (A 0) pg ps pn pp pf) (hm : RM (A 0) mno) (dg ds dn : Int32) (dp df : Nat → Int32) (rl rk rp : Int32) (rt : Nat → Int32) (kp kb kk kn mth msz mto mfr mso mnu mfa mpl : Int32) (mwo : Int64) (mgo : Int32) (mre mis : Nat → Int32) :
    ∃ r pg' ps' pn' pp' pf' dg' ds' dn' dp' df' rl' rk' rp' rt' kp' kb' kk' kn' h' msz' mto' mfr' mso' mnu' mpl' mwo' mgo' mno' mre' mis' A', m_X6_text tl tb pg ps pn pp pf dg ds dn dp df rl rk rp rt kp kb kk kn (nI h) = some (r, 0, pg', ps', pn', pp', pf', dg', ds', dn', dp', df', rl', rk', rp', rt', kp', kb', kk', kn', nI h') ∧ m_X7_text mth mtd msz mto mfr mso mnu mfa mpl mwo (nI h) mgo mt mno mre mis = some (r, 0, 0, msz', mto', mfr', mso', mnu', rk', mpl', mwo', nI h', mgo', mno', mre', mis') ∧ HIST h' l jk jp jb jr A' msn ∧ RC (A' 0) pg' ps' pn' pp' pf' ∧ RM (A' 0) mno' ∧ RT 0 0 tb 0 mt := by
  obtain ⟨c, B⟩ := by_of R
  have R0 : RT 0 0 tb 0 mt := ⟨by omega, rfl, rfl, R.2.2.2⟩
  have hT : T ≤ 640 := R.1
  have hFU : 640 < FU := by decide
  obtain ⟨rt1, f1, f2, _⟩ := fill0 20 0 FU rt (by omega) (by decide)
  have f1' : m_J7_fill_53178 20 rt 0 = some rt1 := f1
  obtain ⟨mre1, z1⟩ := zero30 (mt := mt) (mis := mis) 0 0 mtd 0 mfr mso mnu 0 mpl mwo (nI h) mgo mno 442 0 FU mre (by omega) (by decide)
  have z1' : m_X7_text mth mtd msz mto mfr mso mnu mfa mpl mwo (nI h) mgo mt mno mre mis = _ := z1
  obtain ⟨mis1, m', y1, y2, _⟩ := zero52 (mt := mt) 0 0 mtd 0 mfr mso mnu 0 mpl mwo (nI h) mgo mno mre1 80 0 FU mis (by omega) (by decide)
  have y1' : k_X7_text_52 mt FU 0 0 mtd 0 mfr mso mnu 0 mpl mwo (nI h) mgo mno mre1 mis 0 = _ := y1
  have ht : TL rt1 mis1 := fun t t1 => ⟨0, by decide, f2 t (by omega) t1, fun s s1 => by rw [y2 _ (by omega) (by omega)]; simp; rfl⟩
  have bg : m_X7_begins mre1 = some (upd (upd (upd mre1 1 1) 2 (-1)) 22 1) := by
    rw [m_X7_begins, if_neg (by decide), if_neg (by decide), if_neg (by decide)]; rfl
  obtain ⟨q, kp1, kb1, kk1, kn1, mto1, mfr1, mso1, mnu1, mwo1, a1, a2, TRR⟩ := adv B (Nat.zero_le T) 0 0 0 mfr mso mnu mwo
  have a1' : m_X5_advance 0 0 0 0 tl tb = some (kp1, kb1, kk1, kn1) := a1
  have a2' : m_X7_go mtd 0 mfr mso mnu mwo mt = some (mto1, mfr1, mso1, mnu1, mwo1) := a2
  rw [z1', y1', k_X7_text_52_s, if_pos (show (80 : Int32) ≤ nI 80 by decide), ob1_s bg, ob5_s a2', m_X6_text, m_X3_readText, m_X5_rewind, ob4_s rfl, ob1_s f1', ob4_s a1']
  rcases scenes2 (dg := dg) (ds := ds) (dn := dn) (dp := dp) (mre := upd (upd (upd mre1 1 1) 2 (-1)) 22 1) B (by rw [pk_un (by omega), pk_un (by omega), pk_us]) (by rw [pk_un (by omega), pk_us]) (by rw [pk_us]) TRR 0 0 0 mpl mgo with ⟨c1, c2, ⟨b, b2, b3, b4, b5, b6, b7, b8⟩, g1, g2, g3, g4, ⟨b1', b2', b3'⟩, r1, r2⟩ | ⟨v, q', kb', kk', kn', mto', mfr', mso', mnu', mwo', v1, v2, q1, r1, r2, A2⟩
  · rw [ob11_s r1, ob10_s r2, if_pos rfl, if_pos rfl, ob14_s rfl, if_pos rfl]
    exact ⟨_, _, _, _, _, _, _, _, _, _, _, _, _, _, _, _, _, _, _, h, _, _, _, _, _, _, _, _, _, _, _, A, rfl, rfl, H, hc, hm, R0⟩
  · rw [ob11_s r1, ob10_s r2, if_neg (by decide), if_neg (by decide)]
    have LL := lines2 B (ds := nI v) 0 0 0 mpl 0 0 (nI h) mno 640 q' 1 FU FU (al0 v) 1 1 (upd dp 0 (-1)) df (upd (upd (upd (upd mre1 1 1) 2 (-1)) 22 1) 0 (nI v)) mis1 rt1 kb' kk' kn' mto' mfr' mso' mnu' (nI v) mwo' (by omega) hFU hFU (by omega) A2.1 (ok_al0 v1 v2) rc_al0 (rm_al0 (by rw [pk_un (by omega), pk_un (by omega), pk_us]) (by rw [pk_un (by omega), pk_us]) (by rw [pk_us])) ht A2
    rw [show nI 1 = (1 : Int32) from rfl] at LL
    rcases LL with ⟨rl', c1, c2, ⟨b, b2, b3, b4, b5, b6, b7, b8, b9, b10⟩, g1, g2, g3, g4, g5, g6, g7, g8, mre', mis', s1, s2⟩ | ⟨α', r', rt', kp', kb', kk', kn', dg', dn', dp', df', g1, g2, g3, g4, g5, g7, g8, mno', mre', mis', o1, o2, o3, s1, s2⟩
    · rw [s2, ob14_s s1, if_pos rfl]
      exact ⟨_, _, _, _, _, _, _, _, _, _, _, _, _, _, _, _, _, _, _, h, _, _, _, _, _, _, _, _, _, _, _, A, rfl, rfl, H, hc, hm, R0⟩
    · obtain ⟨pp', pf', t1, t2⟩ := e_take o1 o2 pg ps pn pp pf
      rw [s2, ob14_s s1, if_neg (by decide), ob5_s t1, m_X1_forget, ob1_s rfl]
      exact ⟨_, _, _, _, _, _, _, _, _, _, _, _, _, _, _, _, _, _, _, 0, _, _, _, _, _, _, _, _, _, _, _, fun _ => α', rfl, rfl, h_none H o1, t2, o3, R0⟩
end
