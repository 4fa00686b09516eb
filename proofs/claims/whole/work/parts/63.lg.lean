/-! the law, from its entry -/
set_option maxRecDepth 20000 in
theorem nestW_in : ∀ w ∈ nestW, w ∈ lw_tbl := mem_of_r _ [128, 130, 131, 149, 150, 151, 153, 156, 157, 159, 160, 161, 189, 191, 193, 209, 211, 213, 256, 425, 441, 443, 571, 664, 123, 140, 176, 182, 229, 245, 295, 307, 311, 318, 335, 395, 409, 417, 421, 437, 445, 446, 453, 465, 484, 485, 492, 500, 502, 516, 523, 527, 547, 551, 561, 578, 589, 601, 613, 617, 618, 630, 634, 635, 645, 655, 669, 681, 686, 694, 695, 696, 704, 708, 713, 717, 794] (by decide +kernel)
theorem nestW_ot : ∀ w ∈ nestW, w.onTables = true := by decide +kernel
set_option maxRecDepth 20000 in
theorem nodW_in : ∀ w ∈ nodW, w ∈ lw_tbl := mem_of_r _ [733, 735, 737, 731] (by decide +kernel)
theorem tab_of {args : Array Value} {s : State} {C n : String} {f : Nat → Int32} {A : Nat → Prop} (hl : (Cond.laysStatic C n "[I").before args s = true) (hini : (Cond.initialized C).before args s = true) (harr : (Cond.arrayOf (.static C n "[I") .int).before args s = true) (hlen : (Cond.eq (.length (.static C n "[I")) (.int 5)).before args s = true) (h0 : (Cond.eq (.elem (.static C n "[I") (.int 0)) (.int (f 0))).before args s = true) (h1 : (Cond.eq (.elem (.static C n "[I") (.int 1)) (.int (f 1))).before args s = true) (h2 : (Cond.eq (.elem (.static C n "[I") (.int 2)) (.int (f 2))).before args s = true) (h3 : (Cond.eq (.elem (.static C n "[I") (.int 3)) (.int (f 3))).before args s = true) (h4 : (Cond.eq (.elem (.static C n "[I") (.int 4)) (.int (f 4))).before args s = true) (hA : ∀ a : Nat, a < s.heap.size → ¬ A a) : ∃ t : Nat, gl_tab C n t f A s s.heap := by
  obtain ⟨t, ht, hT⟩ := va_Tof (f := fun j => .int (f j)) (N := 5) (A := A) (by decide) harr (va_eqt hlen) (fun j hj => by
    rcases (show j = 0 ∨ j = 1 ∨ j = 2 ∨ j = 3 ∨ j = 4 by omega) with rfl | rfl | rfl | rfl | rfl
    · exact va_eqt h0
    · exact va_eqt h1
    · exact va_eqt h2
    · exact va_eqt h3
    · exact va_eqt h4) hA
  exact ⟨t, va_Zof hl hini ht hA, hT⟩
theorem vk_cong {L : List Nat} {Bt : List (List Int32)} {k v k' v' : Nat → Nat} {A : Nat → Prop} {U : State} {H : Heap} (h : vk_S 4 L Bt k v A U H) (hk : ∀ i, i < 4 → k' i = k i) (hv : ∀ i, i < 4 → v' i = v i) : vk_S 4 L Bt k' v' A U H := ⟨fun i hi => by rw [hk i hi, hv i hi]; exact h.1 i hi, fun i j hi hj e => h.2 i j hi hj (by rw [← hk i hi, ← hk j hj]; exact e)⟩
theorem str_ref {args : Array Value} {s : State} {C tx : String} {k n : Nat} (hi : (Cond.instantiable C n).before args s = true) (h : (Cond.stringRef C k tx).before args s = true) : ∃ sa : Nat, (Term.string C k).eval args s none [] s = some (.ref sa) := by
  obtain ⟨cC, kC, hfc, _⟩ := Cond.instantiable_spec hi
  obtain ⟨_, _, _, a, _, _, _, _, _, h6⟩ := Cond.stringRef_spec hfc h
  exact ⟨a, h6⟩
def tmS4 (i : Nat) : Term := .string RX3 (([64, 86, 92, 94] : List Nat).getD i 0)
def taF (t : List Nat) (k v : Nat → Nat) (n : Nat) : Nat := if n < 10 then t.getD n 0 else if n < 20 then k (n - 10) else v (n - 20)
set_option maxRecDepth 20000 in
set_option maxHeartbeats 4000000 in
theorem start_glo {s : State} {b : Nat} (hts : ∀ w ∈ lw_tbl, w.before #[Value.ref b] s = true) (hgv : (Jvm.Cond.and given_1 narrow_1).before #[Value.ref b] s = true) : ∃ (ta : Nat → Nat) (sa : Nat), glo ta (fun q : Nat => s.heap.size ≤ q) s s.heap ∧ gn sa (fun q : Nat => s.heap.size ≤ q) s s.heap := by
  have hq := flat_of_before _ hgv
  have hA : ∀ a : Nat, a < s.heap.size → ¬ (fun q : Nat => s.heap.size ≤ q) a := fun a h => Nat.not_le.mpr h
  obtain ⟨t0, g0⟩ := (tab_of (C := RX6) (n := "LEAST") (f := T_LEAST) (hts (.laysStatic RX6 "LEAST" "[I") (by decide +kernel)) (hts (.initialized RX6) (by decide +kernel)) (hq (.arrayOf (.static RX6 "LEAST" "[I") .int) (by decide +kernel)) (hq (.eq (.length (.static RX6 "LEAST" "[I")) (.int 5)) (by decide +kernel)) (hq (.eq (.elem (.static RX6 "LEAST" "[I") (.int 0)) (.int (T_LEAST 0))) (by decide +kernel)) (hq (.eq (.elem (.static RX6 "LEAST" "[I") (.int 1)) (.int (T_LEAST 1))) (by decide +kernel)) (hq (.eq (.elem (.static RX6 "LEAST" "[I") (.int 2)) (.int (T_LEAST 2))) (by decide +kernel)) (hq (.eq (.elem (.static RX6 "LEAST" "[I") (.int 3)) (.int (T_LEAST 3))) (by decide +kernel)) (hq (.eq (.elem (.static RX6 "LEAST" "[I") (.int 4)) (.int (T_LEAST 4))) (by decide +kernel)) hA)
  obtain ⟨t1, g1⟩ := (tab_of (C := RX6) (n := "MOST") (f := T_MOST) (hts (.laysStatic RX6 "MOST" "[I") (by decide +kernel)) (hts (.initialized RX6) (by decide +kernel)) (hq (.arrayOf (.static RX6 "MOST" "[I") .int) (by decide +kernel)) (hq (.eq (.length (.static RX6 "MOST" "[I")) (.int 5)) (by decide +kernel)) (hq (.eq (.elem (.static RX6 "MOST" "[I") (.int 0)) (.int (T_MOST 0))) (by decide +kernel)) (hq (.eq (.elem (.static RX6 "MOST" "[I") (.int 1)) (.int (T_MOST 1))) (by decide +kernel)) (hq (.eq (.elem (.static RX6 "MOST" "[I") (.int 2)) (.int (T_MOST 2))) (by decide +kernel)) (hq (.eq (.elem (.static RX6 "MOST" "[I") (.int 3)) (.int (T_MOST 3))) (by decide +kernel)) (hq (.eq (.elem (.static RX6 "MOST" "[I") (.int 4)) (.int (T_MOST 4))) (by decide +kernel)) hA)
  obtain ⟨t2, g2⟩ := (tab_of (C := RX6) (n := "USUAL") (f := T_USUAL) (hts (.laysStatic RX6 "USUAL" "[I") (by decide +kernel)) (hts (.initialized RX6) (by decide +kernel)) (hq (.arrayOf (.static RX6 "USUAL" "[I") .int) (by decide +kernel)) (hq (.eq (.length (.static RX6 "USUAL" "[I")) (.int 5)) (by decide +kernel)) (hq (.eq (.elem (.static RX6 "USUAL" "[I") (.int 0)) (.int (T_USUAL 0))) (by decide +kernel)) (hq (.eq (.elem (.static RX6 "USUAL" "[I") (.int 1)) (.int (T_USUAL 1))) (by decide +kernel)) (hq (.eq (.elem (.static RX6 "USUAL" "[I") (.int 2)) (.int (T_USUAL 2))) (by decide +kernel)) (hq (.eq (.elem (.static RX6 "USUAL" "[I") (.int 3)) (.int (T_USUAL 3))) (by decide +kernel)) (hq (.eq (.elem (.static RX6 "USUAL" "[I") (.int 4)) (.int (T_USUAL 4))) (by decide +kernel)) hA)
  obtain ⟨t3, g3⟩ := (tab_of (C := RX6) (n := "WAYS_BEHIND") (f := T_WAYS) (hts (.laysStatic RX6 "WAYS_BEHIND" "[I") (by decide +kernel)) (hts (.initialized RX6) (by decide +kernel)) (hq (.arrayOf (.static RX6 "WAYS_BEHIND" "[I") .int) (by decide +kernel)) (hq (.eq (.length (.static RX6 "WAYS_BEHIND" "[I")) (.int 5)) (by decide +kernel)) (hq (.eq (.elem (.static RX6 "WAYS_BEHIND" "[I") (.int 0)) (.int (T_WAYS 0))) (by decide +kernel)) (hq (.eq (.elem (.static RX6 "WAYS_BEHIND" "[I") (.int 1)) (.int (T_WAYS 1))) (by decide +kernel)) (hq (.eq (.elem (.static RX6 "WAYS_BEHIND" "[I") (.int 2)) (.int (T_WAYS 2))) (by decide +kernel)) (hq (.eq (.elem (.static RX6 "WAYS_BEHIND" "[I") (.int 3)) (.int (T_WAYS 3))) (by decide +kernel)) (hq (.eq (.elem (.static RX6 "WAYS_BEHIND" "[I") (.int 4)) (.int (T_WAYS 4))) (by decide +kernel)) hA)
  obtain ⟨t4, g4⟩ := (tab_of (C := RX6) (n := "ORDERS_WITH_AHEAD") (f := T_AHEAD) (hts (.laysStatic RX6 "ORDERS_WITH_AHEAD" "[I") (by decide +kernel)) (hts (.initialized RX6) (by decide +kernel)) (hq (.arrayOf (.static RX6 "ORDERS_WITH_AHEAD" "[I") .int) (by decide +kernel)) (hq (.eq (.length (.static RX6 "ORDERS_WITH_AHEAD" "[I")) (.int 5)) (by decide +kernel)) (hq (.eq (.elem (.static RX6 "ORDERS_WITH_AHEAD" "[I") (.int 0)) (.int (T_AHEAD 0))) (by decide +kernel)) (hq (.eq (.elem (.static RX6 "ORDERS_WITH_AHEAD" "[I") (.int 1)) (.int (T_AHEAD 1))) (by decide +kernel)) (hq (.eq (.elem (.static RX6 "ORDERS_WITH_AHEAD" "[I") (.int 2)) (.int (T_AHEAD 2))) (by decide +kernel)) (hq (.eq (.elem (.static RX6 "ORDERS_WITH_AHEAD" "[I") (.int 3)) (.int (T_AHEAD 3))) (by decide +kernel)) (hq (.eq (.elem (.static RX6 "ORDERS_WITH_AHEAD" "[I") (.int 4)) (.int (T_AHEAD 4))) (by decide +kernel)) hA)
  obtain ⟨t5, g5⟩ := (tab_of (C := RX7) (n := "ORDERS_BY") (f := T_BY) (hts (.laysStatic RX7 "ORDERS_BY" "[I") (by decide +kernel)) (hts (.initialized RX7) (by decide +kernel)) (hq (.arrayOf (.static RX7 "ORDERS_BY" "[I") .int) (by decide +kernel)) (hq (.eq (.length (.static RX7 "ORDERS_BY" "[I")) (.int 5)) (by decide +kernel)) (hq (.eq (.elem (.static RX7 "ORDERS_BY" "[I") (.int 0)) (.int (T_BY 0))) (by decide +kernel)) (hq (.eq (.elem (.static RX7 "ORDERS_BY" "[I") (.int 1)) (.int (T_BY 1))) (by decide +kernel)) (hq (.eq (.elem (.static RX7 "ORDERS_BY" "[I") (.int 2)) (.int (T_BY 2))) (by decide +kernel)) (hq (.eq (.elem (.static RX7 "ORDERS_BY" "[I") (.int 3)) (.int (T_BY 3))) (by decide +kernel)) (hq (.eq (.elem (.static RX7 "ORDERS_BY" "[I") (.int 4)) (.int (T_BY 4))) (by decide +kernel)) hA)
  obtain ⟨adK, adV, gS, gE⟩ := vk_Sof (args := #[Value.ref b]) (s := s) (N := 4) (tm := tmS4) (len := st_len) (byt := st_byt) (A := (fun q : Nat => s.heap.size ≤ q)) (fun i hi => by
    rcases (show i = 0 ∨ i = 1 ∨ i = 2 ∨ i = 3 by omega) with rfl | rfl | rfl | rfl
    · exact (by decide)
    · exact (by decide)
    · exact (by decide)
    · exact (by decide)) (fun i hi => by
    rcases (show i = 0 ∨ i = 1 ∨ i = 2 ∨ i = 3 by omega) with rfl | rfl | rfl | rfl
    · exact hq _ (by decide +kernel)
    · exact hq _ (by decide +kernel)
    · exact hq _ (by decide +kernel)
    · exact hq _ (by decide +kernel)) (fun i hi => by
    rcases (show i = 0 ∨ i = 1 ∨ i = 2 ∨ i = 3 by omega) with rfl | rfl | rfl | rfl
    · exact hq _ (by decide +kernel)
    · exact hq _ (by decide +kernel)
    · exact hq _ (by decide +kernel)
    · exact hq _ (by decide +kernel)) (fun i hi => by
    rcases (show i = 0 ∨ i = 1 ∨ i = 2 ∨ i = 3 by omega) with rfl | rfl | rfl | rfl
    · exact hq _ (by decide +kernel)
    · exact hq _ (by decide +kernel)
    · exact hq _ (by decide +kernel)
    · exact hq _ (by decide +kernel)) (fun i hi => by
    rcases (show i = 0 ∨ i = 1 ∨ i = 2 ∨ i = 3 by omega) with rfl | rfl | rfl | rfl
    · exact hq _ (by decide +kernel)
    · exact hq _ (by decide +kernel)
    · exact hq _ (by decide +kernel)
    · exact hq _ (by decide +kernel)) (fun i hi => by
    rcases (show i = 0 ∨ i = 1 ∨ i = 2 ∨ i = 3 by omega) with rfl | rfl | rfl | rfl
    · exact (fun j hj => by
      rcases (show j = 0 ∨ j = 1 ∨ j = 2 ∨ j = 3 ∨ j = 4 ∨ j = 5 by have : j < 6 := hj; omega) with rfl | rfl | rfl | rfl | rfl | rfl
      · exact hq _ (by decide +kernel)
      · exact hq _ (by decide +kernel)
      · exact hq _ (by decide +kernel)
      · exact hq _ (by decide +kernel)
      · exact hq _ (by decide +kernel)
      · exact hq _ (by decide +kernel))
    · exact (fun j hj => by
      rcases (show j = 0 ∨ j = 1 ∨ j = 2 ∨ j = 3 ∨ j = 4 by have : j < 5 := hj; omega) with rfl | rfl | rfl | rfl | rfl
      · exact hq _ (by decide +kernel)
      · exact hq _ (by decide +kernel)
      · exact hq _ (by decide +kernel)
      · exact hq _ (by decide +kernel)
      · exact hq _ (by decide +kernel))
    · exact (fun j hj => by
      rcases (show j = 0 ∨ j = 1 ∨ j = 2 ∨ j = 3 by have : j < 4 := hj; omega) with rfl | rfl | rfl | rfl
      · exact hq _ (by decide +kernel)
      · exact hq _ (by decide +kernel)
      · exact hq _ (by decide +kernel)
      · exact hq _ (by decide +kernel))
    · exact (fun j hj => by
      rcases (show j = 0 ∨ j = 1 ∨ j = 2 by have : j < 3 := hj; omega) with rfl | rfl | rfl
      · exact hq _ (by decide +kernel)
      · exact hq _ (by decide +kernel)
      · exact hq _ (by decide +kernel))) (fun i j hi hj hn => by
    rcases (show i = 0 ∨ i = 1 ∨ i = 2 ∨ i = 3 by omega) with rfl | rfl | rfl | rfl <;> rcases (show j = 0 ∨ j = 1 ∨ j = 2 ∨ j = 3 by omega) with rfl | rfl | rfl | rfl <;> first | exact absurd rfl hn | exact Or.inl (hq _ (by decide +kernel)) | exact Or.inr (hq _ (by decide +kernel))) hA
  obtain ⟨sa, hsa⟩ : ∃ sa : Nat, (Term.string RX6 102).eval #[Value.ref b] s none [] s = some (.ref sa) := str_ref (hts (.instantiable RX6 6) (by decide +kernel)) (hts (.stringRef RX6 102 "no such node, or nothing that is told of one") (by decide +kernel))
  refine ⟨taF [t0, t1, t2, t3, t4, t5] adK adV, sa, ⟨fun w hw => va_Nw.of (nestW_ot w hw) (hts w (nestW_in w hw)), g0, g1, g2, g3, g4, g5, ⟨vk_R.of (hts (.stringRef RX3 64 "scenes") (by decide +kernel)) (gE 0 (by decide)), vk_R.of (hts (.stringRef RX3 86 "group") (by decide +kernel)) (gE 1 (by decide)), vk_R.of (hts (.stringRef RX3 92 "line") (by decide +kernel)) (gE 2 (by decide)), vk_R.of (hts (.stringRef RX3 94 "set") (by decide +kernel)) (gE 3 (by decide))⟩, vk_cong gS (fun i hi => ?_) (fun i hi => ?_), va_Zof (hts (.laysStatic "java/lang/String" "COMPACT_STRINGS" "Z") (by decide +kernel)) (hts (.initialized "java/lang/String") (by decide +kernel)) (va_eqt (hq (.eq (.static "java/lang/String" "COMPACT_STRINGS" "Z") (.int 1)) (by decide +kernel))) hA, va_Zqof (hts (.laysStatic "jdk/internal/util/Preconditions" "SIOOBE_FORMATTER" "Ljava/util/function/BiFunction;") (by decide +kernel)) (hts (.initialized "jdk/internal/util/Preconditions") (by decide +kernel)) (hq (.isRef (.static "jdk/internal/util/Preconditions" "SIOOBE_FORMATTER" "Ljava/util/function/BiFunction;")) (by decide +kernel)) hA⟩, fun w hw => va_Nw.of (nodW_ot w hw) (hts w (nodW_in w hw)), vk_R.of (hts (.stringRef RX6 102 "no such node, or nothing that is told of one") (by decide +kernel)) hsa, vx_Zqof (hts (.laysStatic Bundle.tN "UNASSIGNED_STACK" Bundle.steD) (by decide +kernel)) (hts (.initialized Bundle.tN) (by decide +kernel)) (hq (.isRef (.static Bundle.tN "UNASSIGNED_STACK" Bundle.steD)) (by decide +kernel)) hA, vx_Zqof (hts (.laysStatic Bundle.tN "SUPPRESSED_SENTINEL" Bundle.listD) (by decide +kernel)) (hts (.initialized Bundle.tN) (by decide +kernel)) (hq (.isRef (.static Bundle.tN "SUPPRESSED_SENTINEL" Bundle.listD)) (by decide +kernel)) hA⟩
  · show taF _ adK adV (10 + i) = adK i
    rw [taF, if_neg (by omega), if_pos (by omega)]; congr 1; omega
  · show taF _ adK adV (20 + i) = adV i
    rw [taF, if_neg (by omega), if_neg (by omega)]; congr 1; omega
