/-! SPECS ZQ: keep, row -/
def PC (e : Nat) (c j : Nat) : Prop := c = 53 + 2 * e ∨ c = 54 + 2 * e
def PMm (e : Nat) (c j : Nat) : Prop := ((c = 74 ∨ c = 75 ∨ c = 76 ∨ c = 78 ∨ c = 79) ∧ j = e) ∨ (c = 77 ∧ 100 * e ≤ j ∧ j < 100 * e + 100)
theorem PC_sh {e c j : Nat} (h : PC e c j) : PSh e c j := by unfold PC at h; unfold PSh; omega
theorem PMm_sh {e c j : Nat} (h : PMm e c j) : PSh e c j := by unfold PMm at h; unfold PSh; omega
theorem MA.tagM {μ : SMem} {e c j : Nat} (hm : MA μ) (h : PMm e c j) : tg μ c = 50 := by
  obtain ⟨m1, m2, m3, m4, m5, m6, m7, m8, m9, m10, m11, m12, m13, m14, ⟨t0, t1, t2, t3, t4, t5, t6, t7, t8, t9, t10, t11, t12⟩, l0, l1, l2, l3, l4, l5, l6, l7, l8, l9, l10, l11, l12⟩ := hm
  unfold PMm at h
  rcases h with ⟨q | q | q | q | q, _⟩ | ⟨q, _⟩ <;> subst q
  · exact t4
  · exact t5
  · exact t6
  · exact t8
  · exact t9
  · exact t7
theorem sg_seti3 {P Q : Nat → Nat → Prop} {μ : SMem} {a k b l c m : Nat} {x y z : Int32} (h : ∀ c, sz μ ≤ c → tg μ c = 99) (ha : P a k) (hb : P b l) (hc : P c m) (h1 : a ≠ 1 := by omega) (h2 : b ≠ 1 := by omega) (h3 : c ≠ 1 := by omega) : SG P Q μ (seti (seti (seti μ a k x) b l y) c m z) :=
  (SG.seti h ha h1).tr ((SG.seti (μ := seti μ a k x) h hb h2).tr (SG.seti (μ := seti (seti μ a k x) b l y) h hc h3))
theorem sg_rss {P Q : Nat → Nat → Prop} {μ : SMem} {a k b l c m n : Nat} {y z : Int32} (h : ∀ c, sz μ ≤ c → tg μ c = 99) (ha : Q a k) (hb : P b l) (hc : P c m) (h2 : b ≠ 1 := by omega) (h3 : c ≠ 1 := by omega) : SG P Q μ (seti (seti (setr μ a k n) b l y) c m z) :=
  (SG.setr h ha).tr ((SG.seti (μ := setr μ a k n) h hb h2).tr (SG.seti (μ := seti (setr μ a k n) b l y) h hc h3))
theorem up8 {Hs : Nat → HT} {e : Nat} {H' : HT} (he : e < 8) : up1 Hs e H' 8 = Hs 8 := by rw [up1, if_neg (by omega)]
theorem ShC.sm {μ μ' : SMem} {e e' : Nat} {H : HT} (h : ShC μ e' H) (he : e' < 8) (hc : CAo μ) (hm : MA μ) (hs : SG (PMm e) NoC μ μ') : ShC μ' e' H :=
  h.sg he hc hs (fun c j p => ⟨by unfold PMm at p; omega, by unfold PMm at p; omega, by rw [hm.tagM p]; rfl⟩) (fun c j q => q.elim)
theorem f56_lp {d e : Nat} {x1 x2 : Int32} {μ0 : SMem} (he : e < 8) (hc : CAo μ0) : ∀ k i (μ : SMem), i + k = 100 → SB (fun c => c = 54 + 2 * e) μ0 μ → (∀ j, j < i → gi μ (54 + 2 * e) j = 0) → ∃ μ', rn d 56 16 [some (Sum.inr (Sum.inl (53 + 2 * e))), some (Sum.inl (x1)), some (Sum.inl (x2)), some (Sum.inl (E i))] [] μ = some (Sum.inl none, μ') ∧ SB (fun c => c = 54 + 2 * e) μ0 μ' ∧ (∀ j, j < 100 → gi μ' (54 + 2 * e) j = 0) := by
  intro k
  induction k with
  | zero =>
    intro i μ hi hs hj
    have : i = 100 := by omega
    subst this
    refine ⟨μ, ?_, hs, hj⟩
    rw [st56_16]
    simp only [st56_17, st56_18, st56_19, st56_20, st56_21, st56_22, st56_23, st56_24, st56_25, st56_26, show (100 : Int32) ≤ E 100 from by decide, if_true]
  | succ k ih =>
    intro i μ hi hs hj
    obtain ⟨x1', x2', x3', x4', x5'⟩ := (hc.sb hs).2.2.2.2.2.2.2.2.2.2.2 e he
    have cx : ¬ (100 : Int32) ≤ E i := by rw [show (100 : Int32) = E 100 from rfl, E_le (by decide) (by omega)]; omega
    obtain ⟨μ', y1, y2, y3⟩ := ih (i + 1) (seti μ (54 + 2 * e) i 0) (by omega) (hs.tr (SB.se rfl)) (fun j hj9 => by
      rw [gi_seti]
      by_cases q : j = i
      · rw [if_pos ⟨rfl, q⟩]
      · rw [if_neg (fun h => q h.2)]; exact hj j (by omega))
    refine ⟨μ', ?_, y2, y3⟩
    rw [st56_16]
    simp only [st56_17, st56_18, st56_19, st56_20, st56_21, st56_22, st56_23, st56_24, st56_25, st56_26, cx, x2', x3', x4', x5', E_ge0 (show i < 1000 by omega), E_n (show i < 1000 by omega), show i < 100 by omega, show E i + 1 = E (i + 1) from E_add i 1, aft_some, Option.toList_some, Option.toList_none, List.cons_append, List.nil_append, br0, br1, br2, br3, zr01, zr02, n10, n01, ne_eq, not_true_eq_false, not_false_eq_true, if_true, if_false, true_and, and_true, and_self]
    exact y1
theorem f56 {d e n : Nat} {x : Int32} {μ : SMem} (he : e < 8) (hn : n ≤ 100) (hc : CAo μ) (hu : ∀ c, sz μ ≤ c → tg μ c = 99) : ∃ μ', cl (d + 1) 56 [Sum.inr (Sum.inl (53 + 2 * e)), Sum.inl (x), Sum.inl (E n)] μ = some (Sum.inl none, μ') ∧ SG (PC e) (QSh e) μ μ' ∧ (sz μ' = sz μ ∧ sl μ' = sl μ) ∧ gr μ' (53 + 2 * e) 0 = 0 ∧ gi μ' (53 + 2 * e) 1 = 1 ∧ gi μ' (53 + 2 * e) 2 = x ∧ gi μ' (53 + 2 * e) 3 = E n ∧ ∀ j, j < 100 → gi μ' (54 + 2 * e) j = 0 := by
  obtain ⟨x1', x2', x3', x4', x5'⟩ := hc.2.2.2.2.2.2.2.2.2.2.2 e he
  have s0 : SG (PC e) (QSh e) μ (setr μ (53 + 2 * e) 0 0) := SG.setr hu ⟨rfl, rfl⟩
  have hc0 : CAo (setr μ (53 + 2 * e) 0 0) := hc.sg s0 (fun c j q => by unfold QSh at q; omega)
  have hu0 : ∀ c, sz (setr μ (53 + 2 * e) 0 0) ≤ c → tg (setr μ (53 + 2 * e) 0 0) c = 99 := hu
  have s1 : SB (fun c => c = 53 + 2 * e) (setr μ (53 + 2 * e) 0 0) (seti (seti (seti (setr μ (53 + 2 * e) 0 0) (53 + 2 * e) 1 1) (53 + 2 * e) 2 x) (53 + 2 * e) 3 (E n)) := SB.se2.tr (SB.se rfl)
  have g : gr (seti (seti (seti (setr μ (53 + 2 * e) 0 0) (53 + 2 * e) 1 1) (53 + 2 * e) 2 x) (53 + 2 * e) 3 (E n)) (53 + 2 * e) 0 = 0 := by rw [s1.2.2.1, gr_setr, if_pos ⟨rfl, rfl⟩]
  obtain ⟨μ', y1, y2, y3⟩ := f56_lp (d := d + 1) (x1 := x) (x2 := E n) he (hc0.sb s1) 100 0 _ rfl SB.rf (fun j hj => by omega)
  have e53 : ∀ j, gi μ' (53 + 2 * e) j = gi (seti (seti (seti (setr μ (53 + 2 * e) 0 0) (53 + 2 * e) 1 1) (53 + 2 * e) 2 x) (53 + 2 * e) 3 (E n)) (53 + 2 * e) j := fun j => by rw [y2.2.2.2.2.2.2 _ (by omega)]
  refine ⟨μ', ?_, s0.tr ((SG.sb hu0 s1 (fun c j p => Or.inl p)).tr (SG.sb hu0 y2 (fun c j p => Or.inr p))), ⟨by rw [y2.2.2.2.2.1]; rfl, by rw [y2.2.2.2.2.2.1]; rfl⟩, by rw [y2.2.2.1]; exact g, ?_, ?_, ?_, y3⟩
  · have l100 : ((100 : Int32) < E n) = False := by rw [show (100 : Int32) = E 100 from rfl, E_ltE (by decide) (by omega)]; exact eq_false (by omega)
    show rn (d + 1) 56 0 [some (Sum.inr (Sum.inl (53 + 2 * e))), some (Sum.inl (x)), some (Sum.inl (E n)), none] [] μ = _
    simp only [st56_0, st56_1, st56_2, st56_3, st56_4, st56_5, st56_6, st56_7, st56_8, st56_9, st56_10, st56_11, st56_12, st56_13, st56_14, st56_15, x2', gi_seti, gi_setr, gi_setl, gi_setrow, gr_seti, gr_setr, gr_setl, gr_setrow, gl_seti, gl_setr, gl_setl, gl_setrow, tg_seti, tg_setr, tg_setl, tg_setrow, ln_seti, ln_setr, ln_setl, ln_setrow, sz_seti, sz_setr, sz_setl, sz_setrow, sl_seti, sl_setr, sl_setl, sl_setrow, f226, l100, or_true, aft_some, Option.toList_some, Option.toList_none, List.cons_append, List.nil_append, br0, br1, br2, br3, zr01, zr02, n10, n01, ne_eq, not_true_eq_false, not_false_eq_true, if_true, if_false, true_and, and_true, and_self]
    exact y1
  · rw [e53, gi_seti, if_neg (by omega), gi_seti, if_neg (by omega), gi_seti, if_pos ⟨rfl, rfl⟩]
  · rw [e53, gi_seti, if_neg (by omega), gi_seti, if_pos ⟨rfl, rfl⟩]
  · rw [e53, gi_seti, if_pos ⟨rfl, rfl⟩]
theorem f216_lp {d e : Nat} {x2 x3 : Int32} {μ0 : SMem} (he : e < 8) : ∀ k i (μ : SMem), i + k = 100 → MA μ → SG (PMm e) NoC μ0 μ → (sz μ = sz μ0 ∧ sl μ = sl μ0) → (∀ j, j < i → gi μ 77 (100 * e + j) = 0) → ∃ μ', rn d 216 35 [some (Sum.inr (Sum.inl (69))), some (Sum.inl (E e)), some (Sum.inl (x2)), some (Sum.inl (x3)), some (Sum.inl (E i))] [] μ = some (Sum.inl (some (Sum.inl (0))), μ') ∧ MA μ' ∧ SG (PMm e) NoC μ0 μ' ∧ (sz μ' = sz μ0 ∧ sl μ' = sl μ0) ∧ (∀ c, c ≠ 77 → gi μ' c = gi μ c) ∧ (∀ j, j < 100 → gi μ' 77 (100 * e + j) = 0) := by
  intro k
  induction k with
  | zero =>
    intro i μ hi hm hs hz hj
    have : i = 100 := by omega
    subst this
    refine ⟨μ, ?_, hm, hs, hz, fun _ _ => rfl, hj⟩
    rw [st216_35]
    simp only [st216_36, st216_37, st216_38, st216_39, st216_40, st216_41, st216_42, st216_43, st216_44, st216_45, st216_46, st216_47, st216_48, st216_49, st216_50, show (100 : Int32) ≤ E 100 from by decide, if_true]
  | succ k ih =>
    intro i μ hi hm hs hz hj
    have hm0 := hm
    obtain ⟨m1, m2, m3, m4, m5, m6, m7, m8, m9, m10, m11, m12, m13, m14, ⟨t0, t1, t2, t3, t4, t5, t6, t7, t8, t9, t10, t11, t12⟩, l0, l1, l2, l3, l4, l5, l6, l7, l8, l9, l10, l11, l12⟩ := hm
    have cx : ¬ (100 : Int32) ≤ E i := by rw [show (100 : Int32) = E 100 from rfl, E_le (by decide) (by omega)]; omega
    obtain ⟨μ', y1, y2, y3, y4, y5, y6⟩ := ih (i + 1) (seti μ 77 (100 * e + i) 0) (by omega) (hm0.sb (SB.se (A := fun c => c = 77) rfl)) (hs.tr (SG.seti hs.2.2.2.2.2 (Or.inr ⟨rfl, by omega, by omega⟩))) hz (fun j hj9 => by
      rw [gi_seti]
      by_cases q : j = i
      · rw [if_pos ⟨rfl, by rw [q]⟩]
      · rw [if_neg (fun h => q (by omega))]; exact hj j (by omega))
    refine ⟨μ', ?_, y2, y3, y4, fun c hc => by rw [y5 c hc]; exact (SB.se (A := fun c => c = 77) (μ := μ) (a := 77) (k := 100 * e + i) (x := 0) rfl).2.2.2.2.2.2 c hc, y6⟩
    rw [st216_35]
    simp only [st216_36, st216_37, st216_38, st216_39, st216_40, st216_41, st216_42, st216_43, st216_44, st216_45, st216_46, st216_47, st216_48, st216_49, st216_50, cx, m1, m9, t7, l7, ix100, E_ge0 (show 100 * e + i < 1000 by omega), E_n (show 100 * e + i < 1000 by omega), show 100 * e + i < 800 by omega, show E i + 1 = E (i + 1) from E_add i 1, aft_some, Option.toList_some, Option.toList_none, List.cons_append, List.nil_append, br0, br1, br2, br3, zr01, zr02, n10, n01, ne_eq, not_true_eq_false, not_false_eq_true, if_true, if_false, true_and, and_true, and_self]
    exact y1
theorem g106 {d : Nat} {x y z : Int32} {A Ai : AT} {im : Nat} {Hs : Nat → HT} {μ : SMem} (h : INVw μ A Ai im Hs) : ∃ v μ1 μ2 Hs', cl (d + 12) 106 [Sum.inr (Sum.inl (2)), Sum.inl (x), Sum.inl (y), Sum.inl (z)] μ = some (Sum.inl (some (Sum.inl (v))), μ1) ∧ cl (d + 12) 216 [Sum.inr (Sum.inl (69)), Sum.inl (x), Sum.inl (y), Sum.inl (z)] μ1 = some (Sum.inl (some (Sum.inl (v))), μ2) ∧ INVw μ2 A Ai im Hs' ∧ Hs' 8 = Hs 8 ∧ sz μ2 = sz μ ∧ sl μ2 = sl μ ∧ K1 μ μ1 := by
  have hB := h.1
  obtain ⟨hm, hc, hw, ht, hr⟩ := hB
  have hu := h.2.2.2.2.2
  by_cases c : 0 ≤ x ∧ x < 8
  · obtain ⟨e, he, rfl⟩ := E_of (n := 8) c.1 c.2 (by decide)
    obtain ⟨hH, hC, hM⟩ := h.2.2.2.1 e he
    have e0 : (53 + 2 * e = 0) = False := eq_false (by omega)
    by_cases cy : 0 ≤ y ∧ y ≤ 2
    · have cy0 : ¬ y < 0 := Int32.not_lt.mpr cy.1
      have cy2 : ¬ (2 : Int32) < y := Int32.not_lt.mpr cy.2
      obtain ⟨t, ht3, et⟩ : ∃ t, t < 3 ∧ y = E t := by
        rcases in012.mp cy with q | q | q
        · exact ⟨0, by omega, q⟩
        · exact ⟨1, by omega, q⟩
        · exact ⟨2, by omega, q⟩
      by_cases cz : z ≤ 100
      · by_cases cz0 : 0 ≤ z
        · obtain ⟨n, hn, rfl⟩ := E_of (x := z) (n := 101) cz0 (by have := Int32.le_iff_toInt_le.mp cz; exact Int32.lt_iff_toInt_lt.mpr (by have e : (100 : Int32).toInt = 100 := rfl; have e0 : (E 101).toInt = 101 := rfl; omega)) (by decide)
          obtain ⟨μ1, a1, a2, ⟨a3, a3'⟩, a4, a5, a6, a7, a8⟩ := f56 (d := d + 10) (x := y) he (show n ≤ 100 by omega) hc hu
          have q0 : ∀ c j, QSh e c j → c = 53 + 2 * e ∧ j = 0 := fun c j q => q
          have hm1 := hm.sg a2 (fun j q => by have := q0 _ _ q; omega)
          have hm1' := hm1
          have hc1 := hc.sg a2 (fun c j q => by have := q0 _ _ q; omega)
          have hu1 := a2.2.2.2.2.2
          have sM : SG (PMm e) NoC μ1 (seti (seti (seti μ1 74 e 2) 75 e y) 76 e (E n)) := sg_seti3 hu1 (Or.inl ⟨by omega, rfl⟩) (Or.inl ⟨by omega, rfl⟩) (Or.inl ⟨by omega, rfl⟩)
          have hmM : MA (seti (seti (seti μ1 74 e 2) 75 e y) 76 e (E n)) := ((hm1.sb (SB.se (A := fun c => c = 74) rfl)).sb (SB.se (A := fun c => c = 75) rfl)).sb (SB.se (A := fun c => c = 76) rfl)
          obtain ⟨μ2, b1, b2, b3, ⟨b4, b4'⟩, b5, b6⟩ := f216_lp (d := d + 12) (x2 := y) (x3 := E n) he 100 0 _ rfl hmM sM ⟨rfl, rfl⟩ (fun j hj => by omega)
          have fin := h.sh (H' := ((2, t, n, hkd (Hs e), hfg (Hs e)), fun _ => 0)) he ((a2.wk (fun c j p => PC_sh p) (fun c j q => q)).tr (b3.wk (fun c j p => PMm_sh p) (fun c j q => q.elim))) ⟨(by decide : (2 : Nat) < 3), ht3, by show n ≤ 100; omega, fun q => absurd (show 2 = 1 from q) (by decide)⟩ (ShC.sm (e := e) ⟨fun i hi => a8 i hi, fun _ => ⟨a4, a5, by rw [a6, et]; rfl, a7⟩, fun q => absurd (show 2 = 1 from q) (by decide), fun q => absurd (show 2 = 0 from q) (by decide)⟩ he hc1 hm1 b3) ⟨by rw [b5 74 (by decide), gi_seti, if_neg (by omega), gi_seti, if_neg (by omega), gi_seti, if_pos ⟨rfl, rfl⟩]; rfl, fun _ => ⟨by rw [b5 75 (by decide), gi_seti, if_neg (by omega), gi_seti, if_pos ⟨rfl, rfl⟩, et]; rfl, by rw [b5 76 (by decide), gi_seti, if_pos ⟨rfl, rfl⟩]; rfl⟩, fun q => absurd (show 2 = 1 from q) (by decide), fun i hi => b6 i hi⟩
          refine ⟨0, μ1, μ2, _, ?_, ?_, fin, up8 he, by rw [b4, a3], by rw [b4', a3'], K1.sg a2⟩
          · show rn (d + 12) 106 0 [some (Sum.inr (Sum.inl (2))), some (Sum.inl (E e)), some (Sum.inl (y)), some (Sum.inl (E n)), none] [] μ = _
            simp only [st106_0, st106_1, st106_2, st106_3, st106_4, st106_5, st106_6, st106_7, st106_8, st106_9, st106_10, st106_11, st106_12, st106_13, st106_14, st106_15, st106_16, st106_17, st106_18, st106_19, st106_20, st106_21, st106_22, st106_23, st106_24, st106_25, hc.1, f113 hc, c, E_n (show e < 1000 by omega), e0, cy0, cy2, cz, E_ge0 (show n < 1000 by omega), a1, (hc.2.2.2.2.2.2.2.2.2.2.2 e he).2.1, aft_some, Option.toList_some, Option.toList_none, List.cons_append, List.nil_append, br0, br1, br2, br3, zr01, zr02, n10, n01, ne_eq, not_true_eq_false, not_false_eq_true, if_true, if_false, true_and, and_true, and_self]
          · obtain ⟨m1, m2, m3, m4, m5, m6, m7, m8, m9, m10, m11, m12, m13, m14, ⟨t0, t1, t2, t3, t4, t5, t6, t7, t8, t9, t10, t11, t12⟩, l0, l1, l2, l3, l4, l5, l6, l7, l8, l9, l10, l11, l12⟩ := hm1
            show rn (d + 12) 216 0 [some (Sum.inr (Sum.inl (69))), some (Sum.inl (E e)), some (Sum.inl (y)), some (Sum.inl (E n)), none] [] μ1 = _
            simp only [st216_0, st216_1, st216_2, st216_3, st216_4, st216_5, st216_6, st216_7, st216_8, st216_9, st216_10, st216_11, st216_12, st216_13, st216_14, st216_15, st216_16, st216_17, st216_18, st216_19, st216_20, st216_21, st216_22, st216_23, st216_24, st216_25, st216_26, st216_27, st216_28, st216_29, st216_30, st216_31, st216_32, st216_33, st216_34, f140, E_ge0 (show e < 1000 by omega), E_lt8 he, f139, l_ge0, isin2, cy, cz, E_ge0 (show n < 1000 by omega), m1, m6, m7, m8, t4, t5, t6, l4, l5, l6, gi_seti, gi_setr, gi_setl, gi_setrow, gr_seti, gr_setr, gr_setl, gr_setrow, gl_seti, gl_setr, gl_setl, gl_setrow, tg_seti, tg_setr, tg_setl, tg_setrow, ln_seti, ln_setr, ln_setl, ln_setrow, sz_seti, sz_setr, sz_setl, sz_setrow, sl_seti, sl_setr, sl_setl, sl_setrow, E_n (show e < 1000 by omega), he, aft_some, Option.toList_some, Option.toList_none, List.cons_append, List.nil_append, br0, br1, br2, br3, zr01, zr02, n10, n01, ne_eq, not_true_eq_false, not_false_eq_true, if_true, if_false, true_and, and_true, and_self]
            exact b1
        · refine ⟨-14, μ, μ, Hs, ?_, ?_, h, rfl, rfl, rfl, K1.rf⟩
          · show rn (d + 12) 106 0 [some (Sum.inr (Sum.inl (2))), some (Sum.inl (E e)), some (Sum.inl (y)), some (Sum.inl (z)), none] [] μ = _
            simp only [st106_0, st106_1, st106_2, st106_3, st106_4, st106_5, st106_6, st106_7, st106_8, st106_9, st106_10, st106_11, st106_12, st106_13, st106_14, st106_15, st106_16, st106_17, st106_18, st106_19, st106_20, st106_21, st106_22, st106_23, st106_24, st106_25, hc.1, f113 hc, c, E_n (show e < 1000 by omega), e0, cy0, cy2, cz, cz0, aft_some, Option.toList_some, Option.toList_none, List.cons_append, List.nil_append, br0, br1, br2, br3, zr01, zr02, n10, n01, ne_eq, not_true_eq_false, not_false_eq_true, if_true, if_false, true_and, and_true, and_self]
          · show rn (d + 12) 216 0 [some (Sum.inr (Sum.inl (69))), some (Sum.inl (E e)), some (Sum.inl (y)), some (Sum.inl (z)), none] [] μ = _
            simp only [st216_0, st216_1, st216_2, st216_3, st216_4, st216_5, st216_6, st216_7, st216_8, st216_9, st216_10, st216_11, st216_12, st216_13, st216_14, st216_15, st216_16, st216_17, st216_18, st216_19, st216_20, st216_21, st216_22, st216_23, st216_24, st216_25, st216_26, st216_27, st216_28, st216_29, st216_30, st216_31, st216_32, st216_33, st216_34, f140, E_ge0 (show e < 1000 by omega), E_lt8 he, f139, l_ge0, isin2, cy, cz, cz0, aft_some, Option.toList_some, Option.toList_none, List.cons_append, List.nil_append, br0, br1, br2, br3, zr01, zr02, n10, n01, ne_eq, not_true_eq_false, not_false_eq_true, if_true, if_false, true_and, and_true, and_self]
      · refine ⟨-1, μ, μ, Hs, ?_, ?_, h, rfl, rfl, rfl, K1.rf⟩
        · show rn (d + 12) 106 0 [some (Sum.inr (Sum.inl (2))), some (Sum.inl (E e)), some (Sum.inl (y)), some (Sum.inl (z)), none] [] μ = _
          simp only [st106_0, st106_1, st106_2, st106_3, st106_4, st106_5, st106_6, st106_7, st106_8, st106_9, st106_10, st106_11, st106_12, st106_13, st106_14, st106_15, st106_16, st106_17, st106_18, st106_19, st106_20, st106_21, st106_22, st106_23, st106_24, st106_25, hc.1, f113 hc, c, E_n (show e < 1000 by omega), e0, cy0, cy2, cz, aft_some, Option.toList_some, Option.toList_none, List.cons_append, List.nil_append, br0, br1, br2, br3, zr01, zr02, n10, n01, ne_eq, not_true_eq_false, not_false_eq_true, if_true, if_false, true_and, and_true, and_self]
        · show rn (d + 12) 216 0 [some (Sum.inr (Sum.inl (69))), some (Sum.inl (E e)), some (Sum.inl (y)), some (Sum.inl (z)), none] [] μ = _
          simp only [st216_0, st216_1, st216_2, st216_3, st216_4, st216_5, st216_6, st216_7, st216_8, st216_9, st216_10, st216_11, st216_12, st216_13, st216_14, st216_15, st216_16, st216_17, st216_18, st216_19, st216_20, st216_21, st216_22, st216_23, st216_24, st216_25, st216_26, st216_27, st216_28, st216_29, st216_30, st216_31, st216_32, st216_33, st216_34, f140, E_ge0 (show e < 1000 by omega), E_lt8 he, f139, l_ge0, isin2, cy, cz, aft_some, Option.toList_some, Option.toList_none, List.cons_append, List.nil_append, br0, br1, br2, br3, zr01, zr02, n10, n01, ne_eq, not_true_eq_false, not_false_eq_true, if_true, if_false, true_and, and_true, and_self]
    · refine ⟨-1, μ, μ, Hs, ?_, ?_, h, rfl, rfl, rfl, K1.rf⟩
      · show rn (d + 12) 106 0 [some (Sum.inr (Sum.inl (2))), some (Sum.inl (E e)), some (Sum.inl (y)), some (Sum.inl (z)), none] [] μ = _
        by_cases cy0 : y < 0
        · simp only [st106_0, st106_1, st106_2, st106_3, st106_4, st106_5, st106_6, st106_7, st106_8, st106_9, st106_10, st106_11, st106_12, st106_13, st106_14, st106_15, st106_16, st106_17, st106_18, st106_19, st106_20, st106_21, st106_22, st106_23, st106_24, st106_25, hc.1, f113 hc, c, E_n (show e < 1000 by omega), e0, cy0, aft_some, Option.toList_some, Option.toList_none, List.cons_append, List.nil_append, br0, br1, br2, br3, zr01, zr02, n10, n01, ne_eq, not_true_eq_false, not_false_eq_true, if_true, if_false, true_and, and_true, and_self]
        · have cy2 : (2 : Int32) < y := by
            refine Int32.not_le.mp fun q => cy ⟨Int32.not_lt.mp cy0, q⟩
          simp only [st106_0, st106_1, st106_2, st106_3, st106_4, st106_5, st106_6, st106_7, st106_8, st106_9, st106_10, st106_11, st106_12, st106_13, st106_14, st106_15, st106_16, st106_17, st106_18, st106_19, st106_20, st106_21, st106_22, st106_23, st106_24, st106_25, hc.1, f113 hc, c, E_n (show e < 1000 by omega), e0, cy0, cy2, aft_some, Option.toList_some, Option.toList_none, List.cons_append, List.nil_append, br0, br1, br2, br3, zr01, zr02, n10, n01, ne_eq, not_true_eq_false, not_false_eq_true, if_true, if_false, true_and, and_true, and_self]
      · show rn (d + 12) 216 0 [some (Sum.inr (Sum.inl (69))), some (Sum.inl (E e)), some (Sum.inl (y)), some (Sum.inl (z)), none] [] μ = _
        simp only [st216_0, st216_1, st216_2, st216_3, st216_4, st216_5, st216_6, st216_7, st216_8, st216_9, st216_10, st216_11, st216_12, st216_13, st216_14, st216_15, st216_16, st216_17, st216_18, st216_19, st216_20, st216_21, st216_22, st216_23, st216_24, st216_25, st216_26, st216_27, st216_28, st216_29, st216_30, st216_31, st216_32, st216_33, st216_34, f140, E_ge0 (show e < 1000 by omega), E_lt8 he, f139, l_ge0, isin2, cy, aft_some, Option.toList_some, Option.toList_none, List.cons_append, List.nil_append, br0, br1, br2, br3, zr01, zr02, n10, n01, ne_eq, not_true_eq_false, not_false_eq_true, if_true, if_false, true_and, and_true, and_self]
  · refine ⟨-1, μ, μ, Hs, ?_, ?_, h, rfl, rfl, rfl, K1.rf⟩
    · show rn (d + 12) 106 0 [some (Sum.inr (Sum.inl (2))), some (Sum.inl (x)), some (Sum.inl (y)), some (Sum.inl (z)), none] [] μ = _
      simp only [st106_0, st106_1, st106_2, st106_3, st106_4, st106_5, st106_6, st106_7, st106_8, st106_9, st106_10, st106_11, st106_12, st106_13, st106_14, st106_15, st106_16, st106_17, st106_18, st106_19, st106_20, st106_21, st106_22, st106_23, st106_24, st106_25, hc.1, f113 hc, c, aft_some, Option.toList_some, Option.toList_none, List.cons_append, List.nil_append, br0, br1, br2, br3, zr01, zr02, n10, n01, ne_eq, not_true_eq_false, not_false_eq_true, if_true, if_false, true_and, and_true, and_self]
    · show rn (d + 12) 216 0 [some (Sum.inr (Sum.inl (69))), some (Sum.inl (x)), some (Sum.inl (y)), some (Sum.inl (z)), none] [] μ = _
      simp only [st216_0, st216_1, st216_2, st216_3, st216_4, st216_5, st216_6, st216_7, st216_8, st216_9, st216_10, st216_11, st216_12, st216_13, st216_14, st216_15, st216_16, st216_17, st216_18, st216_19, st216_20, st216_21, st216_22, st216_23, st216_24, st216_25, st216_26, st216_27, st216_28, st216_29, st216_30, st216_31, st216_32, st216_33, st216_34, f140, c, aft_some, Option.toList_some, Option.toList_none, List.cons_append, List.nil_append, br0, br1, br2, br3, zr01, zr02, n10, n01, ne_eq, not_true_eq_false, not_false_eq_true, if_true, if_false, true_and, and_true, and_self]
theorem g105 {d : Nat} {x y z w : Int32} {A Ai : AT} {im : Nat} {Hs : Nat → HT} {μ : SMem} (h : INVw μ A Ai im Hs) : ∃ v μ1 μ2 Hs', cl (d + 12) 105 [Sum.inr (Sum.inl (2)), Sum.inl (x), Sum.inl (y), Sum.inl (z), Sum.inl (w)] μ = some (Sum.inl (some (Sum.inl (v))), μ1) ∧ cl (d + 12) 215 [Sum.inr (Sum.inl (69)), Sum.inl (x), Sum.inl (y), Sum.inl (z), Sum.inl (w)] μ1 = some (Sum.inl (some (Sum.inl (v))), μ2) ∧ INVw μ2 A Ai im Hs' ∧ Hs' 8 = Hs 8 ∧ sz μ2 ≤ sz μ + 1 ∧ sl μ2 ≤ sl μ + 1 ∧ K1 μ μ1 := by
  have hB := h.1
  obtain ⟨hm, hc, hw, ht, hr⟩ := hB
  have hu := h.2.2.2.2.2
  have h84 := h.2.2.2.2.1.1
  by_cases c : 0 ≤ x ∧ x < 8
  · obtain ⟨e, he, rfl⟩ := E_of (n := 8) c.1 c.2 (by decide)
    obtain ⟨hH, hC, hM⟩ := h.2.2.2.1 e he
    have e0 : (53 + 2 * e = 0) = False := eq_false (by omega)
    obtain ⟨x1', x2', x3', x4', x5'⟩ := hc.2.2.2.2.2.2.2.2.2.2.2 e he
    have q0 : ∀ c j, QSh e c j → c = 53 + 2 * e ∧ j = 0 := fun c j q => q
    by_cases cy : 0 ≤ y ∧ y ≤ 1
    · have cy0 : ¬ y < 0 := Int32.not_lt.mpr cy.1
      rcases in01.mp cy with y0 | y1
      · subst y0
        have s1 : SG (PC e) (QSh e) μ (seti (seti (setr μ (53 + 2 * e) 0 0) (53 + 2 * e) 1 0) (53 + 2 * e) 3 0) := sg_rss hu ⟨rfl, rfl⟩ (Or.inl rfl) (Or.inl rfl)
        have g1 : gr (seti (seti (setr μ (53 + 2 * e) 0 0) (53 + 2 * e) 1 0) (53 + 2 * e) 3 0) (53 + 2 * e) 0 = 0 := by rw [gr_seti, gr_seti, gr_setr, if_pos ⟨rfl, rfl⟩]
        have g2 : gi (seti (seti (setr μ (53 + 2 * e) 0 0) (53 + 2 * e) 1 0) (53 + 2 * e) 3 0) (53 + 2 * e) 1 = 0 := by rw [gi_seti, if_neg (by omega), gi_seti, if_pos ⟨rfl, rfl⟩]
        have g3 : ∀ i, gi (seti (seti (setr μ (53 + 2 * e) 0 0) (53 + 2 * e) 1 0) (53 + 2 * e) 3 0) (54 + 2 * e) i = gi μ (54 + 2 * e) i := fun i => by rw [gi_seti, if_neg (by omega), gi_seti, if_neg (by omega), gi_setr]
        have a1 := f55 (d := d + 11) (n := 0) x2'
        have hz1 : sz (seti (seti (setr μ (53 + 2 * e) 0 0) (53 + 2 * e) 1 0) (53 + 2 * e) 3 0) = sz μ := rfl
        have hz2 : sl (seti (seti (setr μ (53 + 2 * e) 0 0) (53 + 2 * e) 1 0) (53 + 2 * e) 3 0) = sl μ := rfl
        generalize seti (seti (setr μ (53 + 2 * e) 0 0) (53 + 2 * e) 1 0) (53 + 2 * e) 3 0 = μ1 at *
        have hm1 := hm.sg s1 (fun j q => by have := q0 _ _ q; omega)
        have hc1 := hc.sg s1 (fun c j q => by have := q0 _ _ q; omega)
        have hM1 := hM.sg hm s1 (fun c j p => by unfold PC at p; omega)
        have hu1 := s1.2.2.2.2.2
        have sM : SG (PMm e) NoC μ1 (seti (seti (seti μ1 74 e 0) 78 e z) 79 e w) := sg_seti3 hu1 (Or.inl ⟨by omega, rfl⟩) (Or.inl ⟨by omega, rfl⟩) (Or.inl ⟨by omega, rfl⟩)
        have fin := h.sh (H' := ((0, hso (Hs e), hsz (Hs e), hkd (Hs e), hfg (Hs e)), hel (Hs e))) he ((s1.wk (fun c j p => PC_sh p) (fun c j q => q)).tr (sM.wk (fun c j p => PMm_sh p) (fun c j q => q.elim))) ⟨(by decide : (0 : Nat) < 3), hH.2.1, hH.2.2.1, fun q => absurd (show 0 = 1 from q) (by decide)⟩ (ShC.sm (e := e) ⟨fun i hi => by rw [g3]; exact hC.1 i hi, fun q => absurd (show 0 = 2 from q) (by decide), fun q => absurd (show 0 = 1 from q) (by decide), fun _ => ⟨g1, g2⟩⟩ he hc1 hm1 sM) ⟨by rw [gi_seti, if_neg (by omega), gi_seti, if_neg (by omega), gi_seti, if_pos ⟨rfl, rfl⟩]; rfl, fun q => absurd (show 0 = 2 from q) (by decide), fun q => absurd (show 0 = 1 from q) (by decide), fun i hi => by rw [gi_seti, if_neg (by omega), gi_seti, if_neg (by omega), gi_seti, if_neg (by omega)]; exact hM1.2.2.2 i hi⟩
        refine ⟨0, μ1, _, _, ?_, ?_, fin, up8 he, by show sz μ1 ≤ _; omega, by show sl μ1 ≤ _; omega, K1.sg s1⟩
        · show rn (d + 12) 105 0 [some (Sum.inr (Sum.inl (2))), some (Sum.inl (E e)), some (Sum.inl (0)), some (Sum.inl (z)), some (Sum.inl (w)), none, none] [] μ = _
          simp only [st105_0, st105_1, st105_2, st105_3, st105_4, st105_5, st105_6, st105_7, st105_8, st105_9, st105_10, st105_11, st105_12, st105_13, st105_14, st105_15, st105_16, st105_17, st105_18, st105_19, st105_20, st105_21, st105_22, st105_23, st105_24, st105_25, st105_26, st105_27, st105_28, st105_29, st105_30, st105_31, st105_32, st105_33, hc.1, f113 hc, c, E_n (show e < 1000 by omega), e0, cy0, cy, n01, x2', a1, true_or, aft_some, Option.toList_some, Option.toList_none, List.cons_append, List.nil_append, br0, br1, br2, br3, zr01, zr02, n10, n01, ne_eq, not_true_eq_false, not_false_eq_true, if_true, if_false, true_and, and_true, and_self]
        · obtain ⟨m1, m2, m3, m4, m5, m6, m7, m8, m9, m10, m11, m12, m13, m14, ⟨t0, t1, t2, t3, t4, t5, t6, t7, t8, t9, t10, t11, t12⟩, l0, l1, l2, l3, l4, l5, l6, l7, l8, l9, l10, l11, l12⟩ := hm1
          show rn (d + 12) 215 0 [some (Sum.inr (Sum.inl (69))), some (Sum.inl (E e)), some (Sum.inl (0)), some (Sum.inl (z)), some (Sum.inl (w))] [] μ1 = _
          simp only [st215_0, st215_1, st215_2, st215_3, st215_4, st215_5, st215_6, st215_7, st215_8, st215_9, st215_10, st215_11, st215_12, st215_13, st215_14, st215_15, st215_16, st215_17, st215_18, st215_19, st215_20, st215_21, st215_22, st215_23, st215_24, st215_25, st215_26, st215_27, st215_28, st215_29, st215_30, st215_31, st215_32, st215_33, st215_34, f140, E_ge0 (show e < 1000 by omega), E_lt8 he, f139, l_ge0, isin01, cy, m1, m6, m10, m11, t4, t8, t9, l4, l8, l9, gi_seti, gi_setr, gi_setl, gi_setrow, gr_seti, gr_setr, gr_setl, gr_setrow, gl_seti, gl_setr, gl_setl, gl_setrow, tg_seti, tg_setr, tg_setl, tg_setrow, ln_seti, ln_setr, ln_setl, ln_setrow, sz_seti, sz_setr, sz_setl, sz_setrow, sl_seti, sl_setr, sl_setl, sl_setrow, E_n (show e < 1000 by omega), he, aft_some, Option.toList_some, Option.toList_none, List.cons_append, List.nil_append, br0, br1, br2, br3, zr01, zr02, n10, n01, ne_eq, not_true_eq_false, not_false_eq_true, if_true, if_false, true_and, and_true, and_self]
      · subst y1
        by_cases cc : (0 ≤ z ∧ z ≤ 7) ∧ 0 ≤ w ∧ w ≤ 9
        · obtain ⟨k, hk, rfl⟩ := E_of (x := z) (n := 8) cc.1.1 (by have := Int32.le_iff_toInt_le.mp cc.1.2; exact Int32.lt_iff_toInt_lt.mpr (by have e : (7 : Int32).toInt = 7 := rfl; have e0 : (E 8).toInt = 8 := rfl; omega)) (by decide)
          obtain ⟨f, hf, rfl⟩ := E_of (x := w) (n := 10) cc.2.1 (by have := Int32.le_iff_toInt_le.mp cc.2.2; exact Int32.lt_iff_toInt_lt.mpr (by have e : (9 : Int32).toInt = 9 := rfl; have e0 : (E 10).toInt = 10 := rfl; omega)) (by decide)
          obtain ⟨μa, b1, b2, b3, b4, b5⟩ := f136 (d := d + 8) hk hf (show 2 ≤ sz μ by omega) hu
          have hua := b2.2.2.2.2.2
          have hca := hc.sg b2 (fun c j q => q.elim)
          have xa2 := (hca.2.2.2.2.2.2.2.2.2.2.2 e he).2.1
          have n0 : (sz μ = 0) = False := eq_false (by omega)
          have s1 : SG (PC e) (QSh e) μ (seti (seti (setr μa (53 + 2 * e) 0 (sz μ)) (53 + 2 * e) 1 0) (53 + 2 * e) 3 0) := (b2.wk (fun c j p => p.elim) (fun c j q => q.elim)).tr (sg_rss hua ⟨rfl, rfl⟩ (Or.inl rfl) (Or.inl rfl))
          have g1 : gr (seti (seti (setr μa (53 + 2 * e) 0 (sz μ)) (53 + 2 * e) 1 0) (53 + 2 * e) 3 0) (53 + 2 * e) 0 = sz μ := by rw [gr_seti, gr_seti, gr_setr, if_pos ⟨rfl, rfl⟩]
          have g2 : gi (seti (seti (setr μa (53 + 2 * e) 0 (sz μ)) (53 + 2 * e) 1 0) (53 + 2 * e) 3 0) (53 + 2 * e) 1 = 0 := by rw [gi_seti, if_neg (by omega), gi_seti, if_pos ⟨rfl, rfl⟩]
          have g3 : ∀ c i, c ≠ 53 + 2 * e → gi (seti (seti (setr μa (53 + 2 * e) 0 (sz μ)) (53 + 2 * e) 1 0) (53 + 2 * e) 3 0) c i = gi μa c i := fun c i hci => by rw [gi_seti, if_neg (fun e => hci e.1), gi_seti, if_neg (fun e => hci e.1), gi_setr]
          have g4 : tg (seti (seti (setr μa (53 + 2 * e) 0 (sz μ)) (53 + 2 * e) 1 0) (53 + 2 * e) 3 0) = tg μa := rfl
          have a1 := f55 (d := d + 11) (n := sz μ) xa2
          have hz1 : sz (seti (seti (setr μa (53 + 2 * e) 0 (sz μ)) (53 + 2 * e) 1 0) (53 + 2 * e) 3 0) = sz μa := rfl
          have hz2 : sl (seti (seti (setr μa (53 + 2 * e) 0 (sz μ)) (53 + 2 * e) 1 0) (53 + 2 * e) 3 0) = sl μa := rfl
          generalize seti (seti (setr μa (53 + 2 * e) 0 (sz μ)) (53 + 2 * e) 1 0) (53 + 2 * e) 3 0 = μ1 at *
          have hm1 := hm.sg s1 (fun j q => by have := q0 _ _ q; omega)
          have hc1 := hc.sg s1 (fun c j q => by have := q0 _ _ q; omega)
          have hM1 := hM.sg hm s1 (fun c j p => by unfold PC at p; omega)
          have hu1 := s1.2.2.2.2.2
          have hrd : RdA μ1 (sz μ) k f := ⟨by rw [g4]; exact b3.1, by rw [g3 _ _ (by omega)]; exact b3.2.1, b3.2.2⟩
          have sM : SG (PMm e) NoC μ1 (seti (seti (seti μ1 74 e 1) 78 e (E k)) 79 e (E f)) := sg_seti3 hu1 (Or.inl ⟨by omega, rfl⟩) (Or.inl ⟨by omega, rfl⟩) (Or.inl ⟨by omega, rfl⟩)
          have fin := h.sh (H' := ((1, hso (Hs e), hsz (Hs e), k, f), hel (Hs e))) he ((s1.wk (fun c j p => PC_sh p) (fun c j q => q)).tr (sM.wk (fun c j p => PMm_sh p) (fun c j q => q.elim))) ⟨(by decide : (1 : Nat) < 3), hH.2.1, hH.2.2.1, fun _ => ⟨hk, hf⟩⟩ (ShC.sm (e := e) ⟨fun i hi => by rw [g3 _ _ (by omega), b2.2.1 _ i (by rw [x4']; decide) (fun q => q)]; exact hC.1 i hi, fun q => absurd (show 1 = 2 from q) (by decide), fun _ => ⟨g2, by rw [g1]; omega, by rw [g1]; exact hrd⟩, fun q => absurd (show 1 = 0 from q) (by decide)⟩ he hc1 hm1 sM) ⟨by rw [gi_seti, if_neg (by omega), gi_seti, if_neg (by omega), gi_seti, if_pos ⟨rfl, rfl⟩]; rfl, fun q => absurd (show 1 = 2 from q) (by decide), fun _ => ⟨by rw [gi_seti, if_neg (by omega), gi_seti, if_pos ⟨rfl, rfl⟩]; rfl, by rw [gi_seti, if_pos ⟨rfl, rfl⟩]; rfl⟩, fun i hi => by rw [gi_seti, if_neg (by omega), gi_seti, if_neg (by omega), gi_seti, if_neg (by omega)]; exact hM1.2.2.2 i hi⟩
          refine ⟨0, μ1, _, _, ?_, ?_, fin, up8 he, by show sz μ1 ≤ _; omega, by show sl μ1 ≤ _; omega, K1.sg s1⟩
          · show rn (d + 12) 105 0 [some (Sum.inr (Sum.inl (2))), some (Sum.inl (E e)), some (Sum.inl (1)), some (Sum.inl (E k)), some (Sum.inl (E f)), none, none] [] μ = _
            simp only [st105_0, st105_1, st105_2, st105_3, st105_4, st105_5, st105_6, st105_7, st105_8, st105_9, st105_10, st105_11, st105_12, st105_13, st105_14, st105_15, st105_16, st105_17, st105_18, st105_19, st105_20, st105_21, st105_22, st105_23, st105_24, st105_25, st105_26, st105_27, st105_28, st105_29, st105_30, st105_31, st105_32, st105_33, hc.1, f113 hc, c, E_n (show e < 1000 by omega), e0, cy0, cy, b1, n0, xa2, b3.rd, or_true, a1, aft_some, Option.toList_some, Option.toList_none, List.cons_append, List.nil_append, br0, br1, br2, br3, zr01, zr02, n10, n01, ne_eq, not_true_eq_false, not_false_eq_true, if_true, if_false, true_and, and_true, and_self]
          · obtain ⟨m1, m2, m3, m4, m5, m6, m7, m8, m9, m10, m11, m12, m13, m14, ⟨t0, t1, t2, t3, t4, t5, t6, t7, t8, t9, t10, t11, t12⟩, l0, l1, l2, l3, l4, l5, l6, l7, l8, l9, l10, l11, l12⟩ := hm1
            show rn (d + 12) 215 0 [some (Sum.inr (Sum.inl (69))), some (Sum.inl (E e)), some (Sum.inl (1)), some (Sum.inl (E k)), some (Sum.inl (E f))] [] μ1 = _
            simp only [st215_0, st215_1, st215_2, st215_3, st215_4, st215_5, st215_6, st215_7, st215_8, st215_9, st215_10, st215_11, st215_12, st215_13, st215_14, st215_15, st215_16, st215_17, st215_18, st215_19, st215_20, st215_21, st215_22, st215_23, st215_24, st215_25, st215_26, st215_27, st215_28, st215_29, st215_30, st215_31, st215_32, st215_33, st215_34, f140, E_ge0 (show e < 1000 by omega), E_lt8 he, f139, l_ge0, isin01, cy, f195, cc, m1, m6, m10, m11, t4, t8, t9, l4, l8, l9, gi_seti, gi_setr, gi_setl, gi_setrow, gr_seti, gr_setr, gr_setl, gr_setrow, gl_seti, gl_setr, gl_setl, gl_setrow, tg_seti, tg_setr, tg_setl, tg_setrow, ln_seti, ln_setr, ln_setl, ln_setrow, sz_seti, sz_setr, sz_setl, sz_setrow, sl_seti, sl_setr, sl_setl, sl_setrow, E_n (show e < 1000 by omega), he, aft_some, Option.toList_some, Option.toList_none, List.cons_append, List.nil_append, br0, br1, br2, br3, zr01, zr02, n10, n01, ne_eq, not_true_eq_false, not_false_eq_true, if_true, if_false, true_and, and_true, and_self]
        · refine ⟨-1, μ, μ, Hs, ?_, ?_, h, rfl, by omega, by omega, K1.rf⟩
          · show rn (d + 12) 105 0 [some (Sum.inr (Sum.inl (2))), some (Sum.inl (E e)), some (Sum.inl (1)), some (Sum.inl (z)), some (Sum.inl (w)), none, none] [] μ = _
            simp only [st105_0, st105_1, st105_2, st105_3, st105_4, st105_5, st105_6, st105_7, st105_8, st105_9, st105_10, st105_11, st105_12, st105_13, st105_14, st105_15, st105_16, st105_17, st105_18, st105_19, st105_20, st105_21, st105_22, st105_23, st105_24, st105_25, st105_26, st105_27, st105_28, st105_29, st105_30, st105_31, st105_32, st105_33, hc.1, f113 hc, c, E_n (show e < 1000 by omega), e0, cy0, cy, f136n cc, aft_some, Option.toList_some, Option.toList_none, List.cons_append, List.nil_append, br0, br1, br2, br3, zr01, zr02, n10, n01, ne_eq, not_true_eq_false, not_false_eq_true, if_true, if_false, true_and, and_true, and_self]
          · show rn (d + 12) 215 0 [some (Sum.inr (Sum.inl (69))), some (Sum.inl (E e)), some (Sum.inl (1)), some (Sum.inl (z)), some (Sum.inl (w))] [] μ = _
            simp only [st215_0, st215_1, st215_2, st215_3, st215_4, st215_5, st215_6, st215_7, st215_8, st215_9, st215_10, st215_11, st215_12, st215_13, st215_14, st215_15, st215_16, st215_17, st215_18, st215_19, st215_20, st215_21, st215_22, st215_23, st215_24, st215_25, st215_26, st215_27, st215_28, st215_29, st215_30, st215_31, st215_32, st215_33, st215_34, f140, E_ge0 (show e < 1000 by omega), E_lt8 he, f139, l_ge0, isin01, cy, f195, cc, aft_some, Option.toList_some, Option.toList_none, List.cons_append, List.nil_append, br0, br1, br2, br3, zr01, zr02, n10, n01, ne_eq, not_true_eq_false, not_false_eq_true, if_true, if_false, true_and, and_true, and_self]
    · refine ⟨-1, μ, μ, Hs, ?_, ?_, h, rfl, by omega, by omega, K1.rf⟩
      · show rn (d + 12) 105 0 [some (Sum.inr (Sum.inl (2))), some (Sum.inl (E e)), some (Sum.inl (y)), some (Sum.inl (z)), some (Sum.inl (w)), none, none] [] μ = _
        by_cases cy0 : y < 0
        · simp only [st105_0, st105_1, st105_2, st105_3, st105_4, st105_5, st105_6, st105_7, st105_8, st105_9, st105_10, st105_11, st105_12, st105_13, st105_14, st105_15, st105_16, st105_17, st105_18, st105_19, st105_20, st105_21, st105_22, st105_23, st105_24, st105_25, st105_26, st105_27, st105_28, st105_29, st105_30, st105_31, st105_32, st105_33, hc.1, f113 hc, c, E_n (show e < 1000 by omega), e0, cy0, aft_some, Option.toList_some, Option.toList_none, List.cons_append, List.nil_append, br0, br1, br2, br3, zr01, zr02, n10, n01, ne_eq, not_true_eq_false, not_false_eq_true, if_true, if_false, true_and, and_true, and_self]
        · have cy1 : ¬ y ≤ 1 := fun q => cy ⟨Int32.not_lt.mp cy0, q⟩
          simp only [st105_0, st105_1, st105_2, st105_3, st105_4, st105_5, st105_6, st105_7, st105_8, st105_9, st105_10, st105_11, st105_12, st105_13, st105_14, st105_15, st105_16, st105_17, st105_18, st105_19, st105_20, st105_21, st105_22, st105_23, st105_24, st105_25, st105_26, st105_27, st105_28, st105_29, st105_30, st105_31, st105_32, st105_33, hc.1, f113 hc, c, E_n (show e < 1000 by omega), e0, cy0, cy1, aft_some, Option.toList_some, Option.toList_none, List.cons_append, List.nil_append, br0, br1, br2, br3, zr01, zr02, n10, n01, ne_eq, not_true_eq_false, not_false_eq_true, if_true, if_false, true_and, and_true, and_self]
      · show rn (d + 12) 215 0 [some (Sum.inr (Sum.inl (69))), some (Sum.inl (E e)), some (Sum.inl (y)), some (Sum.inl (z)), some (Sum.inl (w))] [] μ = _
        simp only [st215_0, st215_1, st215_2, st215_3, st215_4, st215_5, st215_6, st215_7, st215_8, st215_9, st215_10, st215_11, st215_12, st215_13, st215_14, st215_15, st215_16, st215_17, st215_18, st215_19, st215_20, st215_21, st215_22, st215_23, st215_24, st215_25, st215_26, st215_27, st215_28, st215_29, st215_30, st215_31, st215_32, st215_33, st215_34, f140, E_ge0 (show e < 1000 by omega), E_lt8 he, f139, l_ge0, isin01, cy, aft_some, Option.toList_some, Option.toList_none, List.cons_append, List.nil_append, br0, br1, br2, br3, zr01, zr02, n10, n01, ne_eq, not_true_eq_false, not_false_eq_true, if_true, if_false, true_and, and_true, and_self]
  · refine ⟨-1, μ, μ, Hs, ?_, ?_, h, rfl, by omega, by omega, K1.rf⟩
    · show rn (d + 12) 105 0 [some (Sum.inr (Sum.inl (2))), some (Sum.inl (x)), some (Sum.inl (y)), some (Sum.inl (z)), some (Sum.inl (w)), none, none] [] μ = _
      simp only [st105_0, st105_1, st105_2, st105_3, st105_4, st105_5, st105_6, st105_7, st105_8, st105_9, st105_10, st105_11, st105_12, st105_13, st105_14, st105_15, st105_16, st105_17, st105_18, st105_19, st105_20, st105_21, st105_22, st105_23, st105_24, st105_25, st105_26, st105_27, st105_28, st105_29, st105_30, st105_31, st105_32, st105_33, hc.1, f113 hc, c, aft_some, Option.toList_some, Option.toList_none, List.cons_append, List.nil_append, br0, br1, br2, br3, zr01, zr02, n10, n01, ne_eq, not_true_eq_false, not_false_eq_true, if_true, if_false, true_and, and_true, and_self]
    · show rn (d + 12) 215 0 [some (Sum.inr (Sum.inl (69))), some (Sum.inl (x)), some (Sum.inl (y)), some (Sum.inl (z)), some (Sum.inl (w))] [] μ = _
      simp only [st215_0, st215_1, st215_2, st215_3, st215_4, st215_5, st215_6, st215_7, st215_8, st215_9, st215_10, st215_11, st215_12, st215_13, st215_14, st215_15, st215_16, st215_17, st215_18, st215_19, st215_20, st215_21, st215_22, st215_23, st215_24, st215_25, st215_26, st215_27, st215_28, st215_29, st215_30, st215_31, st215_32, st215_33, st215_34, f140, c, aft_some, Option.toList_some, Option.toList_none, List.cons_append, List.nil_append, br0, br1, br2, br3, zr01, zr02, n10, n01, ne_eq, not_true_eq_false, not_false_eq_true, if_true, if_false, true_and, and_true, and_self]
