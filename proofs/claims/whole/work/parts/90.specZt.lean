/-! SPECS ZT: comes, toss -/
def PTw (c j : Nat) : Prop := (3 ≤ c ∧ c ≤ 32) ∨ (49 ≤ c ∧ c ≤ 52) ∨ (c = 69 ∧ j ≠ 10) ∨ c = 70 ∨ c = 72 ∨ c = 73 ∨ (80 ≤ c ∧ c ≤ 82)
def QTw (c j : Nat) : Prop := 3 ≤ c ∧ c ≤ 32
theorem TwS.tag {μ : SMem} {T c : Nat} (h : TwS μ T) (h1 : T ≤ c) (h2 : c ≤ T + 14) : isRd (tg μ c) = false ∧ tg μ c ≠ 99 := by
  obtain ⟨s1, s2, s3, s4, s5, s6, s7, s8, s9⟩ := h
  have : tg μ c = 10 ∨ tg μ c = 53 ∨ tg μ c = 52 ∨ tg μ c = 1 ∨ tg μ c = 50 := by
    by_cases c0 : c = T
    · subst c0; exact Or.inl s1
    by_cases c1 : c = T + 1
    · subst c1; exact Or.inr (Or.inl s4)
    by_cases c2 : c = T + 2
    · subst c2; exact Or.inr (Or.inr (Or.inl s6))
    obtain ⟨b, hb, hc⟩ : ∃ b, b < 4 ∧ (c = T + 3 + 3 * b ∨ c = T + 3 + 3 * b + 1 ∨ c = T + 3 + 3 * b + 2) := ⟨(c - T - 3) / 3, by omega, by omega⟩
    obtain ⟨y1, y2, y3, y4, y5, y6, y7⟩ := (s8 b hb).2
    rcases hc with q | q | q <;> subst q
    · exact Or.inr (Or.inr (Or.inr (Or.inl y1)))
    · exact Or.inr (Or.inr (Or.inr (Or.inr y4)))
    · exact Or.inr (Or.inr (Or.inr (Or.inr y6)))
  rcases this with q | q | q | q | q <;> rw [q] <;> decide
theorem INVw.tgP {A Ai : AT} {im : Nat} {Hs : Nat → HT} {μ : SMem} (h : INVw μ A Ai im Hs) : ∀ c j, PTw c j → isRd (tg μ c) = false := by
  intro c j p
  by_cases q : 18 ≤ c ∧ c ≤ 32
  · exact (h.2.1.1.tag q.1 (by omega)).1
  · exact scr_tag h.1 (by unfold PTw at p; unfold Scr; omega)
theorem INVw.tw {A A' Ai : AT} {im : Nat} {Hs : Nat → HT} {μ μ' : SMem} (h : INVw μ A Ai im Hs) (hs : SG PTw QTw μ μ') (hB : Both μ' A') (h18 : TwS μ' 18) : INVw μ' A' Ai im Hs := by
  have tp := h.tgP
  obtain ⟨⟨hm, hc, hw, ht, hr⟩, ⟨hs18, hs33⟩, ⟨i1, i2, i3, i4⟩, hsh, h84, hu⟩ := h
  have hm0 := hm
  obtain ⟨m1, m2, m3, m4, m5, m6, m7, m8, m9, m10, m11, m12, m13, m14, ⟨t0, t1, t2, t3, t4, t5, t6, t7, t8, t9, t10, t11, t12⟩, l0, l1, l2, l3, l4, l5, l6, l7, l8, l9, l10, l11, l12⟩ := hm
  have g71 : gi μ' 71 = gi μ 71 := funext fun j => hs.2.1 71 j (by rw [t1]; decide) (fun q => by unfold PTw at q; omega)
  refine ⟨hB, ⟨h18, hs33.sg hs (fun c j q => by unfold QTw at q; omega)⟩, ⟨i1, ?_, ?_, fun q => ?_⟩, fun e he => ?_, ⟨Nat.le_trans h84.1 hs.2.2.2.1.1, h84.2.sg hs⟩, hs.2.2.2.2.2⟩
  · rw [hs.2.1 2 3 (by rw [hc.1]; decide) (fun q => by unfold PTw at q; omega)]; exact i2
  · rw [hs.2.1 69 10 (by rw [m1]; decide) (fun q => by unfold PTw at q; omega)]; exact i3
  · obtain ⟨a, b, c⟩ := i4 q
    exact ⟨a, b.sg hs (fun c j q => ⟨by unfold PTw at q; omega, tp c j q⟩) (fun c j q => by unfold QTw at q; omega), by rw [g71]; exact c⟩
  · obtain ⟨a, b, c⟩ := hsh e he
    exact ⟨a, b.sg he hc hs (fun c j p => ⟨by unfold PTw at p; omega, by unfold PTw at p; omega, tp c j p⟩) (fun c j p => by unfold QTw at p; omega), c.sg hm0 hs (fun c j p => by unfold PTw at p; omega)⟩
theorem INVw.same {A Ai : AT} {im : Nat} {Hs : Nat → HT} {μ μ' : SMem} (h : INVw μ A Ai im Hs) (hs : SG NoC NoC μ μ') : INVw μ' A Ai im Hs := by
  have hm := h.1.1
  obtain ⟨_, hc, hw, ht, hr⟩ := h.1
  have g70 : gi μ' 70 = gi μ 70 := by
    obtain ⟨m1, m2, m3, m4, m5, m6, m7, m8, m9, m10, m11, m12, m13, m14, ⟨t0, t1, t2, t3, t4, t5, t6, t7, t8, t9, t10, t11, t12⟩, l0, l1, l2, l3, l4, l5, l6, l7, l8, l9, l10, l11, l12⟩ := hm
    exact funext fun j => hs.2.1 70 j (by rw [t0]; decide) (fun q => q)
  refine h.tw (hs.wk (fun c j q => q.elim) (fun c j q => q.elim)) ⟨hm.sg hs (fun j q => q), hc.sg hs (fun c j q => q.elim), hw, ht.sg hs (fun c j q => q.elim) (fun c j q => q.elim), by rw [g70]; exact hr⟩ (h.2.1.1.sg hs (fun c j q => q.elim))
def adR (A : AT) (k f : Nat) : AT := ((bcA A, rcA A + 1, dyA A), pgA A, inA A, ndA A, hoA A, up1 (kdA A) (rcA A) k, up1 (fgA A) (rcA A) f)
theorem adR_wf {A : AT} {k f : Nat} (hw : WF A) (hr : rcA A < 6) (hk : k < 8) (hf : f < 10) : WF (adR A k f) := by
  obtain ⟨w1, w2, w3, w4, w5⟩ := hw
  refine ⟨w1, by show rcA A + 1 ≤ 6; omega, fun b hb => ?_, w4, fun r hr9 => ?_⟩
  · obtain ⟨v1, v2, v3, v4, v5, v6⟩ := w3 b hb
    refine ⟨v1, v2, v3, v4, v5, fun p hp => (v6 p hp).imp id (fun ⟨r, h1, h2⟩ => ⟨r, by show r < rcA A + 1; omega, h2⟩)⟩
  · have hr' : r < rcA A + 1 := hr9
    show up1 (kdA A) (rcA A) k r < 8 ∧ up1 (fgA A) (rcA A) f r < 10
    by_cases q : r = rcA A
    · rw [up1, if_pos q, up1, if_pos q]; exact ⟨hk, hf⟩
    · rw [up1, if_neg q, up1, if_neg q]; exact w5 r (by omega)
theorem f71n {d T n : Nat} {A : AT} {μ : SMem} (hw : WF A) (ht : TwC μ T A) (hr : ¬ rcA A < 6) (hn : n ≠ 0) : cl d 71 [Sum.inr (Sum.inl (T)), Sum.inr (Sum.inl (n))] μ = some (Sum.inl (some (Sum.inl (0))), μ) := by
  have l1 : (E (rcA A) < 6) = False := by rw [show (6 : Int32) = E 6 from rfl, E_ltE (by have := hw.2.1; omega) (by decide)]; exact eq_false hr
  show rn d 71 0 [some (Sum.inr (Sum.inl (T))), some (Sum.inr (Sum.inl (n)))] [] μ = _
  simp only [st71_0, st71_1, st71_2, st71_3, st71_4, st71_5, st71_6, st71_7, st71_8, st71_9, st71_10, st71_11, st71_12, st71_13, st71_14, st71_15, st71_16, st71_17, st71_18, st71_19, st71_20, st71_21, hn, ht.1.1, ht.2.2.1, l1, true_or, aft_some, Option.toList_some, Option.toList_none, List.cons_append, List.nil_append, br0, br1, br2, br3, zr01, zr02, n10, n01, ne_eq, not_true_eq_false, not_false_eq_true, if_true, if_false, true_and, and_true, and_self]
theorem f71 {d T n k f : Nat} {A : AT} {μ : SMem} (hT3 : 3 ≤ T) (hw : WF A) (ht : TwC μ T A) (hr : rcA A < 6) (hn : n ≠ 0) (hrd : RdA μ n k f) (hu : ∀ c, sz μ ≤ c → tg μ c = 99) : ∃ μ', cl d 71 [Sum.inr (Sum.inl (T)), Sum.inr (Sum.inl (n))] μ = some (Sum.inl (some (Sum.inl (1))), μ') ∧ SG (fun c j => c = T ∧ j = 3) (fun c j => c = T + 2) μ μ' ∧ (sz μ' = sz μ ∧ sl μ' = sl μ) ∧ TwC μ' T (adR A k f) := by
  have l1 : (E (rcA A) < 6) = True := by rw [show (6 : Int32) = E 6 from rfl, E_ltE (by omega) (by decide)]; exact eq_true hr
  have r9 : rcA A < 1000 := by omega
  have ht0 := ht
  obtain ⟨⟨s1, s2, s3, s4, s5, s6, s7, s8, s9⟩, t2, t3, t4, t5, t6⟩ := ht
  have hs1 : SG (fun c j => c = T ∧ j = 3) (fun c j => c = T + 2) μ (setr μ (T + 2) (rcA A) n) := SG.setr hu rfl
  have hs2 : SG (fun c j => c = T ∧ j = 3) (fun c j => c = T + 2) (setr μ (T + 2) (rcA A) n) (seti (setr μ (T + 2) (rcA A) n) T 3 (E (rcA A + 1))) := SG.seti hu ⟨rfl, rfl⟩ (by omega)
  have hs := hs1.tr hs2
  have gt : tg (seti (setr μ (T + 2) (rcA A) n) T 3 (E (rcA A + 1))) = tg μ := rfl
  have gl9 : ln (seti (setr μ (T + 2) (rcA A) n) T 3 (E (rcA A + 1))) = ln μ := rfl
  have gr1 : ∀ c j, gr (seti (setr μ (T + 2) (rcA A) n) T 3 (E (rcA A + 1))) c j = if c = T + 2 ∧ j = rcA A then n else gr μ c j := fun c j => by rw [gr_seti, gr_setr]
  have gi1 : ∀ c j, gi (seti (setr μ (T + 2) (rcA A) n) T 3 (E (rcA A + 1))) c j = if c = T ∧ j = 3 then E (rcA A + 1) else gi μ c j := fun c j => by rw [gi_seti, gi_setr]
  have nT : n ≠ T := fun e => by have := hrd.rd; rw [e, s1] at this; exact absurd this (by decide)
  refine ⟨_, ?_, hs, ⟨rfl, rfl⟩, ?_⟩
  · show rn d 71 0 [some (Sum.inr (Sum.inl (T))), some (Sum.inr (Sum.inl (n)))] [] μ = _
    simp only [st71_0, st71_1, st71_2, st71_3, st71_4, st71_5, st71_6, st71_7, st71_8, st71_9, st71_10, st71_11, st71_12, st71_13, st71_14, st71_15, st71_16, st71_17, st71_18, st71_19, st71_20, st71_21, hn, s1, s3, t3, l1, s6, s7, E_ge0 r9, E_n r9, hr, hrd.rd, or_true, false_or, gi_seti, gi_setr, gi_setl, gi_setrow, gr_seti, gr_setr, gr_setl, gr_setrow, gl_seti, gl_setr, gl_setl, gl_setrow, tg_seti, tg_setr, tg_setl, tg_setrow, ln_seti, ln_setr, ln_setl, ln_setrow, sz_seti, sz_setr, sz_setl, sz_setrow, sl_seti, sl_setr, sl_setl, sl_setrow, show E (rcA A) + 1 = E (rcA A + 1) from E_add _ 1, aft_some, Option.toList_some, Option.toList_none, List.cons_append, List.nil_append, br0, br1, br2, br3, zr01, zr02, n10, n01, ne_eq, not_true_eq_false, not_false_eq_true, if_true, if_false, true_and, and_true, and_self]
  · generalize seti (setr μ (T + 2) (rcA A) n) T 3 (E (rcA A + 1)) = μ1 at *
    refine ⟨⟨by rw [gt]; exact s1, by rw [gr1, if_neg (by omega)]; exact s2, by rw [gr1, if_neg (by omega)]; exact s3, by rw [gt]; exact s4, by rw [gl9]; exact s5, by rw [gt]; exact s6, by rw [gl9]; exact s7, fun b hb => ⟨by rw [gr1, if_neg (by omega)]; exact (s8 b hb).1, (s8 b hb).2.sg hs (fun j q => by omega)⟩, fun r hr9 => ?_⟩, by rw [gi1, if_neg (by omega)]; exact t2, by rw [gi1, if_pos ⟨rfl, rfl⟩]; rfl, by rw [gi1, if_neg (by omega)]; exact t4, fun b hb => ?_, fun r hr9 => ?_⟩
    · rw [gr1, gt]
      by_cases q : r = rcA A
      · rw [if_pos ⟨rfl, q⟩]; exact Or.inr hrd.rd
      · rw [if_neg (fun h => q h.2)]; exact s9 r hr9
    · obtain ⟨x1, x2, x3, x4⟩ := t5 b hb
      exact ⟨by rw [gi1, if_neg (by omega)]; exact x1, by rw [gi1, if_neg (by omega)]; exact x2, fun p hp => by rw [gi1, if_neg (by omega)]; exact x3 p hp, fun p hp => by rw [gi1, if_neg (by omega)]; exact x4 p hp⟩
    · have hr' : r < rcA A + 1 := hr9
      have rdk : ∀ m k f, m ≠ T → RdA μ m k f → RdA μ1 m k f := fun m k f hm h => ⟨by rw [gt]; exact h.1, by rw [gi1, if_neg (fun e => hm e.1)]; exact h.2.1, h.2.2⟩
      rw [gr1]
      show _ ∧ RdA μ1 _ (up1 (kdA A) (rcA A) k r) (up1 (fgA A) (rcA A) f r)
      by_cases q : r = rcA A
      · rw [if_pos ⟨rfl, q⟩, up1, if_pos q, up1, if_pos q]
        exact ⟨hn, rdk n k f nT hrd⟩
      · rw [if_neg (fun h => q h.2), up1, if_neg q, up1, if_neg q]
        obtain ⟨y1, y2⟩ := t6 r (by omega)
        exact ⟨y1, rdk _ _ _ (fun e => by have := y2.rd; rw [e, s1] at this; exact absurd this (by decide)) y2⟩
theorem f166n {d : Nat} {x y : Int32} {A : AT} {μ : SMem} (hm : MA μ) (h1 : gi μ 70 1 = E (rcA A)) (hr : rcA A = 6) : cl d 166 [Sum.inr (Sum.inl (69)), Sum.inl (x), Sum.inl (y)] μ = some (Sum.inl (some (Sum.inl (0))), μ) := by
  obtain ⟨m1, m2, m3, m4, m5, m6, m7, m8, m9, m10, m11, m12, m13, m14, ⟨t0, t1, t2, t3, t4, t5, t6, t7, t8, t9, t10, t11, t12⟩, l0, l1, l2, l3, l4, l5, l6, l7, l8, l9, l10, l11, l12⟩ := hm
  show rn d 166 0 [some (Sum.inr (Sum.inl (69))), some (Sum.inl (x)), some (Sum.inl (y))] [] μ = _
  simp only [st166_0, st166_1, st166_2, st166_3, st166_4, st166_5, st166_6, st166_7, st166_8, st166_9, st166_10, st166_11, st166_12, st166_13, st166_14, st166_15, st166_16, st166_17, st166_18, st166_19, st166_20, st166_21, st166_22, st166_23, st166_24, st166_25, st166_26, st166_27, st166_28, st166_29, st166_30, st166_31, st166_32, st166_33, st166_34, st166_35, st166_36, st166_37, st166_38, st166_39, st166_40, st166_41, st166_42, st166_43, m1, m2, t0, l0, z01, zn1, zl1, h1, hr, show (E 6 = (6 : Int32)) = True from eq_true rfl, true_or, aft_some, Option.toList_some, Option.toList_none, List.cons_append, List.nil_append, br0, br1, br2, br3, zr01, zr02, n10, n01, ne_eq, not_true_eq_false, not_false_eq_true, if_true, if_false, true_and, and_true, and_self]
theorem f166 {d k f : Nat} {A : AT} {μ : SMem} (hm : MA μ) (hw : WF A) (hM : MRw (gi μ 70) A) (hr : rcA A < 6) : ∃ μ', cl d 166 [Sum.inr (Sum.inl (69)), Sum.inl (E k), Sum.inl (E f)] μ = some (Sum.inl (some (Sum.inl (1))), μ') ∧ SB (fun c => c = 70) μ μ' ∧ MRw (gi μ' 70) (adR A k f) := by
  have w1 := hw.1
  have ne : (E (rcA A) = (6 : Int32)) = False := by rw [show (6 : Int32) = E 6 from rfl, eq_iff_iff, E_inj (by omega) (by decide)]; exact ⟨fun e => by omega, False.elim⟩
  have e1 : (75 : Int32) + 2 * E (rcA A) = E (75 + 2 * rcA A) := ix75 _
  have e2 : E (75 + 2 * rcA A) + 1 = E (76 + 2 * rcA A) := by rw [show (1 : Int32) = E 1 from rfl, E_add]; congr 1; omega
  have gi1 : ∀ j, gi (seti (seti (seti μ 70 (75 + 2 * rcA A) (E k)) 70 (76 + 2 * rcA A) (E f)) 70 1 (E (rcA A + 1))) 70 j = if j = 1 then E (rcA A + 1) else if j = 76 + 2 * rcA A then E f else if j = 75 + 2 * rcA A then E k else gi μ 70 j := fun j => by
    rw [gi_seti, gi_seti, gi_seti]
    simp only [true_and]
  refine ⟨seti (seti (seti μ 70 (75 + 2 * rcA A) (E k)) 70 (76 + 2 * rcA A) (E f)) 70 1 (E (rcA A + 1)), ?_, SB.se2.tr (SB.se rfl), ?_⟩
  · obtain ⟨m1, m2, m3, m4, m5, m6, m7, m8, m9, m10, m11, m12, m13, m14, ⟨t0, t1, t2, t3, t4, t5, t6, t7, t8, t9, t10, t11, t12⟩, l0, l1, l2, l3, l4, l5, l6, l7, l8, l9, l10, l11, l12⟩ := hm
    show rn d 166 0 [some (Sum.inr (Sum.inl (69))), some (Sum.inl (E k)), some (Sum.inl (E f))] [] μ = _
    simp only [st166_0, st166_1, st166_2, st166_3, st166_4, st166_5, st166_6, st166_7, st166_8, st166_9, st166_10, st166_11, st166_12, st166_13, st166_14, st166_15, st166_16, st166_17, st166_18, st166_19, st166_20, st166_21, st166_22, st166_23, st166_24, st166_25, st166_26, st166_27, st166_28, st166_29, st166_30, st166_31, st166_32, st166_33, st166_34, st166_35, st166_36, st166_37, st166_38, st166_39, st166_40, st166_41, st166_42, st166_43, m1, m2, t0, l0, z01, zn1, zl1, hM.2.1, ne, e1, e2, gi_seti, gi_setr, gi_setl, gi_setrow, gr_seti, gr_setr, gr_setl, gr_setrow, gl_seti, gl_setr, gl_setl, gl_setrow, tg_seti, tg_setr, tg_setl, tg_setrow, ln_seti, ln_setr, ln_setl, ln_setrow, sz_seti, sz_setr, sz_setl, sz_setrow, sl_seti, sl_setr, sl_setl, sl_setrow, E_ge0 (show 75 + 2 * rcA A < 1000 by omega), E_n (show 75 + 2 * rcA A < 1000 by omega), show 75 + 2 * rcA A < 87 by omega, E_ge0 (show 76 + 2 * rcA A < 1000 by omega), E_n (show 76 + 2 * rcA A < 1000 by omega), show 76 + 2 * rcA A < 87 by omega, show (1 = 75 + 2 * rcA A) = False from eq_false (by omega), show (1 = 76 + 2 * rcA A) = False from eq_false (by omega), and_false, or_true, show E (rcA A) + 1 = E (rcA A + 1) from E_add _ 1, aft_some, Option.toList_some, Option.toList_none, List.cons_append, List.nil_append, br0, br1, br2, br3, zr01, zr02, n10, n01, ne_eq, not_true_eq_false, not_false_eq_true, if_true, if_false, true_and, and_true, and_self]
  · obtain ⟨h1, h2, h3, h4, h5⟩ := hM
    refine ⟨by rw [gi1, if_neg (by omega), if_neg (by omega), if_neg (by omega)]; exact h1, by rw [gi1, if_pos rfl]; rfl, by rw [gi1, if_neg (by omega), if_neg (by omega), if_neg (by omega)]; exact h3, fun b hb => ?_, fun r hr9 => ?_⟩
    · obtain ⟨x1, x2, x3, x4⟩ := h4 b hb
      have hb9 : b < bcA A := hb
      exact ⟨by rw [gi1, if_neg (by omega), if_neg (by omega), if_neg (by omega)]; exact x1, by rw [gi1, if_neg (by omega), if_neg (by omega), if_neg (by omega)]; exact x2, fun p hp => by rw [gi1, if_neg (by omega), if_neg (by omega), if_neg (by omega)]; exact x3 p hp, fun p hp q1 q2 => by rw [gi1, if_neg (by omega), if_neg (by omega), if_neg (by omega)]; exact x4 p hp q1 q2⟩
    · have hr' : r < rcA A + 1 := hr9
      show gi _ 70 (75 + 2 * r) = E (up1 (kdA A) (rcA A) k r) ∧ gi _ 70 (76 + 2 * r) = E (up1 (fgA A) (rcA A) f r)
      by_cases q : r = rcA A
      · subst q
        rw [gi1, if_neg (by omega), if_neg (by omega), if_pos rfl, gi1, if_neg (by omega), if_pos rfl, up1, if_pos rfl, up1, if_pos rfl]
        exact ⟨rfl, rfl⟩
      · rw [gi1, if_neg (by omega), if_neg (by omega), if_neg (by omega), gi1, if_neg (by omega), if_neg (by omega), if_neg (by omega), up1, if_neg q, up1, if_neg q]
        exact h5 r (by omega)
theorem g110 {d : Nat} {x : Int32} {A Ai : AT} {im : Nat} {Hs : Nat → HT} {μ : SMem} (h : INVw μ A Ai im Hs) : ∃ v μ1 μ2 A', cl (d + 12) 110 [Sum.inr (Sum.inl (2)), Sum.inl (x)] μ = some (Sum.inl (some (Sum.inl (v))), μ1) ∧ cl (d + 12) 221 [Sum.inr (Sum.inl (69)), Sum.inl (x)] μ1 = some (Sum.inl (some (Sum.inl (v))), μ2) ∧ INVw μ2 A' Ai im Hs ∧ sz μ2 = sz μ ∧ sl μ2 = sl μ ∧ K1 μ μ1 := by
  have hB := h.1
  obtain ⟨hm, hc, hw, ht, hr⟩ := hB
  have hu := h.2.2.2.2.2
  have n1 : ((-1 : Int32) = 0) = False := eq_false (by decide)
  by_cases c : 0 ≤ x ∧ x < 8
  · obtain ⟨e, he, rfl⟩ := E_of (n := 8) c.1 c.2 (by decide)
    obtain ⟨hH, hC, hM⟩ := h.2.2.2.1 e he
    have e0 : (53 + 2 * e = 0) = False := eq_false (by omega)
    obtain ⟨x1', x2', x3', x4', x5'⟩ := hc.2.2.2.2.2.2.2.2.2.2.2 e he
    by_cases k : rfK (Hs e) = 0
    · have hk := rfK_0 k
      obtain ⟨q1, q2, q3⟩ := hC.2.2.1 hk
      obtain ⟨k1, k2⟩ := hH.2.2.2 hk
      obtain ⟨o1, o2⟩ := hM.2.2.1 hk
      by_cases r6 : rcA A < 6
      · obtain ⟨μ1, a1, a2, ⟨a3, a3'⟩, a4⟩ := f71 (d := d + 11) (Nat.le_refl 3) hw ht r6 q2 q3 hu
        have hm1 := hm.sg a2 (fun j q => by omega)
        have hm1' := hm1
        have hc1 := hc.sg a2 (fun c j q => by omega)
        have g70 : gi μ1 70 = gi μ 70 := by
          obtain ⟨m1, m2, m3, m4, m5, m6, m7, m8, m9, m10, m11, m12, m13, m14, ⟨t0, t1, t2, t3, t4, t5, t6, t7, t8, t9, t10, t11, t12⟩, l0, l1, l2, l3, l4, l5, l6, l7, l8, l9, l10, l11, l12⟩ := hm
          exact funext fun j => a2.2.1 70 j (by rw [t0]; decide) (fun q => by omega)
        have hM1 := hM.sg hm a2 (fun c j p => by omega)
        have hr1 : MRw (gi μ1 70) A := by rw [g70]; exact hr
        obtain ⟨μ2, b1, b2, b3⟩ := f166 (d := d + 11) (k := hkd (Hs e)) (f := hfg (Hs e)) hm1 hw hr1 r6
        have hu1 := a2.2.2.2.2.2
        have s2 : SG PTw QTw μ1 μ2 := SG.sb hu1 b2 (fun c j p => by unfold PTw; omega)
        have s1 : SG PTw QTw μ μ1 := a2.wk (fun c j p => by unfold PTw; omega) (fun c j q => by unfold QTw; omega)
        obtain ⟨p1, p2⟩ := hM1.2.2.1 hk
        have ht2 : TwC μ2 3 (adR A (hkd (Hs e)) (hfg (Hs e))) := a4.sb b2 (fun c e => ⟨by omega, by rw [e]; have := hm1; obtain ⟨m1, m2, m3, m4, m5, m6, m7, m8, m9, m10, m11, m12, m13, m14, ⟨t0, t1, t2, t3, t4, t5, t6, t7, t8, t9, t10, t11, t12⟩, l0, l1, l2, l3, l4, l5, l6, l7, l8, l9, l10, l11, l12⟩ := this; rw [t0]; rfl⟩)
        have fin := h.tw (A' := adR A (hkd (Hs e)) (hfg (Hs e))) (s1.tr s2) ⟨hm1.sb b2, hc1.sb b2, adR_wf hw r6 k1 k2, ht2, b3⟩ ((h.2.1.1.sg a2 (fun c j q => by omega)).sb b2)
        refine ⟨E (rcA A), μ1, μ2, _, ?_, ?_, fin, by rw [b2.2.2.2.2.1, a3], by rw [b2.2.2.2.2.2.1, a3'], K1.sg a2⟩
        · show rn (d + 12) 110 0 [some (Sum.inr (Sum.inl (2))), some (Sum.inl (E e)), none, none] [] μ = _
          have g3 : gi μ1 3 3 = E (rcA A + 1) := a4.2.2.1
          simp only [st110_0, st110_1, st110_2, st110_3, st110_4, st110_5, st110_6, st110_7, st110_8, st110_9, st110_10, st110_11, st110_12, st110_13, st110_14, st110_15, st110_16, st110_17, st110_18, st110_19, st110_20, st110_21, st110_22, st110_23, st110_24, st110_25, st110_26, hc.1, hc.2.1, f113 hc, c, E_n (show e < 1000 by omega), e0, f116 he hc hH hC, k, x2', ht.1.1, a1, hc1.1, hc1.2.1, a4.1.1, g3, E_m1 (show 1 ≤ rcA A + 1 by omega), Nat.add_sub_cancel, aft_some, Option.toList_some, Option.toList_none, List.cons_append, List.nil_append, br0, br1, br2, br3, zr01, zr02, n10, n01, ne_eq, not_true_eq_false, not_false_eq_true, if_true, if_false, true_and, and_true, and_self]
        · have f220' := fun d => f220 (d := d) he hm1 hH hM1
          have g1 : gi μ2 70 1 = E (rcA A + 1) := b3.2.1
          have hm2 := hm1.sb b2
          obtain ⟨m1, m2, m3, m4, m5, m6, m7, m8, m9, m10, m11, m12, m13, m14, ⟨t0, t1, t2, t3, t4, t5, t6, t7, t8, t9, t10, t11, t12⟩, l0, l1, l2, l3, l4, l5, l6, l7, l8, l9, l10, l11, l12⟩ := hm1
          obtain ⟨v1, v2, _, _, _, _, _, _, _, _, _, _, _, _, ⟨v3, _⟩, v4, _⟩ := hm2
          show rn (d + 12) 221 0 [some (Sum.inr (Sum.inl (69))), some (Sum.inl (E e)), none] [] μ1 = _
          simp only [st221_0, st221_1, st221_2, st221_3, st221_4, st221_5, st221_6, st221_7, st221_8, st221_9, st221_10, st221_11, st221_12, st221_13, st221_14, st221_15, st221_16, st221_17, st221_18, st221_19, st221_20, st221_21, st221_22, st221_23, st221_24, st221_25, st221_26, st221_27, f220', k, m1, m10, m11, t8, t9, l8, l9, E_ge0 (show e < 1000 by omega), E_n (show e < 1000 by omega), he, p1, p2, b1, v1, v2, v3, v4, z01, zn1, zl1, g1, E_m1 (show 1 ≤ rcA A + 1 by omega), Nat.add_sub_cancel, aft_some, Option.toList_some, Option.toList_none, List.cons_append, List.nil_append, br0, br1, br2, br3, zr01, zr02, n10, n01, ne_eq, not_true_eq_false, not_false_eq_true, if_true, if_false, true_and, and_true, and_self]
      · have rc6 : rcA A = 6 := by have := hw.2.1; omega
        refine ⟨-2, μ, μ, A, ?_, ?_, h, rfl, rfl, K1.rf⟩
        · show rn (d + 12) 110 0 [some (Sum.inr (Sum.inl (2))), some (Sum.inl (E e)), none, none] [] μ = _
          simp only [st110_0, st110_1, st110_2, st110_3, st110_4, st110_5, st110_6, st110_7, st110_8, st110_9, st110_10, st110_11, st110_12, st110_13, st110_14, st110_15, st110_16, st110_17, st110_18, st110_19, st110_20, st110_21, st110_22, st110_23, st110_24, st110_25, st110_26, hc.1, hc.2.1, f113 hc, c, E_n (show e < 1000 by omega), e0, f116 he hc hH hC, k, x2', ht.1.1, f71n hw ht r6 q2, aft_some, Option.toList_some, Option.toList_none, List.cons_append, List.nil_append, br0, br1, br2, br3, zr01, zr02, n10, n01, ne_eq, not_true_eq_false, not_false_eq_true, if_true, if_false, true_and, and_true, and_self]
        · have f220' := fun d => f220 (d := d) he hm hH hM
          have f166' := fun (d : Nat) (x y : Int32) => f166n (d := d) (x := x) (y := y) hm hr.2.1 rc6
          obtain ⟨m1, m2, m3, m4, m5, m6, m7, m8, m9, m10, m11, m12, m13, m14, ⟨t0, t1, t2, t3, t4, t5, t6, t7, t8, t9, t10, t11, t12⟩, l0, l1, l2, l3, l4, l5, l6, l7, l8, l9, l10, l11, l12⟩ := hm
          show rn (d + 12) 221 0 [some (Sum.inr (Sum.inl (69))), some (Sum.inl (E e)), none] [] μ = _
          simp only [st221_0, st221_1, st221_2, st221_3, st221_4, st221_5, st221_6, st221_7, st221_8, st221_9, st221_10, st221_11, st221_12, st221_13, st221_14, st221_15, st221_16, st221_17, st221_18, st221_19, st221_20, st221_21, st221_22, st221_23, st221_24, st221_25, st221_26, st221_27, f220', k, m1, m10, m11, t8, t9, l8, l9, E_ge0 (show e < 1000 by omega), E_n (show e < 1000 by omega), he, f166', aft_some, Option.toList_some, Option.toList_none, List.cons_append, List.nil_append, br0, br1, br2, br3, zr01, zr02, n10, n01, ne_eq, not_true_eq_false, not_false_eq_true, if_true, if_false, true_and, and_true, and_self]
    · refine ⟨rfK (Hs e), μ, μ, A, ?_, ?_, h, rfl, rfl, K1.rf⟩
      · show rn (d + 12) 110 0 [some (Sum.inr (Sum.inl (2))), some (Sum.inl (E e)), none, none] [] μ = _
        simp only [st110_0, st110_1, st110_2, st110_3, st110_4, st110_5, st110_6, st110_7, st110_8, st110_9, st110_10, st110_11, st110_12, st110_13, st110_14, st110_15, st110_16, st110_17, st110_18, st110_19, st110_20, st110_21, st110_22, st110_23, st110_24, st110_25, st110_26, hc.1, f113 hc, c, E_n (show e < 1000 by omega), e0, f116 he hc hH hC, k, aft_some, Option.toList_some, Option.toList_none, List.cons_append, List.nil_append, br0, br1, br2, br3, zr01, zr02, n10, n01, ne_eq, not_true_eq_false, not_false_eq_true, if_true, if_false, true_and, and_true, and_self]
      · show rn (d + 12) 221 0 [some (Sum.inr (Sum.inl (69))), some (Sum.inl (E e)), none] [] μ = _
        simp only [st221_0, st221_1, st221_2, st221_3, st221_4, st221_5, st221_6, st221_7, st221_8, st221_9, st221_10, st221_11, st221_12, st221_13, st221_14, st221_15, st221_16, st221_17, st221_18, st221_19, st221_20, st221_21, st221_22, st221_23, st221_24, st221_25, st221_26, st221_27, hm.1, f220 he hm hH hM, k, aft_some, Option.toList_some, Option.toList_none, List.cons_append, List.nil_append, br0, br1, br2, br3, zr01, zr02, n10, n01, ne_eq, not_true_eq_false, not_false_eq_true, if_true, if_false, true_and, and_true, and_self]
  · refine ⟨-1, μ, μ, A, ?_, ?_, h, rfl, rfl, K1.rf⟩
    · show rn (d + 12) 110 0 [some (Sum.inr (Sum.inl (2))), some (Sum.inl (x)), none, none] [] μ = _
      simp only [st110_0, st110_1, st110_2, st110_3, st110_4, st110_5, st110_6, st110_7, st110_8, st110_9, st110_10, st110_11, st110_12, st110_13, st110_14, st110_15, st110_16, st110_17, st110_18, st110_19, st110_20, st110_21, st110_22, st110_23, st110_24, st110_25, st110_26, hc.1, f113 hc, c, f116n, aft_some, Option.toList_some, Option.toList_none, List.cons_append, List.nil_append, br0, br1, br2, br3, zr01, zr02, n10, n01, ne_eq, not_true_eq_false, not_false_eq_true, if_true, if_false, true_and, and_true, and_self]
    · show rn (d + 12) 221 0 [some (Sum.inr (Sum.inl (69))), some (Sum.inl (x)), none] [] μ = _
      simp only [st221_0, st221_1, st221_2, st221_3, st221_4, st221_5, st221_6, st221_7, st221_8, st221_9, st221_10, st221_11, st221_12, st221_13, st221_14, st221_15, st221_16, st221_17, st221_18, st221_19, st221_20, st221_21, st221_22, st221_23, st221_24, st221_25, st221_26, st221_27, hm.1, f220n hm c, n1, aft_some, Option.toList_some, Option.toList_none, List.cons_append, List.nil_append, br0, br1, br2, br3, zr01, zr02, n10, n01, ne_eq, not_true_eq_false, not_false_eq_true, if_true, if_false, true_and, and_true, and_self]
theorem aftH_i {hs : List (Nat × Nat × Nat)} {L : SL} {v : Option SV} {μ2 : SMem} {k : Option SV → SMem → Option SRes} {kx : Nat → SL → SMem → Option SRes} : aftH hs L (some (.inl v, μ2)) k kx = k v μ2 := rfl
theorem f51z {d n : Nat} {μ : SMem} (h : isRd (tg μ n) = true) (h0 : gi μ n 0 = 0) : cl d 51 [Sum.inr (Sum.inl (n))] μ = some (Sum.inl none, μ) := by
  show rn d 51 0 [some (Sum.inr (Sum.inl (n)))] [] μ = _
  rw [st51_0, st51_1 h, st51_2, if_pos h0, st51_8]
theorem f51x {d n : Nat} {μ : SMem} (h : isRd (tg μ n) = true) (h0 : ¬ gi μ n 0 = 0) : cl d 51 [Sum.inr (Sum.inl (n))] μ = some (Sum.inr 0, alloc μ 99 0 6) := by
  show rn d 51 0 [some (Sum.inr (Sum.inl (n)))] [] μ = _
  rw [st51_0, st51_1 h, st51_2, if_neg h0, st51_3]
theorem f64 {d n : Nat} {μ : SMem} : cl d 64 [Sum.inr (Sum.inl (n))] μ = some (Sum.inl none, μ) := by
  show rn d 64 0 [some (Sum.inr (Sum.inl (n)))] [] μ = _
  rw [st64_0]
theorem dv7 {k : Nat} (hk : k < 8) : dvy_7 (ktag k) = if k = 6 then 64 else 51 := by
  have : ∀ k, k < 8 → dvy_7 (ktag k) = if k = 6 then 64 else 51 := by decide
  exact this k hk
theorem dv8 {k : Nat} (hk : k < 8) : dvy_8 (ktag k) = if k = 3 then 43 else if k = 7 then 37 else 52 := by
  have : ∀ k, k < 8 → dvy_8 (ktag k) = if k = 3 then 43 else if k = 7 then 37 else 52 := by decide
  exact this k hk
theorem f52 {d n : Nat} {μ : SMem} (h : isRd (tg μ n) = true) : cl d 52 [Sum.inr (Sum.inl (n))] μ = some (Sum.inl (some (Sum.inl (gi μ n 0))), μ) := by
  show rn d 52 0 [some (Sum.inr (Sum.inl (n)))] [] μ = _
  rw [st52_0, st52_1 h, st52_2]
theorem f43 {d n : Nat} {μ : SMem} (h : isRd (tg μ n) = true) : cl (d + 1) 43 [Sum.inr (Sum.inl (n))] μ = some (Sum.inl (some (Sum.inl (gi μ n 0 + 100))), μ) := by
  show rn (d + 1) 43 0 [some (Sum.inr (Sum.inl (n)))] [] μ = _
  rw [st43_0, st43_1 h, f52 h]
  simp only [st43_2, st43_3, st43_4, aft_some, Option.toList_some, Option.toList_none, List.cons_append, List.nil_append, br0, br1, br2, br3, zr01, zr02, n10, n01, ne_eq, not_true_eq_false, not_false_eq_true, if_true, if_false, true_and, and_true, and_self]
theorem f37 {d n : Nat} {μ : SMem} (h : tg μ n = 5) : cl (d + 3) 37 [Sum.inr (Sum.inl (n))] μ = some (Sum.inl (some (Sum.inl (200 + 6))), μ) := by
  show rn (d + 3) 37 0 [some (Sum.inr (Sum.inl (n)))] [] μ = _
  have e36 := fun d => f36 (d := d) (n := n) (μ := μ) (by rw [h]; rfl)
  simp only [st37_0, st37_1, st37_2, st37_3, st37_4, h, e36, aft_some, Option.toList_some, Option.toList_none, List.cons_append, List.nil_append, br0, br1, br2, br3, zr01, zr02, n10, n01, ne_eq, not_true_eq_false, not_false_eq_true, if_true, if_false, true_and, and_true, and_self]
theorem ffn {d n k f : Nat} {μ : SMem} (h : RdA μ n k f) : cl (d + 3) (dvy_8 (tg μ n)) [Sum.inr (Sum.inl (n))] μ = some (Sum.inl (some (Sum.inl (if k = 3 then 100 + E f else if k = 7 then 200 + 6 else E f))), μ) := by
  rw [h.1, dv8 h.2.2.1]
  by_cases c3 : k = 3
  · rw [if_pos c3, if_pos c3, f43 h.rd, h.2.1, Int32.add_comm]
  · rw [if_neg c3, if_neg c3]
    by_cases c7 : k = 7
    · rw [if_pos c7, if_pos c7, f37 (by rw [h.1, c7]; rfl)]
    · rw [if_neg c7, if_neg c7, f52 h.rd, h.2.1]
theorem RdA.al {n k f : Nat} {μ : SMem} (h : RdA μ n k f) (h2 : 2 ≤ sz μ) (hu : ∀ c, sz μ ≤ c → tg μ c = 99) : RdA (alloc μ 99 0 6) n k f := h.sg (SG.al (P := NoC) (Q := NoC) hu h2) (fun q => q)
theorem g112 {d : Nat} {x : Int32} {A Ai : AT} {im : Nat} {Hs : Nat → HT} {μ : SMem} (h : INVw μ A Ai im Hs) : ∃ v μ1 μ2, cl (d + 12) 112 [Sum.inr (Sum.inl (2)), Sum.inl (x)] μ = some (Sum.inl (some (Sum.inl (v))), μ1) ∧ cl (d + 12) 223 [Sum.inr (Sum.inl (69)), Sum.inl (x)] μ1 = some (Sum.inl (some (Sum.inl (v))), μ2) ∧ INVw μ2 A Ai im Hs ∧ sz μ2 ≤ sz μ + 1 ∧ sl μ2 ≤ sl μ + 6 ∧ K1 μ μ1 := by
  have hB := h.1
  obtain ⟨hm, hc, hw, ht, hr⟩ := hB
  have hu := h.2.2.2.2.2
  have h84 := h.2.2.2.2.1.1
  have n1 : ((-1 : Int32) = 0) = False := eq_false (by decide)
  by_cases c : 0 ≤ x ∧ x < 8
  · obtain ⟨e, he, rfl⟩ := E_of (n := 8) c.1 c.2 (by decide)
    obtain ⟨hH, hC, hM⟩ := h.2.2.2.1 e he
    have e0 : (53 + 2 * e = 0) = False := eq_false (by omega)
    obtain ⟨x1', x2', x3', x4', x5'⟩ := hc.2.2.2.2.2.2.2.2.2.2.2 e he
    by_cases k : rfK (Hs e) = 0
    · have hk := rfK_0 k
      obtain ⟨q1, q2, q3⟩ := hC.2.2.1 hk
      obtain ⟨k1, k2⟩ := hH.2.2.2 hk
      obtain ⟨o1, o2⟩ := hM.2.2.1 hk
      have z0 := E_z (show hfg (Hs e) < 1000 by omega)
      have w3 := Ek3 (hkd (Hs e)) k1
      have w6 := Ek6 (hkd (Hs e)) k1
      have w7 := Ek7 (hkd (Hs e)) k1
      by_cases ok : hkd (Hs e) = 6 ∨ hfg (Hs e) = 0
      · have f7 : ∀ d, cl d (dvy_7 (tg μ (gr μ (53 + 2 * e) 0))) [Sum.inr (Sum.inl (gr μ (53 + 2 * e) 0))] μ = some (Sum.inl none, μ) := fun d => by
          rw [q3.1, dv7 k1]
          by_cases c6 : hkd (Hs e) = 6
          · rw [if_pos c6, f64]
          · rw [if_neg c6, f51z q3.rd (by rw [q3.2.1]; rcases ok with q | q; exact absurd q c6; rw [q]; rfl)]
        refine ⟨-15, μ, μ, ?_, ?_, h, by omega, by omega, K1.rf⟩
        · show rn (d + 12) 112 0 [some (Sum.inr (Sum.inl (2))), some (Sum.inl (E e)), none, none, none] [] μ = _
          simp only [st112_0, st112_1, st112_2, st112_3, st112_4, st112_5, st112_6, st112_7, st112_8, st112_9, st112_10, st112_11, st112_12, st112_13, st112_14, st112_15, st112_16, st112_17, hc.1, f113 hc, c, E_n (show e < 1000 by omega), e0, f116 he hc hH hC, k, x2', q2, aft_some, Option.toList_some, Option.toList_none, List.cons_append, List.nil_append, br0, br1, br2, br3, zr01, zr02, n10, n01, ne_eq, not_true_eq_false, not_false_eq_true, if_true, if_false, true_and, and_true, and_self]
          refine (st112_18v q3.rd).trans ?_
          rw [f7, aftH_i]
          simp only [st112_19, st112_25, st112_26, aft_some, Option.toList_some, Option.toList_none, List.cons_append, List.nil_append, br0, br1, br2, br3, zr01, zr02, n10, n01, ne_eq, not_true_eq_false, not_false_eq_true, if_true, if_false, true_and, and_true, and_self]
        · have f220' := fun d => f220 (d := d) he hm hH hM
          obtain ⟨m1, m2, m3, m4, m5, m6, m7, m8, m9, m10, m11, m12, m13, m14, ⟨t0, t1, t2, t3, t4, t5, t6, t7, t8, t9, t10, t11, t12⟩, l0, l1, l2, l3, l4, l5, l6, l7, l8, l9, l10, l11, l12⟩ := hm
          show rn (d + 12) 223 0 [some (Sum.inr (Sum.inl (69))), some (Sum.inl (E e)), none, none, none] [] μ = _
          by_cases c6 : hkd (Hs e) = 6
          · simp only [st223_0, st223_1, st223_2, st223_3, st223_4, st223_5, st223_6, st223_7, st223_8, st223_9, st223_10, st223_11, st223_12, st223_13, st223_14, st223_15, st223_16, st223_17, st223_18, st223_19, st223_20, st223_21, st223_22, st223_23, st223_24, st223_25, st223_26, st223_27, st223_28, st223_29, st223_30, st223_31, st223_32, st223_33, st223_34, st223_35, st223_36, st223_37, st223_38, st223_39, st223_40, st223_41, st223_42, f220', k, m1, m10, m11, t8, t9, l8, l9, E_ge0 (show e < 1000 by omega), E_n (show e < 1000 by omega), he, o1, o2, c6, show (E 6 = (6 : Int32)) = True from eq_true rfl, aft_some, Option.toList_some, Option.toList_none, List.cons_append, List.nil_append, br0, br1, br2, br3, zr01, zr02, n10, n01, ne_eq, not_true_eq_false, not_false_eq_true, if_true, if_false, true_and, and_true, and_self]
          · have f0 : hfg (Hs e) = 0 := by rcases ok with q | q; exact absurd q c6; exact q
            rw [f0] at o2
            simp only [st223_0, st223_1, st223_2, st223_3, st223_4, st223_5, st223_6, st223_7, st223_8, st223_9, st223_10, st223_11, st223_12, st223_13, st223_14, st223_15, st223_16, st223_17, st223_18, st223_19, st223_20, st223_21, st223_22, st223_23, st223_24, st223_25, st223_26, st223_27, st223_28, st223_29, st223_30, st223_31, st223_32, st223_33, st223_34, st223_35, st223_36, st223_37, st223_38, st223_39, st223_40, st223_41, st223_42, f220', k, m1, m10, m11, t8, t9, l8, l9, E_ge0 (show e < 1000 by omega), E_n (show e < 1000 by omega), he, o1, o2, w6, c6, en00, aft_some, Option.toList_some, Option.toList_none, List.cons_append, List.nil_append, br0, br1, br2, br3, zr01, zr02, n10, n01, ne_eq, not_true_eq_false, not_false_eq_true, if_true, if_false, true_and, and_true, and_self]
      · have c6 : ¬ hkd (Hs e) = 6 := fun q => ok (Or.inl q)
        have f0 : ¬ hfg (Hs e) = 0 := fun q => ok (Or.inr q)
        have f7 : ∀ d, cl d (dvy_7 (tg μ (gr μ (53 + 2 * e) 0))) [Sum.inr (Sum.inl (gr μ (53 + 2 * e) 0))] μ = some (Sum.inr 0, alloc μ 99 0 6) := fun d => by
          rw [q3.1, dv7 k1, if_neg c6, f51x q3.rd (by rw [q3.2.1, z0]; exact f0)]
        have sA : SG NoC NoC μ (alloc μ 99 0 6) := SG.al hu (by omega)
        have h' := h.same sA
        have hz1 : sz (alloc μ 99 0 6) = sz μ + 1 := rfl
        have hz2 : sl (alloc μ 99 0 6) = sl μ + 6 := rfl
        obtain ⟨hH2, hC2, hM2⟩ := h'.2.2.2.1 e he
        obtain ⟨p1, p2, p3⟩ := hC2.2.2.1 hk
        obtain ⟨o3, o4⟩ := hM2.2.2.1 hk
        have x22 := (h'.1.2.1.2.2.2.2.2.2.2.2.2.2.2 e he).2.1
        have hm2 := h'.1.1
        generalize alloc μ 99 0 6 = μ1 at *
        refine ⟨if hkd (Hs e) = 3 then 100 + E (hfg (Hs e)) else if hkd (Hs e) = 7 then 200 + 6 else E (hfg (Hs e)), μ1, μ1, ?_, ?_, h', by omega, by omega, K1.sg sA⟩
        · show rn (d + 12) 112 0 [some (Sum.inr (Sum.inl (2))), some (Sum.inl (E e)), none, none, none] [] μ = _
          simp only [st112_0, st112_1, st112_2, st112_3, st112_4, st112_5, st112_6, st112_7, st112_8, st112_9, st112_10, st112_11, st112_12, st112_13, st112_14, st112_15, st112_16, st112_17, hc.1, f113 hc, c, E_n (show e < 1000 by omega), e0, f116 he hc hH hC, k, x2', q2, aft_some, Option.toList_some, Option.toList_none, List.cons_append, List.nil_append, br0, br1, br2, br3, zr01, zr02, n10, n01, ne_eq, not_true_eq_false, not_false_eq_true, if_true, if_false, true_and, and_true, and_self]
          refine (st112_18v q3.rd).trans ?_
          rw [f7]
          show rn (d + 12) 112 21 [some (Sum.inr (Sum.inl (2))), some (Sum.inl (E e)), some (Sum.inr (Sum.inl (53 + 2 * e))), some (Sum.inl (0)), none] [] μ1 = _
          simp only [st112_21, st112_22, x22, aft_some, Option.toList_some, Option.toList_none, List.cons_append, List.nil_append, br0, br1, br2, br3, zr01, zr02, n10, n01, ne_eq, not_true_eq_false, not_false_eq_true, if_true, if_false, true_and, and_true, and_self]
          refine (st112_23v p3.rd).trans ?_
          rw [ffn p3]
          simp only [st112_24, aft_some, Option.toList_some, Option.toList_none, List.cons_append, List.nil_append, br0, br1, br2, br3, zr01, zr02, n10, n01, ne_eq, not_true_eq_false, not_false_eq_true, if_true, if_false, true_and, and_true, and_self]
        · have f220' := fun d => f220 (d := d) he hm2 hH2 hM2
          obtain ⟨m1, m2, m3, m4, m5, m6, m7, m8, m9, m10, m11, m12, m13, m14, ⟨t0, t1, t2, t3, t4, t5, t6, t7, t8, t9, t10, t11, t12⟩, l0, l1, l2, l3, l4, l5, l6, l7, l8, l9, l10, l11, l12⟩ := hm2
          show rn (d + 12) 223 0 [some (Sum.inr (Sum.inl (69))), some (Sum.inl (E e)), none, none, none] [] μ1 = _
          by_cases c3 : hkd (Hs e) = 3
          · simp only [st223_0, st223_1, st223_2, st223_3, st223_4, st223_5, st223_6, st223_7, st223_8, st223_9, st223_10, st223_11, st223_12, st223_13, st223_14, st223_15, st223_16, st223_17, st223_18, st223_19, st223_20, st223_21, st223_22, st223_23, st223_24, st223_25, st223_26, st223_27, st223_28, st223_29, st223_30, st223_31, st223_32, st223_33, st223_34, st223_35, st223_36, st223_37, st223_38, st223_39, st223_40, st223_41, st223_42, f220', k, m1, m10, m11, t8, t9, l8, l9, E_ge0 (show e < 1000 by omega), E_n (show e < 1000 by omega), he, o3, o4, z0, f0, c3, show (E 3 = (6 : Int32)) = False from eq_false (by decide), show (E 3 = (3 : Int32)) = True from eq_true rfl, aft_some, Option.toList_some, Option.toList_none, List.cons_append, List.nil_append, br0, br1, br2, br3, zr01, zr02, n10, n01, ne_eq, not_true_eq_false, not_false_eq_true, if_true, if_false, true_and, and_true, and_self]
          · by_cases c7 : hkd (Hs e) = 7
            · have ee := fun d => f214 (d := d) (k := hkd (Hs e)) (f := hfg (Hs e)) k1 (μ := μ1)
              have ef : feeK (hkd (Hs e)) (hfg (Hs e)) = 6 := by rw [c7]; rfl
              rw [ef, c7] at ee
              simp only [st223_0, st223_1, st223_2, st223_3, st223_4, st223_5, st223_6, st223_7, st223_8, st223_9, st223_10, st223_11, st223_12, st223_13, st223_14, st223_15, st223_16, st223_17, st223_18, st223_19, st223_20, st223_21, st223_22, st223_23, st223_24, st223_25, st223_26, st223_27, st223_28, st223_29, st223_30, st223_31, st223_32, st223_33, st223_34, st223_35, st223_36, st223_37, st223_38, st223_39, st223_40, st223_41, st223_42, f220', k, m1, m10, m11, t8, t9, l8, l9, E_ge0 (show e < 1000 by omega), E_n (show e < 1000 by omega), he, o3, o4, z0, f0, c7, show (E 7 = (6 : Int32)) = False from eq_false (by decide), show (E 7 = (3 : Int32)) = False from eq_false (by decide), show (E 7 = (7 : Int32)) = True from eq_true rfl, ee, show ((7 : Nat) = 3) = False from eq_false (by decide), aft_some, Option.toList_some, Option.toList_none, List.cons_append, List.nil_append, br0, br1, br2, br3, zr01, zr02, n10, n01, ne_eq, not_true_eq_false, not_false_eq_true, if_true, if_false, true_and, and_true, and_self]
            · simp only [st223_0, st223_1, st223_2, st223_3, st223_4, st223_5, st223_6, st223_7, st223_8, st223_9, st223_10, st223_11, st223_12, st223_13, st223_14, st223_15, st223_16, st223_17, st223_18, st223_19, st223_20, st223_21, st223_22, st223_23, st223_24, st223_25, st223_26, st223_27, st223_28, st223_29, st223_30, st223_31, st223_32, st223_33, st223_34, st223_35, st223_36, st223_37, st223_38, st223_39, st223_40, st223_41, st223_42, f220', k, m1, m10, m11, t8, t9, l8, l9, E_ge0 (show e < 1000 by omega), E_n (show e < 1000 by omega), he, o3, o4, w6, c6, z0, f0, w3, c3, w7, c7, aft_some, Option.toList_some, Option.toList_none, List.cons_append, List.nil_append, br0, br1, br2, br3, zr01, zr02, n10, n01, ne_eq, not_true_eq_false, not_false_eq_true, if_true, if_false, true_and, and_true, and_self]
    · refine ⟨rfK (Hs e), μ, μ, ?_, ?_, h, by omega, by omega, K1.rf⟩
      · show rn (d + 12) 112 0 [some (Sum.inr (Sum.inl (2))), some (Sum.inl (E e)), none, none, none] [] μ = _
        by_cases g0 : gr μ (53 + 2 * e) 0 = 0
        · simp only [st112_0, st112_1, st112_2, st112_3, st112_4, st112_5, st112_6, st112_7, st112_8, st112_9, st112_10, st112_11, st112_12, st112_13, st112_14, st112_15, st112_16, st112_17, hc.1, f113 hc, c, E_n (show e < 1000 by omega), e0, f116 he hc hH hC, k, x2', g0, aft_some, Option.toList_some, Option.toList_none, List.cons_append, List.nil_append, br0, br1, br2, br3, zr01, zr02, n10, n01, ne_eq, not_true_eq_false, not_false_eq_true, if_true, if_false, true_and, and_true, and_self]
        · simp only [st112_0, st112_1, st112_2, st112_3, st112_4, st112_5, st112_6, st112_7, st112_8, st112_9, st112_10, st112_11, st112_12, st112_13, st112_14, st112_15, st112_16, st112_17, hc.1, f113 hc, c, E_n (show e < 1000 by omega), e0, f116 he hc hH hC, k, x2', g0, aft_some, Option.toList_some, Option.toList_none, List.cons_append, List.nil_append, br0, br1, br2, br3, zr01, zr02, n10, n01, ne_eq, not_true_eq_false, not_false_eq_true, if_true, if_false, true_and, and_true, and_self]
      · show rn (d + 12) 223 0 [some (Sum.inr (Sum.inl (69))), some (Sum.inl (E e)), none, none, none] [] μ = _
        simp only [st223_0, st223_1, st223_2, st223_3, st223_4, st223_5, st223_6, st223_7, st223_8, st223_9, st223_10, st223_11, st223_12, st223_13, st223_14, st223_15, st223_16, st223_17, st223_18, st223_19, st223_20, st223_21, st223_22, st223_23, st223_24, st223_25, st223_26, st223_27, st223_28, st223_29, st223_30, st223_31, st223_32, st223_33, st223_34, st223_35, st223_36, st223_37, st223_38, st223_39, st223_40, st223_41, st223_42, hm.1, f220 he hm hH hM, k, aft_some, Option.toList_some, Option.toList_none, List.cons_append, List.nil_append, br0, br1, br2, br3, zr01, zr02, n10, n01, ne_eq, not_true_eq_false, not_false_eq_true, if_true, if_false, true_and, and_true, and_self]
  · refine ⟨-1, μ, μ, ?_, ?_, h, by omega, by omega, K1.rf⟩
    · show rn (d + 12) 112 0 [some (Sum.inr (Sum.inl (2))), some (Sum.inl (x)), none, none, none] [] μ = _
      simp only [st112_0, st112_1, st112_2, st112_3, st112_4, st112_5, st112_6, st112_7, st112_8, st112_9, st112_10, st112_11, st112_12, st112_13, st112_14, st112_15, st112_16, st112_17, hc.1, f113 hc, c, f116n, aft_some, Option.toList_some, Option.toList_none, List.cons_append, List.nil_append, br0, br1, br2, br3, zr01, zr02, n10, n01, ne_eq, not_true_eq_false, not_false_eq_true, if_true, if_false, true_and, and_true, and_self]
    · show rn (d + 12) 223 0 [some (Sum.inr (Sum.inl (69))), some (Sum.inl (x)), none, none, none] [] μ = _
      simp only [st223_0, st223_1, st223_2, st223_3, st223_4, st223_5, st223_6, st223_7, st223_8, st223_9, st223_10, st223_11, st223_12, st223_13, st223_14, st223_15, st223_16, st223_17, st223_18, st223_19, st223_20, st223_21, st223_22, st223_23, st223_24, st223_25, st223_26, st223_27, st223_28, st223_29, st223_30, st223_31, st223_32, st223_33, st223_34, st223_35, st223_36, st223_37, st223_38, st223_39, st223_40, st223_41, st223_42, hm.1, f220n hm c, n1, aft_some, Option.toList_some, Option.toList_none, List.cons_append, List.nil_append, br0, br1, br2, br3, zr01, zr02, n10, n01, ne_eq, not_true_eq_false, not_false_eq_true, if_true, if_false, true_and, and_true, and_self]
