/-! SPECS L: what holds between two calls; frames; read, copies -/
theorem isRd_ktag {μ : SMem} {n k f : Nat} (h : RdA μ n k f) : isRd (tg μ n) = true := h.rd
theorem CAo.sb {P : Nat → Prop} {μ μ' : SMem} (h : CAo μ) (hs : SB P μ μ') : CAo μ' := by
  obtain ⟨a1, a2, a3, _⟩ := hs
  unfold CAo at *
  rw [a1, a2, a3]
  exact h
theorem TwC.sb {P : Nat → Prop} {μ μ' : SMem} {T : Nat} {A : AT} (h : TwC μ T A) (hs : SB P μ μ') (hP : ∀ c, P c → (c < T ∨ T + 15 ≤ c) ∧ isRd (tg μ c) = false) : TwC μ' T A := by
  have h1 := h.1.sb hs
  obtain ⟨a1, a2, a3, a4, a5, a6, a7⟩ := hs
  obtain ⟨_, t2, t3, t4, t5, t6⟩ := h
  have ng : ∀ c, T ≤ c → c < T + 15 → gi μ' c = gi μ c := fun c h1 h2 => a7 c (fun e => by have := (hP c e).1; omega)
  refine ⟨h1, by rw [ng T (by omega) (by omega)]; exact t2, by rw [ng T (by omega) (by omega)]; exact t3, by rw [ng T (by omega) (by omega)]; exact t4, fun b hb => ?_, fun r hr => ?_⟩
  · rw [ng (T + 3 + 3 * b) (by omega) (by omega), ng (T + 3 + 3 * b + 1) (by omega) (by omega), ng (T + 3 + 3 * b + 2) (by omega) (by omega)]
    exact t5 b hb
  · obtain ⟨y1, y2⟩ := t6 r hr
    rw [a3]
    refine ⟨y1, ?_⟩
    unfold RdA at *
    rw [a1, a7 _ (fun e => by have := (hP _ e).2; rw [y2.1, ktag_rd y2.2.2.1] at this; cases this)]
    exact y2
/-- the script and the law's row for longs -/
def LBs (μ : SMem) (H : HT) : Prop := ln μ 1 = hsz H ∧ (∀ j, gi μ 1 j = hel H j) ∧ tg μ 83 = 51 ∧ ln μ 83 = 1
def INVw (μ : SMem) (A Ai : AT) (im : Nat) (Hs : Nat → HT) : Prop := Both μ A ∧ (TwS μ 18 ∧ TwS μ 33) ∧ (im < 2 ∧ gi μ 2 3 = E im ∧ gi μ 69 10 = E im ∧ (im = 1 → WF Ai ∧ TwC μ 33 Ai ∧ MRw (gi μ 71) Ai)) ∧ (∀ e, e < 8 → HWF (Hs e) ∧ ShC μ e (Hs e) ∧ ShM μ e (Hs e)) ∧ (84 ≤ sz μ ∧ LBs μ (Hs 8)) ∧ ∀ c, sz μ ≤ c → tg μ c = 99
/-- cells of the town now and what is scratch -/
def Scr (c : Nat) : Prop := (3 ≤ c ∧ c ≤ 17) ∨ (49 ≤ c ∧ c ≤ 52) ∨ c = 69 ∨ c = 70 ∨ c = 72 ∨ c = 73 ∨ (80 ≤ c ∧ c ≤ 82)
theorem scr_tag {μ : SMem} {A : AT} {c : Nat} (h : Both μ A) (hc : Scr c) : isRd (tg μ c) = false := by
  obtain ⟨hm, ho, hw, ht, hr⟩ := h
  obtain ⟨m1, m2, m3, m4, m5, m6, m7, m8, m9, m10, m11, m12, m13, m14, ⟨t0, t1, t2, t3, t4, t5, t6, t7, t8, t9, t10, t11, t12⟩, l0, l1, l2, l3, l4, l5, l6, l7, l8, l9, l10, l11, l12⟩ := hm
  obtain ⟨_, _, _, _, _, _, _, _, _, ⟨o1, o2, o3, o4, o5⟩, _⟩ := ho
  obtain ⟨s1, s2, s3, s4, s5, s6, s7, s8, s9⟩ := ht.1
  have b0 := (s8 0 (by decide)).2
  have b1 := (s8 1 (by decide)).2
  have b2 := (s8 2 (by decide)).2
  have b3 := (s8 3 (by decide)).2
  have r10 : isRd 10 = false := by decide
  have r53 : isRd 53 = false := by decide
  have r52 : isRd 52 = false := by decide
  have r1 : isRd 1 = false := by decide
  have r50 : isRd 50 = false := by decide
  have r12 : isRd 12 = false := by decide
  have q : ∀ a, BkA μ a → isRd (tg μ a) = false ∧ isRd (tg μ (a + 1)) = false ∧ isRd (tg μ (a + 2)) = false := fun a h => ⟨by rw [h.1]; exact r1, by rw [h.2.2.2.1]; exact r50, by rw [h.2.2.2.2.2.1]; exact r50⟩
  have hcc : c = 3 ∨ c = 4 ∨ c = 5 ∨ c = 6 ∨ c = 7 ∨ c = 8 ∨ c = 9 ∨ c = 10 ∨ c = 11 ∨ c = 12 ∨ c = 13 ∨ c = 14 ∨ c = 15 ∨ c = 16 ∨ c = 17 ∨ c = 49 ∨ c = 50 ∨ c = 51 ∨ c = 52 ∨ c = 69 ∨ c = 70 ∨ c = 72 ∨ c = 73 ∨ c = 80 ∨ c = 81 ∨ c = 82 := by unfold Scr at hc; omega
  rcases hcc with rfl | rfl | rfl | rfl | rfl | rfl | rfl | rfl | rfl | rfl | rfl | rfl | rfl | rfl | rfl | rfl | rfl | rfl | rfl | rfl | rfl | rfl | rfl | rfl | rfl | rfl
  · rw [s1]; exact r10
  · rw [s4]; exact r53
  · rw [s6]; exact r52
  · exact (q _ b0).1
  · exact (q _ b0).2.1
  · exact (q _ b0).2.2
  · exact (q _ b1).1
  · exact (q _ b1).2.1
  · exact (q _ b1).2.2
  · exact (q _ b2).1
  · exact (q _ b2).2.1
  · exact (q _ b2).2.2
  · exact (q _ b3).1
  · exact (q _ b3).2.1
  · exact (q _ b3).2.2
  · rw [o2]; exact r50
  · rw [o3]; exact r50
  · rw [o4]; exact r50
  · rw [o5]; exact r50
  · rw [m1]; exact r12
  · rw [t0]; exact r50
  · rw [t2]; exact r50
  · rw [t3]; exact r50
  · rw [t10]; exact r50
  · rw [t11]; exact r50
  · rw [t12]; exact r50
theorem ShC.sb {P : Nat → Prop} {μ μ' : SMem} {e : Nat} {H : HT} (h : ShC μ e H) (hH : HWF H) (hs : SB P μ μ') (hP : ∀ c, P c → c ≠ 53 + 2 * e ∧ c ≠ 54 + 2 * e ∧ isRd (tg μ c) = false) : ShC μ' e H := by
  obtain ⟨a1, a2, a3, a4, a5, a6, a7⟩ := hs
  obtain ⟨h1, h2, h3, h4⟩ := h
  have g1 : gi μ' (53 + 2 * e) = gi μ (53 + 2 * e) := a7 _ (fun e9 => (hP _ e9).1 rfl)
  have g2 : gi μ' (54 + 2 * e) = gi μ (54 + 2 * e) := a7 _ (fun e9 => (hP _ e9).2.1 rfl)
  unfold ShC
  rw [g1, g2, a3]
  refine ⟨h1, h2, fun k => ?_, h4⟩
  obtain ⟨x1, x2, x3⟩ := h3 k
  refine ⟨x1, x2, ?_⟩
  unfold RdA at *
  rw [a1, a7 _ (fun e9 => by have := (hP _ e9).2.2; rw [x3.1, ktag_rd x3.2.2.1] at this; cases this)]
  exact x3
theorem ShM.sb {P : Nat → Prop} {μ μ' : SMem} {e : Nat} {H : HT} (h : ShM μ e H) (hs : SB P μ μ') (hP : ∀ c, P c → c < 74 ∨ 79 < c) : ShM μ' e H := by
  have g : ∀ c, 74 ≤ c → c ≤ 79 → gi μ' c = gi μ c := fun c h1 h2 => hs.2.2.2.2.2.2 c (fun e9 => by have := hP _ e9; omega)
  unfold ShM
  rw [g 74 (by omega) (by omega), g 75 (by omega) (by omega), g 76 (by omega) (by omega), g 77 (by omega) (by omega), g 78 (by omega) (by omega), g 79 (by omega) (by omega)]
  exact h
theorem INVw.up {P : Nat → Prop} {μ μ' : SMem} {A A' Ai : AT} {im : Nat} {Hs : Nat → HT} (h : INVw μ A Ai im Hs) (hs : SB P μ μ') (hP : ∀ c, P c → Scr c) (h69 : gi μ' 69 10 = gi μ 69 10) (hB : Both μ' A') : INVw μ' A' Ai im Hs := by
  obtain ⟨i1, ⟨i2, i3⟩, ⟨j1, j2, j3, j4⟩, i5, i6, i7⟩ := h
  have hr : ∀ c, P c → isRd (tg μ c) = false := fun c hc => scr_tag i1 (hP c hc)
  refine ⟨hB, ⟨i2.sb hs, i3.sb hs⟩, ⟨j1, ?_, by rw [h69]; exact j3, fun k => ?_⟩, fun e he => ?_, ⟨by rw [hs.2.2.2.2.1]; exact i6.1, by rw [hs.2.1]; exact i6.2.1, fun j => by rw [hs.2.2.2.2.2.2 1 (fun e => by have := hP _ e; unfold Scr at this; omega)]; exact i6.2.2.1 j, by rw [hs.1]; exact i6.2.2.2.1, by rw [hs.2.1]; exact i6.2.2.2.2⟩, by rw [hs.2.2.2.2.1, hs.1]; exact i7⟩
  · rw [hs.2.2.2.2.2.2 2 (fun e => by have := hP _ e; unfold Scr at this; omega)]
    exact j2
  · obtain ⟨k1, k2, k3⟩ := j4 k
    refine ⟨k1, k2.sb hs (fun c hc => ⟨by have := hP _ hc; unfold Scr at this; omega, hr c hc⟩), ?_⟩
    rw [hs.2.2.2.2.2.2 71 (fun e => by have := hP _ e; unfold Scr at this; omega)]
    exact k3
  · obtain ⟨k1, k2, k3⟩ := i5 e he
    exact ⟨k1, k2.sb k1 hs (fun c hc => ⟨by have := hP _ hc; unfold Scr at this; omega, by have := hP _ hc; unfold Scr at this; omega, hr c hc⟩), k3.sb hs (fun c hc => by have := hP _ hc; unfold Scr at this; omega)⟩
theorem f72n {d : Nat} {x y : Int32} {A : AT} {μ : SMem} (hw : WF A) (ht : TwC μ 3 A) (hn : ¬ ((0 ≤ x ∧ x < E (rcA A)) ∧ 0 ≤ y ∧ y < E (bcA A))) : cl (d + 5) 72 [Sum.inr (Sum.inl (3)), Sum.inl (x), Sum.inl (y)] μ = some (Sum.inl (some (Sum.inl (-1))), μ) := by
  show rn (d + 5) 72 0 [some (Sum.inr (Sum.inl (3))), some (Sum.inl (x)), some (Sum.inl (y)), none, none, none, none, none] [] μ = _
  by_cases c1 : 0 ≤ x ∧ x < E (rcA A)
  · have c2 : ¬ (0 ≤ y ∧ y < E (bcA A)) := fun e => hn ⟨c1, e⟩
    obtain ⟨r, hr1, rfl⟩ := E_of c1.1 c1.2 (by have := hw.2.1; omega)
    obtain ⟨r0, hrd⟩ := ht.2.2.2.2.2 r hr1
    simp only [st72_0, st72_1, st72_2, st72_3, st72_4, st72_5, st72_6, st72_7, st72_8, st72_9, st72_10, st72_11, st72_12, st72_13, ht.1.1, f67 hw ht, f68 hw ht, c1, c2, E_n (show r < 1000 by have := hw.2.1; omega), r0, aft_some, Option.toList_some, Option.toList_none, List.cons_append, List.nil_append, br0, br1, br2, br3, zr01, zr02, n10, n01, ne_eq, not_true_eq_false, not_false_eq_true, if_true, if_false, true_and, and_true, and_self]
  · simp only [st72_0, st72_1, st72_2, st72_3, st72_4, st72_5, st72_6, st72_7, st72_8, st72_9, st72_10, st72_11, st72_12, st72_13, ht.1.1, f67 hw ht, f68 hw ht, c1, aft_some, Option.toList_some, Option.toList_none, List.cons_append, List.nil_append, br0, br1, br2, br3, zr01, zr02, n10, n01, ne_eq, not_true_eq_false, not_false_eq_true, if_true, if_false, true_and, and_true, and_self]
/-- the script stays over the class's call -/
def K1 (μ μ1 : SMem) : Prop := gi μ1 1 = gi μ 1 ∧ ln μ1 1 = ln μ 1 ∧ (tg μ 69 ≠ 99 → tg μ1 69 = tg μ 69)
theorem K1.rf {μ : SMem} : K1 μ μ := ⟨rfl, rfl, fun _ => rfl⟩
theorem K1.sb {P : Nat → Prop} {μ μ1 : SMem} (h : SB P μ μ1) (h1 : ¬ P 1) : K1 μ μ1 := ⟨h.2.2.2.2.2.2 1 h1, by rw [h.2.1], fun _ => by rw [h.1]⟩
theorem K1.tr {μ μ1 μ2 : SMem} (h : K1 μ μ1) (h' : K1 μ1 μ2) : K1 μ μ2 := ⟨h'.1.trans h.1, h'.2.1.trans h.2.1, fun q => (h'.2.2 (by rw [h.2.2 q]; exact q)).trans (h.2.2 q)⟩
/-- read -/
theorem g85 {d : Nat} {x y : Int32} {A Ai : AT} {im : Nat} {Hs : Nat → HT} {μ : SMem} (h : INVw μ A Ai im Hs) : ∃ v μ1 μ2 A', cl (d + 12) 85 [Sum.inr (Sum.inl (2)), Sum.inl (x), Sum.inl (y)] μ = some (Sum.inl (some (Sum.inl (v))), μ1) ∧ cl (d + 12) 179 [Sum.inr (Sum.inl (69)), Sum.inl (x), Sum.inl (y)] μ1 = some (Sum.inl (some (Sum.inl (v))), μ2) ∧ INVw μ2 A' Ai im Hs ∧ sz μ2 = sz μ ∧ sl μ2 = sl μ ∧ K1 μ μ1 := by
  have hB := h.1
  obtain ⟨hm, hc, hw, ht, hr⟩ := hB
  have hq := hr.mq hw
  by_cases c : (0 ≤ x ∧ x < E (rcA A)) ∧ 0 ≤ y ∧ y < E (bcA A)
  · obtain ⟨r, hr1, rfl⟩ := E_of c.1.1 c.1.2 (by have := hw.2.1; omega)
    obtain ⟨b, hb, rfl⟩ := E_of c.2.1 c.2.2 (by have := hw.1; omega)
    have b9 : b < 4 := by have := hw.1; omega
    obtain ⟨μ1, e1, e2, e3⟩ := f72 (d := d + 6) hw ht hr1 hb
    have p1 : ∀ c, (c = 3 ∨ c = 3 + 3 + 3 * b ∨ c = 3 + 3 + 3 * b + 2) → Scr c := fun c h => by unfold Scr; omega
    have hr2 : MRw (gi μ1 70) A := by rw [e2.2.2.2.2.2.2 70 (by omega)]; exact hr
    obtain ⟨μ2, x1, x2, x3⟩ := f162r (d := d + 7) (hm.sb e2) hw hr2 hr1 hb
    have hm1 := (hm.sb e2).1
    have hsb : SB (fun c => Scr c) μ μ2 := (e2.wk p1).tr (x2.wk (fun c h => by unfold Scr; omega))
    refine ⟨E (wor (kdA A r) (fgA A r) (pgA A b) (ndA A b) (inA A b)), μ1, μ2, rdA A r b, ?_, ?_, h.up hsb (fun c h => h) ?_ ⟨(hm.sb e2).sb x2, (hc.sb e2).sb x2, rdA_wf hw hr1 hb, e3.sb x2 (fun c hc9 => ⟨by omega, ?_⟩), x3⟩, by rw [x2.2.2.2.2.1, e2.2.2.2.2.1], by rw [x2.2.2.2.2.2.1, e2.2.2.2.2.2.1], K1.sb e2 (by omega)⟩
    · show rn (d + 12) 85 0 [some (Sum.inr (Sum.inl (2))), some (Sum.inl (E r)), some (Sum.inl (E b))] [] μ = _
      simp only [st85_0, st85_1, st85_2, st85_3, st85_4, st85_5, hc.1, hc.2.1, ht.1.1, e1, aft_some, Option.toList_some, Option.toList_none, List.cons_append, List.nil_append, br0, br1, br2, br3, zr01, zr02, n10, n01, ne_eq, not_true_eq_false, not_false_eq_true, if_true, if_false, true_and, and_true, and_self]
    · show rn (d + 12) 179 0 [some (Sum.inr (Sum.inl (69))), some (Sum.inl (E r)), some (Sum.inl (E b))] [] μ1 = _
      simp only [st179_0, st179_1, st179_2, st179_3, st179_4, st179_5, st179_6, st179_7, st179_8, st179_9, st179_10, st179_11, hm1, f176 (hm.sb e2) hw (hr2.mq hw), c, x1, aft_some, Option.toList_some, Option.toList_none, List.cons_append, List.nil_append, br0, br1, br2, br3, zr01, zr02, n10, n01, ne_eq, not_true_eq_false, not_false_eq_true, if_true, if_false, true_and, and_true, and_self]
    · rw [x2.2.2.2.2.2.2 69 (by omega), e2.2.2.2.2.2.2 69 (by omega)]
    · rw [e2.1]; exact scr_tag h.1 (by unfold Scr; omega)
  · refine ⟨-1, μ, μ, A, ?_, ?_, h, rfl, rfl, K1.rf⟩
    · show rn (d + 12) 85 0 [some (Sum.inr (Sum.inl (2))), some (Sum.inl (x)), some (Sum.inl (y))] [] μ = _
      simp only [st85_0, st85_1, st85_2, st85_3, st85_4, st85_5, hc.1, hc.2.1, ht.1.1, f72n hw ht c, aft_some, Option.toList_some, Option.toList_none, List.cons_append, List.nil_append, br0, br1, br2, br3, zr01, zr02, n10, n01, ne_eq, not_true_eq_false, not_false_eq_true, if_true, if_false, true_and, and_true, and_self]
    · show rn (d + 12) 179 0 [some (Sum.inr (Sum.inl (69))), some (Sum.inl (x)), some (Sum.inl (y))] [] μ = _
      simp only [st179_0, st179_1, st179_2, st179_3, st179_4, st179_5, st179_6, st179_7, st179_8, st179_9, st179_10, st179_11, hm.1, f176 hm hw hq, c, aft_some, Option.toList_some, Option.toList_none, List.cons_append, List.nil_append, br0, br1, br2, br3, zr01, zr02, n10, n01, ne_eq, not_true_eq_false, not_false_eq_true, if_true, if_false, true_and, and_true, and_self]
