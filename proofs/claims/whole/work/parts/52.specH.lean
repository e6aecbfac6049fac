/-! SPECS H: the reference's row against a town; its readings -/
def MRw (g : Nat → Int32) (A : AT) : Prop := g 0 = E (bcA A) ∧ g 1 = E (rcA A) ∧ g 2 = dyA A ∧ (∀ b, b < bcA A → g (3 + 18 * b) = E (pgA A b) ∧ g (4 + 18 * b) = E (inA A b) ∧ (∀ p, p < 8 → g (5 + 18 * b + p) = ndA A b p) ∧ ∀ p, p < 8 → p < pgA A b → (inA A b).testBit p = false → g (13 + 18 * b + p) = hoA A b p) ∧ ∀ r, r < rcA A → g (75 + 2 * r) = E (kdA A r) ∧ g (76 + 2 * r) = E (fgA A r)
/-- the row in mind: its pages in are S -/
def MQr (g : Nat → Int32) (A : AT) (S : Nat → Nat) : Prop := g 0 = E (bcA A) ∧ g 1 = E (rcA A) ∧ (∀ b, b < bcA A → g (3 + 18 * b) = E (pgA A b) ∧ g (4 + 18 * b) = E (S b) ∧ S b < 2 ^ pgA A b ∧ ∀ p, p < 8 → g (5 + 18 * b + p) = ndA A b p) ∧ ∀ r, r < rcA A → g (75 + 2 * r) = E (kdA A r) ∧ g (76 + 2 * r) = E (fgA A r)
theorem MRw.mq {g : Nat → Int32} {A : AT} (hw : WF A) (h : MRw g A) : MQr g A (inA A) := ⟨h.1, h.2.1, fun b hb => ⟨(h.2.2.2.1 b hb).1, (h.2.2.2.1 b hb).2.1, hw.in2 b, (h.2.2.2.1 b hb).2.2.1⟩, h.2.2.2.2⟩
theorem MRw.ext {g g' : Nat → Int32} {A : AT} (hw : WF A) (h : MRw g A) (e : ∀ j, j < 87 → g' j = g j) : MRw g' A := by
  obtain ⟨h1, h2, h3, h4, h5⟩ := h
  obtain ⟨w1, w2, _⟩ := hw
  refine ⟨(e 0 (by omega)).trans h1, (e 1 (by omega)).trans h2, (e 2 (by omega)).trans h3, fun b hb => ?_, fun r hr => ?_⟩
  · obtain ⟨x1, x2, x3, x4⟩ := h4 b hb
    exact ⟨(e _ (by omega)).trans x1, (e _ (by omega)).trans x2, fun p hp => (e _ (by omega)).trans (x3 p hp), fun p hp h9 h8 => (e _ (by omega)).trans (x4 p hp h9 h8)⟩
  · obtain ⟨x1, x2⟩ := h5 r hr
    exact ⟨(e _ (by omega)).trans x1, (e _ (by omega)).trans x2⟩
theorem MQr.bk {μ : SMem} {A : AT} {S : Nat → Nat} {b : Nat} (hw : WF A) (h : MQr (gi μ 70) A S) (hb : b < bcA A) : BkS μ b (pgA A b) (ndA A b) (S b) := by
  obtain ⟨x1, x2, x3, x4⟩ := h.2.2.1 b hb
  obtain ⟨v1, v2, v3, v4, _⟩ := hw.2.2.1 b hb
  exact ⟨by have := hw.1; omega, v1, v2, x3, x1, x2, x4, v4⟩
theorem MQr.rd {μ : SMem} {A : AT} {S : Nat → Nat} {r : Nat} (hw : WF A) (h : MQr (gi μ 70) A S) (hr : r < rcA A) : RdS μ r (kdA A r) (fgA A r) :=
  ⟨by have := hw.2.1; omega, (hw.2.2.2.2 r hr).1, (hw.2.2.2.2 r hr).2, (h.2.2.2 r hr).1, (h.2.2.2 r hr).2⟩
/-- the pages in after a READING in mind -/
def rdS (A : AT) (S : Nat → Nat) (r b : Nat) : Nat → Nat := up1 S b (lft (kdA A r) (fgA A r) (pgA A b) (ndA A b) (S b))
def wrS (A : AT) (S : Nat → Nat) (r b : Nat) : Nat := wor (kdA A r) (fgA A r) (pgA A b) (ndA A b) (S b)
theorem f162m {d r b : Nat} {A : AT} {S : Nat → Nat} {μ : SMem} (hm : MA μ) (hw : WF A) (h : MQr (gi μ 70) A S) (hr : r < rcA A) (hb : b < bcA A) : ∃ μ', cl (d + 4) 162 [Sum.inr (Sum.inl (69)), Sum.inl (E r), Sum.inl (E b)] μ = some (Sum.inl (some (Sum.inl (E (wrS A S r b)))), μ') ∧ SB (fun c => c = 70) μ μ' ∧ MQr (gi μ' 70) A (rdS A S r b) := by
  obtain ⟨μ', e1, e2, e3, e4, e5, e6⟩ := f162 (d := d) hm (h.rd hw hr) (h.bk hw hb)
  refine ⟨μ', e1, e2, ?_⟩
  obtain ⟨h1, h2, h3, h4⟩ := h
  have w1 := hw.1
  refine ⟨(e6 0 (by omega) (by omega) (by omega)).trans h1, (e6 1 (by omega) (by omega) (by omega)).trans h2, fun b' hb' => ?_, fun r' hr' => ?_⟩
  · obtain ⟨x1, x2, x3, x4⟩ := h3 b' hb'
    refine ⟨(e6 _ (by omega) (by omega) (by omega)).trans x1, ?_, ?_, fun p hp => (e6 _ (by omega) (by omega) (by omega)).trans (x4 p hp)⟩
    · by_cases e : b' = b
      · subst e
        rw [e3, rdS, up1, if_pos rfl]
      · rw [rdS, up1, if_neg e, e6 _ (by omega) (by omega) (by omega)]
        exact x2
    · by_cases e : b' = b
      · subst e
        rw [rdS, up1, if_pos rfl]
        exact lft_lt2 x3 (hw.2.2.2.2 r hr).1 (hw.2.2.2.2 r hr).2 (hw.2.2.1 b' hb).1 (hw.pg9 b')
      · rw [rdS, up1, if_neg e]
        exact x3
  · obtain ⟨x1, x2⟩ := h4 r' hr'
    have := hw.2.1
    exact ⟨(e6 _ (by omega) (by omega) (by omega)).trans x1, (e6 _ (by omega) (by omega) (by omega)).trans x2⟩
/-- a READING of the reference -/
theorem f162r {d r b : Nat} {A : AT} {μ : SMem} (hm : MA μ) (hw : WF A) (h : MRw (gi μ 70) A) (hr : r < rcA A) (hb : b < bcA A) : ∃ μ', cl (d + 4) 162 [Sum.inr (Sum.inl (69)), Sum.inl (E r), Sum.inl (E b)] μ = some (Sum.inl (some (Sum.inl (E (wor (kdA A r) (fgA A r) (pgA A b) (ndA A b) (inA A b))))), μ') ∧ SB (fun c => c = 70) μ μ' ∧ MRw (gi μ' 70) (rdA A r b) := by
  obtain ⟨μ', e1, e2, e3, e4, e5, e6⟩ := f162 (d := d) hm ((h.mq hw).rd hw hr) ((h.mq hw).bk hw hb)
  refine ⟨μ', e1, e2, ?_⟩
  obtain ⟨h1, h2, h3, h4, h5⟩ := h
  have w1 := hw.1
  refine ⟨(e6 0 (by omega) (by omega) (by omega)).trans h1, (e6 1 (by omega) (by omega) (by omega)).trans h2, ?_, fun b' hb' => ?_, fun r' hr' => ?_⟩
  · rw [e4, h3]; rfl
  · obtain ⟨x1, x2, x3, x4⟩ := h4 b' hb'
    have c : b' < 4 := Nat.lt_of_lt_of_le hb' w1
    refine ⟨(e6 _ (by omega) (by omega) (by omega)).trans x1, ?_, fun p hp => (e6 _ (by omega) (by omega) (by omega)).trans (x3 p hp), fun p hp h9 h8 => ?_⟩
    · by_cases e : b' = b
      · subst e
        rw [e3]
        show _ = E (up1 (inA A) b' _ b')
        rw [up1, if_pos rfl]
      · rw [e6 _ (by omega) (by omega) (by omega), x2]
        show _ = E (up1 (inA A) b _ b')
        rw [up1, if_neg e]
    · by_cases e : b' = b
      · subst e
        rw [e5 p hp]
        have e1 : inA (rdA A r b') b' = lft (kdA A r) (fgA A r) (pgA A b') (ndA A b') (inA A b') := by show up1 (inA A) b' _ b' = _; rw [up1, if_pos rfl]
        rw [e1] at h8
        show _ = up1 (hoA A) b' _ b' p
        rw [up1, if_pos rfl]
        by_cases q1 : (inA A b').testBit p = true
        · simp [q1, h8]
        · have q2 : (inA A b').testBit p = false := by simpa using q1
          simp [q2, x4 p hp h9 q2]
      · rw [e6 _ (by omega) (by omega) (by omega)]
        have e1 : inA (rdA A r b) b' = inA A b' := by show up1 (inA A) b _ b' = _; rw [up1, if_neg e]
        rw [e1] at h8
        show _ = up1 (hoA A) b _ b' p
        rw [up1, if_neg e]
        exact x4 p hp h9 h8
  · obtain ⟨x1, x2⟩ := h5 r' hr'
    have := hw.2.1
    have c : r' < 6 := Nat.lt_of_lt_of_le hr' this
    exact ⟨(e6 _ (by omega) (by omega) (by omega)).trans x1, (e6 _ (by omega) (by omega) (by omega)).trans x2⟩
theorem le_m1 {x : Int32} {n : Nat} (hn : n < 1000) : (x ≤ E n - 1) = (x < E n) := by
  rw [eq_iff_iff, Int32.le_iff_toInt_le, Int32.lt_iff_toInt_lt, E_toInt (by omega)]
  by_cases h : n = 0
  · subst h
    have : (E 0 - 1).toInt = -1 := by decide
    rw [this]
    omega
  · rw [E_1, E_sub (by omega), E_toInt (by omega)]
    omega
theorem l_ge0 (x : Int32) : ((0 : Int64) ≤ x.toInt64) = (0 ≤ x) := l_le 0 x
theorem f141 {d : Nat} {x : Int32} {A : AT} {μ : SMem} (hm : MA μ) (hw : WF A) (h : gi μ 70 0 = E (bcA A)) : cl (d + 1) 141 [Sum.inr (Sum.inl (69)), Sum.inl (x)] μ = some (Sum.inl (some (Sum.inl (if 0 ≤ x ∧ x < E (bcA A) then 1 else 0))), μ) := by
  have w1 := hw.1
  show rn (d + 1) 141 0 [some (Sum.inr (Sum.inl (69))), some (Sum.inl (x))] [] μ = _
  simp only [st141_0, st141_1, st141_2, st141_3, st141_4, st141_5, st141_6, st141_7, st141_8, st141_9, st141_10, st141_11, hm.1, hm.2.1, hm.2.2.2.2.2.2.2.2.2.2.2.2.2.2.1.1, hm.2.2.2.2.2.2.2.2.2.2.2.2.2.2.2.1, show ((0 : Int32) ≤ 0) = True from by simp, show (0 : Int32).toNatClampNeg = 0 from rfl, show (0 < 87) = True from by simp, and_self, h, f139, l_ge0, l_le, le_m1 (show bcA A < 1000 by omega), aft_some, Option.toList_some, Option.toList_none, List.cons_append, List.nil_append, br0, br1, br2, br3, zr01, zr02, if_true]
theorem f142 {d : Nat} {x : Int32} {A : AT} {μ : SMem} (hm : MA μ) (hw : WF A) (h : gi μ 70 1 = E (rcA A)) : cl (d + 1) 142 [Sum.inr (Sum.inl (69)), Sum.inl (x)] μ = some (Sum.inl (some (Sum.inl (if 0 ≤ x ∧ x < E (rcA A) then 1 else 0))), μ) := by
  have w1 := hw.2.1
  show rn (d + 1) 142 0 [some (Sum.inr (Sum.inl (69))), some (Sum.inl (x))] [] μ = _
  simp only [st142_0, st142_1, st142_2, st142_3, st142_4, st142_5, st142_6, st142_7, st142_8, st142_9, st142_10, st142_11, hm.1, hm.2.1, hm.2.2.2.2.2.2.2.2.2.2.2.2.2.2.1.1, hm.2.2.2.2.2.2.2.2.2.2.2.2.2.2.2.1, show ((0 : Int32) ≤ 1) = True from by simp, show (1 : Int32).toNatClampNeg = 1 from rfl, show (1 < 87) = True from by simp, and_self, h, f139, l_ge0, l_le, le_m1 (show rcA A < 1000 by omega), aft_some, Option.toList_some, Option.toList_none, List.cons_append, List.nil_append, br0, br1, br2, br3, zr01, zr02, if_true]
theorem f148 {d : Nat} {x y : Int32} {A : AT} {S : Nat → Nat} {μ : SMem} (hm : MA μ) (hw : WF A) (h : MQr (gi μ 70) A S) : cl (d + 2) 148 [Sum.inr (Sum.inl (69)), Sum.inl (x), Sum.inl (y)] μ = some (Sum.inl (some (Sum.inl (if (0 ≤ x ∧ x < E (bcA A)) ∧ 0 ≤ y ∧ y < E (pgA A x.toNatClampNeg) then 1 else 0))), μ) := by
  have w1 := hw.1
  show rn (d + 2) 148 0 [some (Sum.inr (Sum.inl (69))), some (Sum.inl (x)), some (Sum.inl (y))] [] μ = _
  by_cases c : 0 ≤ x ∧ x < E (bcA A)
  · obtain ⟨b, hb, rfl⟩ := E_of c.1 c.2 (by omega)
    have hp := hw.pg9 b
    simp only [st148_0, st148_1, st148_2, st148_3, st148_4, st148_5, st148_6, st148_7, st148_8, st148_9, st148_10, st148_11, st148_12, st148_13, st148_14, st148_15, st148_16, st148_17, st148_18, hm.1, f141 hm hw h.1, f143 (show b < 4 by omega) hm, (h.2.2.1 b hb).1, c, f139, l_ge0, l_le, le_m1 (show pgA A b < 1000 by omega), E_n (show b < 1000 by omega), aft_some, Option.toList_some, Option.toList_none, List.cons_append, List.nil_append, br0, br1, br2, br3, zr01, zr02, n10, n01, ne_eq, not_true_eq_false, not_false_eq_true, if_true, if_false, true_and, and_true, and_self]
    by_cases c2 : 0 ≤ y ∧ y < E (pgA A b) <;> simp [c2]
  · simp only [st148_0, st148_1, st148_2, st148_3, st148_4, st148_5, st148_6, st148_7, st148_8, st148_9, st148_10, st148_11, st148_12, st148_13, st148_14, st148_15, st148_16, st148_17, st148_18, hm.1, f141 hm hw h.1, c, aft_some, Option.toList_some, Option.toList_none, List.cons_append, List.nil_append, br0, br1, br2, br3, zr01, zr02, n10, n01, ne_eq, not_true_eq_false, not_false_eq_true, if_true, if_false, true_and, and_true, and_self, false_and]
    simp
theorem f176 {d : Nat} {x y : Int32} {A : AT} {S : Nat → Nat} {μ : SMem} (hm : MA μ) (hw : WF A) (h : MQr (gi μ 70) A S) : cl (d + 2) 176 [Sum.inr (Sum.inl (69)), Sum.inl (x), Sum.inl (y)] μ = some (Sum.inl (some (Sum.inl (if (0 ≤ x ∧ x < E (rcA A)) ∧ 0 ≤ y ∧ y < E (bcA A) then 1 else 0))), μ) := by
  show rn (d + 2) 176 0 [some (Sum.inr (Sum.inl (69))), some (Sum.inl (x)), some (Sum.inl (y))] [] μ = _
  simp only [st176_0, st176_1, st176_2, st176_3, st176_4, st176_5, st176_6, st176_7, st176_8, st176_9, st176_10, st176_11, hm.1, f141 hm hw h.1, f142 hm hw h.2.1, aft_some, Option.toList_some, Option.toList_none, List.cons_append, List.nil_append, br0, br1, br2, br3, zr01, zr02]
  by_cases c1 : 0 ≤ x ∧ x < E (rcA A) <;> by_cases c2 : 0 ≤ y ∧ y < E (bcA A) <;> simp [c1, c2]
/-- rows laid over rows -/
def lyM (μ : SMem) (a c : Nat) : Nat → SMem
  | 0 => μ
  | k + 1 => seti (lyM μ a c k) c k (gi μ a k)
theorem lyM_s {μ : SMem} {a c : Nat} (k : Nat) : lyM μ a c (k + 1) = seti (lyM μ a c k) c k (gi μ a k) := rfl
theorem lyM_rd {μ : SMem} {a c : Nat} : ∀ k, SB (fun x => x = c) μ (lyM μ a c k) ∧ ∀ j, gi (lyM μ a c k) c j = if j < k then gi μ a j else gi μ c j := by
  intro k
  induction k with
  | zero => exact ⟨SB.rf, fun j => by simp [lyM]⟩
  | succ k ih =>
    rw [lyM_s k]
    refine ⟨ih.1.tr (SB.se (A := fun x => x = c) rfl), fun j => ?_⟩
    rw [gi_seti, ih.2 j]
    by_cases e : j = k
    · subst e; simp
    · have : (j < k + 1) = (j < k) := by rw [eq_iff_iff]; omega
      simp [e, this]
theorem f152_lp {d a c : Nat} {μ : SMem} (hac : a ≠ c) (h1 : tg μ a = 50) (h2 : tg μ c = 50) (h3 : ln μ a = 87) (h4 : ln μ c = 87) : ∀ k p, p + k = 87 → rn d 152 2 [some (Sum.inr (Sum.inl (a))), some (Sum.inr (Sum.inl (c))), some (Sum.inl (E p))] [] (lyM μ a c p) = some (Sum.inl none, lyM μ a c 87) := by
  intro k
  induction k with
  | zero =>
    intro p hp
    have : p = 87 := by omega
    subst this
    rw [st152_2]
    simp only [st152_0, st152_1, st152_3, st152_4, st152_5, st152_6, st152_7, st152_8, st152_9, st152_10, st152_11, st152_12, st152_13, show (87 : Int32) ≤ E 87 from by decide, if_true]
  | succ k ih =>
    intro p hp
    have hc : ¬ (87 : Int32) ≤ E p := by rw [show (87 : Int32) = E 87 from rfl, E_le (by decide) (by omega)]; omega
    obtain ⟨i1, i2⟩ := lyM_rd (μ := μ) (a := a) (c := c) p
    have ihs := ih (p + 1) (by omega)
    rw [lyM_s p] at ihs
    rw [st152_2]
    have ga : gi (lyM μ a c p) a p = gi μ a p := by rw [i1.2.2.2.2.2.2 a hac]
    simp only [st152_0, st152_1, st152_3, st152_4, st152_5, st152_6, st152_7, st152_8, st152_9, st152_10, st152_11, st152_12, st152_13, hc, if_false, i1.1, i1.2.1, h1, h2, h3, h4, E_ge0 (show p < 1000 by omega), E_n (show p < 1000 by omega), show p < 87 by omega, and_self, ga, show E p + 1 = E (p + 1) from E_add p 1]
    exact ihs
theorem f152 {d a c : Nat} {μ : SMem} (hac : a ≠ c) (h1 : tg μ a = 50) (h2 : tg μ c = 50) (h3 : ln μ a = 87) (h4 : ln μ c = 87) : ∃ μ', cl d 152 [Sum.inr (Sum.inl (a)), Sum.inr (Sum.inl (c))] μ = some (Sum.inl none, μ') ∧ SB (fun x => x = c) μ μ' ∧ ∀ j, j < 87 → gi μ' c j = gi μ a j := by
  refine ⟨lyM μ a c 87, ?_, (lyM_rd 87).1, fun j hj => by rw [(lyM_rd 87).2 j, if_pos hj]⟩
  show rn d 152 0 [some (Sum.inr (Sum.inl (a))), some (Sum.inr (Sum.inl (c))), none] [] μ = _
  simp only [st152_0, st152_1]
  exact f152_lp hac h1 h2 h3 h4 87 0 rfl
theorem f183 {d : Nat} {μ : SMem} (hm : MA μ) : ∃ μ', cl (d + 1) 183 [Sum.inr (Sum.inl (69))] μ = some (Sum.inl none, μ') ∧ SB (fun x => x = 73) μ μ' ∧ ∀ j, j < 87 → gi μ' 73 j = gi μ 70 j := by
  have m := hm
  unfold MA at m
  obtain ⟨m1, m2, m3, m4, m5, _, _, _, _, _, _, _, _, _, ⟨t1, t2, t3, t4, _⟩, l1, l2, l3, l4, _⟩ := m
  obtain ⟨μ', e1, e2, e3⟩ := f152 (d := d) (a := 70) (c := 73) (by decide) t1 t4 l1 l4
  refine ⟨μ', ?_, e2, e3⟩
  show rn (d + 1) 183 0 [some (Sum.inr (Sum.inl (69)))] [] μ = _
  simp only [st183_0, st183_1, st183_2, st183_3, st183_4, st183_5, m1, m2, m5, e1, aft_some, Option.toList_some, Option.toList_none, List.cons_append, List.nil_append, br0, br1, br2, br3, zr01, zr02]
theorem f184 {d : Nat} {μ : SMem} (hm : MA μ) : ∃ μ', cl (d + 1) 184 [Sum.inr (Sum.inl (69))] μ = some (Sum.inl none, μ') ∧ SB (fun x => x = 70) μ μ' ∧ ∀ j, j < 87 → gi μ' 70 j = gi μ 73 j := by
  have m := hm
  unfold MA at m
  obtain ⟨m1, m2, m3, m4, m5, _, _, _, _, _, _, _, _, _, ⟨t1, t2, t3, t4, _⟩, l1, l2, l3, l4, _⟩ := m
  obtain ⟨μ', e1, e2, e3⟩ := f152 (d := d) (a := 73) (c := 70) (by decide) t4 t1 l4 l1
  refine ⟨μ', ?_, e2, e3⟩
  show rn (d + 1) 184 0 [some (Sum.inr (Sum.inl (69)))] [] μ = _
  simp only [st184_0, st184_1, st184_2, st184_3, st184_4, st184_5, m1, m2, m5, e1, aft_some, Option.toList_some, Option.toList_none, List.cons_append, List.nil_append, br0, br1, br2, br3, zr01, zr02]
