/-! SPECS ZC: brings -/
theorem tkS_bit {pg S B : Nat} (hS : S < 256) : ∀ k, k ≤ 8 → ∀ q, q < 8 → (tkS pg S B k).testBit q = (S.testBit q || (decide (q < k) && decide (q < pg) && B.testBit q)) := by
  intro k
  induction k with
  | zero => intro _ q _; simp [tkS]
  | succ k ih =>
    intro h q hq
    rw [tkS_s k]
    by_cases e : q = k
    · subst e
      by_cases c : q < pg ∧ B.testBit q = true
      · rw [if_pos c, or_bit _ (tkS_lt hS q (by omega)) q hq q hq]
        simp [c]
      · rw [if_neg c, ih (by omega) q hq]
        by_cases c1 : q < pg
        · have c2 : B.testBit q = false := by
            have := fun h => c ⟨c1, h⟩
            revert this; cases B.testBit q <;> simp
          simp [c2]
        · simp [c1]
    · have e2 : decide (q < k + 1) = decide (q < k) := by
        have : (q < k + 1) = (q < k) := by rw [eq_iff_iff]; omega
        simp only [this]
      have e3 : (q == k) = false := by simp [e]
      rw [e2]
      by_cases c : k < pg ∧ B.testBit k = true
      · rw [if_pos c, or_bit _ (tkS_lt hS k (by omega)) k (by omega) q hq, ih (by omega) q hq, e3]
        simp
      · rw [if_neg c, ih (by omega) q hq]
theorem hb_bit {pg : Nat} {ho : Nat → Int32} {r : Int32} : ∀ k, k ≤ 8 → ∀ q, q < 8 → ((hb pg ho r k).testBit q = true ↔ q < k ∧ q < pg ∧ ho q = r) := by
  intro k
  induction k with
  | zero => intro _ q _; simp [hb]
  | succ k ih =>
    intro h q hq
    rw [hb_s k]
    by_cases c : k < pg ∧ ho k = r
    · rw [if_pos c, or_bit _ (hb_lt k (by omega)) k (by omega) q hq]
      by_cases e : q = k
      · subst e
        simp [c]
      · have e3 : (q == k) = false := by simp [e]
        rw [e3, Bool.or_false, ih (by omega) q hq]
        have : (q < k + 1) = (q < k) := by rw [eq_iff_iff]; omega
        rw [this]
    · rw [if_neg c, ih (by omega) q hq]
      by_cases e : q = k
      · subst e
        refine ⟨fun h => by omega, fun h => absurd h.2 c⟩
      · have : (q < k + 1) = (q < k) := by rw [eq_iff_iff]; omega
        rw [this]
theorem hb_pg {pg : Nat} {ho : Nat → Int32} {r : Int32} : ∀ k, hb pg ho r k < 2 ^ k := by
  intro k
  induction k with
  | zero => exact (by decide : (0 : Nat) < 2 ^ 0)
  | succ k ih =>
    rw [hb_s k]
    have h2 : 2 ^ k < 2 ^ (k + 1) := Nat.pow_lt_pow_right (by decide) (by omega)
    split
    · exact Nat.or_lt_two_pow (by omega) (by rw [Nat.shiftLeft_eq, Nat.one_mul]; exact h2)
    · omega
theorem hb_pg8 {pg : Nat} {ho : Nat → Int32} {r : Int32} (h : pg < 9) : hb pg ho r 8 < 2 ^ pg := by
  have e := hb_stop (pg := pg) (ho := ho) (r := r) (8 - pg)
  rw [show pg + (8 - pg) = 8 by omega] at e
  rw [e]
  exact hb_pg pg
def hbA (A : AT) (r b : Nat) : Nat := hb (pgA A b) (hoA A b) (E r) 8
theorem tkS_or {A : AT} {r b : Nat} (hw : WF A) : tkS (pgA A b) (inA A b) (hbA A r b) 8 = inA A b ||| hbA A r b := by
  have hS := hw.in9 b
  have hB : hbA A r b < 256 := hb_lt 8 (by omega)
  refine bits_eq (tkS_lt hS 8 (by omega)) (or_lt2 hS hB) fun q hq => ?_
  rw [tkS_bit hS 8 (by omega) q hq, Nat.testBit_or]
  by_cases c : (hbA A r b).testBit q = true
  · have := (hb_bit 8 (by omega) q hq).mp c
    simp [this.2.1, hq]
  · have c2 : (hbA A r b).testBit q = false := by revert c; cases (hbA A r b).testBit q <;> simp
    simp [c2]
def tbA (A : AT) (r k : Nat) : AT := ((bcA A, rcA A, dyA A), pgA A, fun b => if b < k then inA A b ||| hbA A r b else inA A b, ndA A, fun b p => if b < k ∧ (hbA A r b).testBit p = true then -4 else hoA A b p, kdA A, fgA A)
theorem tbA_in {A : AT} {r k : Nat} (b : Nat) : inA (tbA A r k) b = if b < k then inA A b ||| hbA A r b else inA A b := rfl
theorem tbA_ho {A : AT} {r k : Nat} (b p : Nat) : hoA (tbA A r k) b p = if b < k ∧ (hbA A r b).testBit p = true then -4 else hoA A b p := rfl
theorem tbA_wf {A : AT} {r : Nat} (hw : WF A) (k : Nat) : WF (tbA A r k) := by
  have hw0 := hw
  obtain ⟨w1, w2, w3, w4, w5⟩ := hw
  refine ⟨w1, w2, fun b hb => ?_, fun b hb => ?_, w5⟩
  · obtain ⟨v1, v2, v3, v4, v5, v6⟩ := w3 b hb
    refine ⟨v1, v2, ?_, v4, fun p hp h => ?_, fun p hp => ?_⟩
    · show (if b < k then inA A b ||| hbA A r b else inA A b) < 2 ^ pgA A b
      split
      · exact Nat.or_lt_two_pow v3 (hb_pg8 v2)
      · exact v3
    · show (if b < k ∧ (hbA A r b).testBit p = true then (-4 : Int32) else hoA A b p) = -4
      have h1 : (if b < k then inA A b ||| hbA A r b else inA A b).testBit p = true := h
      split
      · rfl
      · rename_i c
        refine v5 p hp ?_
        by_cases k1 : b < k
        · rw [if_pos k1, Nat.testBit_or] at h1
          have c2 : (hbA A r b).testBit p = false := by
            have := fun h => c ⟨k1, h⟩
            revert this; cases (hbA A r b).testBit p <;> simp
          rw [c2, Bool.or_false] at h1
          exact h1
        · rw [if_neg k1] at h1
          exact h1
    · have e9 := tbA_ho (A := A) (r := r) (k := k) b p
      by_cases c : b < k ∧ (hbA A r b).testBit p = true
      · rw [if_pos c] at e9; exact Or.inl e9
      · rw [if_neg c] at e9; rw [e9]; exact v6 p hp
  · obtain ⟨v1, v2⟩ := w4 b hb
    refine ⟨v1, ?_⟩
    show (if b < k then inA A b ||| hbA A r b else inA A b) = 0
    have e : hbA A r b < 2 ^ pgA A b := hb_pg8 (hw0.pg9 b)
    rw [v1] at e
    have : hbA A r b = 0 := by omega
    rw [this, v2]
    split <;> rfl
theorem tbA_tw {T r b : Nat} {A : AT} {μ : SMem} (hw : WF A) (ht : TwC μ T (tbA A r b)) (hb : b < 4) : SB (fun c => T ≤ c ∧ c ≤ T + 14) μ (tkM μ (T + 3 + 3 * b) (pgA A b) (inA A b) (hbA A r b) 8) ∧ TwC (tkM μ (T + 3 + 3 * b) (pgA A b) (inA A b) (hbA A r b) 8) T (tbA A r (b + 1)) := by
  have hw1 := tbA_wf (r := r) hw b
  obtain ⟨hs, t2, t3, t4, t5, t6⟩ := ht
  obtain ⟨u1, u2, u3, u4⟩ := t5 b hb
  have u2' : gi μ (T + 3 + 3 * b) 3 = E (inA A b) := by
    rw [u2, tbA_in, if_neg (by omega)]
  have u4' : ∀ p, p < 8 → gi μ (T + 3 + 3 * b + 2) p = hoA A b p := by
    intro p hp
    rw [u4 p hp, tbA_ho, if_neg (by omega)]
  have hbk := (hs.2.2.2.2.2.2.2.1 b hb).2
  obtain ⟨i1, i2, i3, i4⟩ := tkM_rd (a := T + 3 + 3 * b) (pg := pgA A b) (B := hbA A r b) u2' 8
  rw [tkS_or hw] at i2
  have k1 : SB (fun c => T ≤ c ∧ c ≤ T + 14) μ (tkM μ (T + 3 + 3 * b) (pgA A b) (inA A b) (hbA A r b) 8) := i1.wk (fun c e => by omega)
  refine ⟨k1, ?_⟩
  generalize tkM μ (T + 3 + 3 * b) (pgA A b) (inA A b) (hbA A r b) 8 = μ1 at *
  refine ⟨hs.sb i1, ?_, ?_, ?_, fun b' hb' => ?_, fun r' hr' => ?_⟩
  · rw [i1.2.2.2.2.2.2 T (by omega)]; exact t2
  · rw [i1.2.2.2.2.2.2 T (by omega)]; exact t3
  · rw [i1.2.2.2.2.2.2 T (by omega)]; exact t4
  · by_cases e : b' = b
    · subst e
      refine ⟨(i3 2 (by decide)).trans u1, ?_, fun p hp => ?_, fun p hp => ?_⟩
      · rw [i2]; show _ = E (if b' < b' + 1 then inA A b' ||| hbA A r b' else inA A b'); rw [if_pos (by omega)]
      · rw [i1.2.2.2.2.2.2 _ (by omega)]; exact u3 p hp
      · rw [i4 p, u4' p hp]
        show _ = if b' < b' + 1 ∧ (hbA A r b').testBit p = true then (-4 : Int32) else hoA A b' p
        by_cases c : (hbA A r b').testBit p = true
        · have := (hb_bit 8 (by omega) p hp).mp c
          rw [if_pos ⟨hp, this.2.1, c⟩, if_pos ⟨by omega, c⟩]
        · rw [if_neg (fun h => c h.2.2), if_neg (fun h => c h.2)]
    · obtain ⟨x1, x2, x3, x4⟩ := t5 b' hb'
      have ee : ∀ c, c = T + 3 + 3 * b' ∨ c = T + 3 + 3 * b' + 1 ∨ c = T + 3 + 3 * b' + 2 → gi μ1 c = gi μ c := fun c hc => i1.2.2.2.2.2.2 c (by omega)
      have lt : (b' < b + 1) = (b' < b) := by rw [eq_iff_iff]; omega
      rw [ee _ (Or.inl rfl), ee _ (Or.inr (Or.inl rfl)), ee _ (Or.inr (Or.inr rfl))]
      refine ⟨x1, ?_, x3, fun p hp => ?_⟩
      · rw [x2, tbA_in, tbA_in]; simp only [lt]
      · rw [x4 p hp, tbA_ho, tbA_ho]; simp only [lt]
  · obtain ⟨y1, y2⟩ := t6 r' hr'
    have hk : ¬ ktag (kdA A r') = 1 ∧ ¬ ktag (kdA A r') = 50 := by
      have : ∀ k, k < 8 → ¬ ktag k = 1 ∧ ¬ ktag k = 50 := by decide
      exact this _ (hw.2.2.2.2 r' hr').1
    rw [i1.2.2.1]
    refine ⟨y1, y2.sb i1 ?_⟩
    intro e
    rcases e with e | e
    · rw [e] at y2; exact hk.1 (y2.1.symm.trans hbk.1)
    · rw [e] at y2; exact hk.2 (y2.1.symm.trans hbk.2.2.2.2.2.1)
theorem f73_lp {d T r : Nat} {A : AT} {μ0 : SMem} (hw : WF A) (hr : r < 6) : ∀ k b (μ : SMem) (u6 u7 : Option SV), b + k = 4 → SB (fun c => T ≤ c ∧ c ≤ T + 14) μ0 μ → TwC μ T (tbA A r b) → ∃ μ', rn (d + 3) 73 10 [some (Sum.inr (Sum.inl (T))), some (Sum.inl (E r)), some (Sum.inl (E (smF (hdF A (E r)) b))), some (Sum.inr (Sum.inl (T + 1))), some (Sum.inl (E 4)), some (Sum.inl (E b)), u6, u7] [] μ = some (Sum.inl (some (Sum.inl (E (smF (hdF A (E r)) 4)))), μ') ∧ SB (fun c => T ≤ c ∧ c ≤ T + 14) μ0 μ' ∧ TwC μ' T (tbA A r 4) := by
  intro k
  induction k with
  | zero =>
    intro b μ u6 u7 hb hs ht
    have : b = 4 := by omega
    subst this
    refine ⟨μ, ?_, hs, ht⟩
    rw [st73_10]
    simp only [st73_0, st73_1, st73_2, st73_3, st73_4, st73_5, st73_6, st73_7, st73_8, st73_9, st73_11, st73_12, st73_13, st73_14, st73_15, st73_16, st73_17, st73_18, st73_19, st73_20, st73_21, st73_22, st73_23, st73_24, st73_25, st73_26, st73_27, st73_28, st73_29, st73_30, st73_31, st73_32, Int32.le_refl, if_true]
  | succ k ih =>
    intro b μ u6 u7 hb9 hs ht
    have b4 : b < 4 := by omega
    have hc : ¬ E 4 ≤ E b := by rw [E_le (by decide) (by omega)]; omega
    obtain ⟨j1, j2⟩ := tbA_tw hw ht b4
    have ht0 := ht
    obtain ⟨⟨s1, s2, s3, s4, s5, s6, s7, s8, s9⟩, t2, t3, t4, t5, t6⟩ := ht
    obtain ⟨u1, u2, u3, u4⟩ := t5 b b4
    have u1' : gi μ (T + 3 + 3 * b) 2 = E (pgA A b) := u1
    have u2' : gi μ (T + 3 + 3 * b) 3 = E (inA A b) := by
      rw [u2, tbA_in, if_neg (by omega)]
    have u4' : ∀ p, p < 8 → gi μ (T + 3 + 3 * b + 2) p = hoA A b p := by
      intro p hp
      rw [u4 p hp, tbA_ho, if_neg (by omega)]
    have hB : hbA A r b < 256 := hb_lt 8 (by omega)
    have e14 : hb (pgA A b) (gi μ (T + 3 + 3 * b + 2)) (E r) 8 = hbA A r b := hb_ext 8 u4'
    have f1 := fun d => f14 (d := d) (hw.pg9 b) (show (0 : Int32) ≤ E r from E_nonneg (by omega)) (s8 b b4).2 u1'
    rw [e14] at f1
    have f2 := fun d => f15 (d := d) (hw.pg9 b) (hw.in9 b) hB (s8 b b4).2 u1' u2'
    generalize tkM μ (T + 3 + 3 * b) (pgA A b) (inA A b) (hbA A r b) 8 = μ1 at *
    obtain ⟨μ', y1, y2, y3⟩ := ih (b + 1) μ1 (some (Sum.inr (Sum.inl (T + 3 + 3 * b)))) (some (Sum.inl (E (hbA A r b)))) (by omega) (hs.tr j1) j2
    refine ⟨μ', ?_, y2, y3⟩
    rw [smF_s b, show hdF A (E r) b = pcn (hbA A r b) from rfl] at y1
    rw [st73_10]
    simp only [st73_0, st73_1, st73_2, st73_3, st73_4, st73_5, st73_6, st73_7, st73_8, st73_9, st73_11, st73_12, st73_13, st73_14, st73_15, st73_16, st73_17, st73_18, st73_19, st73_20, st73_21, st73_22, st73_23, st73_24, st73_25, st73_26, st73_27, st73_28, st73_29, st73_30, st73_31, st73_32, hc, s4, s5, E_ge0 (show b < 1000 by omega), E_n (show b < 1000 by omega), b4, (s8 b b4).1, (s8 b b4).2.1, f1, f2, f224 hB, E_add, show E b + 1 = E (b + 1) from E_add b 1, aft_some, Option.toList_some, Option.toList_none, List.cons_append, List.nil_append, br0, br1, br2, br3, zr01, zr02, n10, n01, ne_eq, not_true_eq_false, not_false_eq_true, if_true, if_false, true_and, and_true, and_self]
    exact y1
theorem tbA_0 {A : AT} {r T : Nat} {μ : SMem} (ht : TwC μ T A) : TwC μ T (tbA A r 0) := by
  obtain ⟨hs, t2, t3, t4, t5, t6⟩ := ht
  refine ⟨hs, t2, t3, t4, fun b hb => ?_, t6⟩
  obtain ⟨x1, x2, x3, x4⟩ := t5 b hb
  refine ⟨x1, ?_, x3, fun p hp => ?_⟩
  · rw [x2, tbA_in, if_neg (by omega)]
  · rw [x4 p hp, tbA_ho, if_neg (by omega)]
theorem f73 {d T r : Nat} {A : AT} {μ : SMem} (hw : WF A) (ht : TwC μ T A) (hr : r < 6) : ∃ μ', cl (d + 3) 73 [Sum.inr (Sum.inl (T)), Sum.inl (E r)] μ = some (Sum.inl (some (Sum.inl (E (smF (hdF A (E r)) 4)))), μ') ∧ SB (fun c => T ≤ c ∧ c ≤ T + 14) μ μ' ∧ TwC μ' T (tbA A r 4) := by
  obtain ⟨μ', y1, y2, y3⟩ := f73_lp (d := d) (T := T) hw hr 4 0 μ none none rfl SB.rf (tbA_0 (r := r) ht)
  refine ⟨μ', ?_, y2, y3⟩
  show rn (d + 3) 73 0 [some (Sum.inr (Sum.inl (T))), some (Sum.inl (E r)), none, none, none, none, none, none] [] μ = _
  simp only [st73_0, st73_1, st73_2, st73_3, st73_4, st73_5, st73_6, st73_7, st73_8, st73_9, ht.1.1, ht.1.2.1, ht.1.2.2.2.1, ht.1.2.2.2.2.1, alA, alB, alC, alD, alE, and_self, show Int32.ofNat 4 = E 4 from rfl, aft_some, Option.toList_some, Option.toList_none, List.cons_append, List.nil_append, br0, br1, br2, br3, zr01, zr02, n10, n01, ne_eq, not_true_eq_false, not_false_eq_true, if_true, if_false, true_and, and_true, and_self]
  exact y1
theorem tbA_mr {A : AT} {r b : Nat} {μ : SMem} (hw : WF A) (hm : MRw (gi μ 70) (tbA A r b)) (hb : b < bcA A) : MRw (gi (seti μ 70 (4 + 18 * b) (E (inA A b ||| hbA A r b))) 70) (tbA A r (b + 1)) := by
  have w1 := hw.1
  obtain ⟨h1, h2, h3, h4, h5⟩ := hm
  have e : ∀ j, j ≠ 4 + 18 * b → gi (seti μ 70 (4 + 18 * b) (E (inA A b ||| hbA A r b))) 70 j = gi μ 70 j := fun j hj => by rw [gi_seti, if_neg (fun e => hj e.2)]
  refine ⟨?_, ?_, ?_, fun b' hb' => ?_, fun r' hr' => ?_⟩
  · rw [e 0 (by omega)]; exact h1
  · rw [e 1 (by omega)]; exact h2
  · rw [e 2 (by omega)]; exact h3
  · obtain ⟨x1, x2, x3, x4⟩ := h4 b' hb'
    refine ⟨?_, ?_, fun p hp => ?_, fun p hp hp9 hp0 => ?_⟩
    · rw [e _ (by omega)]; exact x1
    · by_cases q : b' = b
      · subst q
        rw [gi_seti, if_pos ⟨rfl, rfl⟩]
        show _ = E (if b' < b' + 1 then inA A b' ||| hbA A r b' else inA A b'); rw [if_pos (by omega)]
      · rw [e _ (by omega), x2]
        have lt : (b' < b + 1) = (b' < b) := by rw [eq_iff_iff]; omega
        rw [tbA_in, tbA_in]; simp only [lt]
    · rw [e _ (by omega)]; exact x3 p hp
    · rw [e _ (by omega)]
      by_cases q : b' = b
      · subst q
        have g0 : (if b' < b' + 1 then inA A b' ||| hbA A r b' else inA A b').testBit p = false := hp0
        rw [if_pos (by omega), Nat.testBit_or, Bool.or_eq_false_iff] at g0
        have g1 : (if b' < b' then inA A b' ||| hbA A r b' else inA A b').testBit p = false := by rw [if_neg (by omega)]; exact g0.1
        rw [x4 p hp hp9 g1]
        rw [tbA_ho, tbA_ho, if_neg (by omega), if_neg (by rw [g0.2]; simp)]
      · have lt : (b' < b + 1) = (b' < b) := by rw [eq_iff_iff]; omega
        have g1 : (if b' < b then inA A b' ||| hbA A r b' else inA A b').testBit p = false := by
          have : (if b' < b + 1 then inA A b' ||| hbA A r b' else inA A b').testBit p = false := hp0
          simp only [lt] at this
          exact this
        rw [x4 p hp hp9 g1]
        rw [tbA_ho, tbA_ho]; simp only [lt]
  · rw [e _ (by omega), e _ (by omega)]; exact h5 r' hr'
theorem tbA_m0 {A : AT} {r : Nat} {g : Nat → Int32} (hm : MRw g A) : MRw g (tbA A r 0) := by
  obtain ⟨h1, h2, h3, h4, h5⟩ := hm
  refine ⟨h1, h2, h3, fun b hb => ?_, h5⟩
  obtain ⟨x1, x2, x3, x4⟩ := h4 b hb
  refine ⟨x1, ?_, x3, fun p hp hp9 hp0 => ?_⟩
  · rw [x2, tbA_in, if_neg (by omega)]
  · have g0 : (if b < 0 then inA A b ||| hbA A r b else inA A b).testBit p = false := hp0
    rw [if_neg (by omega)] at g0
    rw [x4 p hp hp9 g0, tbA_ho, if_neg (by omega)]
theorem tbA_m4 {A : AT} {r : Nat} {g : Nat → Int32} (hw : WF A) (hm : MRw g (tbA A r (bcA A))) : MRw g (tbA A r 4) := by
  have w1 := hw.1
  obtain ⟨h1, h2, h3, h4, h5⟩ := hm
  refine ⟨h1, h2, h3, fun b hb => ?_, h5⟩
  obtain ⟨x1, x2, x3, x4⟩ := h4 b hb
  have hb9 : b < bcA A := hb
  have l1 : (b < 4) = (b < bcA A) := by rw [eq_iff_iff]; omega
  refine ⟨x1, ?_, x3, fun p hp hp9 hp0 => ?_⟩
  · rw [x2, tbA_in, tbA_in]; simp only [l1]
  · have g0 : (if b < bcA A then inA A b ||| hbA A r b else inA A b).testBit p = false := by
      have : (if b < 4 then inA A b ||| hbA A r b else inA A b).testBit p = false := hp0
      simp only [l1] at this
      exact this
    rw [x4 p hp hp9 g0, tbA_ho, tbA_ho]; simp only [l1]
theorem f180_lp {d r : Nat} {A : AT} {x2 : Int32} {μ0 : SMem} (hm : MA μ0) (hw : WF A) (hr : r < rcA A) : ∀ k b (μ : SMem), b + k = bcA A → SB (fun c => c = 70) μ0 μ → MRw (gi μ 70) (tbA A r b) → ∃ μ', rn (d + 5) 180 12 [some (Sum.inr (Sum.inl (69))), some (Sum.inl (E r)), some (Sum.inl (x2)), some (Sum.inl (E b))] [] μ = some (Sum.inl (some (Sum.inl (x2))), μ') ∧ SB (fun c => c = 70) μ0 μ' ∧ MRw (gi μ' 70) (tbA A r 4) := by
  have w1 := hw.1
  intro k
  induction k with
  | zero =>
    intro b μ hb hs hM
    have : b = bcA A := by omega
    subst this
    refine ⟨μ, ?_, hs, tbA_m4 hw hM⟩
    have hm1 := hm.sb hs
    have g0 : gi μ 70 0 = E (bcA A) := hM.1
    obtain ⟨m1, m2, m3, m4, m5, m6, m7, m8, m9, m10, m11, m12, m13, m14, ⟨t0, t1, t2, t3, t4, t5, t6, t7, t8, t9, t10, t11, t12⟩, l0, l1, l2, l3, l4, l5, l6, l7, l8, l9, l10, l11, l12⟩ := hm1
    rw [st180_12]
    simp only [st180_13, st180_14, st180_15, st180_16, st180_17, st180_18, st180_19, st180_20, st180_21, st180_22, st180_23, st180_24, st180_25, st180_26, st180_27, st180_28, st180_29, st180_30, st180_31, st180_32, m1, m2, t0, l0, z00, zn0, zl0, g0, alA, alB, alC, alD, alE, and_self, Int32.le_refl, if_true]
  | succ k ih =>
    intro b μ hb9 hs hM
    have hm1 := hm.sb hs
    have hm2 := hm1
    have b4 : b < 4 := by omega
    have hbb : b < bcA A := by omega
    have hc : ¬ E (bcA A) ≤ E b := by rw [E_le (by omega) (by omega)]; omega
    have g0 : gi μ 70 0 = E (bcA A) := hM.1
    have gS : gi μ 70 (4 + 18 * b) = E (inA A b) := by
      rw [(hM.2.2.2.1 b hbb).2.1, tbA_in, if_neg (by omega)]
    have f1 := fun d => f172 (d := d) hm1 (tbA_wf (r := r) hw b) hM hbb (show r < 6 by have := hw.2.1; omega)
    have e1 : hb (pgA (tbA A r b) b) (hoA (tbA A r b) b) (E r) 8 = hbA A r b := hb_ext 8 (fun p _ => by rw [tbA_ho, if_neg (by omega)])
    simp only [e1] at f1
    have hB : hbA A r b < 256 := hb_lt 8 (by omega)
    obtain ⟨μ', y1, y2, y3⟩ := ih (b + 1) (seti μ 70 (4 + 18 * b) (E (inA A b ||| hbA A r b))) (by omega) (hs.tr (SB.se rfl)) (tbA_mr hw hM hbb)
    refine ⟨μ', ?_, y2, y3⟩
    obtain ⟨m1, m2, m3, m4, m5, m6, m7, m8, m9, m10, m11, m12, m13, m14, ⟨t0, t1, t2, t3, t4, t5, t6, t7, t8, t9, t10, t11, t12⟩, l0, l1, l2, l3, l4, l5, l6, l7, l8, l9, l10, l11, l12⟩ := hm1
    rw [st180_12]
    simp only [st180_13, st180_14, st180_15, st180_16, st180_17, st180_18, st180_19, st180_20, st180_21, st180_22, st180_23, st180_24, st180_25, st180_26, st180_27, st180_28, st180_29, st180_30, st180_31, st180_32, m1, m2, t0, l0, z00, zn0, zl0, g0, hc, alA, alB, alC, alD, alE, and_self, f144 b4 hm2, gS, f1, E_or _ (hw.in9 b) _ hB, f145 b4 hm2, show E b + 1 = E (b + 1) from E_add b 1, aft_some, Option.toList_some, Option.toList_none, List.cons_append, List.nil_append, br0, br1, br2, br3, zr01, zr02, n10, n01, ne_eq, not_true_eq_false, not_false_eq_true, if_true, if_false, true_and, and_true, and_self]
    exact y1
theorem g86 {d : Nat} {x : Int32} {A Ai : AT} {im : Nat} {Hs : Nat → HT} {μ : SMem} (h : INVw μ A Ai im Hs) : ∃ v μ1 μ2 A', cl (d + 12) 86 [Sum.inr (Sum.inl (2)), Sum.inl (x)] μ = some (Sum.inl (some (Sum.inl (v))), μ1) ∧ cl (d + 12) 180 [Sum.inr (Sum.inl (69)), Sum.inl (x)] μ1 = some (Sum.inl (some (Sum.inl (v))), μ2) ∧ INVw μ2 A' Ai im Hs ∧ sz μ2 = sz μ ∧ sl μ2 = sl μ ∧ K1 μ μ1 := by
  have hB := h.1
  obtain ⟨hm, hc, hw, ht, hr⟩ := hB
  by_cases c : 0 ≤ x ∧ x < E (rcA A)
  · obtain ⟨r, hr1, rfl⟩ := E_of c.1 c.2 (by have := hw.2.1; omega)
    have r6 : r < 6 := by have := hw.2.1; omega
    obtain ⟨r0, hrd⟩ := ht.2.2.2.2.2 r hr1
    obtain ⟨μ1, a1, a2, a3⟩ := f73 (d := d + 8) hw ht r6
    have hm1 := hm.sb a2
    have hr1' : MRw (gi μ1 70) A := by rw [a2.2.2.2.2.2.2 70 (by omega)]; exact hr
    obtain ⟨μ2, b1, b2, b3⟩ := f180_lp (d := d + 7) (x2 := E (smF (hdF A (E r)) 4)) hm1 hw hr1 (bcA A) 0 μ1 (by omega) SB.rf (tbA_m0 hr1')
    have hs1 : SB Scr μ μ1 := a2.wk (fun c e => by unfold Scr; omega)
    have hs2 : SB Scr μ1 μ2 := b2.wk (fun c e => by unfold Scr; omega)
    refine ⟨E (smF (hdF A (E r)) 4), μ1, μ2, tbA A r 4, ?_, ?_, h.up (hs1.tr hs2) (fun c h => h) ?_ ⟨hm1.sb b2, (hc.sb a2).sb b2, tbA_wf hw 4, a3.sb b2 (fun c e => ⟨by omega, by rw [e]; have := hm1; obtain ⟨m1, m2, m3, m4, m5, m6, m7, m8, m9, m10, m11, m12, m13, m14, ⟨t0, t1, t2, t3, t4, t5, t6, t7, t8, t9, t10, t11, t12⟩, l0, l1, l2, l3, l4, l5, l6, l7, l8, l9, l10, l11, l12⟩ := this; rw [t0]; rfl⟩), b3⟩, by rw [b2.2.2.2.2.1, a2.2.2.2.2.1], by rw [b2.2.2.2.2.2.1, a2.2.2.2.2.2.1], K1.sb a2 (by omega)⟩
    · show rn (d + 12) 86 0 [some (Sum.inr (Sum.inl (2))), some (Sum.inl (E r))] [] μ = _
      simp only [st86_0, st86_1, st86_2, st86_3, st86_4, st86_5, st86_6, st86_7, st86_8, st86_9, st86_10, st86_11, hc.1, hc.2.1, ht.1.1, f68 hw ht, c, E_n (show r < 1000 by omega), r0, a1, aft_some, Option.toList_some, Option.toList_none, List.cons_append, List.nil_append, br0, br1, br2, br3, zr01, zr02, n10, n01, ne_eq, not_true_eq_false, not_false_eq_true, if_true, if_false, true_and, and_true, and_self]
    · show rn (d + 12) 180 0 [some (Sum.inr (Sum.inl (69))), some (Sum.inl (E r)), none, none] [] μ1 = _
      simp only [st180_0, st180_1, st180_2, st180_3, st180_4, st180_5, st180_6, st180_7, st180_8, st180_9, st180_10, st180_11, hm1.1, f142 hm1 hw hr1'.2.1, c, f173 hm1 hw hr1' r6, aft_some, Option.toList_some, Option.toList_none, List.cons_append, List.nil_append, br0, br1, br2, br3, zr01, zr02, n10, n01, ne_eq, not_true_eq_false, not_false_eq_true, if_true, if_false, true_and, and_true, and_self]
      exact b1
    · rw [b2.2.2.2.2.2.2 69 (by omega), a2.2.2.2.2.2.2 69 (by omega)]
  · refine ⟨-1, μ, μ, A, ?_, ?_, h, rfl, rfl, K1.rf⟩
    · show rn (d + 12) 86 0 [some (Sum.inr (Sum.inl (2))), some (Sum.inl (x))] [] μ = _
      simp only [st86_0, st86_1, st86_2, st86_3, st86_4, st86_5, st86_6, st86_7, st86_8, st86_9, st86_10, st86_11, hc.1, hc.2.1, ht.1.1, f68 hw ht, c, aft_some, Option.toList_some, Option.toList_none, List.cons_append, List.nil_append, br0, br1, br2, br3, zr01, zr02, n10, n01, ne_eq, not_true_eq_false, not_false_eq_true, if_true, if_false, true_and, and_true, and_self]
    · show rn (d + 12) 180 0 [some (Sum.inr (Sum.inl (69))), some (Sum.inl (x)), none, none] [] μ = _
      simp only [st180_0, st180_1, st180_2, st180_3, st180_4, st180_5, st180_6, st180_7, st180_8, st180_9, st180_10, st180_11, hm.1, f142 hm hw hr.2.1, c, aft_some, Option.toList_some, Option.toList_none, List.cons_append, List.nil_append, br0, br1, br2, br3, zr01, zr02, n10, n01, ne_eq, not_true_eq_false, not_false_eq_true, if_true, if_false, true_and, and_true, and_self]
