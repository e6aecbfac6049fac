/-! SPECS G: a READING of the class; what towns come to -/
theorem f72_lp {d T a n pg S B : Nat} {x1 x2 x5 : Int32} (hpg : pg < 9) (hS : S < 256) (hB : B < 256) (hsub : ∀ q, q < 8 → B.testBit q = true → q < pg ∧ S.testBit q = true) {μ : SMem} (hbk : BkA μ a) (h2 : gi μ a 2 = E pg) (h3 : gi μ a 3 = E S) : ∀ k p, p + k = 8 → rn (d + 3) 72 28 [some (Sum.inr (Sum.inl (T))), some (Sum.inl (x1)), some (Sum.inl (x2)), some (Sum.inr (Sum.inl (n))), some (Sum.inr (Sum.inl (a))), some (Sum.inl (x5)), some (Sum.inl (E B)), some (Sum.inl (E p))] [] (lsM μ a S B x1 p) = rn (d + 3) 72 44 [some (Sum.inr (Sum.inl (T))), some (Sum.inl (x1)), some (Sum.inl (x2)), some (Sum.inr (Sum.inl (n))), some (Sum.inr (Sum.inl (a))), some (Sum.inl (x5)), some (Sum.inl (E B)), some (Sum.inl (E 8))] [] (lsM μ a S B x1 8) := by
  intro k
  induction k with
  | zero =>
    intro p hp
    have : p = 8 := by omega
    subst this
    rw [st72_28]
    simp only [st72_29, st72_30, show (8 : Int32) ≤ E 8 from by decide, if_true]
  | succ k ih =>
    intro p hp
    have hp8 : p < 8 := by omega
    have hc : ¬ (8 : Int32) ≤ E p := by rw [show (8 : Int32) = E 8 from rfl, E_le (by decide) (by omega)]; omega
    have hu := lsS_lt (B := B) hS p (by omega)
    have e1 : E p + 1 = E (p + 1) := E_add p 1
    obtain ⟨i1, i2, i3, i4⟩ := lsM_rd (B := B) (r := x1) h3 p
    have hbk2 := hbk.sb i1
    have q2 : gi (lsM μ a S B x1 p) a 2 = E pg := (i3 2 (by decide)).trans h2
    rw [st72_28]
    rw [← ih (p + 1) (by omega), lsM_s p]
    simp only [st72_29, st72_30, st72_31, st72_32, st72_33, st72_34, st72_35, st72_36, st72_37, st72_38, st72_39, st72_40, st72_41, st72_42, st72_43, hc, if_false, E_bit B hB p hp8, hbk2.1, f13 hpg hu hbk2 q2 i2, inr (show p < 2147483648 by omega) (show pg < 2147483648 by omega), E_n (show p < 1000 by omega), aft_some, Option.toList_some, Option.toList_none, List.cons_append, List.nil_append, br0, br1, br2, br3, zr01, zr02, e1]
    by_cases c : B.testBit p = true
    · obtain ⟨c1, c2⟩ := hsub p hp8 c
      have c3 : (lsS S B p).testBit p = true := by rw [lsS_bit hS p (by omega) p hp8]; simp [c2]
      have e3 : lsS S B (p + 1) = clr (lsS S B p) p := by rw [lsS_s p, if_pos c]
      simp only [c, c1, c3, e3, aft_some, Option.toList_some, Option.toList_none, List.cons_append, List.nil_append, br0, br1, br2, br3, zr01, zr02, n10, n01, ne_eq, not_true_eq_false, not_false_eq_true, if_true, if_false, true_and, and_true, and_self, st72_41, st72_42, st72_43, e1]
    · simp only [c, aft_some, Option.toList_some, Option.toList_none, List.cons_append, List.nil_append, br0, br1, br2, br3, zr01, zr02, n10, n01, ne_eq, not_true_eq_false, not_false_eq_true, if_true, if_false, true_and, and_true, and_self, Bool.false_eq_true]
theorem lsS_8 {S B : Nat} (hS : S < 256) (hB : B < 256) : lsS S B 8 = S &&& (255 ^^^ B) := by
  refine bits_eq (lsS_lt hS 8 (by omega)) (and_lt2 hS) fun q hq => ?_
  rw [lsS_bit hS 8 (by omega) q hq]
  have h255 : ∀ q, q < 8 → (255 : Nat).testBit q = true := by decide
  simp [Nat.testBit_and, Nat.testBit_xor, h255 q hq, hq]
/-- a READING of the class -/
theorem f72 {d T r b : Nat} {A : AT} {μ : SMem} (hw : WF A) (h : TwC μ T A) (hr : r < rcA A) (hb : b < bcA A) : ∃ μ', cl (d + 5) 72 [Sum.inr (Sum.inl (T)), Sum.inl (E r), Sum.inl (E b)] μ = some (Sum.inl (some (Sum.inl (E (wor (kdA A r) (fgA A r) (pgA A b) (ndA A b) (inA A b))))), μ') ∧ SB (fun c => c = T ∨ c = T + 3 + 3 * b ∨ c = T + 3 + 3 * b + 2) μ μ' ∧ TwC μ' T (rdA A r b) := by
  have h0 := h
  have hbk := h.bk (show b < 4 by have := hw.1; omega)
  obtain ⟨hs, t2, t3, t4, t5, t6⟩ := h
  have hw0 := hw
  obtain ⟨w1, w2, w3, w4, w5⟩ := hw
  obtain ⟨v1, v2, v3, v4, v5, v6⟩ := w3 b hb
  obtain ⟨k1, k2⟩ := w5 r hr
  obtain ⟨r0, hrd⟩ := t6 r hr
  obtain ⟨u1, u2, u3, u4⟩ := t5 b (by omega)
  have hS := hw0.in9 b
  have hB := tor_lt (k := kdA A r) (f := fgA A r) (pg := pgA A b) (nd := ndA A b) hS k1 k2 v1 v2
  have hsub : ∀ q, q < 8 → (tor (kdA A r) (fgA A r) (pgA A b) (ndA A b) (inA A b)).testBit q = true → q < pgA A b ∧ (inA A b).testBit q = true := by
    intro q hq h9
    rw [tor_bit hS k1 k2 v1 v2 hq] at h9
    have h8 : (inA A b).testBit q = true := by revert h9; cases (inA A b).testBit q <;> simp
    refine ⟨?_, h8⟩
    by_cases hq2 : q < pgA A b
    · exact hq2
    · rw [Nat.testBit_lt_two_pow (Nat.lt_of_lt_of_le v3 (Nat.pow_le_pow_right (by decide) (by omega)))] at h8
      cases h8
  have hbA : BkA μ (T + 3 + 3 * b) := hbk.1
  have hlp := f72_lp (d := d + 2) (T := T) (n := gr μ (T + 2) r) (x1 := E r) (x2 := E b) (x5 := E (wor (kdA A r) (fgA A r) (pgA A b) (ndA A b) (inA A b))) v2 hS hB hsub hbA u1 u2 8 0 rfl
  obtain ⟨i1, i2, i3, i4⟩ := lsM_rd (B := tor (kdA A r) (fgA A r) (pgA A b) (ndA A b) (inA A b)) (r := E r) u2 8
  rw [lsS_8 hS hB, tor_lft hS k1 k2 v1 v2] at i2
  have iT : gi (lsM μ (T + 3 + 3 * b) (inA A b) (tor (kdA A r) (fgA A r) (pgA A b) (ndA A b) (inA A b)) (E r) 8) T = gi μ T := i1.2.2.2.2.2.2 T (by omega)
  have hs2 := hs.sb i1
  generalize lsM μ (T + 3 + 3 * b) (inA A b) (tor (kdA A r) (fgA A r) (pgA A b) (ndA A b) (inA A b)) (E r) 8 = μ1 at *
  refine ⟨seti μ1 T 4 (dyA A + 1), ?_, ?_, ?_⟩
  · show rn (d + 5) 72 0 [some (Sum.inr (Sum.inl (T))), some (Sum.inl (E r)), some (Sum.inl (E b)), none, none, none, none, none] [] μ = _
    have c1 : 0 ≤ E r ∧ E r < E (rcA A) := (inr (by omega) (by omega)).mpr hr
    have c2 : 0 ≤ E b ∧ E b < E (bcA A) := (inr (by omega) (by omega)).mpr hb
    have c3 : ¬ T + 3 + 3 * b = 0 := by omega
    simp only [st72_0, st72_1, st72_2, st72_3, st72_4, st72_5, st72_6, st72_7, st72_8, st72_9, st72_10, st72_11, st72_12, st72_13, st72_14, st72_15, st72_16, st72_17, st72_18_t0, st72_18_t2, st72_18_t3, st72_18_t4, st72_18_t5, st72_18_t6, st72_18_t7, st72_18_t9, st72_19, st72_20, st72_21, st72_22, st72_23, st72_24_t0, st72_24_t2, st72_24_t3, st72_24_t4, st72_24_t5, st72_24_t6, st72_24_t7, st72_24_t9, st72_25, st72_26, st72_27, st72_18v, st72_24v, hs.1, f68 hw0 h0, f67 hw0 h0, c1, c2, and_self, if_true, E_n (show r < 1000 by omega), E_n (show b < 1000 by omega), r0, c3, ne_eq, not_false_iff, if_false, hbA.1, u2, st72_18v hrd.rd, st72_24v hrd.rd, fwor hS v2 v1 v4 hrd hbk, ftor hS v2 v1 v4 hrd hbk, aft_some, Option.toList_some, Option.toList_none, List.cons_append, List.nil_append, br0, br1, br2, br3, zr01, zr02]
    refine hlp.trans ?_
    simp only [st72_44, st72_45, st72_46, st72_47, st72_48, st72_49, st72_50, st72_51, hs2.1, iT, t4]
  · exact (i1.wk (fun c h => Or.inr h)).tr (SB.se (Or.inl rfl))
  · refine ⟨hs2.sb (SB.se (A := fun c => c = T) rfl), ?_, ?_, ?_, ?_, ?_⟩
    · rw [gi_seti, if_neg (by omega), iT]; exact t2
    · rw [gi_seti, if_neg (by omega), iT]; exact t3
    · rw [gi_seti, if_pos ⟨rfl, rfl⟩]; rfl
    · intro b' hb'
      have e9 : ∀ c j, c ≠ T → gi (seti μ1 T 4 (dyA A + 1)) c j = gi μ1 c j := fun c j hc => by rw [gi_seti, if_neg (fun e => hc e.1)]
      rw [e9 _ _ (by omega), e9 _ _ (by omega)]
      by_cases e : b' = b
      · subst e
        refine ⟨(i3 2 (by decide)).trans u1, ?_, fun p hp => ?_, fun p hp => ?_⟩
        · rw [i2]
          show _ = E (up1 (inA A) b' _ b')
          rw [up1, if_pos rfl]
        · rw [e9 _ _ (by omega), i1.2.2.2.2.2.2 _ (by omega)]
          exact u3 p hp
        · rw [e9 _ _ (by omega), i4 p]
          show _ = up1 (hoA A) b' _ b' p
          rw [up1, if_pos rfl, tor_bit hS k1 k2 v1 v2 hp, u4 p hp]
          by_cases q1 : (inA A b').testBit p = true <;> by_cases q2 : (lft (kdA A r) (fgA A r) (pgA A b') (ndA A b') (inA A b')).testBit p = true <;> simp [q1, q2, hp]
      · obtain ⟨x1, x2, x3, x4⟩ := t5 b' hb'
        have ee : ∀ c, c = T + 3 + 3 * b' ∨ c = T + 3 + 3 * b' + 1 ∨ c = T + 3 + 3 * b' + 2 → gi μ1 c = gi μ c := fun c hc => i1.2.2.2.2.2.2 c (by omega)
        rw [ee _ (Or.inl rfl)]
        refine ⟨x1, ?_, fun p hp => ?_, fun p hp => ?_⟩
        · show _ = E (up1 (inA A) b _ b')
          rw [up1, if_neg e]
          exact x2
        · rw [e9 _ _ (by omega), ee _ (Or.inr (Or.inl rfl))]
          exact x3 p hp
        · rw [e9 _ _ (by omega), ee _ (Or.inr (Or.inr rfl))]
          show _ = up1 (hoA A) b _ b' p
          rw [up1, if_neg e]
          exact x4 p hp
    · intro r' hr'
      obtain ⟨y1, y2⟩ := t6 r' hr'
      have hk : ¬ ktag (kdA A r') = 10 ∧ ¬ ktag (kdA A r') = 1 ∧ ¬ ktag (kdA A r') = 50 := by
        have : ∀ k, k < 8 → ¬ ktag k = 10 ∧ ¬ ktag k = 1 ∧ ¬ ktag k = 50 := by decide
        exact this _ (w5 r' hr').1
      have hg : gr (seti μ1 T 4 (dyA A + 1)) (T + 2) r' = gr μ (T + 2) r' := by rw [gr_seti, i1.2.2.1]
      rw [hg]
      refine ⟨y1, (y2.sb i1 ?_).sb (SB.se (A := fun c => c = T) rfl) ?_⟩
      · intro e
        rcases e with e | e
        · rw [e] at y2; exact hk.2.1 (y2.1.symm.trans hbA.1)
        · rw [e] at y2; exact hk.2.2 (y2.1.symm.trans hbA.2.2.2.2.2.1)
      · intro e
        rw [e] at y2; exact hk.1 (y2.1.symm.trans hs.1)
/-- a READING keeps a town one that can be -/
theorem rdA_wf {A : AT} {r b : Nat} (hw : WF A) (hr : r < rcA A) (hb : b < bcA A) : WF (rdA A r b) := by
  have hl := lft_wf hw hr hb
  obtain ⟨w1, w2, w3, w4, w5⟩ := hw
  obtain ⟨k1, k2⟩ := w5 r hr
  obtain ⟨a1, a2, a3, a4, a5, a6⟩ := w3 b hb
  have hS : inA A b < 256 := lt_256 a3 a2
  refine ⟨w1, w2, fun b' hb' => ?_, fun b' hb' => ?_, w5⟩
  · obtain ⟨v1, v2, v3, v4, v5, v6⟩ := w3 b' hb'
    by_cases e : b' = b
    · subst e
      have e1 : inA (rdA A r b') b' = lft (kdA A r) (fgA A r) (pgA A b') (ndA A b') (inA A b') := by show up1 (inA A) b' _ b' = _; rw [up1, if_pos rfl]
      have e2 : ∀ p, hoA (rdA A r b') b' p = if (inA A b').testBit p = true ∧ (lft (kdA A r) (fgA A r) (pgA A b') (ndA A b') (inA A b')).testBit p = false then E r else hoA A b' p := fun p => by show up1 (hoA A) b' _ b' p = _; rw [up1, if_pos rfl]
      refine ⟨v1, v2, by rw [e1]; exact hl, v4, fun p hp h => ?_, fun p hp => ?_⟩
      · rw [e1] at h
        rw [e2, if_neg (by rw [h]; simp)]
        refine v5 p hp ?_
        have h2 := tor_bit (k := kdA A r) (f := fgA A r) (pg := pgA A b') (nd := ndA A b') hS k1 k2 v1 v2 hp
        have h3 := tor_lft (k := kdA A r) (f := fgA A r) (pg := pgA A b') (nd := ndA A b') hS k1 k2 v1 v2
        rw [← h3, Nat.testBit_and] at h
        revert h
        cases (inA A b').testBit p <;> simp
      · rw [e2]
        split
        · exact Or.inr ⟨r, hr, rfl⟩
        · exact v6 p hp
    · have e1 : inA (rdA A r b) b' = inA A b' := by show up1 (inA A) b _ b' = _; rw [up1, if_neg e]
      have e2 : hoA (rdA A r b) b' = hoA A b' := by show up1 (hoA A) b _ b' = _; rw [up1, if_neg e]
      exact ⟨v1, v2, by rw [e1]; exact v3, v4, by rw [e1, e2]; exact v5, by rw [e2]; exact v6⟩
  · have e : ¬ b' = b := by intro e; rw [e] at hb'; exact absurd hb (Nat.not_lt.mpr hb')
    have e1 : inA (rdA A r b) b' = inA A b' := by show up1 (inA A) b _ b' = _; rw [up1, if_neg e]
    exact ⟨(w4 b' hb').1, by rw [e1]; exact (w4 b' hb').2⟩
