/-! SPECS ZD: together -/
theorem allF_mk {ok : Nat → Bool} : ∀ k i, (∀ j, i ≤ j → j < i + k → ok j = true) → allF ok i k = true := by
  intro k
  induction k with
  | zero => intro i _; rfl
  | succ k ih => intro i h; rw [allF_s, h i (by omega) (by omega), ih (i + 1) (fun j h1 h2 => h j (by omega) (by omega))]; rfl
def okT (pg S : Nat) (ho : Nat → Int32) (p : Nat) : Bool := decide (p < pg → S.testBit p = false → ho p ≠ -4)
def wcF (pg S : Nat) (ho : Nat → Int32) : Nat → Nat
  | 0 => 0
  | p + 1 => if p < pg ∧ S.testBit p = false then wcF pg S ho p ||| 1 <<< (ho p).toNatClampNeg else wcF pg S ho p
theorem wcF_s {pg S : Nat} {ho : Nat → Int32} (p : Nat) : wcF pg S ho (p + 1) = if p < pg ∧ S.testBit p = false then wcF pg S ho p ||| 1 <<< (ho p).toNatClampNeg else wcF pg S ho p := rfl
theorem wcF_lt {pg S : Nat} {ho : Nat → Int32} : ∀ k, (∀ p, p < k → p < pg → S.testBit p = false → ∃ r, r < 6 ∧ ho p = E r) → wcF pg S ho k < 256 := by
  intro k
  induction k with
  | zero => intro _; exact (by decide : (0 : Nat) < 256)
  | succ k ih =>
    intro h
    have h1 := ih (fun p hp => h p (by omega))
    rw [wcF_s]
    split
    · rename_i c
      obtain ⟨r, hr, e⟩ := h k (by omega) c.1 c.2
      rw [e, E_nn (by omega)]
      exact or_lt _ h1 r (by omega)
    · exact h1
theorem wcF_bit {pg S : Nat} {ho : Nat → Int32} {r : Nat} (hr : r < 6) : ∀ k, k ≤ 8 → (∀ p, p < k → p < pg → S.testBit p = false → ∃ r, r < 6 ∧ ho p = E r) → ((wcF pg S ho k).testBit r = true ↔ ∃ p, p < k ∧ p < pg ∧ S.testBit p = false ∧ ho p = E r) := by
  intro k
  induction k with
  | zero => intro _ _; simp [wcF]
  | succ k ih =>
    intro hk h
    have h1 := ih (by omega) (fun p hp => h p (by omega))
    have h2 := wcF_lt k (fun p hp => h p (by omega))
    rw [wcF_s]
    by_cases c : k < pg ∧ S.testBit k = false
    · rw [if_pos c]
      obtain ⟨r', hr', e⟩ := h k (by omega) c.1 c.2
      rw [e, E_nn (by omega), or_bit _ h2 r' (by omega) r (by omega), Bool.or_eq_true, h1]
      refine ⟨fun h => ?_, fun h => ?_⟩
      · rcases h with ⟨p, q1, q2⟩ | h
        · exact ⟨p, by omega, q2⟩
        · have : r = r' := by simpa using h
          subst this
          exact ⟨k, by omega, c.1, c.2, e⟩
      · obtain ⟨p, q1, q2, q3, q4⟩ := h
        by_cases e2 : p = k
        · subst e2
          rw [e, E_inj (by omega) (by omega)] at q4
          right; simp [q4]
        · exact Or.inl ⟨p, by omega, q2, q3, q4⟩
    · rw [if_neg c, h1]
      refine ⟨fun ⟨p, q1, q2⟩ => ⟨p, by omega, q2⟩, fun ⟨p, q1, q2, q3, q4⟩ => ?_⟩
      by_cases e2 : p = k
      · subst e2; exact absurd ⟨q2, q3⟩ c
      · exact ⟨p, by omega, q2, q3, q4⟩
def heF (pg S : Nat) (ho : Nat → Int32) : Nat → Nat
  | 0 => S
  | r + 1 => heF pg S ho r ||| hb pg ho (E r) 8
def whF (pg : Nat) (ho : Nat → Int32) : Nat → Nat
  | 0 => 0
  | r + 1 => if hb pg ho (E r) 8 = 0 then whF pg ho r else whF pg ho r ||| 1 <<< r
theorem heF_s {pg S : Nat} {ho : Nat → Int32} (r : Nat) : heF pg S ho (r + 1) = heF pg S ho r ||| hb pg ho (E r) 8 := rfl
theorem whF_s {pg : Nat} {ho : Nat → Int32} (r : Nat) : whF pg ho (r + 1) = if hb pg ho (E r) 8 = 0 then whF pg ho r else whF pg ho r ||| 1 <<< r := rfl
theorem heF_lt {pg S : Nat} {ho : Nat → Int32} (hS : S < 256) : ∀ r, heF pg S ho r < 256 := by
  intro r
  induction r with
  | zero => exact hS
  | succ r ih => exact or_lt2 ih (hb_lt 8 (by omega))
theorem whF_lt {pg : Nat} {ho : Nat → Int32} : ∀ r, r ≤ 8 → whF pg ho r < 256 := by
  intro r
  induction r with
  | zero => intro _; exact (by decide : (0 : Nat) < 256)
  | succ r ih =>
    intro h
    rw [whF_s]
    split
    · exact ih (by omega)
    · exact or_lt _ (ih (by omega)) r (by omega)
theorem heF_bit {pg S : Nat} {ho : Nat → Int32} {q : Nat} (hq : q < 8) : ∀ k, ((heF pg S ho k).testBit q = true ↔ S.testBit q = true ∨ ∃ r, r < k ∧ q < pg ∧ ho q = E r) := by
  intro k
  induction k with
  | zero => simp [heF]
  | succ k ih =>
    rw [heF_s, Nat.testBit_or, Bool.or_eq_true, ih, hb_bit 8 (by omega) q hq]
    refine ⟨fun h => ?_, fun h => ?_⟩
    · rcases h with (h | ⟨r, h1, h2⟩) | h
      · exact Or.inl h
      · exact Or.inr ⟨r, by omega, h2⟩
      · exact Or.inr ⟨k, by omega, h.2⟩
    · rcases h with h | ⟨r, h1, h2⟩
      · exact Or.inl (Or.inl h)
      · by_cases e : r = k
        · subst e; exact Or.inr ⟨hq, h2⟩
        · exact Or.inl (Or.inr ⟨r, by omega, h2⟩)
theorem hb_ne {pg : Nat} {ho : Nat → Int32} {x : Int32} : hb pg ho x 8 ≠ 0 ↔ ∃ p, p < 8 ∧ p < pg ∧ ho p = x := by
  refine ⟨fun h => ?_, fun ⟨p, h1, h2⟩ e => ?_⟩
  · refine Classical.byContradiction fun hn => h (bits_eq (hb_lt 8 (by omega)) (by decide) fun q hq => ?_)
    have : ¬ (hb pg ho x 8).testBit q = true := fun e => hn ⟨q, hq, ((hb_bit 8 (by omega) q hq).mp e).2⟩
    rw [Nat.zero_testBit]
    revert this; cases (hb pg ho x 8).testBit q <;> simp
  · have := (hb_bit (ho := ho) (r := x) (pg := pg) 8 (by omega) p h1).mpr ⟨h1, h2⟩
    rw [e, Nat.zero_testBit] at this
    cases this
theorem whF_bit {pg : Nat} {ho : Nat → Int32} {r : Nat} (hr : r < 8) : ∀ k, k ≤ 8 → ((whF pg ho k).testBit r = true ↔ r < k ∧ ∃ p, p < 8 ∧ p < pg ∧ ho p = E r) := by
  intro k
  induction k with
  | zero => intro _; simp [whF]
  | succ k ih =>
    intro hk
    have i1 := ih (by omega)
    rw [whF_s]
    by_cases c : hb pg ho (E k) 8 = 0
    · rw [if_pos c, i1]
      refine ⟨fun h => ⟨by omega, h.2⟩, fun h => ⟨?_, h.2⟩⟩
      by_cases e : r = k
      · subst e
        exact absurd c (hb_ne.mpr h.2)
      · omega
    · rw [if_neg c, or_bit _ (whF_lt k (by omega)) k (by omega) r hr, Bool.or_eq_true, i1]
      have hx := hb_ne.mp c
      refine ⟨fun h => ?_, fun h => ?_⟩
      · rcases h with h | h
        · exact ⟨by omega, h.2⟩
        · have : r = k := by simpa using h
          subst this
          exact ⟨by omega, hx⟩
      · by_cases e : r = k
        · right; simp [e]
        · exact Or.inl ⟨by omega, h.2⟩
theorem tgt_eq {A : AT} {b : Nat} (hw : WF A) (hb : b < bcA A) : (if heF (pgA A b) (inA A b) (hoA A b) (rcA A) = 2 ^ pgA A b - 1 then E (whF (pgA A b) (hoA A b) (rcA A)) else -4) = (if allF (okT (pgA A b) (inA A b) (hoA A b)) 0 8 = true then E (wcF (pgA A b) (inA A b) (hoA A b) 8) else -4) := by
  have w2 := hw.2.1
  obtain ⟨v1, v2, v3, v4, v5, v6⟩ := hw.2.2.1 b hb
  have hS : inA A b < 256 := lt_256 v3 v2
  by_cases c : allF (okT (pgA A b) (inA A b) (hoA A b)) 0 8 = true
  · have hok : ∀ p, p < 8 → p < pgA A b → (inA A b).testBit p = false → ∃ r, r < rcA A ∧ hoA A b p = E r := by
      intro p hp hp1 hp2
      have := allF_at 8 0 c p (by omega) (by omega)
      unfold okT at this
      rw [decide_eq_true_eq] at this
      rcases v6 p hp with e | ⟨r, hr, e⟩
      · exact absurd e (this hp1 hp2)
      · exact ⟨r, hr, e⟩
    have hok6 : ∀ p, p < 8 → p < pgA A b → (inA A b).testBit p = false → ∃ r, r < 6 ∧ hoA A b p = E r := fun p h1 h2 h3 => by
      obtain ⟨r, hr, e⟩ := hok p h1 h2 h3
      exact ⟨r, by omega, e⟩
    rw [if_pos c]
    have e1 : heF (pgA A b) (inA A b) (hoA A b) (rcA A) = 2 ^ pgA A b - 1 := by
      have : (2 : Nat) ^ pgA A b ≤ 2 ^ 8 := Nat.pow_le_pow_right (by decide) (by omega)
      refine bits_eq (heF_lt hS _) (by omega) fun q hq => ?_
      rw [Nat.testBit_two_pow_sub_one]
      by_cases k : q < pgA A b
      · rw [decide_eq_true k, heF_bit hq]
        by_cases s : (inA A b).testBit q = true
        · exact Or.inl s
        · have s2 : (inA A b).testBit q = false := by revert s; cases (inA A b).testBit q <;> simp
          obtain ⟨r, hr, e⟩ := hok q hq k s2
          exact Or.inr ⟨r, hr, k, e⟩
      · rw [decide_eq_false k]
        refine Bool.eq_false_iff.mpr fun h => ?_
        rcases (heF_bit hq (rcA A)).mp h with s | ⟨r, _, s, _⟩
        · rw [Nat.testBit_lt_two_pow (Nat.lt_of_lt_of_le v3 (Nat.pow_le_pow_right (by decide) (by omega)))] at s
          cases s
        · exact k s
    rw [if_pos e1]
    congr 1
    refine bits_eq (whF_lt _ (by omega)) (wcF_lt 8 hok6) fun r hr => ?_
    by_cases r6 : r < 6
    · rw [Bool.eq_iff_iff, whF_bit hr _ (by omega), wcF_bit r6 8 (by omega) hok6]
      refine ⟨fun ⟨h1, p, h2, h3, h4⟩ => ⟨p, h2, h3, ?_, h4⟩, fun ⟨p, h2, h3, h4, h5⟩ => ⟨?_, p, h2, h3, h5⟩⟩
      · refine Bool.eq_false_iff.mpr fun s => ?_
        have := v5 p h2 s
        rw [h4] at this
        exact (Em4 (by omega)).mp this
      · obtain ⟨r', hr', e⟩ := hok p h2 h3 h4
        rw [h5, E_inj (by omega) (by omega)] at e
        omega
    · have a1 : (whF (pgA A b) (hoA A b) (rcA A)).testBit r = false := Bool.eq_false_iff.mpr fun s => by have := ((whF_bit hr _ (by omega)).mp s).1; omega
      have a2 : ∀ k, k ≤ 8 → (wcF (pgA A b) (inA A b) (hoA A b) k).testBit r = false := by
        intro k
        induction k with
        | zero => intro _; simp [wcF]
        | succ k ih =>
          intro hk
          rw [wcF_s]
          split
          · rename_i q
            obtain ⟨r', hr', e⟩ := hok6 k (by omega) q.1 q.2
            rw [e, E_nn (by omega), or_bit _ (wcF_lt k (fun p hp => hok6 p (by omega))) r' (by omega) r hr, ih (by omega)]
            have : ¬ r = r' := by omega
            simp [this]
          · exact ih (by omega)
      rw [a1, a2 8 (by omega)]
  · rw [if_neg c]
    have : ¬ heF (pgA A b) (inA A b) (hoA A b) (rcA A) = 2 ^ pgA A b - 1 := by
      intro e
      refine c (allF_mk 8 0 fun q h1 h2 => ?_)
      unfold okT
      rw [decide_eq_true_eq]
      intro k s hm4
      have hq : q < 8 := by omega
      have g := heF_bit (pg := pgA A b) (S := inA A b) (ho := hoA A b) hq (rcA A)
      rw [e, Nat.testBit_two_pow_sub_one, decide_eq_true k, s] at g
      rcases g.mp rfl with h | ⟨r, h1, _, h2⟩
      · cases h
      · rw [hm4] at h2
        exact (Em4 (n := r) (by omega)).mp h2.symm
    rw [if_neg this]
theorem f94_lp {d a pg S : Nat} {x1 : Int32} {ho : Nat → Int32} (hpg : pg < 9) (hS : S < 256) {μ : SMem} (hbk : BkA μ a) (h2 : gi μ a 2 = E pg) (h3 : gi μ a 3 = E S) (hv : ∀ p, p < 8 → gi μ (a + 2) p = ho p) (h6 : ∀ p, p < 8 → ho p = -4 ∨ ∃ r, r < 6 ∧ ho p = E r) : ∀ k p (u5 : Option SV), p + k = 8 → wcF pg S ho p < 256 → rn (d + 3) 94 13 [some (Sum.inr (Sum.inl (2))), some (Sum.inl (x1)), some (Sum.inr (Sum.inl (a))), some (Sum.inl (E (wcF pg S ho p))), some (Sum.inl (E p)), u5] [] μ = some (Sum.inl (some (Sum.inl (if allF (okT pg S ho) p k = true then E (wcF pg S ho 8) else -4))), μ) := by
  intro k
  induction k with
  | zero =>
    intro p u5 hp hW
    have : p = 8 := by omega
    subst this
    rw [st94_13]
    simp only [st94_14, st94_15, st94_16, st94_17, st94_18, st94_19, st94_20, st94_21, st94_22, st94_23, st94_24, st94_25, st94_26, st94_27, st94_28, st94_29, st94_30, st94_31, st94_32, st94_33, st94_34, st94_35, st94_36, st94_37, st94_38, st94_39, st94_40, st94_41, show (8 : Int32) ≤ E 8 from by decide, if_true, allF]
  | succ k ih =>
    intro p u5 hp hW
    have hc : ¬ (8 : Int32) ≤ E p := by rw [show (8 : Int32) = E 8 from rfl, E_le (by decide) (by omega)]; omega
    have hp8 : p < 8 := by omega
    have ci : (0 ≤ E p ∧ E p < E pg) = (p < pg) := inr (by omega) (by omega)
    have ci2 : (E p < E pg) = (p < pg) := E_ltE (by omega) (by omega)
    rw [st94_13, allF_s]
    by_cases c1 : p < pg
    · by_cases c2 : S.testBit p = true
      · have ew : wcF pg S ho (p + 1) = wcF pg S ho p := by rw [wcF_s, if_neg (by simp [c2])]
        have ek : okT pg S ho p = true := by simp [okT, c2]
        have ihs := fun u5 => ih (p + 1) u5 (by omega) (by rw [ew]; exact hW)
        rw [ew] at ihs
        rw [ek, Bool.true_and]
        simp only [st94_14, st94_15, st94_16, st94_17, st94_18, st94_19, st94_20, st94_21, st94_22, st94_23, st94_24, st94_25, st94_26, st94_27, st94_28, st94_29, st94_30, st94_31, st94_32, st94_33, st94_34, st94_35, st94_36, st94_37, st94_38, st94_39, st94_40, st94_41, hc, hbk.1, f7 hpg hbk.1 h2, f8 hpg hS hbk.1 h2 h3, ci, ci2, E_ge0 (show p < 1000 by omega), c1, c2, E_n (show p < 1000 by omega), show E p + 1 = E (p + 1) from E_add p 1, aft_some, Option.toList_some, Option.toList_none, List.cons_append, List.nil_append, br0, br1, br2, br3, zr01, zr02, n10, n01, ne_eq, not_true_eq_false, not_false_eq_true, if_true, if_false, true_and, and_true, and_self]
        exact ihs u5
      · have c2' : S.testBit p = false := by revert c2; cases S.testBit p <;> simp
        have c3 : (false = true) = False := eq_false (by decide)
        rcases h6 p hp8 with e | ⟨r, hr, e⟩
        · have ek : okT pg S ho p = false := by simp [okT, c1, c2', e]
          rw [ek]
          simp only [st94_14, st94_15, st94_16, st94_17, st94_18, st94_19, st94_20, st94_21, st94_22, st94_23, st94_24, st94_25, st94_26, st94_27, st94_28, st94_29, st94_30, st94_31, st94_32, st94_33, st94_34, st94_35, st94_36, st94_37, st94_38, st94_39, st94_40, st94_41, hc, hbk.1, f7 hpg hbk.1 h2, f8 hpg hS hbk.1 h2 h3, f11 hpg hbk h2, ci, ci2, E_ge0 (show p < 1000 by omega), c1, c2', c3, E_n (show p < 1000 by omega), hv p hp8, e, show ((0 : Int32) ≤ -4) = False from eq_false (by decide), Bool.false_and, and_false, aft_some, Option.toList_some, Option.toList_none, List.cons_append, List.nil_append, br0, br1, br2, br3, zr01, zr02, n10, n01, ne_eq, not_true_eq_false, not_false_eq_true, if_true, if_false, true_and, and_true, and_self]
        · have ek : okT pg S ho p = true := by simp [okT, e, Em4 (show r < 1000 by omega)]
          have ew : wcF pg S ho (p + 1) = wcF pg S ho p ||| 1 <<< r := by rw [wcF_s, if_pos ⟨c1, c2'⟩, e, E_nn (by omega)]
          have ihs := ih (p + 1) (some (Sum.inl (E r))) (by omega) (by rw [ew]; exact or_lt _ hW r (by omega))
          rw [ew] at ihs
          rw [ek, Bool.true_and]
          simp only [st94_14, st94_15, st94_16, st94_17, st94_18, st94_19, st94_20, st94_21, st94_22, st94_23, st94_24, st94_25, st94_26, st94_27, st94_28, st94_29, st94_30, st94_31, st94_32, st94_33, st94_34, st94_35, st94_36, st94_37, st94_38, st94_39, st94_40, st94_41, hc, hbk.1, f7 hpg hbk.1 h2, f8 hpg hS hbk.1 h2 h3, f11 hpg hbk h2, ci, ci2, E_ge0 (show p < 1000 by omega), E_ge0 (show r < 1000 by omega), c1, c2', c3, E_n (show p < 1000 by omega), hv p hp8, e, E_or1 _ hW r (by omega), show E p + 1 = E (p + 1) from E_add p 1, and_false, aft_some, Option.toList_some, Option.toList_none, List.cons_append, List.nil_append, br0, br1, br2, br3, zr01, zr02, n10, n01, ne_eq, not_true_eq_false, not_false_eq_true, if_true, if_false, true_and, and_true, and_self]
          exact ihs
    · have ew : wcF pg S ho (p + 1) = wcF pg S ho p := by rw [wcF_s, if_neg (fun h => c1 h.1)]
      have ek : okT pg S ho p = true := by simp [okT, c1]
      have ihs := fun u5 => ih (p + 1) u5 (by omega) (by rw [ew]; exact hW)
      rw [ew] at ihs
      rw [ek, Bool.true_and]
      simp only [st94_14, st94_15, st94_16, st94_17, st94_18, st94_19, st94_20, st94_21, st94_22, st94_23, st94_24, st94_25, st94_26, st94_27, st94_28, st94_29, st94_30, st94_31, st94_32, st94_33, st94_34, st94_35, st94_36, st94_37, st94_38, st94_39, st94_40, st94_41, hc, hbk.1, f7 hpg hbk.1 h2, ci, ci2, E_ge0 (show p < 1000 by omega), c1, E_n (show p < 1000 by omega), show E p + 1 = E (p + 1) from E_add p 1, and_false, false_and, aft_some, Option.toList_some, Option.toList_none, List.cons_append, List.nil_append, br0, br1, br2, br3, zr01, zr02, n10, n01, ne_eq, not_true_eq_false, not_false_eq_true, if_true, if_false, true_and, and_true, and_self]
      exact ihs u5
theorem f199_lp {d b : Nat} {A : AT} {μ : SMem} (hm : MA μ) (hw : WF A) (hr : MRw (gi μ 70) A) (hb9 : b < bcA A) : ∀ k r (u5 : Option SV), r + k = rcA A → rn (d + 3) 199 14 [some (Sum.inr (Sum.inl (69))), some (Sum.inl (E b)), some (Sum.inl (E (whF (pgA A b) (hoA A b) r))), some (Sum.inl (E (heF (pgA A b) (inA A b) (hoA A b) r))), some (Sum.inl (E r)), u5] [] μ = some (Sum.inl (some (Sum.inl (if heF (pgA A b) (inA A b) (hoA A b) (rcA A) = 2 ^ pgA A b - 1 then E (whF (pgA A b) (hoA A b) (rcA A)) else -4))), μ) := by
  have hm0 := hm
  have w1 := hw.1
  have w2 := hw.2.1
  have b4 : b < 4 := by omega
  have hS := hw.in9 b
  have hpg := hw.pg9 b
  obtain ⟨m1, m2, m3, m4, m5, m6, m7, m8, m9, m10, m11, m12, m13, m14, ⟨t0, t1, t2, t3, t4, t5, t6, t7, t8, t9, t10, t11, t12⟩, l0, l1, l2, l3, l4, l5, l6, l7, l8, l9, l10, l11, l12⟩ := hm
  intro k
  induction k with
  | zero =>
    intro r u5 hr9
    have : r = rcA A := by omega
    subst this
    have p2 : (2 : Nat) ^ pgA A b ≤ 2 ^ 8 := Nat.pow_le_pow_right (by decide) (by omega)
    have hh := heF_lt (pg := pgA A b) (ho := hoA A b) hS (rcA A)
    have ee := E_inj (a := heF (pgA A b) (inA A b) (hoA A b) (rcA A)) (b := 2 ^ pgA A b - 1) (by omega) (by omega)
    rw [st199_14]
    by_cases c : heF (pgA A b) (inA A b) (hoA A b) (rcA A) = 2 ^ pgA A b - 1
    · simp only [st199_15, st199_16, st199_17, st199_18, st199_19, st199_20, st199_21, st199_22, st199_23, st199_24, st199_25, st199_26, st199_27, st199_28, st199_29, st199_30, st199_31, st199_32, st199_33, st199_34, st199_35, st199_36, st199_37, st199_38, st199_39, st199_40, st199_41, st199_42, st199_43, st199_44, st199_45, st199_46, st199_47, st199_48, st199_49, st199_50, st199_51, st199_52, st199_53, m1, m2, t0, l0, z01, zn1, zl1, hr.2.1, alA, alB, alC, alD, alE, and_self, Int32.le_refl, f143 b4 hm0, (hr.2.2.2.1 b hb9).1, E_whole _ hpg, c, aft_some, Option.toList_some, Option.toList_none, List.cons_append, List.nil_append, br0, br1, br2, br3, zr01, zr02, n10, n01, ne_eq, not_true_eq_false, not_false_eq_true, if_true, if_false, true_and, and_true, and_self]
    · have c' : ¬ E (heF (pgA A b) (inA A b) (hoA A b) (rcA A)) = E (2 ^ pgA A b - 1) := fun e => c (ee.mp e)
      simp only [st199_15, st199_16, st199_17, st199_18, st199_19, st199_20, st199_21, st199_22, st199_23, st199_24, st199_25, st199_26, st199_27, st199_28, st199_29, st199_30, st199_31, st199_32, st199_33, st199_34, st199_35, st199_36, st199_37, st199_38, st199_39, st199_40, st199_41, st199_42, st199_43, st199_44, st199_45, st199_46, st199_47, st199_48, st199_49, st199_50, st199_51, st199_52, st199_53, m1, m2, t0, l0, z01, zn1, zl1, hr.2.1, alA, alB, alC, alD, alE, and_self, Int32.le_refl, f143 b4 hm0, (hr.2.2.2.1 b hb9).1, E_whole _ hpg, c, c', aft_some, Option.toList_some, Option.toList_none, List.cons_append, List.nil_append, br0, br1, br2, br3, zr01, zr02, n10, n01, ne_eq, not_true_eq_false, not_false_eq_true, if_true, if_false, true_and, and_true, and_self]
  | succ k ih =>
    intro r u5 hr9
    have hc : ¬ E (rcA A) ≤ E r := by rw [E_le (by omega) (by omega)]; omega
    have hB : hb (pgA A b) (hoA A b) (E r) 8 < 256 := hb_lt 8 (by omega)
    have ihs := ih (r + 1) (some (Sum.inl (E (hb (pgA A b) (hoA A b) (E r) 8)))) (by omega)
    rw [heF_s r, whF_s r] at ihs
    have hz := E_z (show hb (pgA A b) (hoA A b) (E r) 8 < 1000 by omega)
    have hH := heF_lt (pg := pgA A b) (ho := hoA A b) hS r
    have hW := whF_lt (pg := pgA A b) (ho := hoA A b) r (by omega)
    rw [st199_14]
    by_cases c : hb (pgA A b) (hoA A b) (E r) 8 = 0
    · rw [if_pos c] at ihs
      simp only [st199_15, st199_16, st199_17, st199_18, st199_19, st199_20, st199_21, st199_22, st199_23, st199_24, st199_25, st199_26, st199_27, st199_28, st199_29, st199_30, st199_31, st199_32, st199_33, st199_34, st199_35, st199_36, st199_37, st199_38, st199_39, st199_40, st199_41, st199_42, st199_43, st199_44, st199_45, st199_46, st199_47, st199_48, st199_49, st199_50, st199_51, st199_52, st199_53, m1, m2, t0, l0, z01, zn1, zl1, hr.2.1, alA, alB, alC, alD, alE, and_self, hc, f172 hm0 hw hr hb9 (show r < 6 by omega), hz, c, E_or _ hH _ hB, E_or _ hH _ (show 0 < 256 by decide), show E 0 = 0 from rfl, Int32.or_zero, show E r + 1 = E (r + 1) from E_add r 1, aft_some, Option.toList_some, Option.toList_none, List.cons_append, List.nil_append, br0, br1, br2, br3, zr01, zr02, n10, n01, ne_eq, not_true_eq_false, not_false_eq_true, if_true, if_false, true_and, and_true, and_self]
      rw [c, Nat.or_zero] at ihs
      exact ihs
    · rw [if_neg c] at ihs
      simp only [st199_15, st199_16, st199_17, st199_18, st199_19, st199_20, st199_21, st199_22, st199_23, st199_24, st199_25, st199_26, st199_27, st199_28, st199_29, st199_30, st199_31, st199_32, st199_33, st199_34, st199_35, st199_36, st199_37, st199_38, st199_39, st199_40, st199_41, st199_42, st199_43, st199_44, st199_45, st199_46, st199_47, st199_48, st199_49, st199_50, st199_51, st199_52, st199_53, m1, m2, t0, l0, z01, zn1, zl1, hr.2.1, alA, alB, alC, alD, alE, and_self, hc, f172 hm0 hw hr hb9 (show r < 6 by omega), hz, c, E_or _ hH _ hB, E_or1 _ hW r (show r < 8 by omega), show E r + 1 = E (r + 1) from E_add r 1, aft_some, Option.toList_some, Option.toList_none, List.cons_append, List.nil_append, br0, br1, br2, br3, zr01, zr02, n10, n01, ne_eq, not_true_eq_false, not_false_eq_true, if_true, if_false, true_and, and_true, and_self]
      exact ihs
theorem g94 {d : Nat} {x : Int32} {A : AT} {μ : SMem} (h : Both μ A) : ∃ v, cl (d + 12) 94 [Sum.inr (Sum.inl (2)), Sum.inl (x)] μ = some (Sum.inl (some (Sum.inl (v))), μ) ∧ cl (d + 12) 199 [Sum.inr (Sum.inl (69)), Sum.inl (x)] μ = some (Sum.inl (some (Sum.inl (v))), μ) := by
  obtain ⟨hm, hc, hw, ht, hr⟩ := h
  by_cases c : 0 ≤ x ∧ x < E (bcA A)
  · obtain ⟨b, hb, rfl⟩ := E_of c.1 c.2 (by have := hw.1; omega)
    have b4 : b < 4 := by have := hw.1; omega
    have e0 : (3 + 3 + 3 * b = 0) = False := eq_false (by omega)
    have hbk := ht.bk b4
    obtain ⟨u1, u2, u3, u4⟩ := ht.2.2.2.2.1 b b4
    obtain ⟨v1, v2, v3, v4, v5, v6⟩ := hw.2.2.1 b hb
    refine ⟨if heF (pgA A b) (inA A b) (hoA A b) (rcA A) = 2 ^ pgA A b - 1 then E (whF (pgA A b) (hoA A b) (rcA A)) else -4, ?_, ?_⟩
    · show rn (d + 12) 94 0 [some (Sum.inr (Sum.inl (2))), some (Sum.inl (E b)), none, none, none, none] [] μ = _
      simp only [st94_0, st94_1, st94_2, st94_3, st94_4, st94_5, st94_6, st94_7, st94_8, st94_9, st94_10, st94_11, st94_12, hc.1, hc.2.1, ht.1.1, f67 hw ht, c, E_n (show b < 1000 by omega), e0, aft_some, Option.toList_some, Option.toList_none, List.cons_append, List.nil_append, br0, br1, br2, br3, zr01, zr02, n10, n01, ne_eq, not_true_eq_false, not_false_eq_true, if_true, if_false, true_and, and_true, and_self]
      rw [tgt_eq hw hb]
      exact f94_lp (d := d + 9) v2 (hw.in9 b) hbk.1 u1 u2 u4 (fun p hp => (v6 p hp).imp id (fun ⟨r, h1, h2⟩ => ⟨r, by have := hw.2.1; omega, h2⟩)) 8 0 none rfl (by decide : (0 : Nat) < 256)
    · show rn (d + 12) 199 0 [some (Sum.inr (Sum.inl (69))), some (Sum.inl (E b)), none, none, none, none] [] μ = _
      simp only [st199_0, st199_1, st199_2, st199_3, st199_4, st199_5, st199_6, st199_7, st199_8, st199_9, st199_10, st199_11, st199_12, st199_13, hm.1, f141 hm hw hr.1, c, f144 b4 hm, (hr.2.2.2.1 b hb).2.1, aft_some, Option.toList_some, Option.toList_none, List.cons_append, List.nil_append, br0, br1, br2, br3, zr01, zr02, n10, n01, ne_eq, not_true_eq_false, not_false_eq_true, if_true, if_false, true_and, and_true, and_self]
      exact f199_lp (d := d + 9) hm hw hr hb (rcA A) 0 none (by omega)
  · refine ⟨-1, ?_, ?_⟩
    · show rn (d + 12) 94 0 [some (Sum.inr (Sum.inl (2))), some (Sum.inl (x)), none, none, none, none] [] μ = _
      simp only [st94_0, st94_1, st94_2, st94_3, st94_4, st94_5, st94_6, st94_7, st94_8, st94_9, st94_10, st94_11, st94_12, hc.1, hc.2.1, ht.1.1, f67 hw ht, c, aft_some, Option.toList_some, Option.toList_none, List.cons_append, List.nil_append, br0, br1, br2, br3, zr01, zr02, n10, n01, ne_eq, not_true_eq_false, not_false_eq_true, if_true, if_false, true_and, and_true, and_self]
    · show rn (d + 12) 199 0 [some (Sum.inr (Sum.inl (69))), some (Sum.inl (x)), none, none, none, none] [] μ = _
      simp only [st199_0, st199_1, st199_2, st199_3, st199_4, st199_5, st199_6, st199_7, st199_8, st199_9, st199_10, st199_11, st199_12, st199_13, hm.1, f141 hm hw hr.1, c, aft_some, Option.toList_some, Option.toList_none, List.cons_append, List.nil_append, br0, br1, br2, br3, zr01, zr02, n10, n01, ne_eq, not_true_eq_false, not_false_eq_true, if_true, if_false, true_and, and_true, and_self]
