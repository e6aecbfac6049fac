/-! SPECS ZM: spoils -/
def csF (A : AT) (b : Nat) (el : Nat → Int32) (S0 : Nat) : Nat → Nat × Nat
  | 0 => (0, S0)
  | j + 1 => ((csF A b el S0 j).1 + wor (kdA A (el j).toNatClampNeg) (fgA A (el j).toNatClampNeg) (pgA A b) (ndA A b) (csF A b el S0 j).2, lft (kdA A (el j).toNatClampNeg) (fgA A (el j).toNatClampNeg) (pgA A b) (ndA A b) (csF A b el S0 j).2)
theorem csF_s {A : AT} {b : Nat} {el : Nat → Int32} {S0 : Nat} (j : Nat) : csF A b el S0 (j + 1) = ((csF A b el S0 j).1 + wor (kdA A (el j).toNatClampNeg) (fgA A (el j).toNatClampNeg) (pgA A b) (ndA A b) (csF A b el S0 j).2, lft (kdA A (el j).toNatClampNeg) (fgA A (el j).toNatClampNeg) (pgA A b) (ndA A b) (csF A b el S0 j).2) := rfl
theorem csF_lt {A : AT} {b : Nat} {el : Nat → Int32} {S0 : Nat} (hw : WF A) (hb : b < bcA A) (hS : S0 < 256) : ∀ m, (∀ j, j < m → ∃ r, r < rcA A ∧ el j = E r) → (csF A b el S0 m).2 < 256 ∧ (csF A b el S0 m).1 ≤ 1000 * m := by
  obtain ⟨v1, v2, v3, v4, v5, v6⟩ := hw.2.2.1 b hb
  intro m
  induction m with
  | zero => intro _; exact ⟨hS, Nat.zero_le _⟩
  | succ m ih =>
    intro h
    obtain ⟨i1, i2⟩ := ih (fun j hj => h j (by omega))
    obtain ⟨r, hr, e⟩ := h m (by omega)
    obtain ⟨k1, k2⟩ := hw.2.2.2.2 r hr
    rw [csF_s, e, E_nn (by have := hw.2.1; omega)]
    refine ⟨lft_lt i1 k1 k2 v1 v2, ?_⟩
    have := wor_lt (k := kdA A r) (f := fgA A r) (pg := pgA A b) (nd := ndA A b) (S := (csF A b el S0 m).2) k2
    show (csF A b el S0 m).1 + wor _ _ _ _ _ ≤ _
    omega
theorem f125_lp {d e b n S0 : Nat} {A : AT} {H : HT} {x3 : Int32} {μ : SMem} (he : e < 8) (h : Both μ A) (hH : HWF H) (hC : ShC μ e H) (hk : hkt H = 2) (hsn : hsz H = n) (hn : n < 7) (hb : b < bcA A) (hok : ∀ i, i < n → ∃ r, r < rcA A ∧ hel H i = E r) (hS : S0 < 256) : ∀ k i (u7 : Option SV), i + k = n → rn (d + 5) 125 6 [some (Sum.inr (Sum.inl (2))), some (Sum.inr (Sum.inl (53 + 2 * e))), some (Sum.inr (Sum.inl (3 + 3 + 3 * b))), some (Sum.inl (x3)), some (Sum.inl (E (csF A b (hel H) S0 i).1)), some (Sum.inl (E (csF A b (hel H) S0 i).2)), some (Sum.inl (E i)), u7] [] μ = some (Sum.inl (some (Sum.inl (E (csF A b (hel H) S0 n).1))), μ) := by
  obtain ⟨hm', hc, hw, ht, hr9⟩ := h
  obtain ⟨v1, v2, v3, v4, v5, v6⟩ := hw.2.2.1 b hb
  have b4 : b < 4 := by have := hw.1; omega
  have t8 := (hc.2.2.2.2.2.2.2.2.2.2.2 e he).2.1
  have x4 := (hC.2.1 hk).2.2.2
  rw [hsn] at x4
  have hbk := ht.bk b4
  intro k
  induction k with
  | zero =>
    intro i u7 hi
    have : i = n := by omega
    subst this
    rw [st125_6]
    simp only [st125_7, st125_8, st125_9, st125_10, st125_11, st125_12, st125_13, st125_14, st125_15, st125_16, st125_17, st125_18, st125_19, st125_20, st125_21, st125_22, st125_23_t0, st125_23_t2, st125_23_t3, st125_23_t4, st125_23_t5, st125_23_t6, st125_23_t7, st125_23_t9, st125_24, st125_25, st125_26, st125_27, st125_28, st125_29, st125_30_t0, st125_30_t2, st125_30_t3, st125_30_t4, st125_30_t5, st125_30_t6, st125_30_t7, st125_30_t9, st125_31, st125_32, st125_33, st125_34, st125_35, st125_36, st125_37, st125_38, st125_23v, st125_30v, t8, x4, Int32.le_refl, if_true]
  | succ k ih =>
    intro i u7 hi
    obtain ⟨r, hr, er⟩ := hok i (by omega)
    obtain ⟨r0, hrd⟩ := ht.2.2.2.2.2 r hr
    have r9 : r < 1000 := by have := hw.2.1; omega
    obtain ⟨k1, k2⟩ := hw.2.2.2.2 r hr
    have hS1 := (csF_lt (A := A) (b := b) (el := hel H) hw hb hS i (fun j hj => hok j (by omega))).1
    have cR : (0 ≤ E r ∧ E r < E (rcA A)) = True := eq_true ((inr (by omega) (by have := hw.2.1; omega)).mpr hr)
    have cc : (0 ≤ E i ∧ E i < E (hsz H)) = True := eq_true ((inr (by omega) (by omega)).mpr (by omega))
    have cx : ¬ E n ≤ E i := by rw [E_le (by omega) (by omega)]; omega
    have hT := tor_lt (k := kdA A r) (f := fgA A r) (pg := pgA A b) (nd := ndA A b) hS1 k1 k2 v1 v2
    have hl := tor_lft (k := kdA A r) (f := fgA A r) (pg := pgA A b) (nd := ndA A b) hS1 k1 k2 v1 v2
    have ihs := ih (i + 1) (some (Sum.inr (Sum.inl (gr μ (3 + 2) r)))) (by omega)
    rw [csF_s i, er, E_nn (by omega)] at ihs
    rw [st125_6]
    simp only [st125_7, st125_8, st125_9, st125_10, st125_11, st125_12, st125_13, st125_14, st125_15, st125_16, st125_17, st125_18, st125_19, st125_20, st125_21, st125_22, st125_23_t0, st125_23_t2, st125_23_t3, st125_23_t4, st125_23_t5, st125_23_t6, st125_23_t7, st125_23_t9, st125_24, st125_25, st125_26, st125_27, st125_28, st125_29, st125_30_t0, st125_30_t2, st125_30_t3, st125_30_t4, st125_30_t5, st125_30_t6, st125_30_t7, st125_30_t9, st125_31, st125_32, st125_33, st125_34, st125_35, st125_36, st125_23v, st125_30v, t8, x4, cx, hc.1, hc.2.1, ht.1.1, f57 he hc hH hC hk, cc, E_n (show i < 1000 by omega), er, f68 hw ht, cR, E_n r9, r0, st125_23v hrd.rd, fwor hS1 v2 v1 v4 hrd hbk, st125_30v hrd.rd, ftor hS1 v2 v1 v4 hrd hbk, E_and _ hS1 _ hT, hl, E_add, show E i + 1 = E (i + 1) from E_add i 1, aft_some, Option.toList_some, Option.toList_none, List.cons_append, List.nil_append, br0, br1, br2, br3, zr01, zr02, n10, n01, ne_eq, not_true_eq_false, not_false_eq_true, if_true, if_false, true_and, and_true, and_self]
    exact ihs
theorem f125 {d e b n S0 : Nat} {A : AT} {H : HT} {μ : SMem} (he : e < 8) (h : Both μ A) (hH : HWF H) (hC : ShC μ e H) (hk : hkt H = 2) (hsn : hsz H = n) (hn : n < 7) (hb : b < bcA A) (hok : ∀ i, i < n → ∃ r, r < rcA A ∧ hel H i = E r) (hS : S0 < 256) : cl (d + 5) 125 [Sum.inr (Sum.inl (2)), Sum.inr (Sum.inl (53 + 2 * e)), Sum.inr (Sum.inl (3 + 3 + 3 * b)), Sum.inl (E S0)] μ = some (Sum.inl (some (Sum.inl (E (csF A b (hel H) S0 n).1))), μ) := by
  show rn (d + 5) 125 0 [some (Sum.inr (Sum.inl (2))), some (Sum.inr (Sum.inl (53 + 2 * e))), some (Sum.inr (Sum.inl (3 + 3 + 3 * b))), some (Sum.inl (E S0)), none, none, none, none] [] μ = _
  simp only [st125_0, st125_1, st125_2, st125_3, st125_4, st125_5]
  exact f125_lp he h hH hC hk hsn hn hb hok hS n 0 none (by omega)
theorem f192_lp {d e b n S0 : Nat} {A : AT} {H : HT} {μ0 : SMem} (he : e < 8) (hm : MA μ0) (hw : WF A) (hH : HWF H) (hC : ShM μ0 e H) (hk : hkt H = 2) (hsn : hsz H = n) (hn : n < 7) (hb : b < bcA A) (hok : ∀ i, i < n → ∃ r, r < rcA A ∧ hel H i = E r) : ∀ k i (μ : SMem) (S : Nat → Nat), i + k = n → SB (fun c => c = 70) μ0 μ → MQr (gi μ 70) A S → S b = (csF A b (hel H) S0 i).2 → ∃ μ', rn (d + 5) 192 4 [some (Sum.inr (Sum.inl (69))), some (Sum.inl (E b)), some (Sum.inl (E e)), some (Sum.inl (E (csF A b (hel H) S0 i).1)), some (Sum.inl (E i))] [] μ = some (Sum.inl (some (Sum.inl (E (csF A b (hel H) S0 n).1))), μ') ∧ SB (fun c => c = 70) μ0 μ' := by
  intro k
  induction k with
  | zero =>
    intro i μ S hi hs hM hS
    have : i = n := by omega
    subst this
    have hm1 := hm.sb hs
    have hC1 := hC.sb hs (fun c e9 => by omega)
    have n76 := (hC1.2.1 hk).2
    rw [hsn] at n76
    refine ⟨μ, ?_, hs⟩
    obtain ⟨m1, m2, m3, m4, m5, m6, m7, m8, m9, m10, m11, m12, m13, m14, ⟨t0, t1, t2, t3, t4, t5, t6, t7, t8, t9, t10, t11, t12⟩, l0, l1, l2, l3, l4, l5, l6, l7, l8, l9, l10, l11, l12⟩ := hm1
    rw [st192_4]
    simp only [st192_5, st192_6, st192_7, st192_8, st192_9, st192_10, st192_11, st192_12, st192_13, st192_14, st192_15, st192_16, st192_17, st192_18, st192_19, st192_20, st192_21, st192_22, st192_23, st192_24, st192_25, st192_26, st192_27, m1, m8, t6, l6, E_ge0 (show e < 1000 by omega), E_n (show e < 1000 by omega), he, n76, Int32.le_refl, if_true, and_self]
  | succ k ih =>
    intro i μ S hi hs hM hS
    have hm1 := hm.sb hs
    have hm2 := hm1
    have hC1 := hC.sb hs (fun c e9 => by omega)
    have n76 := (hC1.2.1 hk).2
    rw [hsn] at n76
    obtain ⟨r, hr, er⟩ := hok i (by omega)
    have g7 := hC1.2.2.2 i (by omega)
    rw [er] at g7
    obtain ⟨μ1, z1, z2, z3⟩ := f162m (d := d) hm1 hw hM hr hb
    have cx : ¬ E n ≤ E i := by rw [E_le (by omega) (by omega)]; omega
    have e9 : rdS A S r b b = lft (kdA A r) (fgA A r) (pgA A b) (ndA A b) (S b) := by unfold rdS up1; rw [if_pos rfl]
    have hpr : csF A b (hel H) S0 (i + 1) = ((csF A b (hel H) S0 i).1 + wor (kdA A r) (fgA A r) (pgA A b) (ndA A b) (csF A b (hel H) S0 i).2, lft (kdA A r) (fgA A r) (pgA A b) (ndA A b) (csF A b (hel H) S0 i).2) := by rw [csF_s, er, E_nn (by have := hw.2.1; omega)]
    obtain ⟨μ', y1, y2⟩ := ih (i + 1) μ1 (rdS A S r b) (by omega) (hs.tr z2) z3 (by rw [e9, hS, hpr])
    refine ⟨μ', ?_, y2⟩
    rw [hpr] at y1
    have eW : wrS A S r b = wor (kdA A r) (fgA A r) (pgA A b) (ndA A b) (csF A b (hel H) S0 i).2 := by unfold wrS; rw [hS]
    rw [eW] at z1
    obtain ⟨m1, m2, m3, m4, m5, m6, m7, m8, m9, m10, m11, m12, m13, m14, ⟨t0, t1, t2, t3, t4, t5, t6, t7, t8, t9, t10, t11, t12⟩, l0, l1, l2, l3, l4, l5, l6, l7, l8, l9, l10, l11, l12⟩ := hm1
    rw [st192_4]
    simp only [st192_5, st192_6, st192_7, st192_8, st192_9, st192_10, st192_11, st192_12, st192_13, st192_14, st192_15, st192_16, st192_17, st192_18, st192_19, st192_20, st192_21, st192_22, st192_23, st192_24, st192_25, cx, m1, m8, m9, t6, t7, l6, l7, E_ge0 (show e < 1000 by omega), E_n (show e < 1000 by omega), he, n76, ix100, E_ge0 (show 100 * e + i < 1000 by omega), E_n (show 100 * e + i < 1000 by omega), show 100 * e + i < 800 by omega, g7, z1, E_add, show E i + 1 = E (i + 1) from E_add i 1, aft_some, Option.toList_some, Option.toList_none, List.cons_append, List.nil_append, br0, br1, br2, br3, zr01, zr02, n10, n01, ne_eq, not_true_eq_false, not_false_eq_true, if_true, if_false, true_and, and_true, and_self]
    exact y1
theorem f192 {d e b n S0 : Nat} {A : AT} {H : HT} {S : Nat → Nat} {μ : SMem} (he : e < 8) (hm : MA μ) (hw : WF A) (hH : HWF H) (hC : ShM μ e H) (hk : hkt H = 2) (hsn : hsz H = n) (hn : n < 7) (hb : b < bcA A) (hok : ∀ i, i < n → ∃ r, r < rcA A ∧ hel H i = E r) (hM : MQr (gi μ 70) A S) (hS : S b = S0) : ∃ μ', cl (d + 5) 192 [Sum.inr (Sum.inl (69)), Sum.inl (E b), Sum.inl (E e)] μ = some (Sum.inl (some (Sum.inl (E (csF A b (hel H) S0 n).1))), μ') ∧ SB (fun c => c = 70) μ μ' := by
  obtain ⟨μ', y1, y2⟩ := f192_lp (d := d) (S0 := S0) he hm hw hH hC hk hsn hn hb hok n 0 μ S (by omega) SB.rf hM hS
  refine ⟨μ', ?_, y2⟩
  show rn (d + 5) 192 0 [some (Sum.inr (Sum.inl (69))), some (Sum.inl (E b)), some (Sum.inl (E e)), none, none] [] μ = _
  simp only [st192_0, st192_1, st192_2, st192_3]
  exact y1
def spF (A : AT) (b : Nat) (el : Nat → Int32) (n : Nat) : Nat → Int32 × Int32
  | 0 => (-4, -1)
  | p + 1 => if (inA A b).testBit p = true ∧ (spF A b el n p).2 < E (csF A b el (clr (inA A b) p) n).1 then (E p, E (csF A b el (clr (inA A b) p) n).1) else spF A b el n p
theorem spF_s {A : AT} {b n : Nat} {el : Nat → Int32} (p : Nat) : spF A b el n (p + 1) = if (inA A b).testBit p = true ∧ (spF A b el n p).2 < E (csF A b el (clr (inA A b) p) n).1 then (E p, E (csF A b el (clr (inA A b) p) n).1) else spF A b el n p := rfl
theorem spF_v {A : AT} {b n : Nat} {el : Nat → Int32} : ∀ p, spF A b el n p = (-4, -1) ∨ ∃ q, q < p ∧ (spF A b el n p).1 = E q := by
  intro p
  induction p with
  | zero => exact Or.inl rfl
  | succ p ih =>
    rw [spF_s]
    split
    · exact Or.inr ⟨p, by omega, rfl⟩
    · rcases ih with h | ⟨q, hq, e⟩
      · exact Or.inl h
      · exact Or.inr ⟨q, by omega, e⟩
theorem spF_stop {A : AT} {b n : Nat} {el : Nat → Int32} (hw : WF A) : ∀ k, spF A b el n (pgA A b + k) = spF A b el n (pgA A b) := by
  intro k
  induction k with
  | zero => rfl
  | succ k ih =>
    have : (inA A b).testBit (pgA A b + k) = false := Nat.testBit_lt_two_pow (Nat.lt_of_lt_of_le (hw.in2 b) (Nat.pow_le_pow_right (by decide) (by omega)))
    rw [show pgA A b + (k + 1) = (pgA A b + k) + 1 from rfl, spF_s, if_neg (by rw [this]; simp), ih]
theorem spF_n {A : AT} {b n : Nat} {el : Nat → Int32} (hs : ∀ p, p < 8 → (csF A b el (clr (inA A b) p) n).1 < 100000) : ∀ p, p ≤ 8 → spF A b el n p = (-4, -1) → ∀ q, q < p → (inA A b).testBit q = false := by
  intro p
  induction p with
  | zero => intro _ _ q hq; omega
  | succ p ih =>
    intro hp h q hq
    rw [spF_s] at h
    by_cases c : (inA A b).testBit p = true ∧ (spF A b el n p).2 < E (csF A b el (clr (inA A b) p) n).1
    · rw [if_pos c] at h
      have : E p = -4 := congrArg Prod.fst h
      exact ((Em4 (by omega)).mp this).elim
    · rw [if_neg c] at h
      by_cases e : q = p
      · subst e
        refine Bool.eq_false_iff.mpr fun hb => c ⟨hb, ?_⟩
        rw [h]
        exact Int32.lt_of_lt_of_le (by decide : (-1 : Int32) < 0) (E_nonneg (by have := hs q (by omega); omega))
      · exact ih (by omega) h q (by omega)
theorem f89_lp {d e b n : Nat} {A : AT} {H : HT} {x1 x2 x3 x6 : Int32} {μ : SMem} (he : e < 8) (h : Both μ A) (hH : HWF H) (hC : ShC μ e H) (hk : hkt H = 2) (hsn : hsz H = n) (hn : n < 7) (hb : b < bcA A) (hok : ∀ i, i < n → ∃ r, r < rcA A ∧ hel H i = E r) : ∀ k p (u10 : Option SV), p + k = 8 → ∃ u10', rn (d + 6) 89 34 [some (Sum.inr (Sum.inl (2))), some (Sum.inl (x1)), some (Sum.inl (x2)), some (Sum.inl (x3)), some (Sum.inr (Sum.inl (3 + 3 + 3 * b))), some (Sum.inr (Sum.inl (53 + 2 * e))), some (Sum.inl (x6)), some (Sum.inl ((spF A b (hel H) n p).1)), some (Sum.inl ((spF A b (hel H) n p).2)), some (Sum.inl (E p)), u10] [] μ = rn (d + 6) 89 63 [some (Sum.inr (Sum.inl (2))), some (Sum.inl (x1)), some (Sum.inl (x2)), some (Sum.inl (x3)), some (Sum.inr (Sum.inl (3 + 3 + 3 * b))), some (Sum.inr (Sum.inl (53 + 2 * e))), some (Sum.inl (x6)), some (Sum.inl ((spF A b (hel H) n 8).1)), some (Sum.inl ((spF A b (hel H) n 8).2)), some (Sum.inl (E 8)), u10'] [] μ := by
  have h0 := h
  obtain ⟨hm', hc, hw, ht, hr9⟩ := h
  obtain ⟨v1, v2, v3, v4, v5, v6⟩ := hw.2.2.1 b hb
  have b4 : b < 4 := by have := hw.1; omega
  have hbk := ht.bk b4
  obtain ⟨u1, u2, u3, u4⟩ := ht.2.2.2.2.1 b b4
  have hS := hw.in9 b
  intro k
  induction k with
  | zero =>
    intro p u10 hp
    have : p = 8 := by omega
    subst this
    refine ⟨u10, ?_⟩
    rw [st89_34]
    simp only [st89_35, st89_36, show (8 : Int32) ≤ E 8 from by decide, if_true]
  | succ k ih =>
    intro p u10 hp
    have hcx : ¬ (8 : Int32) ≤ E p := by rw [show (8 : Int32) = E 8 from rfl, E_le (by decide) (by omega)]; omega
    have ci2 : (E p < E (pgA A b)) = (p < pgA A b) := E_ltE (by omega) (by omega)
    have p1 : E p + 1 = E (p + 1) := E_add p 1
    have hin : (inA A b).testBit p = true → p < pgA A b := by
      intro hb
      by_cases q : p < pgA A b
      · exact q
      · rw [Nat.testBit_lt_two_pow (Nat.lt_of_lt_of_le v3 (Nat.pow_le_pow_right (by decide) (by omega)))] at hb
        cases hb
    by_cases c : (inA A b).testBit p = true
    · have cp := hin c
      have e125 := fun d => f125 (d := d) (S0 := clr (inA A b) p) he h0 hH hC hk hsn hn hb hok (clr_lt _ hS p (by omega))
      have ec := E_clr _ hS p (by omega)
      by_cases cb : (spF A b (hel H) n p).2 < E (csF A b (hel H) (clr (inA A b) p) n).1
      · have cb' : ¬ E (csF A b (hel H) (clr (inA A b) p) n).1 ≤ (spF A b (hel H) n p).2 := Int32.not_le.mpr cb
        obtain ⟨u', ihs⟩ := ih (p + 1) (some (Sum.inl (E (csF A b (hel H) (clr (inA A b) p) n).1))) (by omega)
        rw [spF_s p, if_pos ⟨c, cb⟩] at ihs
        refine ⟨u', ?_⟩
        rw [st89_34]
        simp only [st89_35, st89_36, st89_37, st89_38, st89_39, st89_40, st89_41, st89_42, st89_43, st89_44, st89_45, st89_46, st89_47, st89_48, st89_49, st89_50, st89_51, st89_52, st89_53, st89_54, st89_55, st89_56, st89_57, st89_58, st89_59, st89_60, st89_61, st89_62, hcx, hbk.1.1, f8 v2 hS hbk.1.1 u1 u2, ci2, E_ge0 (show p < 1000 by omega), cp, c, E_n (show p < 1000 by omega), hc.1, u2, ec, e125, cb', p1, aft_some, Option.toList_some, Option.toList_none, List.cons_append, List.nil_append, br0, br1, br2, br3, zr01, zr02, n10, n01, ne_eq, not_true_eq_false, not_false_eq_true, if_true, if_false, true_and, and_true, and_self]
        exact ihs
      · have cb' : E (csF A b (hel H) (clr (inA A b) p) n).1 ≤ (spF A b (hel H) n p).2 := Int32.not_lt.mp cb
        obtain ⟨u', ihs⟩ := ih (p + 1) (some (Sum.inl (E (csF A b (hel H) (clr (inA A b) p) n).1))) (by omega)
        rw [spF_s p, if_neg (fun h => cb h.2)] at ihs
        refine ⟨u', ?_⟩
        rw [st89_34]
        simp only [st89_35, st89_36, st89_37, st89_38, st89_39, st89_40, st89_41, st89_42, st89_43, st89_44, st89_45, st89_46, st89_47, st89_48, st89_49, st89_50, st89_51, st89_52, st89_53, st89_54, st89_55, st89_56, st89_57, st89_58, st89_59, st89_60, st89_61, st89_62, hcx, hbk.1.1, f8 v2 hS hbk.1.1 u1 u2, ci2, E_ge0 (show p < 1000 by omega), cp, c, E_n (show p < 1000 by omega), hc.1, u2, ec, e125, cb', p1, aft_some, Option.toList_some, Option.toList_none, List.cons_append, List.nil_append, br0, br1, br2, br3, zr01, zr02, n10, n01, ne_eq, not_true_eq_false, not_false_eq_true, if_true, if_false, true_and, and_true, and_self]
        exact ihs
    · obtain ⟨u', ihs⟩ := ih (p + 1) u10 (by omega)
      rw [spF_s p, if_neg (fun h => c h.1)] at ihs
      refine ⟨u', ?_⟩
      rw [st89_34]
      simp only [st89_35, st89_36, st89_37, st89_38, st89_39, st89_40, st89_41, st89_42, st89_43, st89_44, st89_45, st89_46, st89_47, st89_48, st89_49, st89_50, st89_51, st89_52, st89_53, st89_54, st89_55, st89_56, st89_57, st89_58, st89_59, st89_60, st89_61, st89_62, hcx, hbk.1.1, f8 v2 hS hbk.1.1 u1 u2, c, E_n (show p < 1000 by omega), and_false, show (false = true) = False from eq_false (by decide), p1, aft_some, Option.toList_some, Option.toList_none, List.cons_append, List.nil_append, br0, br1, br2, br3, zr01, zr02, n10, n01, ne_eq, not_true_eq_false, not_false_eq_true, if_true, if_false, true_and, and_true, and_self]
      exact ihs
theorem MQr.st2 {A : AT} {S : Nat → Nat} {b n p : Nat} {x : Int32} {μ : SMem} (hw : WF A) (hM : MQr (gi μ 70) A S) (hb : b < bcA A) (hn : n < 2 ^ pgA A b) (hp : p < 8) : MQr (gi (seti (seti μ 70 (4 + 18 * b) (E n)) 70 (13 + 18 * b + p) x) 70) A (up1 S b n) := by
  have w1 := hw.1
  have w2 := hw.2.1
  obtain ⟨h1, h2, h3, h4⟩ := hM.st hw hb hn
  generalize seti μ 70 (4 + 18 * b) (E n) = μ1 at *
  have e : ∀ j, j ≠ 13 + 18 * b + p → gi (seti μ1 70 (13 + 18 * b + p) x) 70 j = gi μ1 70 j := fun j hj => by rw [gi_seti, if_neg (fun e => hj e.2)]
  refine ⟨by rw [e _ (by omega)]; exact h1, by rw [e _ (by omega)]; exact h2, fun b' hb' => ?_, fun r' hr' => by rw [e _ (by omega), e _ (by omega)]; exact h4 r' hr'⟩
  obtain ⟨x1, x2, x3, x4⟩ := h3 b' hb'
  exact ⟨by rw [e _ (by omega)]; exact x1, by rw [e _ (by omega)]; exact x2, x3, fun q hq => by rw [e _ (by omega)]; exact x4 q hq⟩
