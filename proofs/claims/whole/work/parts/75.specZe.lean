/-! SPECS ZE: gaps -/
theorem rfRs_0 {A : AT} {H : HT} (hz : rfRs A H = 0) : hkt H = 2 ∧ hsz H ≤ 6 ∧ allF (fun i => okR A (hel H i)) 0 (hsz H) = true := by
  unfold rfRs at hz
  by_cases c : rfB H = 0
  · rw [if_neg (by simp [c])] at hz
    by_cases c2 : 6 < hsz H
    · rw [if_pos c2] at hz; exact absurd hz (by decide)
    · rw [if_neg c2] at hz
      by_cases c3 : allF (fun i => okR A (hel H i)) 0 (hsz H) = true
      · exact ⟨(rfB_0 c).1, by omega, c3⟩
      · rw [if_neg c3] at hz; exact absurd hz (by decide)
  · rw [if_pos c] at hz; exact absurd hz c
theorem ok_rs {A : AT} {H : HT} {m : Nat} (hw : WF A) (h : allF (fun i => okR A (hel H i)) 0 m = true) : ∀ i, i < m → ∃ r, r < rcA A ∧ hel H i = E r := by
  intro i hi
  have := allF_at m 0 h i (by omega) (by omega)
  unfold okR at this
  rw [decide_eq_true_eq] at this
  obtain ⟨r, hr, e⟩ := E_of this.1 this.2 (by have := hw.2.1; omega)
  exact ⟨r, hr, e⟩
theorem p2_lt9 : ∀ p, p < 9 → 2 ^ p - 1 < 256 := by decide
theorem tor_gap {k f pg S : Nat} {nd : Nat → Int32} (hS : S < 2 ^ pg) (hk : k < 8) (hf : f < 10) (h1 : 1 ≤ pg) (hpg : pg < 9) : (tor k f pg nd (2 ^ pg - 1) = (2 ^ pg - 1) &&& (255 ^^^ S)) = (lft k f pg nd (2 ^ pg - 1) = S) := by
  have hW := p2_lt9 pg hpg
  have hS9 := lt_256 hS hpg
  have hl := tor_lft (k := k) (f := f) (pg := pg) (nd := nd) hW hk hf h1 hpg
  have hT := tor_lt (k := k) (f := f) (pg := pg) (nd := nd) hW hk hf h1 hpg
  have b255 : ∀ q, q < 8 → (255 : Nat).testBit q = true := by decide
  have hWb : ∀ q, q < 8 → (2 ^ pg - 1).testBit q = decide (q < pg) := fun q _ => Nat.testBit_two_pow_sub_one pg q
  have hSb : ∀ q, ¬ q < pg → S.testBit q = false := fun q hq => Nat.testBit_lt_two_pow (Nat.lt_of_lt_of_le hS (Nat.pow_le_pow_right (by decide) (by omega)))
  rw [eq_iff_iff]
  refine ⟨fun e => ?_, fun e => ?_⟩
  · rw [← hl, e]
    refine bits_eq (and_lt2 hW) hS9 fun q hq => ?_
    rw [Nat.testBit_and, Nat.testBit_xor, Nat.testBit_and, Nat.testBit_xor, hWb q hq, b255 q hq]
    by_cases c : q < pg
    · cases S.testBit q <;> simp [c]
    · rw [hSb q c]; simp [c]
  · refine bits_eq hT (and_lt2 hW) fun q hq => ?_
    rw [tor_bit hW hk hf h1 hpg hq, e, Nat.testBit_and, Nat.testBit_xor, b255 q hq]
    cases S.testBit q <;> simp
def gpb (A : AT) (b r : Nat) : Bool := decide (lft (kdA A r) (fgA A r) (pgA A b) (ndA A b) (2 ^ pgA A b - 1) = inA A b)
def gpF (A : AT) (b : Nat) (el : Nat → Int32) : Nat → Int32 × Nat
  | 0 => (-4, 0)
  | i + 1 => if gpb A b (el i).toNatClampNeg = true then (if (gpF A b el i).1 = -4 then E i else (gpF A b el i).1, (gpF A b el i).2 + 1) else gpF A b el i
theorem gpF_s {A : AT} {b : Nat} {el : Nat → Int32} (i : Nat) : gpF A b el (i + 1) = if gpb A b (el i).toNatClampNeg = true then (if (gpF A b el i).1 = -4 then E i else (gpF A b el i).1, (gpF A b el i).2 + 1) else gpF A b el i := rfl
theorem gpF_v {A : AT} {b : Nat} {el : Nat → Int32} : ∀ i, (gpF A b el i).1 = -4 ∨ ∃ j, j < i ∧ (gpF A b el i).1 = E j := by
  intro i
  induction i with
  | zero => exact Or.inl rfl
  | succ i ih =>
    rw [gpF_s]
    split
    · by_cases c : (gpF A b el i).1 = -4
      · right; exact ⟨i, by omega, if_pos c⟩
      · rcases ih with h | ⟨j, hj, e⟩
        · exact absurd h c
        · right; exact ⟨j, by omega, by show (if _ then _ else _) = _; rw [if_neg c]; exact e⟩
    · rcases ih with h | ⟨j, hj, e⟩
      · exact Or.inl h
      · exact Or.inr ⟨j, by omega, e⟩
theorem f96_lp {d e b : Nat} {A : AT} {H : HT} {x1 x2 x3 x6 : Int32} {μ : SMem} (he : e < 8) (hc : CAo μ) (hH : HWF H) (hC : ShC μ e H) (hw : WF A) (ht : TwC μ 3 A) (hk : hkt H = 2) (h6 : hsz H ≤ 6) (hb : b < bcA A) (hok : ∀ i, i < hsz H → ∃ r, r < rcA A ∧ hel H i = E r) : ∀ k i (u11 : Option SV), i + k = hsz H → ∃ u11', rn (d + 5) 96 42 [some (Sum.inr (Sum.inl (2))), some (Sum.inl (x1)), some (Sum.inl (x2)), some (Sum.inl (x3)), some (Sum.inr (Sum.inl (3 + 3 + 3 * b))), some (Sum.inr (Sum.inl (53 + 2 * e))), some (Sum.inl (x6)), some (Sum.inl (E ((2 ^ pgA A b - 1) &&& (255 ^^^ inA A b)))), some (Sum.inl ((gpF A b (hel H) i).1)), some (Sum.inl (E (gpF A b (hel H) i).2)), some (Sum.inl (E i)), u11] [] μ = rn (d + 5) 96 72 [some (Sum.inr (Sum.inl (2))), some (Sum.inl (x1)), some (Sum.inl (x2)), some (Sum.inl (x3)), some (Sum.inr (Sum.inl (3 + 3 + 3 * b))), some (Sum.inr (Sum.inl (53 + 2 * e))), some (Sum.inl (x6)), some (Sum.inl (E ((2 ^ pgA A b - 1) &&& (255 ^^^ inA A b)))), some (Sum.inl ((gpF A b (hel H) (hsz H)).1)), some (Sum.inl (E (gpF A b (hel H) (hsz H)).2)), some (Sum.inl (E (hsz H))), u11'] [] μ := by
  have t8 := (hc.2.2.2.2.2.2.2.2.2.2.2 e he).2.1
  have x4 := (hC.2.1 hk).2.2.2
  obtain ⟨v1, v2, v3, v4, v5, v6⟩ := hw.2.2.1 b hb
  have b4 : b < 4 := by have := hw.1; omega
  have hbk := ht.bk b4
  obtain ⟨u1, u2, u3, u4⟩ := ht.2.2.2.2.1 b b4
  have hW := p2_lt9 _ v2
  intro k
  induction k with
  | zero =>
    intro i u11 hi
    have : i = hsz H := by omega
    subst this
    refine ⟨u11, ?_⟩
    rw [st96_42]
    simp only [st96_43, st96_44, st96_45, st96_46, st96_47, st96_48, st96_49, st96_50, st96_51, st96_52, st96_53, st96_54, st96_55, st96_56, st96_57, st96_58, st96_59_t0, st96_59_t2, st96_59_t3, st96_59_t4, st96_59_t5, st96_59_t6, st96_59_t7, st96_59_t9, st96_60, st96_61, st96_62, st96_63, st96_64, st96_65, st96_66, st96_67, st96_68, st96_69, st96_70, st96_71, st96_59v, t8, x4, Int32.le_refl, if_true]
  | succ k ih =>
    intro i u11 hi
    obtain ⟨r, hr, er⟩ := hok i (by omega)
    obtain ⟨r0, hrd⟩ := ht.2.2.2.2.2 r hr
    have r9 : r < 1000 := by have := hw.2.1; omega
    obtain ⟨k1, k2⟩ := hw.2.2.2.2 r hr
    have cR : (0 ≤ E r ∧ E r < E (rcA A)) = True := eq_true ((inr (by omega) (by have := hw.2.1; omega)).mpr hr)
    have cc : (0 ≤ E i ∧ E i < E (hsz H)) = True := eq_true ((inr (by omega) (by omega)).mpr (by omega))
    have cx : ¬ E (hsz H) ≤ E i := by rw [E_le (by omega) (by omega)]; omega
    have eT := E_inj (a := tor (kdA A r) (fgA A r) (pgA A b) (ndA A b) (2 ^ pgA A b - 1)) (b := (2 ^ pgA A b - 1) &&& (255 ^^^ inA A b)) (by have := tor_lt (k := kdA A r) (f := fgA A r) (pg := pgA A b) (nd := ndA A b) hW k1 k2 v1 v2; omega) (by have := and_lt2 (b := 255 ^^^ inA A b) hW; omega)
    rw [tor_gap v3 k1 k2 v1 v2] at eT
    obtain ⟨u', ih'⟩ := ih (i + 1) (some (Sum.inr (Sum.inl (gr μ (3 + 2) r)))) (by omega)
    refine ⟨u', ?_⟩
    rw [gpF_s i, er, E_nn (by omega)] at ih'
    have p1 : E i + 1 = E (i + 1) := E_add i 1
    have p2 : E (gpF A b (hel H) i).2 + 1 = E ((gpF A b (hel H) i).2 + 1) := E_add _ 1
    rw [st96_42]
    by_cases g : lft (kdA A r) (fgA A r) (pgA A b) (ndA A b) (2 ^ pgA A b - 1) = inA A b
    · have g1 : gpb A b r = true := decide_eq_true g
      have g2 := eT.mpr g
      rw [if_pos g1] at ih'
      by_cases q : (gpF A b (hel H) i).1 = -4
      · simp only [q, if_true] at ih'
        simp only [st96_43, st96_44, st96_45, st96_46, st96_47, st96_48, st96_49, st96_50, st96_51, st96_52, st96_53, st96_54, st96_55, st96_56, st96_57, st96_58, st96_59_t0, st96_59_t2, st96_59_t3, st96_59_t4, st96_59_t5, st96_59_t6, st96_59_t7, st96_59_t9, st96_60, st96_61, st96_62, st96_63, st96_64, st96_65, st96_66, st96_67, st96_68, st96_69, st96_70, st96_71, st96_59v, t8, x4, cx, hc.1, hc.2.1, ht.1.1, f57 he hc hH hC hk, cc, E_n (show i < 1000 by omega), er, f68 hw ht, cR, E_n r9, r0, hbk.1.1, f9 v2 hbk.1.1 u1, st96_59v hrd.rd, ftor hW v2 v1 v4 hrd hbk, g2, q, p1, p2, aft_some, Option.toList_some, Option.toList_none, List.cons_append, List.nil_append, br0, br1, br2, br3, zr01, zr02, n10, n01, ne_eq, not_true_eq_false, not_false_eq_true, if_true, if_false, true_and, and_true, and_self]
        exact ih'
      · simp only [q, if_false] at ih'
        simp only [st96_43, st96_44, st96_45, st96_46, st96_47, st96_48, st96_49, st96_50, st96_51, st96_52, st96_53, st96_54, st96_55, st96_56, st96_57, st96_58, st96_59_t0, st96_59_t2, st96_59_t3, st96_59_t4, st96_59_t5, st96_59_t6, st96_59_t7, st96_59_t9, st96_60, st96_61, st96_62, st96_63, st96_64, st96_65, st96_66, st96_67, st96_68, st96_69, st96_70, st96_71, st96_59v, t8, x4, cx, hc.1, hc.2.1, ht.1.1, f57 he hc hH hC hk, cc, E_n (show i < 1000 by omega), er, f68 hw ht, cR, E_n r9, r0, hbk.1.1, f9 v2 hbk.1.1 u1, st96_59v hrd.rd, ftor hW v2 v1 v4 hrd hbk, g2, q, p1, p2, aft_some, Option.toList_some, Option.toList_none, List.cons_append, List.nil_append, br0, br1, br2, br3, zr01, zr02, n10, n01, ne_eq, not_true_eq_false, not_false_eq_true, if_true, if_false, true_and, and_true, and_self]
        exact ih'
    · have g1 : ¬ gpb A b r = true := fun h => g (of_decide_eq_true h)
      have g2 : ¬ E (tor (kdA A r) (fgA A r) (pgA A b) (ndA A b) (2 ^ pgA A b - 1)) = E ((2 ^ pgA A b - 1) &&& (255 ^^^ inA A b)) := fun h => g (eT.mp h)
      rw [if_neg g1] at ih'
      simp only [st96_43, st96_44, st96_45, st96_46, st96_47, st96_48, st96_49, st96_50, st96_51, st96_52, st96_53, st96_54, st96_55, st96_56, st96_57, st96_58, st96_59_t0, st96_59_t2, st96_59_t3, st96_59_t4, st96_59_t5, st96_59_t6, st96_59_t7, st96_59_t9, st96_60, st96_61, st96_62, st96_63, st96_64, st96_65, st96_66, st96_67, st96_68, st96_69, st96_70, st96_71, st96_59v, t8, x4, cx, hc.1, hc.2.1, ht.1.1, f57 he hc hH hC hk, cc, E_n (show i < 1000 by omega), er, f68 hw ht, cR, E_n r9, r0, hbk.1.1, f9 v2 hbk.1.1 u1, st96_59v hrd.rd, ftor hW v2 v1 v4 hrd hbk, g2, p1, p2, aft_some, Option.toList_some, Option.toList_none, List.cons_append, List.nil_append, br0, br1, br2, br3, zr01, zr02, n10, n01, ne_eq, not_true_eq_false, not_false_eq_true, if_true, if_false, true_and, and_true, and_self]
      exact ih'
theorem Both.r70 {A : AT} {μ μ' : SMem} (h : Both μ A) (hs : SB (fun c => c = 70 ∨ c = 73) μ μ') (e : ∀ j, j < 87 → gi μ' 70 j = gi μ 70 j) : Both μ' A := by
  have h0 := h
  obtain ⟨hm, hc, hw, ht, hr⟩ := h
  exact ⟨hm.sb hs, hc.sb hs, hw, ht.sb hs (fun c e => ⟨by omega, scr_tag h0 (by unfold Scr; omega)⟩), hr.ext hw e⟩
theorem f201 {d b : Nat} {A : AT} {S : Nat → Nat} {μ : SMem} (hm : MA μ) (hw : WF A) (hM : MQr (gi μ 70) A S) (hb : b < bcA A) : cl (d + 1) 201 [Sum.inr (Sum.inl (69)), Sum.inl (E b)] μ = some (Sum.inl none, seti μ 70 (4 + 18 * b) (E (2 ^ pgA A b - 1))) := by
  have b4 : b < 4 := by have := hw.1; omega
  show rn (d + 1) 201 0 [some (Sum.inr (Sum.inl (69))), some (Sum.inl (E b))] [] μ = _
  simp only [st201_0, st201_1, st201_2, st201_3, st201_4, st201_5, st201_6, st201_7, st201_8, st201_9, st201_10, hm.1, f143 b4 hm, (hM.2.2.1 b hb).1, E_whole _ (hw.pg9 b), f145 b4 hm, aft_some, Option.toList_some, Option.toList_none, List.cons_append, List.nil_append, br0, br1, br2, br3, zr01, zr02, n10, n01, ne_eq, not_true_eq_false, not_false_eq_true, if_true, if_false, true_and, and_true, and_self]
theorem MQr.st {A : AT} {S : Nat → Nat} {b n : Nat} {μ : SMem} (hw : WF A) (hM : MQr (gi μ 70) A S) (hb : b < bcA A) (hn : n < 2 ^ pgA A b) : MQr (gi (seti μ 70 (4 + 18 * b) (E n)) 70) A (up1 S b n) := by
  have w1 := hw.1
  obtain ⟨h1, h2, h3, h4⟩ := hM
  have e : ∀ j, j ≠ 4 + 18 * b → gi (seti μ 70 (4 + 18 * b) (E n)) 70 j = gi μ 70 j := fun j hj => by rw [gi_seti, if_neg (fun e => hj e.2)]
  refine ⟨by rw [e _ (by omega)]; exact h1, by rw [e _ (by omega)]; exact h2, fun b' hb' => ?_, fun r' hr' => by rw [e _ (by omega), e _ (by omega)]; exact h4 r' hr'⟩
  obtain ⟨x1, x2, x3, x4⟩ := h3 b' hb'
  refine ⟨by rw [e _ (by omega)]; exact x1, ?_, ?_, fun p hp => by rw [e _ (by omega)]; exact x4 p hp⟩
  · by_cases q : b' = b
    · subst q
      rw [gi_seti, if_pos ⟨rfl, rfl⟩, up1, if_pos rfl]
    · rw [e _ (by omega), up1, if_neg q]; exact x2
  · by_cases q : b' = b
    · subst q
      rw [up1, if_pos rfl]; exact hn
    · rw [up1, if_neg q]; exact x3
theorem f202_lp {d e b : Nat} {A : AT} {H : HT} {x3 x4 : Int32} {μ0 : SMem} (he : e < 8) (hm : MA μ0) (hw : WF A) (hH : HWF H) (hC : ShM μ0 e H) (hk : hkt H = 2) (h6 : hsz H ≤ 6) (hb : b < bcA A) (hok : ∀ i, i < hsz H → ∃ r, r < rcA A ∧ hel H i = E r) (h0 : MQr (gi μ0 70) A (inA A)) (h73 : ∀ j, j < 87 → gi μ0 73 j = gi μ0 70 j) : ∀ k i (μ : SMem) (u9 u10 : Option SV), i + k = hsz H → SB (fun c => c = 70) μ0 μ → (∀ j, j < 87 → gi μ 70 j = gi μ0 70 j) → ∃ μ' u9' u10', rn (d + 5) 202 22 [some (Sum.inr (Sum.inl (69))), some (Sum.inl (E b)), some (Sum.inl (E e)), some (Sum.inl (x3)), some (Sum.inl (x4)), some (Sum.inl (E (inA A b))), some (Sum.inl (E (gpF A b (hel H) i).2)), some (Sum.inl ((gpF A b (hel H) i).1)), some (Sum.inl (E i)), u9, u10] [] μ = rn (d + 5) 202 66 [some (Sum.inr (Sum.inl (69))), some (Sum.inl (E b)), some (Sum.inl (E e)), some (Sum.inl (x3)), some (Sum.inl (x4)), some (Sum.inl (E (inA A b))), some (Sum.inl (E (gpF A b (hel H) (hsz H)).2)), some (Sum.inl ((gpF A b (hel H) (hsz H)).1)), some (Sum.inl (E (hsz H))), u9', u10'] [] μ' ∧ SB (fun c => c = 70) μ0 μ' ∧ (∀ j, j < 87 → gi μ' 70 j = gi μ0 70 j) := by
  have w1 := hw.1
  have b4 : b < 4 := by omega
  intro k
  induction k with
  | zero =>
    intro i μ u9 u10 hi hs hj
    have : i = hsz H := by omega
    subst this
    have hm1 := hm.sb hs
    have hC1 := hC.sb hs (fun c e9 => by omega)
    obtain ⟨m1, m2, m3, m4, m5, m6, m7, m8, m9, m10, m11, m12, m13, m14, ⟨t0, t1, t2, t3, t4, t5, t6, t7, t8, t9, t10, t11, t12⟩, l0, l1, l2, l3, l4, l5, l6, l7, l8, l9, l10, l11, l12⟩ := hm1
    refine ⟨μ, u9, u10, ?_, hs, hj⟩
    rw [st202_22]
    simp only [st202_23, st202_24, st202_25, st202_26, st202_27, st202_28, st202_29, st202_30, st202_31, st202_32, st202_33, st202_34, st202_35, st202_36, st202_37, st202_38, st202_39, st202_40, st202_41, st202_42, st202_43, st202_44, st202_45, st202_46, st202_47, st202_48, st202_49, st202_50, st202_51, st202_52, st202_53, st202_54, st202_55, st202_56, st202_57, st202_58, st202_59, st202_60, st202_61, st202_62, st202_63, st202_64, st202_65, m1, m8, t6, l6, E_ge0 (show e < 1000 by omega), E_n (show e < 1000 by omega), he, and_self, (hC1.2.1 hk).2, Int32.le_refl, if_true]
  | succ k ih =>
    intro i μ u9 u10 hi hs hj
    have hm1 := hm.sb hs
    have hm0 := hm1
    have hC1 := hC.sb hs (fun c e9 => by omega)
    obtain ⟨r, hr, er⟩ := hok i (by omega)
    obtain ⟨v1, v2, v3, v4, v5, v6⟩ := hw.2.2.1 b hb
    have hW := p2_lt9 _ v2
    have hM : MQr (gi μ 70) A (inA A) := by
      obtain ⟨q1, q2, q3, q4⟩ := h0
      have r6 := hw.2.1
      refine ⟨by rw [hj 0 (by omega)]; exact q1, by rw [hj 1 (by omega)]; exact q2, fun b' hb' => ?_, fun r' hr' => by rw [hj _ (by omega), hj _ (by omega)]; exact q4 r' hr'⟩
      obtain ⟨x1, x2, x3, x4⟩ := q3 b' hb'
      exact ⟨by rw [hj _ (by omega)]; exact x1, by rw [hj _ (by omega)]; exact x2, x3, fun p hp => by rw [hj _ (by omega)]; exact x4 p hp⟩
    have g7 := hC1.2.2.2 i (by omega)
    rw [er] at g7
    have f1 := fun d => f201 (d := d) hm0 hw hM hb
    have hM2 := hM.st hw hb (show 2 ^ pgA A b - 1 < 2 ^ pgA A b by have := Nat.two_pow_pos (pgA A b); omega)
    have s1 : SB (fun c => c = 70) μ (seti μ 70 (4 + 18 * b) (E (2 ^ pgA A b - 1))) := SB.se rfl
    have e77 : ∀ j, gi (seti μ 70 (4 + 18 * b) (E (2 ^ pgA A b - 1))) 77 j = gi μ 77 j := fun j => by rw [s1.2.2.2.2.2.2 77 (by omega)]
    generalize seti μ 70 (4 + 18 * b) (E (2 ^ pgA A b - 1)) = μ1 at *
    have hm2 := hm0.sb s1
    have hm2' := hm2
    obtain ⟨μ2, z1, z2, z3⟩ := f162m (d := d) hm2 hw hM2 hr hb
    have hm3 := hm2.sb z2
    have e9 : gi μ2 70 (4 + 18 * b) = E (lft (kdA A r) (fgA A r) (pgA A b) (ndA A b) (2 ^ pgA A b - 1)) := by
      rw [(z3.2.2.1 b hb).2.1]
      show E (up1 _ b (lft _ _ _ _ (up1 (inA A) b (2 ^ pgA A b - 1) b)) b) = _
      rw [up1, if_pos rfl, up1, if_pos rfl]
    obtain ⟨μ3, y1, y2, y3⟩ := f184 (d := d + 3) hm3
    have hj3 : ∀ j, j < 87 → gi μ3 70 j = gi μ0 70 j := fun j hj9 => by rw [y3 j hj9, z2.2.2.2.2.2.2 73 (by omega), s1.2.2.2.2.2.2 73 (by omega), hs.2.2.2.2.2.2 73 (by omega), h73 j hj9]
    have hl := E_inj (a := lft (kdA A r) (fgA A r) (pgA A b) (ndA A b) (2 ^ pgA A b - 1)) (b := inA A b) (by have := lft_lt (nd := ndA A b) hW (hw.2.2.2.2 r hr).1 (hw.2.2.2.2 r hr).2 v1 v2; omega) (by have := hw.in9 b; omega)
    have p1 : E i + 1 = E (i + 1) := E_add i 1
    have p2 : E (gpF A b (hel H) i).2 + 1 = E ((gpF A b (hel H) i).2 + 1) := E_add _ 1
    have cx : ¬ E (hsz H) ≤ E i := by rw [E_le (by omega) (by omega)]; omega
    have x4' := (hC1.2.1 hk).2
    have i9 := E_ge0 (show 100 * e + i < 1000 by omega)
    have i8 := E_n (show 100 * e + i < 1000 by omega)
    have i7 : 100 * e + i < 800 := by omega
    obtain ⟨m1, m2, m3, m4, m5, m6, m7, m8, m9, m10, m11, m12, m13, m14, ⟨t0, t1, t2, t3, t4, t5, t6, t7, t8, t9, t10, t11, t12⟩, l0, l1, l2, l3, l4, l5, l6, l7, l8, l9, l10, l11, l12⟩ := hm1
    have n1 : tg μ1 69 = 12 := hm2.1
    obtain ⟨_, _, _, _, _, _, _, _, n9, _, _, _, _, _, ⟨_, _, _, _, _, _, _, n7, _⟩, _, _, _, _, _, _, _, q7, _⟩ := hm2
    by_cases g : lft (kdA A r) (fgA A r) (pgA A b) (ndA A b) (2 ^ pgA A b - 1) = inA A b
    · have g1 : gpb A b r = true := decide_eq_true g
      have g2 := hl.mpr g
      obtain ⟨μ', u9', u10', o1, o2, o3⟩ := ih (i + 1) μ3 (some (Sum.inl (E (wrS A (up1 (inA A) b (2 ^ pgA A b - 1)) r b)))) (some (Sum.inl 1)) (by omega) (hs.tr (s1.tr (z2.tr y2))) hj3
      rw [gpF_s i, er, E_nn (by have := hw.2.1; omega), if_pos g1] at o1
      refine ⟨μ', u9', u10', ?_, o2, o3⟩
      rw [st202_22]
      rcases gpF_v (A := A) (b := b) (el := hel H) i with q | ⟨j, hj9, q⟩
      · simp only [q, if_true] at o1
        simp only [st202_23, st202_24, st202_25, st202_26, st202_27, st202_28, st202_29, st202_30, st202_31, st202_32, st202_33, st202_34, st202_35, st202_36, st202_37, st202_38, st202_39, st202_40, st202_41, st202_42, st202_43, st202_44, st202_45, st202_46, st202_47, st202_48, st202_49, st202_50, st202_51, st202_52, st202_53, st202_54, st202_55, st202_56, st202_57, st202_58, st202_59, st202_60, st202_61, st202_62, st202_63, st202_64, st202_65, m1, m8, t6, l6, E_ge0 (show e < 1000 by omega), E_n (show e < 1000 by omega), he, x4', cx, f1, ix100, i9, i8, i7, n1, n9, n7, q7, e77, g7, z1, f144 b4 hm3, e9, g2, hm3.1, y1, p1, p2, q, show ((0 : Int32) ≤ -4) = False from eq_false (by decide), aft_some, Option.toList_some, Option.toList_none, List.cons_append, List.nil_append, br0, br1, br2, br3, zr01, zr02, n10, n01, ne_eq, not_true_eq_false, not_false_eq_true, if_true, if_false, true_and, and_true, and_self]
        exact o1
      · simp only [q, Em4 (show j < 1000 by omega), if_false] at o1
        simp only [st202_23, st202_24, st202_25, st202_26, st202_27, st202_28, st202_29, st202_30, st202_31, st202_32, st202_33, st202_34, st202_35, st202_36, st202_37, st202_38, st202_39, st202_40, st202_41, st202_42, st202_43, st202_44, st202_45, st202_46, st202_47, st202_48, st202_49, st202_50, st202_51, st202_52, st202_53, st202_54, st202_55, st202_56, st202_57, st202_58, st202_59, st202_60, st202_61, st202_62, st202_63, st202_64, st202_65, m1, m8, t6, l6, E_ge0 (show e < 1000 by omega), E_n (show e < 1000 by omega), he, x4', cx, f1, ix100, i9, i8, i7, n1, n9, n7, q7, e77, g7, z1, f144 b4 hm3, e9, g2, hm3.1, y1, p1, p2, q, E_ge0 (show j < 1000 by omega), aft_some, Option.toList_some, Option.toList_none, List.cons_append, List.nil_append, br0, br1, br2, br3, zr01, zr02, n10, n01, ne_eq, not_true_eq_false, not_false_eq_true, if_true, if_false, true_and, and_true, and_self]
        exact o1
    · have g1 : ¬ gpb A b r = true := fun h => g (of_decide_eq_true h)
      have g2 : ¬ E (lft (kdA A r) (fgA A r) (pgA A b) (ndA A b) (2 ^ pgA A b - 1)) = E (inA A b) := fun h => g (hl.mp h)
      obtain ⟨μ', u9', u10', o1, o2, o3⟩ := ih (i + 1) μ3 (some (Sum.inl (E (wrS A (up1 (inA A) b (2 ^ pgA A b - 1)) r b)))) (some (Sum.inl 0)) (by omega) (hs.tr (s1.tr (z2.tr y2))) hj3
      rw [gpF_s i, er, E_nn (by have := hw.2.1; omega), if_neg g1] at o1
      refine ⟨μ', u9', u10', ?_, o2, o3⟩
      rw [st202_22]
      simp only [st202_23, st202_24, st202_25, st202_26, st202_27, st202_28, st202_29, st202_30, st202_31, st202_32, st202_33, st202_34, st202_35, st202_36, st202_37, st202_38, st202_39, st202_40, st202_41, st202_42, st202_43, st202_44, st202_45, st202_46, st202_47, st202_48, st202_49, st202_50, st202_51, st202_52, st202_53, st202_54, st202_55, st202_56, st202_57, st202_58, st202_59, st202_60, st202_61, st202_62, st202_63, st202_64, st202_65, m1, m8, t6, l6, E_ge0 (show e < 1000 by omega), E_n (show e < 1000 by omega), he, x4', cx, f1, ix100, i9, i8, i7, n1, n9, n7, q7, e77, g7, z1, f144 b4 hm3, e9, g2, hm3.1, y1, p1, p2, aft_some, Option.toList_some, Option.toList_none, List.cons_append, List.nil_append, br0, br1, br2, br3, zr01, zr02, n10, n01, ne_eq, not_true_eq_false, not_false_eq_true, if_true, if_false, true_and, and_true, and_self]
      exact o1
