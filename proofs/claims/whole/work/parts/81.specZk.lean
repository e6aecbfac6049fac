/-! SPECS ZK: the best order, the reference -/
def TQ (μ0 μ : SMem) (o : Nat → Nat) (k : Nat) (s : Int32 × Nat) : Prop := SB (fun c => c = 69 ∨ c = 70 ∨ c = 73 ∨ c = 81) μ0 μ ∧ (∀ j, j < 87 → gi μ 70 j = gi μ0 70 j) ∧ (∀ j, j ≠ 17 → j ≠ 18 → gi μ 69 j = gi μ0 69 j) ∧ (∀ j, j < k → gi μ 81 j = E (o j)) ∧ gi μ 69 17 = s.1 ∧ (s.1 = -1 ∨ gi μ 69 18 = E s.2)
theorem oL_app {pre : List Nat} {i j : Nat} (h : j < pre.length) : oL (pre ++ [i]) j = oL pre j := by
  unfold oL
  rw [List.getD_eq_getElem?_getD, List.getD_eq_getElem?_getD, List.getElem?_append_left h]
theorem oL_app1 {pre : List Nat} {i : Nat} : oL (pre ++ [i]) pre.length = i := by
  unfold oL
  rw [List.getD_eq_getElem?_getD, List.getElem?_append_right (Nat.le_refl _), Nat.sub_self]
  rfl
theorem E_bitc : ∀ n, n < 256 → ∀ p, p < 8 → ((E n >>> (E p &&& 31)) &&& 1 ≠ 1) = (n.testBit p = false) := by
  intro n hn p hp
  rw [E_bit n hn p hp]
  cases n.testBit p <;> simp
theorem f189_l {d e b n : Nat} {A : AT} {H : HT} {x4 : Int32} {o : Nat → Nat} {μ0 : SMem} (he : e < 8) (hm : MA μ0) (hw : WF A) (hH : HWF H) (hC : ShM μ0 e H) (hk : hkt H = 2) (hsn : hsz H = n) (hn : n < 7) (hb : b < bcA A) (hok : ∀ i, i < n → ∃ r, r < rcA A ∧ hel H i = E r) (ho : ∀ j, j < n → o j < n) (hv : ∀ j, j < n → gi μ0 81 j = E (o j)) : ∀ k j (μ : SMem) (S : Nat → Nat), j + k = n → SB (fun c => c = 70) μ0 μ → MQr (gi μ 70) A S → S b = (prF A b (hel H) o j).2 → ∃ μ', rn (d + 5) 189 14 [some (Sum.inr (Sum.inl (69))), some (Sum.inl (E b)), some (Sum.inl (E e)), some (Sum.inl (E n)), some (Sum.inl (x4)), some (Sum.inl (E n)), some (Sum.inl (E (prF A b (hel H) o j).1)), some (Sum.inl (E j))] [] μ = rn (d + 5) 189 36 [some (Sum.inr (Sum.inl (69))), some (Sum.inl (E b)), some (Sum.inl (E e)), some (Sum.inl (E n)), some (Sum.inl (x4)), some (Sum.inl (E n)), some (Sum.inl (E (prF A b (hel H) o n).1)), some (Sum.inl (E n))] [] μ' ∧ SB (fun c => c = 70) μ0 μ' := by
  intro k
  induction k with
  | zero =>
    intro j μ S hj hs hM hS
    have : j = n := by omega
    subst this
    refine ⟨μ, ?_, hs⟩
    rw [st189_14]
    simp only [st189_15, st189_16, st189_17, st189_18, st189_19, st189_20, st189_21, st189_22, st189_23, st189_24, st189_25, st189_26, st189_27, st189_28, st189_29, st189_30, st189_31, st189_32, st189_33, st189_34, st189_35, Int32.le_refl, if_true]
  | succ k ih =>
    intro j μ S hj hs hM hS
    have hm1 := hm.sb hs
    have hm2 := hm1
    have hC1 := hC.sb hs (fun c e9 => by omega)
    have oj := ho j (by omega)
    obtain ⟨r, hr, er⟩ := hok (o j) oj
    have g7 := hC1.2.2.2 (o j) (by omega)
    rw [er] at g7
    have g81 : gi μ 81 j = E (o j) := by rw [hs.2.2.2.2.2.2 81 (by omega)]; exact hv j (by omega)
    obtain ⟨μ1, z1, z2, z3⟩ := f162m (d := d) hm1 hw hM hr hb
    have cx : ¬ E n ≤ E j := by rw [E_le (by omega) (by omega)]; omega
    have e9 : rdS A S r b b = lft (kdA A r) (fgA A r) (pgA A b) (ndA A b) (S b) := by unfold rdS up1; rw [if_pos rfl]
    have hpr : prF A b (hel H) o (j + 1) = ((prF A b (hel H) o j).1 + wor (kdA A r) (fgA A r) (pgA A b) (ndA A b) (prF A b (hel H) o j).2, lft (kdA A r) (fgA A r) (pgA A b) (ndA A b) (prF A b (hel H) o j).2) := by rw [prF_s, er, E_nn (by have := hw.2.1; omega)]
    obtain ⟨μ', y1, y2⟩ := ih (j + 1) μ1 (rdS A S r b) (by omega) (hs.tr z2) z3 (by rw [e9, hS, hpr])
    refine ⟨μ', ?_, y2⟩
    rw [hpr] at y1
    have eW : wrS A S r b = wor (kdA A r) (fgA A r) (pgA A b) (ndA A b) (prF A b (hel H) o j).2 := by unfold wrS; rw [hS]
    rw [eW] at z1
    obtain ⟨m1, m2, m3, m4, m5, m6, m7, m8, m9, m10, m11, m12, m13, m14, ⟨t0, t1, t2, t3, t4, t5, t6, t7, t8, t9, t10, t11, t12⟩, l0, l1, l2, l3, l4, l5, l6, l7, l8, l9, l10, l11, l12⟩ := hm1
    rw [st189_14]
    simp only [st189_15, st189_16, st189_17, st189_18, st189_19, st189_20, st189_21, st189_22, st189_23, st189_24, st189_25, st189_26, st189_27, st189_28, st189_29, st189_30, st189_31, st189_32, st189_33, st189_34, st189_35, cx, m1, m9, m13, t7, t11, l7, l11, E_ge0 (show j < 1000 by omega), E_n (show j < 1000 by omega), show j < 6 by omega, g81, ix100, E_ge0 (show 100 * e + o j < 1000 by omega), E_n (show 100 * e + o j < 1000 by omega), show 100 * e + o j < 800 by omega, g7, z1, E_add, show E j + 1 = E (j + 1) from E_add j 1, aft_some, Option.toList_some, Option.toList_none, List.cons_append, List.nil_append, br0, br1, br2, br3, zr01, zr02, n10, n01, ne_eq, not_true_eq_false, not_false_eq_true, if_true, if_false, true_and, and_true, and_self]
    exact y1
theorem f189_g {d n : Nat} {x1 x2 x3 x4 x5 x6 : Int32} {o : Nat → Nat} (hn : n < 7) : ∀ k acc (μ : SMem), k ≤ n → MA μ → (∀ j, j < n → gi μ 81 j = E (o j)) → gi μ 69 18 = E acc → ∃ μ', rn d 189 53 [some (Sum.inr (Sum.inl (69))), some (Sum.inl (x1)), some (Sum.inl (x2)), some (Sum.inl (x3)), some (Sum.inl (x4)), some (Sum.inl (x5)), some (Sum.inl (x6)), some (Sum.inl (E k - 1))] [] μ = some (Sum.inl none, μ') ∧ SB (fun c => c = 69) μ μ' ∧ gi μ' 69 18 = E (dgF o k acc) ∧ ∀ j, j ≠ 18 → gi μ' 69 j = gi μ 69 j := by
  intro k
  induction k with
  | zero =>
    intro acc μ hk hm hv h18
    refine ⟨μ, ?_, SB.rf, h18, fun _ _ => rfl⟩
    rw [st189_53]
    simp only [st189_54, st189_55, st189_56, st189_57, st189_58, st189_59, st189_60, st189_61, st189_62, st189_63, st189_64, st189_65, st189_66, st189_67, st189_68, E01, if_true]
  | succ k ih =>
    intro acc μ hk hm hv h18
    have e1 : E (k + 1) - 1 = E k := E_m1 (n := k + 1) (by omega)
    have s1 : SB (fun c => c = 69) μ (seti μ 69 18 (E (acc * 10 + o k))) := SB.se rfl
    obtain ⟨μ', y1, y2, y3, y4⟩ := ih (acc * 10 + o k) (seti μ 69 18 (E (acc * 10 + o k))) (by omega) (hm.sb s1) (fun j hj => by rw [s1.2.2.2.2.2.2 81 (by omega)]; exact hv j hj) (by rw [gi_seti, if_pos ⟨rfl, rfl⟩])
    refine ⟨μ', ?_, s1.tr y2, y3, fun j hj => by rw [y4 j hj, gi_seti, if_neg (fun h => hj h.2)]⟩
    have e10 : (10 : Int32) * E acc = E (acc * 10) := by rw [show (10 : Int32) = E 10 from rfl, E_mul, Nat.mul_comm]
    obtain ⟨m1, m2, m3, m4, m5, m6, m7, m8, m9, m10, m11, m12, m13, m14, ⟨t0, t1, t2, t3, t4, t5, t6, t7, t8, t9, t10, t11, t12⟩, l0, l1, l2, l3, l4, l5, l6, l7, l8, l9, l10, l11, l12⟩ := hm
    rw [st189_53, e1]
    simp only [st189_54, st189_55, st189_56, st189_57, st189_58, st189_59, st189_60, st189_61, st189_62, st189_63, st189_64, st189_65, st189_66, st189_67, st189_68, E_lt0 (show k < 1000 by omega), m1, m13, t11, l11, h18, e10, E_ge0 (show k < 1000 by omega), E_n (show k < 1000 by omega), show k < 6 by omega, hv k (by omega), E_add, E_p1, aft_some, Option.toList_some, Option.toList_none, List.cons_append, List.nil_append, br0, br1, br2, br3, zr01, zr02, n10, n01, ne_eq, not_true_eq_false, not_false_eq_true, if_true, if_false, true_and, and_true, and_self]
    exact y1
theorem MQr.same {g g' : Nat → Int32} {A : AT} {S : Nat → Nat} (hw : WF A) (h : MQr g A S) (hj : ∀ j, j < 87 → g' j = g j) : MQr g' A S := by
  obtain ⟨q1, q2, q3, q4⟩ := h
  have r6 := hw.2.1
  have w1 := hw.1
  refine ⟨by rw [hj 0 (by omega)]; exact q1, by rw [hj 1 (by omega)]; exact q2, fun b' hb' => ?_, fun r' hr' => by rw [hj _ (by omega), hj _ (by omega)]; exact q4 r' hr'⟩
  obtain ⟨x1, x2, x3, x4⟩ := q3 b' hb'
  exact ⟨by rw [hj _ (by omega)]; exact x1, by rw [hj _ (by omega)]; exact x2, x3, fun p hp => by rw [hj _ (by omega)]; exact x4 p hp⟩
theorem f189_0 {d e b n mask : Nat} {A : AT} {H : HT} {o : Nat → Nat} {s : Int32 × Nat} {μ0 μ : SMem} (he : e < 8) (hm : MA μ0) (hw : WF A) (hH : HWF H) (hC : ShM μ0 e H) (hk : hkt H = 2) (hsn : hsz H = n) (hn : n < 7) (hb : b < bcA A) (hok : ∀ i, i < n → ∃ r, r < rcA A ∧ hel H i = E r) (hq : MQr (gi μ0 70) A (inA A)) (ho : ∀ j, j < n → o j < n) (hT : TQ μ0 μ o n s) : ∃ μ', cl (d + 5) 189 [Sum.inr (Sum.inl (69)), Sum.inl (E b), Sum.inl (E e), Sum.inl (E n), Sum.inl (E mask)] μ = some (Sum.inl none, μ') ∧ TQ μ0 μ' o n (if s.1 < E (prF A b (hel H) o n).1 then (E (prF A b (hel H) o n).1, dgF o n 0) else s) := by
  obtain ⟨hs, h70, h69, h81, h17, h18⟩ := hT
  have hm1 := hm.sb hs
  have hC1 := hC.sb hs (fun c e9 => by omega)
  obtain ⟨μa, b1, b2, b3⟩ := f183 (d := d + 3) hm1
  have hma := hm1.sb b2
  have hCa := hC1.sb b2 (fun c e9 => by omega)
  have hqa : MQr (gi μa 70) A (inA A) := (hq.same hw h70).same hw (fun j _ => by rw [b2.2.2.2.2.2.2 70 (by omega)])
  have h81a : ∀ j, j < n → gi μa 81 j = E (o j) := fun j hj => by rw [b2.2.2.2.2.2.2 81 (by omega)]; exact h81 j hj
  obtain ⟨μb, c1, c2⟩ := f189_l (d := d) (x4 := E mask) he hma hw hH hCa hk hsn hn hb hok ho h81a n 0 μa (inA A) (by omega) SB.rf hqa rfl
  have hmb := hma.sb c2
  obtain ⟨μc, y1, y2, y3⟩ := f184 (d := d + 3) hmb
  have hmc := hmb.sb y2
  have hmc' := hmc
  have g69 : gi μc 69 = gi μ 69 := by rw [y2.2.2.2.2.2.2 69 (by omega), c2.2.2.2.2.2.2 69 (by omega), b2.2.2.2.2.2.2 69 (by omega)]
  have g81 : gi μc 81 = gi μ 81 := by rw [y2.2.2.2.2.2.2 81 (by omega), c2.2.2.2.2.2.2 81 (by omega), b2.2.2.2.2.2.2 81 (by omega)]
  have g70 : ∀ j, j < 87 → gi μc 70 j = gi μ0 70 j := fun j hj => by rw [y3 j hj, c2.2.2.2.2.2.2 73 (by omega), b3 j hj, h70 j hj]
  have hsc : SB (fun c => c = 69 ∨ c = 70 ∨ c = 73 ∨ c = 81) μ0 μc := hs.tr ((b2.wk (fun c e => by omega)).tr ((c2.wk (fun c e => by omega)).tr (y2.wk (fun c e => by omega))))
  have n76 := (hC1.2.1 hk).2
  rw [hsn] at n76
  by_cases cb : s.1 < E (prF A b (hel H) o n).1
  · rw [if_pos cb]
    obtain ⟨μd, z1, z2, z3, z4⟩ := f189_g (d := d + 5) (n := n) (x1 := E b) (x2 := E e) (x3 := E n) (x4 := E mask) (x5 := E n) (x6 := E (prF A b (hel H) o n).1) (o := o) hn n 0 (seti (seti μc 69 17 (E (prF A b (hel H) o n).1)) 69 18 0) (Nat.le_refl n) (hmc.sb SB.se2) (fun j hj => by rw [(SB.se2 (μ := μc) (a := 69)).2.2.2.2.2.2 81 (by omega), g81]; exact h81 j hj) (by rw [gi_seti, if_pos ⟨rfl, rfl⟩]; rfl)
    refine ⟨μd, ?_, (hsc.tr (SB.se2.wk (fun c e => Or.inl e))).tr (z2.wk (fun c e => Or.inl e)), fun j hj => ?_, fun j hj hj2 => ?_, fun j hj => ?_, ?_, Or.inr z3⟩
    · obtain ⟨m1, m2, m3, m4, m5, m6, m7, m8, m9, m10, m11, m12, m13, m14, ⟨t0, t1, t2, t3, t4, t5, t6, t7, t8, t9, t10, t11, t12⟩, l0, l1, l2, l3, l4, l5, l6, l7, l8, l9, l10, l11, l12⟩ := hm1
      show rn (d + 5) 189 0 [some (Sum.inr (Sum.inl (69))), some (Sum.inl (E b)), some (Sum.inl (E e)), some (Sum.inl (E n)), some (Sum.inl (E mask)), none, none, none] [] μ = _
      simp only [st189_0, st189_1, st189_2, st189_3, st189_4, st189_5, st189_6, st189_7, st189_8, st189_9, st189_10, st189_11, st189_12, st189_13, m1, m8, t6, l6, E_ge0 (show e < 1000 by omega), E_n (show e < 1000 by omega), he, n76, b1, aft_some, Option.toList_some, Option.toList_none, List.cons_append, List.nil_append, br0, br1, br2, br3, zr01, zr02, n10, n01, ne_eq, not_true_eq_false, not_false_eq_true, if_true, if_false, true_and, and_true, and_self]
      refine c1.trans ?_
      have cb' : gi μ 69 17 < E (prF A b (hel H) o n).1 := by rw [h17]; exact cb
      have k1 := hmb.1
      have k2 := hmc.1
      simp only [st189_36, st189_37, st189_38, st189_39, st189_40, st189_41, st189_42, st189_43, st189_44, st189_45, st189_46, st189_47, st189_48, st189_49, st189_50, st189_51, st189_52, k1, k2, y1, g69, cb', gi_seti, gi_setr, gi_setl, gi_setrow, gr_seti, gr_setr, gr_setl, gr_setrow, gl_seti, gl_setr, gl_setl, gl_setrow, tg_seti, tg_setr, tg_setl, tg_setrow, ln_seti, ln_setr, ln_setl, ln_setrow, sz_seti, sz_setr, sz_setl, sz_setrow, sl_seti, sl_setr, sl_setl, sl_setrow, aft_some, Option.toList_some, Option.toList_none, List.cons_append, List.nil_append, br0, br1, br2, br3, zr01, zr02, n10, n01, ne_eq, not_true_eq_false, not_false_eq_true, if_true, if_false, true_and, and_true, and_self]
      exact z1
    · rw [z2.2.2.2.2.2.2 70 (by omega), (SB.se2 (μ := μc) (a := 69)).2.2.2.2.2.2 70 (by omega)]; exact g70 j hj
    · rw [z4 j hj2, gi_seti, if_neg (fun h => hj2 h.2), gi_seti, if_neg (fun h => hj h.2), g69]; exact h69 j hj hj2
    · rw [z2.2.2.2.2.2.2 81 (by omega), (SB.se2 (μ := μc) (a := 69)).2.2.2.2.2.2 81 (by omega), g81]; exact h81 j hj
    · rw [z4 17 (by decide), gi_seti, if_neg (by decide), gi_seti, if_pos ⟨rfl, rfl⟩]
  · rw [if_neg cb]
    refine ⟨μc, ?_, hsc, g70, fun j hj hj2 => by rw [g69]; exact h69 j hj hj2, fun j hj => by rw [g81]; exact h81 j hj, by rw [g69]; exact h17, by rw [g69]; exact h18⟩
    obtain ⟨m1, m2, m3, m4, m5, m6, m7, m8, m9, m10, m11, m12, m13, m14, ⟨t0, t1, t2, t3, t4, t5, t6, t7, t8, t9, t10, t11, t12⟩, l0, l1, l2, l3, l4, l5, l6, l7, l8, l9, l10, l11, l12⟩ := hm1
    show rn (d + 5) 189 0 [some (Sum.inr (Sum.inl (69))), some (Sum.inl (E b)), some (Sum.inl (E e)), some (Sum.inl (E n)), some (Sum.inl (E mask)), none, none, none] [] μ = _
    simp only [st189_0, st189_1, st189_2, st189_3, st189_4, st189_5, st189_6, st189_7, st189_8, st189_9, st189_10, st189_11, st189_12, st189_13, m1, m8, t6, l6, E_ge0 (show e < 1000 by omega), E_n (show e < 1000 by omega), he, n76, b1, aft_some, Option.toList_some, Option.toList_none, List.cons_append, List.nil_append, br0, br1, br2, br3, zr01, zr02, n10, n01, ne_eq, not_true_eq_false, not_false_eq_true, if_true, if_false, true_and, and_true, and_self]
    refine c1.trans ?_
    have cb' : ¬ gi μ 69 17 < E (prF A b (hel H) o n).1 := by rw [h17]; exact cb
    have k1 := hmb.1
    have k2 := hmc.1
    simp only [st189_36, st189_37, st189_38, st189_39, st189_40, st189_41, st189_42, st189_43, st189_44, st189_45, st189_46, st189_47, st189_48, st189_49, st189_50, st189_51, st189_52, k1, k2, y1, g69, cb', gi_seti, gi_setr, gi_setl, gi_setrow, gr_seti, gr_setr, gr_setl, gr_setrow, gl_seti, gl_setr, gl_setl, gl_setrow, tg_seti, tg_setr, tg_setl, tg_setrow, ln_seti, ln_setr, ln_setl, ln_setrow, sz_seti, sz_setr, sz_setl, sz_setrow, sl_seti, sl_setr, sl_setl, sl_setrow, aft_some, Option.toList_some, Option.toList_none, List.cons_append, List.nil_append, br0, br1, br2, br3, zr01, zr02, n10, n01, ne_eq, not_true_eq_false, not_false_eq_true, if_true, if_false, true_and, and_true, and_self]
theorem f189 {e b n : Nat} {A : AT} {H : HT} {μ0 : SMem} (he : e < 8) (hm : MA μ0) (hw : WF A) (hH : HWF H) (hC : ShM μ0 e H) (hk : hkt H = 2) (hsn : hsz H = n) (hn : n < 7) (hb : b < bcA A) (hok : ∀ i, i < n → ∃ r, r < rcA A ∧ hel H i = E r) (hq : MQr (gi μ0 70) A (inA A)) : ∀ m (d mask : Nat) (pre : List Nat) (μ : SMem) (s : Int32 × Nat), pre.length + m = n → mask < 256 → (∀ j, j < pre.length → oL pre j < n) → TQ μ0 μ (oL pre) pre.length s → ∃ μ', cl (d + 5 + m) 189 [Sum.inr (Sum.inl (69)), Sum.inl (E b), Sum.inl (E e), Sum.inl (E pre.length), Sum.inl (E mask)] μ = some (Sum.inl none, μ') ∧ TQ μ0 μ' (oL pre) pre.length ((dfsL n m pre mask).foldl (stp A b (hel H) n) s) := by
  intro m
  induction m with
  | zero =>
    intro d mask pre μ s hl hmk ho hT
    have e1 : pre.length = n := by omega
    rw [e1] at ho hT ⊢
    exact f189_0 (d := d) he hm hw hH hC hk hsn hn hb hok hq ho hT
  | succ m ih =>
    intro d mask pre μ s hl hmk ho hT
    have loop : ∀ r i (μ : SMem) (s : Int32 × Nat), i + r = n → TQ μ0 μ (oL pre) pre.length s → ∃ μ', rn (d + 5 + m + 1) 189 71 [some (Sum.inr (Sum.inl (69))), some (Sum.inl (E b)), some (Sum.inl (E e)), some (Sum.inl (E pre.length)), some (Sum.inl (E mask)), some (Sum.inl (E n)), some (Sum.inl (E i)), none] [] μ = some (Sum.inl none, μ') ∧ TQ μ0 μ' (oL pre) pre.length (((List.range' i r).flatMap fun i => if mask.testBit i = true then [] else dfsL n m (pre ++ [i]) (mask ||| 1 <<< i)).foldl (stp A b (hel H) n) s) := by
      intro r
      induction r with
      | zero =>
        intro i μ s hi hT
        have : i = n := by omega
        subst this
        refine ⟨μ, ?_, hT⟩
        rw [st189_71]
        simp only [st189_72, st189_73, st189_74, st189_75, st189_76, st189_77, st189_78, st189_79, st189_80, st189_81, st189_82, st189_83, st189_84, st189_85, st189_86, st189_87, st189_88, st189_89, st189_90, st189_91, st189_92, st189_93, st189_94, st189_95, st189_96, st189_97, st189_98, st189_99, st189_100, st189_101, Int32.le_refl, if_true]
      | succ r ih2 =>
        intro i μ s hi hT
        have cx : ¬ E n ≤ E i := by rw [E_le (by omega) (by omega)]; omega
        have p1 : E i + 1 = E (i + 1) := E_add i 1
        have p2 : E pre.length + 1 = E (pre.length + 1) := E_add _ 1
        have hbit := E_bitc mask hmk i (by omega)
        rw [List.range'_succ, List.flatMap_cons, List.foldl_append]
        by_cases c : mask.testBit i = true
        · obtain ⟨μ', y1, y2⟩ := ih2 (i + 1) μ s (by omega) hT
          refine ⟨μ', ?_, by rw [if_pos c]; exact y2⟩
          rw [st189_71]
          simp only [st189_72, st189_73, st189_74, st189_75, st189_76, st189_77, st189_78, st189_79, st189_80, st189_81, st189_82, st189_83, st189_84, st189_85, st189_86, st189_87, st189_88, st189_89, st189_90, st189_91, st189_92, st189_93, st189_94, st189_95, st189_96, st189_97, st189_98, st189_99, st189_100, cx, hbit, c, show (true = false) = False from eq_false (by decide), aft_some, Option.toList_some, Option.toList_none, List.cons_append, List.nil_append, br0, br1, br2, br3, zr01, zr02, n10, n01, ne_eq, not_true_eq_false, not_false_eq_true, if_true, if_false, true_and, and_true, and_self]
          rw [p1]
          exact y1
        · have c' : mask.testBit i = false := by revert c; cases mask.testBit i <;> simp
          obtain ⟨hs, h70, h69, h81, h17, h18⟩ := hT
          have hm1 := hm.sb hs
          have s1 : SB (fun c => c = 81) μ (seti μ 81 pre.length (E i)) := SB.se rfl
          have hT2 : TQ μ0 (seti μ 81 pre.length (E i)) (oL (pre ++ [i])) (pre ++ [i]).length s := by
            refine ⟨hs.tr (s1.wk (fun c e => by omega)), fun j hj => by rw [s1.2.2.2.2.2.2 70 (by omega)]; exact h70 j hj, fun j hj hj2 => by rw [s1.2.2.2.2.2.2 69 (by omega)]; exact h69 j hj hj2, fun j hj => ?_, by rw [s1.2.2.2.2.2.2 69 (by omega)]; exact h17, by rw [s1.2.2.2.2.2.2 69 (by omega)]; exact h18⟩
            rw [List.length_append, List.length_singleton] at hj
            rw [gi_seti]
            by_cases q : j = pre.length
            · rw [if_pos ⟨rfl, q⟩, q, oL_app1]
            · rw [if_neg (fun h => q h.2), oL_app (by omega)]; exact h81 j (by omega)
          obtain ⟨μ1, z1, z2⟩ := ih d (mask ||| 1 <<< i) (pre ++ [i]) (seti μ 81 pre.length (E i)) s (by rw [List.length_append, List.length_singleton]; omega) (or_lt _ hmk i (by omega)) (fun j hj => by
            rw [List.length_append, List.length_singleton] at hj
            by_cases q : j = pre.length
            · rw [q, oL_app1]; omega
            · rw [oL_app (by omega)]; exact ho j (by omega)) hT2
          have hT3 : TQ μ0 μ1 (oL pre) pre.length ((dfsL n m (pre ++ [i]) (mask ||| 1 <<< i)).foldl (stp A b (hel H) n) s) := by
            obtain ⟨a1, a2, a3, a4, a5, a6⟩ := z2
            exact ⟨a1, a2, a3, fun j hj => by rw [a4 j (by rw [List.length_append]; omega), oL_app hj], a5, a6⟩
          obtain ⟨μ', y1, y2⟩ := ih2 (i + 1) μ1 _ (by omega) hT3
          refine ⟨μ', ?_, by rw [if_neg c]; exact y2⟩
          rw [List.length_append, List.length_singleton] at z1
          have pl : pre.length < 6 := by omega
          obtain ⟨m1, m2, m3, m4, m5, m6, m7, m8, m9, m10, m11, m12, m13, m14, ⟨t0, t1, t2, t3, t4, t5, t6, t7, t8, t9, t10, t11, t12⟩, l0, l1, l2, l3, l4, l5, l6, l7, l8, l9, l10, l11, l12⟩ := hm1
          rw [st189_71]
          simp only [st189_72, st189_73, st189_74, st189_75, st189_76, st189_77, st189_78, st189_79, st189_80, st189_81, st189_82, st189_83, st189_84, st189_85, st189_86, st189_87, st189_88, st189_89, st189_90, st189_91, st189_92, st189_93, st189_94, st189_95, st189_96, st189_97, st189_98, st189_99, st189_100, cx, hbit, c', m1, m13, t11, l11, E_ge0 (show pre.length < 1000 by omega), E_n (show pre.length < 1000 by omega), pl, p2, E_or1 _ hmk i (by omega), z1, gi_seti, gi_setr, gi_setl, gi_setrow, gr_seti, gr_setr, gr_setl, gr_setrow, gl_seti, gl_setr, gl_setl, gl_setrow, tg_seti, tg_setr, tg_setl, tg_setrow, ln_seti, ln_setr, ln_setl, ln_setrow, sz_seti, sz_setr, sz_setl, sz_setrow, sl_seti, sl_setr, sl_setl, sl_setrow, aft_some, Option.toList_some, Option.toList_none, List.cons_append, List.nil_append, br0, br1, br2, br3, zr01, zr02, n10, n01, ne_eq, not_true_eq_false, not_false_eq_true, if_true, if_false, true_and, and_true, and_self]
          rw [p1]
          exact y1
    have hm1 := hm.sb hT.1
    have hC1 := hC.sb hT.1 (fun c e9 => by omega)
    have n76 := (hC1.2.1 hk).2
    rw [hsn] at n76
    have ne : (E pre.length = E n) = False := by rw [eq_iff_iff, E_inj (by omega) (by omega)]; exact ⟨fun e => by omega, False.elim⟩
    obtain ⟨μ', y1, y2⟩ := loop n 0 μ s (by omega) hT
    refine ⟨μ', ?_, by rw [dfsL_s, List.range_eq_range']; exact y2⟩
    obtain ⟨m1, m2, m3, m4, m5, m6, m7, m8, m9, m10, m11, m12, m13, m14, ⟨t0, t1, t2, t3, t4, t5, t6, t7, t8, t9, t10, t11, t12⟩, l0, l1, l2, l3, l4, l5, l6, l7, l8, l9, l10, l11, l12⟩ := hm1
    show rn (d + 5 + m + 1) 189 0 [some (Sum.inr (Sum.inl (69))), some (Sum.inl (E b)), some (Sum.inl (E e)), some (Sum.inl (E pre.length)), some (Sum.inl (E mask)), none, none, none] [] μ = _
    simp only [st189_0, st189_1, st189_2, st189_3, st189_4, st189_5, st189_6, st189_7, st189_69, st189_70, m1, m8, t6, l6, E_ge0 (show e < 1000 by omega), E_n (show e < 1000 by omega), he, n76, ne, aft_some, Option.toList_some, Option.toList_none, List.cons_append, List.nil_append, br0, br1, br2, br3, zr01, zr02, n10, n01, ne_eq, not_true_eq_false, not_false_eq_true, if_true, if_false, true_and, and_true, and_self]
    exact y1
