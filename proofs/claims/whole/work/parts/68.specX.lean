/-! SPECS X: turns -/
def trn (A : AT) (r1 r2 b : Nat) : Nat → Nat → Nat → Int32 → Int32
  | _, _, 0, acc => acc
  | S, i, m + 1, acc => if S = 0 then acc else if i % 2 = 0 then trn A r1 r2 b (lft (kdA A r1) (fgA A r1) (pgA A b) (ndA A b) S) (i + 1) m (acc + E (wor (kdA A r1) (fgA A r1) (pgA A b) (ndA A b) S)) else trn A r1 r2 b (lft (kdA A r2) (fgA A r2) (pgA A b) (ndA A b) S) (i + 1) m (acc + - E (wor (kdA A r2) (fgA A r2) (pgA A b) (ndA A b) S))
theorem trn_s {A : AT} {r1 r2 b : Nat} (S i m : Nat) (acc : Int32) : trn A r1 r2 b S i (m + 1) acc = if S = 0 then acc else if i % 2 = 0 then trn A r1 r2 b (lft (kdA A r1) (fgA A r1) (pgA A b) (ndA A b) S) (i + 1) m (acc + E (wor (kdA A r1) (fgA A r1) (pgA A b) (ndA A b) S)) else trn A r1 r2 b (lft (kdA A r2) (fgA A r2) (pgA A b) (ndA A b) S) (i + 1) m (acc + - E (wor (kdA A r2) (fgA A r2) (pgA A b) (ndA A b) S)) := rfl
theorem E_and1 : ∀ i, i < 17 → E i &&& 1 = E (i % 2) := by decide
theorem E_rem16 : ∀ i, i < 17 → g_irem (E i) 2 = E (i % 2) := by decide +kernel
theorem f97_lp {d n1 n2 a r1 r2 b : Nat} {x1 x2 x3 : Int32} {A : AT} {μ : SMem} (hw : WF A) (h1 : RdA μ n1 (kdA A r1) (fgA A r1)) (h2 : RdA μ n2 (kdA A r2) (fgA A r2)) (hb : b < bcA A) (hbk : BkN μ a (pgA A b) (ndA A b)) : ∀ m i S (acc : Int32) (u10 u11 u12 : Option SV), i + m = 16 → S < 256 → rn (d + 5) 97 30 [some (Sum.inr (Sum.inl (2))), some (Sum.inl (x1)), some (Sum.inl (x2)), some (Sum.inl (x3)), some (Sum.inr (Sum.inl (n1))), some (Sum.inr (Sum.inl (n2))), some (Sum.inr (Sum.inl (a))), some (Sum.inl (E S)), some (Sum.inl (acc)), some (Sum.inl (E i)), u10, u11, u12] [] μ = some (Sum.inl (some (Sum.inl (trn A r1 r2 b S i m acc))), μ) := by
  obtain ⟨a1, a2, a3, a4, _⟩ := hw.2.2.1 b hb
  intro m
  induction m with
  | zero =>
    intro i S acc u10 u11 u12 hi hS
    have : i = 16 := by omega
    subst this
    rw [st97_30]
    simp only [st97_0, st97_1, st97_2, st97_3, st97_4, st97_5, st97_6, st97_7, st97_8, st97_9, st97_10, st97_11, st97_12, st97_13, st97_14, st97_15, st97_16, st97_17, st97_18, st97_19, st97_20, st97_21, st97_22, st97_23, st97_24, st97_25, st97_26, st97_27, st97_28, st97_29, st97_31, st97_32, st97_33, st97_34, st97_35, st97_36, st97_37, st97_38, st97_39, st97_40, st97_41, st97_42, st97_43, st97_44, st97_45, st97_46, st97_47, st97_48, st97_49, st97_50, st97_51, st97_52_t0, st97_52_t2, st97_52_t3, st97_52_t4, st97_52_t5, st97_52_t6, st97_52_t7, st97_52_t9, st97_53, st97_54, st97_55, st97_56, st97_57, st97_58, st97_59, st97_60, st97_61, st97_62, st97_63, st97_64, st97_65, st97_66, st97_67_t0, st97_67_t2, st97_67_t3, st97_67_t4, st97_67_t5, st97_67_t6, st97_67_t7, st97_67_t9, st97_68, st97_69, st97_70, st97_71, st97_72, st97_73, st97_74, st97_75, st97_52v, st97_67v, show (16 : Int32) ≤ E 16 from by decide, if_true, trn]
  | succ m ih =>
    intro i S acc u10 u11 u12 hi hS
    have hc : ¬ (16 : Int32) ≤ E i := by rw [show (16 : Int32) = E 16 from rfl, E_le (by decide) (by omega)]; omega
    have hz : (E S = 0) = (S = 0) := by rw [E_0, eq_iff_iff, E_inj (by omega) (by decide)]
    rw [st97_30, trn_s S i m acc]
    by_cases s0 : S = 0
    · simp only [st97_0, st97_1, st97_2, st97_3, st97_4, st97_5, st97_6, st97_7, st97_8, st97_9, st97_10, st97_11, st97_12, st97_13, st97_14, st97_15, st97_16, st97_17, st97_18, st97_19, st97_20, st97_21, st97_22, st97_23, st97_24, st97_25, st97_26, st97_27, st97_28, st97_29, st97_31, st97_32, st97_33, st97_34, st97_35, st97_36, st97_37, st97_38, st97_39, st97_40, st97_41, st97_42, st97_43, st97_44, st97_45, st97_46, st97_47, st97_48, st97_49, st97_50, st97_51, st97_52_t0, st97_52_t2, st97_52_t3, st97_52_t4, st97_52_t5, st97_52_t6, st97_52_t7, st97_52_t9, st97_53, st97_54, st97_55, st97_56, st97_57, st97_58, st97_59, st97_60, st97_61, st97_62, st97_63, st97_64, st97_65, st97_66, st97_67_t0, st97_67_t2, st97_67_t3, st97_67_t4, st97_67_t5, st97_67_t6, st97_67_t7, st97_67_t9, st97_68, st97_69, st97_70, st97_71, st97_72, st97_73, st97_74, st97_75, st97_52v, st97_67v, hc, hz, s0, show (E 0 = (0 : Int32)) = True from eq_true rfl, aft_some, Option.toList_some, Option.toList_none, List.cons_append, List.nil_append, br0, br1, br2, br3, zr01, zr02, n10, n01, ne_eq, not_true_eq_false, not_false_eq_true, if_true, if_false, true_and, and_true, and_self]
    · by_cases p : i % 2 = 0
      · have hB := tor_lt (k := kdA A r1) (f := fgA A r1) (pg := pgA A b) (nd := ndA A b) hS h1.2.2.1 h1.2.2.2 a1 a2
        have hl := tor_lft (k := kdA A r1) (f := fgA A r1) (pg := pgA A b) (nd := ndA A b) hS h1.2.2.1 h1.2.2.2 a1 a2
        simp only [st97_0, st97_1, st97_2, st97_3, st97_4, st97_5, st97_6, st97_7, st97_8, st97_9, st97_10, st97_11, st97_12, st97_13, st97_14, st97_15, st97_16, st97_17, st97_18, st97_19, st97_20, st97_21, st97_22, st97_23, st97_24, st97_25, st97_26, st97_27, st97_28, st97_29, st97_31, st97_32, st97_33, st97_34, st97_35, st97_36, st97_37, st97_38, st97_39, st97_40, st97_41, st97_42, st97_43, st97_44, st97_45, st97_46, st97_47, st97_48, st97_49, st97_50, st97_51, st97_52_t0, st97_52_t2, st97_52_t3, st97_52_t4, st97_52_t5, st97_52_t6, st97_52_t7, st97_52_t9, st97_53, st97_54, st97_55, st97_56, st97_57, st97_58, st97_59, st97_60, st97_61, st97_62, st97_63, st97_64, st97_65, st97_66, st97_67_t0, st97_67_t2, st97_67_t3, st97_67_t4, st97_67_t5, st97_67_t6, st97_67_t7, st97_67_t9, st97_68, st97_69, st97_70, st97_71, st97_72, st97_73, st97_74, st97_75, st97_52v, st97_67v, hc, hz, s0, E_and1 i (by omega), p, show (E 0 = (0 : Int32)) = True from eq_true rfl, st97_52v h1.rd, fwor hS a2 a1 a4 h1 hbk, st97_67v h1.rd, ftor hS a2 a1 a4 h1 hbk, E_and _ hS _ hB, hl, show E i + 1 = E (i + 1) from E_add i 1, aft_some, Option.toList_some, Option.toList_none, List.cons_append, List.nil_append, br0, br1, br2, br3, zr01, zr02, n10, n01, ne_eq, not_true_eq_false, not_false_eq_true, if_true, if_false, true_and, and_true, and_self]
        exact ih (i + 1) _ _ _ _ _ (by omega) (lft_lt hS h1.2.2.1 h1.2.2.2 a1 a2)
      · have p1 : i % 2 = 1 := by omega
        have hB := tor_lt (k := kdA A r2) (f := fgA A r2) (pg := pgA A b) (nd := ndA A b) hS h2.2.2.1 h2.2.2.2 a1 a2
        have hl := tor_lft (k := kdA A r2) (f := fgA A r2) (pg := pgA A b) (nd := ndA A b) hS h2.2.2.1 h2.2.2.2 a1 a2
        have q1 : (1 = 0) = False := eq_false (by decide)
        simp only [st97_0, st97_1, st97_2, st97_3, st97_4, st97_5, st97_6, st97_7, st97_8, st97_9, st97_10, st97_11, st97_12, st97_13, st97_14, st97_15, st97_16, st97_17, st97_18, st97_19, st97_20, st97_21, st97_22, st97_23, st97_24, st97_25, st97_26, st97_27, st97_28, st97_29, st97_31, st97_32, st97_33, st97_34, st97_35, st97_36, st97_37, st97_38, st97_39, st97_40, st97_41, st97_42, st97_43, st97_44, st97_45, st97_46, st97_47, st97_48, st97_49, st97_50, st97_51, st97_52_t0, st97_52_t2, st97_52_t3, st97_52_t4, st97_52_t5, st97_52_t6, st97_52_t7, st97_52_t9, st97_53, st97_54, st97_55, st97_56, st97_57, st97_58, st97_59, st97_60, st97_61, st97_62, st97_63, st97_64, st97_65, st97_66, st97_67_t0, st97_67_t2, st97_67_t3, st97_67_t4, st97_67_t5, st97_67_t6, st97_67_t7, st97_67_t9, st97_68, st97_69, st97_70, st97_71, st97_72, st97_73, st97_74, st97_75, st97_52v, st97_67v, hc, hz, s0, E_and1 i (by omega), p1, q1, show (E 1 = (0 : Int32)) = False from eq_false (by decide), st97_52v h2.rd, fwor hS a2 a1 a4 h2 hbk, st97_67v h2.rd, ftor hS a2 a1 a4 h2 hbk, E_and _ hS _ hB, hl, show E i + 1 = E (i + 1) from E_add i 1, aft_some, Option.toList_some, Option.toList_none, List.cons_append, List.nil_append, br0, br1, br2, br3, zr01, zr02, n10, n01, ne_eq, not_true_eq_false, not_false_eq_true, if_true, if_false, true_and, and_true, and_self]
        exact ih (i + 1) _ _ _ _ _ (by omega) (lft_lt hS h2.2.2.1 h2.2.2.2 a1 a2)
theorem f203_lp {d r1 r2 b : Nat} {A : AT} {μ0 : SMem} (hm : MA μ0) (hw : WF A) (hr1 : r1 < rcA A) (hr2 : r2 < rcA A) (hb : b < bcA A) : ∀ m i (acc : Int32) (μ : SMem) (S : Nat → Nat), i + m = 16 → SB (fun c => c = 70) μ0 μ → MQr (gi μ 70) A S → ∃ μ' x5, rn (d + 5) 203 17 [some (Sum.inr (Sum.inl (69))), some (Sum.inl (E r1)), some (Sum.inl (E r2)), some (Sum.inl (E b)), some (Sum.inl (acc)), some (Sum.inl (E i))] [] μ = rn (d + 5) 203 43 [some (Sum.inr (Sum.inl (69))), some (Sum.inl (E r1)), some (Sum.inl (E r2)), some (Sum.inl (E b)), some (Sum.inl (trn A r1 r2 b (S b) i m acc)), some (Sum.inl (x5))] [] μ' ∧ SB (fun c => c = 70) μ0 μ' := by
  have b4 : b < 4 := by have := hw.1; omega
  have n20 : ((2 : Int32) = 0) = False := eq_false (by decide)
  intro m
  induction m with
  | zero =>
    intro i acc μ S hi hs hM
    have : i = 16 := by omega
    subst this
    refine ⟨μ, E 16, ?_, hs⟩
    rw [st203_17]
    simp only [st203_18, st203_19, show (16 : Int32) ≤ E 16 from by decide, if_true, trn]
  | succ m ih =>
    intro i acc μ S hi hs hM
    have hc : ¬ (16 : Int32) ≤ E i := by rw [show (16 : Int32) = E 16 from rfl, E_le (by decide) (by omega)]; omega
    have hm0 := hm.sb hs
    have hS9 := lt_256 (hM.2.2.1 b hb).2.2.1 (hw.pg9 b)
    have hin := (hM.2.2.1 b hb).2.1
    have hz : (E (S b) = 0) = (S b = 0) := by rw [E_0, eq_iff_iff, E_inj (by omega) (by decide)]
    rw [trn_s (S b) i m acc]
    by_cases s0 : S b = 0
    · refine ⟨μ, E i, ?_, hs⟩
      rw [st203_17]
      simp only [st203_18, st203_19, st203_20, st203_21, st203_22, st203_23, st203_24, st203_25, st203_26, st203_27, st203_28, st203_29, st203_30, st203_31, st203_32, st203_33, st203_34, st203_35, st203_36, st203_37, st203_38, st203_39, st203_40, st203_41, st203_42, hc, hm0.1, f144 b4 hm0, hin, s0, show (E 0 = (0 : Int32)) = True from eq_true rfl, aft_some, Option.toList_some, Option.toList_none, List.cons_append, List.nil_append, br0, br1, br2, br3, zr01, zr02, n10, n01, ne_eq, not_true_eq_false, not_false_eq_true, if_true, if_false, true_and, and_true, and_self]
    · by_cases p : i % 2 = 0
      · obtain ⟨μ1, z1, z2, z3⟩ := f162m (d := d) hm0 hw hM hr1 hb
        obtain ⟨μ', x5, y1, y2⟩ := ih (i + 1) (acc + E (wrS A S r1 b)) μ1 (rdS A S r1 b) (by omega) (hs.tr z2) z3
        have e9 : rdS A S r1 b b = lft (kdA A r1) (fgA A r1) (pgA A b) (ndA A b) (S b) := by unfold rdS up1; rw [if_pos rfl]
        rw [e9] at y1
        refine ⟨μ', x5, ?_, y2⟩
        rw [st203_17]
        simp only [st203_18, st203_19, st203_20, st203_21, st203_22, st203_23, st203_24, st203_25, st203_26, st203_27, st203_28, st203_29, st203_30, st203_31, st203_32, st203_33, st203_34, st203_35, st203_36, st203_37, st203_38, st203_39, st203_40, st203_41, st203_42, hc, hm0.1, f144 b4 hm0, hin, hz, s0, n20, E_rem16 i (by omega), p, show (E 0 = (0 : Int32)) = True from eq_true rfl, z1, show E i + 1 = E (i + 1) from E_add i 1, aft_some, Option.toList_some, Option.toList_none, List.cons_append, List.nil_append, br0, br1, br2, br3, zr01, zr02, n10, n01, ne_eq, not_true_eq_false, not_false_eq_true, if_true, if_false, true_and, and_true, and_self]
        exact y1
      · have p1 : i % 2 = 1 := by omega
        have q1 : (1 = 0) = False := eq_false (by decide)
        obtain ⟨μ1, z1, z2, z3⟩ := f162m (d := d) hm0 hw hM hr2 hb
        obtain ⟨μ', x5, y1, y2⟩ := ih (i + 1) (acc + - E (wrS A S r2 b)) μ1 (rdS A S r2 b) (by omega) (hs.tr z2) z3
        have e9 : rdS A S r2 b b = lft (kdA A r2) (fgA A r2) (pgA A b) (ndA A b) (S b) := by unfold rdS up1; rw [if_pos rfl]
        rw [e9] at y1
        refine ⟨μ', x5, ?_, y2⟩
        rw [st203_17]
        simp only [st203_18, st203_19, st203_20, st203_21, st203_22, st203_23, st203_24, st203_25, st203_26, st203_27, st203_28, st203_29, st203_30, st203_31, st203_32, st203_33, st203_34, st203_35, st203_36, st203_37, st203_38, st203_39, st203_40, st203_41, st203_42, hc, hm0.1, f144 b4 hm0, hin, hz, s0, n20, E_rem16 i (by omega), p1, q1, show (E 1 = (0 : Int32)) = False from eq_false (by decide), z1, show E i + 1 = E (i + 1) from E_add i 1, aft_some, Option.toList_some, Option.toList_none, List.cons_append, List.nil_append, br0, br1, br2, br3, zr01, zr02, n10, n01, ne_eq, not_true_eq_false, not_false_eq_true, if_true, if_false, true_and, and_true, and_self]
        exact y1
