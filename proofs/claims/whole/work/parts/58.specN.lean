/-! SPECS N: sums over books; count, reader; kinds and fees -/
def smF (f : Nat → Nat) : Nat → Nat
  | 0 => 0
  | k + 1 => smF f k + f k
theorem smF_s {f : Nat → Nat} (k : Nat) : smF f (k + 1) = smF f k + f k := rfl
theorem smF_z {f : Nat → Nat} {n : Nat} (h : ∀ b, n ≤ b → f b = 0) : ∀ k, smF f (n + k) = smF f n := by
  intro k
  induction k with
  | zero => rfl
  | succ k ih => rw [show n + (k + 1) = (n + k) + 1 from rfl, smF_s, ih, h (n + k) (by omega), Nat.add_zero]
theorem smF_4 {f : Nat → Nat} {n : Nat} (hn : n ≤ 4) (h : ∀ b, n ≤ b → f b = 0) : smF f n = smF f 4 := by
  have := smF_z h (4 - n)
  rw [show n + (4 - n) = 4 by omega] at this
  exact this.symm
theorem pcn_0 : pcn 0 = 0 := by decide
theorem f75_lp {d T : Nat} {A : AT} {μ : SMem} (hw : WF A) (ht : TwC μ T A) : ∀ k b (u5 : Option SV), b + k = 4 → rn (d + 1) 75 10 [some (Sum.inr (Sum.inl (T))), some (Sum.inl (E (smF (fun b => pcn (inA A b)) b))), some (Sum.inr (Sum.inl (T + 1))), some (Sum.inl (E 4)), some (Sum.inl (E b)), u5] [] μ = some (Sum.inl (some (Sum.inl (E (smF (fun b => pcn (inA A b)) 4)))), μ) := by
  obtain ⟨⟨s1, s2, s3, s4, s5, s6, s7, s8, s9⟩, t2, t3, t4, t5, t6⟩ := ht
  intro k
  induction k with
  | zero =>
    intro b u5 hb
    have : b = 4 := by omega
    subst this
    rw [st75_10]
    simp only [st75_0, st75_1, st75_2, st75_3, st75_4, st75_5, st75_6, st75_7, st75_8, st75_9, st75_11, st75_12, st75_13, st75_14, st75_15, st75_16, st75_17, st75_18, st75_19, st75_20, st75_21, st75_22, st75_23, st75_24, st75_25, st75_26, Int32.le_refl, if_true]
  | succ k ih =>
    intro b u5 hb
    have b4 : b < 4 := by omega
    have hc : ¬ E 4 ≤ E b := by rw [E_le (by decide) (by omega)]; omega
    have ihs := fun u => ih (b + 1) u (by omega)
    simp only [smF_s b] at ihs
    rw [st75_10]
    simp only [st75_0, st75_1, st75_2, st75_3, st75_4, st75_5, st75_6, st75_7, st75_8, st75_9, st75_11, st75_12, st75_13, st75_14, st75_15, st75_16, st75_17, st75_18, st75_19, st75_20, st75_21, st75_22, st75_23, st75_24, st75_25, st75_26, hc, s4, s5, E_ge0 (show b < 1000 by omega), E_n (show b < 1000 by omega), b4, (s8 b b4).1, (s8 b b4).2.1, (t5 b b4).2.1, f224 (hw.in9 b), E_add, show E b + 1 = E (b + 1) from E_add b 1, aft_some, Option.toList_some, Option.toList_none, List.cons_append, List.nil_append, br0, br1, br2, br3, zr01, zr02, n10, n01, ne_eq, not_true_eq_false, not_false_eq_true, if_true, if_false, true_and, and_true, and_self]
    exact ihs _
theorem f75 {d T : Nat} {A : AT} {μ : SMem} (hw : WF A) (ht : TwC μ T A) : cl (d + 1) 75 [Sum.inr (Sum.inl (T))] μ = some (Sum.inl (some (Sum.inl (E (smF (fun b => pcn (inA A b)) 4)))), μ) := by
  have h := f75_lp (d := d) hw ht 4 0 none rfl
  obtain ⟨⟨s1, s2, s3, s4, s5, s6, s7, s8, s9⟩, _⟩ := ht
  show rn (d + 1) 75 0 [some (Sum.inr (Sum.inl (T))), none, none, none, none, none] [] μ = _
  simp only [st75_0, st75_1, st75_2, st75_3, st75_4, st75_5, st75_6, st75_7, st75_8, st75_9, s1, s2, s4, s5, alA, alB, alC, alD, alE, and_self]
  exact h
theorem f76_lp {d T : Nat} {A : AT} {μ : SMem} (ht : TwC μ T A) : ∀ k b (u5 : Option SV), b + k = 4 → rn d 76 10 [some (Sum.inr (Sum.inl (T))), some (Sum.inl (E (smF (pgA A) b))), some (Sum.inr (Sum.inl (T + 1))), some (Sum.inl (E 4)), some (Sum.inl (E b)), u5] [] μ = some (Sum.inl (some (Sum.inl (E (smF (pgA A) 4)))), μ) := by
  obtain ⟨⟨s1, s2, s3, s4, s5, s6, s7, s8, s9⟩, t2, t3, t4, t5, t6⟩ := ht
  intro k
  induction k with
  | zero =>
    intro b u5 hb
    have : b = 4 := by omega
    subst this
    rw [st76_10]
    simp only [st76_0, st76_1, st76_2, st76_3, st76_4, st76_5, st76_6, st76_7, st76_8, st76_9, st76_11, st76_12, st76_13, st76_14, st76_15, st76_16, st76_17, st76_18, st76_19, st76_20, st76_21, st76_22, st76_23, st76_24, st76_25, Int32.le_refl, if_true]
  | succ k ih =>
    intro b u5 hb
    have b4 : b < 4 := by omega
    have hc : ¬ E 4 ≤ E b := by rw [E_le (by decide) (by omega)]; omega
    have ihs := fun u => ih (b + 1) u (by omega)
    simp only [smF_s b] at ihs
    rw [st76_10]
    simp only [st76_0, st76_1, st76_2, st76_3, st76_4, st76_5, st76_6, st76_7, st76_8, st76_9, st76_11, st76_12, st76_13, st76_14, st76_15, st76_16, st76_17, st76_18, st76_19, st76_20, st76_21, st76_22, st76_23, st76_24, st76_25, hc, s4, s5, E_ge0 (show b < 1000 by omega), E_n (show b < 1000 by omega), b4, (s8 b b4).1, (s8 b b4).2.1, (t5 b b4).1, E_add, show E b + 1 = E (b + 1) from E_add b 1, aft_some, Option.toList_some, Option.toList_none, List.cons_append, List.nil_append, br0, br1, br2, br3, zr01, zr02, n10, n01, ne_eq, not_true_eq_false, not_false_eq_true, if_true, if_false, true_and, and_true, and_self]
    exact ihs _
theorem f76 {d T : Nat} {A : AT} {μ : SMem} (ht : TwC μ T A) : cl d 76 [Sum.inr (Sum.inl (T))] μ = some (Sum.inl (some (Sum.inl (E (smF (pgA A) 4)))), μ) := by
  have h := f76_lp (d := d) ht 4 0 none rfl
  obtain ⟨⟨s1, s2, s3, s4, s5, s6, s7, s8, s9⟩, _⟩ := ht
  show rn d 76 0 [some (Sum.inr (Sum.inl (T))), none, none, none, none, none] [] μ = _
  simp only [st76_0, st76_1, st76_2, st76_3, st76_4, st76_5, st76_6, st76_7, st76_8, st76_9, s1, s2, s4, s5, alA, alB, alC, alD, alE, and_self]
  exact h
/-- how many pages a reader has of each book -/
def hdF (A : AT) (r : Int32) (b : Nat) : Nat := pcn (hb (pgA A b) (hoA A b) r 8)
theorem f74_lp {d T : Nat} {r : Int32} {A : AT} {μ : SMem} (hw : WF A) (ht : TwC μ T A) (hr : 0 ≤ r) : ∀ k b (u6 : Option SV), b + k = 4 → rn (d + 3) 74 10 [some (Sum.inr (Sum.inl (T))), some (Sum.inl (r)), some (Sum.inl (E (smF (hdF A r) b))), some (Sum.inr (Sum.inl (T + 1))), some (Sum.inl (E 4)), some (Sum.inl (E b)), u6] [] μ = some (Sum.inl (some (Sum.inl (E (smF (hdF A r) 4)))), μ) := by
  have ht0 := ht
  obtain ⟨⟨s1, s2, s3, s4, s5, s6, s7, s8, s9⟩, t2, t3, t4, t5, t6⟩ := ht
  intro k
  induction k with
  | zero =>
    intro b u5 hb
    have : b = 4 := by omega
    subst this
    rw [st74_10]
    simp only [st74_0, st74_1, st74_2, st74_3, st74_4, st74_5, st74_6, st74_7, st74_8, st74_9, st74_11, st74_12, st74_13, st74_14, st74_15, st74_16, st74_17, st74_18, st74_19, st74_20, st74_21, st74_22, st74_23, st74_24, st74_25, st74_26, st74_27, Int32.le_refl, if_true]
  | succ k ih =>
    intro b u5 hb9
    have b4 : b < 4 := by omega
    have hc : ¬ E 4 ≤ E b := by rw [E_le (by decide) (by omega)]; omega
    have ihs := fun u => ih (b + 1) u (by omega)
    simp only [smF_s b] at ihs
    rw [st74_10]
    simp only [st74_0, st74_1, st74_2, st74_3, st74_4, st74_5, st74_6, st74_7, st74_8, st74_9, st74_11, st74_12, st74_13, st74_14, st74_15, st74_16, st74_17, st74_18, st74_19, st74_20, st74_21, st74_22, st74_23, st74_24, st74_25, st74_26, st74_27, hc, s4, s5, E_ge0 (show b < 1000 by omega), E_n (show b < 1000 by omega), b4, (s8 b b4).1, (s8 b b4).2.1, f14 (hw.pg9 b) hr (s8 b b4).2 (t5 b b4).1, hb_ext 8 (t5 b b4).2.2.2, f224 (hb_lt (pg := pgA A b) (ho := hoA A b) (r := r) 8 (by omega)), E_add, show E b + 1 = E (b + 1) from E_add b 1, aft_some, Option.toList_some, Option.toList_none, List.cons_append, List.nil_append, br0, br1, br2, br3, zr01, zr02, n10, n01, ne_eq, not_true_eq_false, not_false_eq_true, if_true, if_false, true_and, and_true, and_self]
    exact ihs _
theorem f74 {d T : Nat} {r : Int32} {A : AT} {μ : SMem} (hw : WF A) (ht : TwC μ T A) (hr : 0 ≤ r) : cl (d + 3) 74 [Sum.inr (Sum.inl (T)), Sum.inl (r)] μ = some (Sum.inl (some (Sum.inl (E (smF (hdF A r) 4)))), μ) := by
  have h := f74_lp (d := d) hw ht hr 4 0 none rfl
  obtain ⟨⟨s1, s2, s3, s4, s5, s6, s7, s8, s9⟩, _⟩ := ht
  show rn (d + 3) 74 0 [some (Sum.inr (Sum.inl (T))), some (Sum.inl (r)), none, none, none, none, none] [] μ = _
  simp only [st74_0, st74_1, st74_2, st74_3, st74_4, st74_5, st74_6, st74_7, st74_8, st74_9, s1, s2, s4, s5, alA, alB, alC, alD, alE, and_self]
  exact h
theorem z00 : ((0 : Int32) ≤ 0) = True := eq_true (by decide)
theorem z01 : ((0 : Int32) ≤ 1) = True := eq_true (by decide)
theorem z02 : ((0 : Int32) ≤ 2) = True := eq_true (by decide)
theorem zn0 : (0 : Int32).toNatClampNeg = 0 := rfl
theorem zn1 : (1 : Int32).toNatClampNeg = 1 := rfl
theorem zn2 : (2 : Int32).toNatClampNeg = 2 := rfl
theorem zl0 : (0 < 87) = True := eq_true (by decide)
theorem zl1 : (1 < 87) = True := eq_true (by decide)
theorem zl2 : (2 < 87) = True := eq_true (by decide)
theorem f186_lp {d : Nat} {A : AT} {S : Nat → Nat} {μ : SMem} (hm : MA μ) (hw : WF A) (hr : MQr (gi μ 70) A S) : ∀ k b, b + k = bcA A → rn (d + 1) 186 4 [some (Sum.inr (Sum.inl (69))), some (Sum.inl (E (smF (fun b => pcn (S b)) b))), some (Sum.inl (E b))] [] μ = some (Sum.inl (some (Sum.inl (E (smF (fun b => pcn (S b)) (bcA A))))), μ) := by
  have hm0 := hm
  obtain ⟨m1, m2, m3, m4, m5, m6, m7, m8, m9, m10, m11, m12, m13, m14, ⟨t0, t1, t2, t3, t4, t5, t6, t7, t8, t9, t10, t11, t12⟩, l0, l1, l2, l3, l4, l5, l6, l7, l8, l9, l10, l11, l12⟩ := hm
  have w1 := hw.1
  intro k
  induction k with
  | zero =>
    intro b hb
    rw [st186_4]
    simp only [st186_0, st186_1, st186_2, st186_3, st186_5, st186_6, st186_7, st186_8, st186_9, st186_10, st186_11, st186_12, st186_13, st186_14, st186_15, st186_16, st186_17, st186_18, st186_19, st186_20, m1, m2, t0, l0, z00, zn0, zl0, hr.1, show b = bcA A by omega, Int32.le_refl, if_true, and_self]
  | succ k ih =>
    intro b hb
    have hc : ¬ E (bcA A) ≤ E b := by rw [E_le (by omega) (by omega)]; omega
    obtain ⟨v1, v2, v3, v4⟩ := hr.2.2.1 b (by omega)
    have ihs := ih (b + 1) (by omega)
    rw [smF_s b] at ihs
    rw [st186_4]
    simp only [st186_0, st186_1, st186_2, st186_3, st186_5, st186_6, st186_7, st186_8, st186_9, st186_10, st186_11, st186_12, st186_13, st186_14, st186_15, st186_16, st186_17, st186_18, st186_19, st186_20, m1, m2, t0, l0, z00, zn0, zl0, hr.1, hc, f144 (show b < 4 by omega) hm0, v2, f153 (lt_256 v3 (hw.pg9 b)), E_add, show E b + 1 = E (b + 1) from E_add b 1, aft_some, Option.toList_some, Option.toList_none, List.cons_append, List.nil_append, br0, br1, br2, br3, zr01, zr02, n10, n01, ne_eq, not_true_eq_false, not_false_eq_true, if_true, if_false, true_and, and_true, and_self]
    exact ihs
theorem f186 {d : Nat} {A : AT} {S : Nat → Nat} {μ : SMem} (hm : MA μ) (hw : WF A) (hr : MQr (gi μ 70) A S) : cl (d + 1) 186 [Sum.inr (Sum.inl (69))] μ = some (Sum.inl (some (Sum.inl (E (smF (fun b => pcn (S b)) (bcA A))))), μ) := by
  show rn (d + 1) 186 0 [some (Sum.inr (Sum.inl (69))), none, none] [] μ = _
  simp only [st186_0, st186_1, st186_2, st186_3]
  exact f186_lp hm hw hr (bcA A) 0 (by omega)
theorem f187_lp {d : Nat} {A : AT} {S : Nat → Nat} {μ : SMem} (hm : MA μ) (hw : WF A) (hr : MQr (gi μ 70) A S) : ∀ k b, b + k = bcA A → rn (d + 1) 187 4 [some (Sum.inr (Sum.inl (69))), some (Sum.inl (E (smF (pgA A) b))), some (Sum.inl (E b))] [] μ = some (Sum.inl (some (Sum.inl (E (smF (pgA A) (bcA A))))), μ) := by
  have hm0 := hm
  obtain ⟨m1, m2, m3, m4, m5, m6, m7, m8, m9, m10, m11, m12, m13, m14, ⟨t0, t1, t2, t3, t4, t5, t6, t7, t8, t9, t10, t11, t12⟩, l0, l1, l2, l3, l4, l5, l6, l7, l8, l9, l10, l11, l12⟩ := hm
  have w1 := hw.1
  intro k
  induction k with
  | zero =>
    intro b hb
    rw [st187_4]
    simp only [st187_0, st187_1, st187_2, st187_3, st187_5, st187_6, st187_7, st187_8, st187_9, st187_10, st187_11, st187_12, st187_13, st187_14, st187_15, st187_16, st187_17, st187_18, st187_19, m1, m2, t0, l0, z00, zn0, zl0, hr.1, show b = bcA A by omega, Int32.le_refl, if_true, and_self]
  | succ k ih =>
    intro b hb
    have hc : ¬ E (bcA A) ≤ E b := by rw [E_le (by omega) (by omega)]; omega
    obtain ⟨v1, v2, v3, v4⟩ := hr.2.2.1 b (by omega)
    have ihs := ih (b + 1) (by omega)
    rw [smF_s b] at ihs
    rw [st187_4]
    simp only [st187_0, st187_1, st187_2, st187_3, st187_5, st187_6, st187_7, st187_8, st187_9, st187_10, st187_11, st187_12, st187_13, st187_14, st187_15, st187_16, st187_17, st187_18, st187_19, m1, m2, t0, l0, z00, zn0, zl0, hr.1, hc, f143 (show b < 4 by omega) hm0, v1, E_add, show E b + 1 = E (b + 1) from E_add b 1, aft_some, Option.toList_some, Option.toList_none, List.cons_append, List.nil_append, br0, br1, br2, br3, zr01, zr02, n10, n01, ne_eq, not_true_eq_false, not_false_eq_true, if_true, if_false, true_and, and_true, and_self]
    exact ihs
theorem f187 {d : Nat} {A : AT} {S : Nat → Nat} {μ : SMem} (hm : MA μ) (hw : WF A) (hr : MQr (gi μ 70) A S) : cl (d + 1) 187 [Sum.inr (Sum.inl (69))] μ = some (Sum.inl (some (Sum.inl (E (smF (pgA A) 4)))), μ) := by
  rw [← smF_4 hw.1 (fun b h => (hw.2.2.2.1 b h).1)]
  show rn (d + 1) 187 0 [some (Sum.inr (Sum.inl (69))), none, none] [] μ = _
  simp only [st187_0, st187_1, st187_2, st187_3]
  exact f187_lp hm hw hr (bcA A) 0 (by omega)
theorem f173_lp {d r : Nat} {A : AT} {μ : SMem} (hm : MA μ) (hw : WF A) (hr : MRw (gi μ 70) A) (r6 : r < 6) : ∀ k b, b + k = bcA A → rn (d + 3) 173 4 [some (Sum.inr (Sum.inl (69))), some (Sum.inl (E r)), some (Sum.inl (E (smF (hdF A (E r)) b))), some (Sum.inl (E b))] [] μ = some (Sum.inl (some (Sum.inl (E (smF (hdF A (E r)) (bcA A))))), μ) := by
  have hm0 := hm
  obtain ⟨m1, m2, m3, m4, m5, m6, m7, m8, m9, m10, m11, m12, m13, m14, ⟨t0, t1, t2, t3, t4, t5, t6, t7, t8, t9, t10, t11, t12⟩, l0, l1, l2, l3, l4, l5, l6, l7, l8, l9, l10, l11, l12⟩ := hm
  have w1 := hw.1
  intro k
  induction k with
  | zero =>
    intro b hb
    rw [st173_4]
    simp only [st173_0, st173_1, st173_2, st173_3, st173_5, st173_6, st173_7, st173_8, st173_9, st173_10, st173_11, st173_12, st173_13, st173_14, st173_15, st173_16, st173_17, st173_18, st173_19, st173_20, st173_21, m1, m2, t0, l0, z00, zn0, zl0, hr.1, show b = bcA A by omega, Int32.le_refl, if_true, and_self]
  | succ k ih =>
    intro b hb9
    have hc : ¬ E (bcA A) ≤ E b := by rw [E_le (by omega) (by omega)]; omega
    have ihs := ih (b + 1) (by omega)
    rw [smF_s b] at ihs
    rw [st173_4]
    simp only [st173_0, st173_1, st173_2, st173_3, st173_5, st173_6, st173_7, st173_8, st173_9, st173_10, st173_11, st173_12, st173_13, st173_14, st173_15, st173_16, st173_17, st173_18, st173_19, st173_20, st173_21, m1, m2, t0, l0, z00, zn0, zl0, hr.1, hc, f172 hm0 hw hr (show b < bcA A by omega) r6, f153 (hb_lt (pg := pgA A b) (ho := hoA A b) (r := E r) 8 (by omega)), E_add, show E b + 1 = E (b + 1) from E_add b 1, aft_some, Option.toList_some, Option.toList_none, List.cons_append, List.nil_append, br0, br1, br2, br3, zr01, zr02, n10, n01, ne_eq, not_true_eq_false, not_false_eq_true, if_true, if_false, true_and, and_true, and_self]
    exact ihs
theorem hdF_0 {A : AT} {r : Int32} {b : Nat} (hw : WF A) (h : bcA A ≤ b) : hdF A r b = 0 := by
  unfold hdF
  have e := hb_stop (pg := pgA A b) (ho := hoA A b) (r := r) 8
  rw [(hw.2.2.2.1 b h).1] at e ⊢
  rw [show (0 + 8) = 8 from rfl] at e
  rw [e]
  exact pcn_0
theorem f173 {d r : Nat} {A : AT} {μ : SMem} (hm : MA μ) (hw : WF A) (hr : MRw (gi μ 70) A) (r6 : r < 6) : cl (d + 3) 173 [Sum.inr (Sum.inl (69)), Sum.inl (E r)] μ = some (Sum.inl (some (Sum.inl (E (smF (hdF A (E r)) 4)))), μ) := by
  rw [← smF_4 hw.1 (fun b h => hdF_0 hw h)]
  show rn (d + 3) 173 0 [some (Sum.inr (Sum.inl (69))), some (Sum.inl (E r)), none, none] [] μ = _
  simp only [st173_0, st173_1, st173_2, st173_3]
  exact f173_lp hm hw hr r6 (bcA A) 0 (by omega)
theorem g104 {d : Nat} {x : Int32} {A : AT} {μ : SMem} (h : Both μ A) : ∃ v, cl (d + 12) 104 [Sum.inr (Sum.inl (2)), Sum.inl (x)] μ = some (Sum.inl (some (Sum.inl (v))), μ) ∧ cl (d + 12) 213 [Sum.inr (Sum.inl (69)), Sum.inl (x)] μ = some (Sum.inl (some (Sum.inl (v))), μ) := by
  obtain ⟨hm, hc, hw, ht, hr⟩ := h
  have hq := hr.mq hw
  have e186 := fun d => f186 (d := d) hm hw hq
  rw [smF_4 hw.1 (fun b h => by rw [(hw.2.2.2.1 b h).2]; exact pcn_0)] at e186
  have hm0 := hm
  obtain ⟨m1, m2, m3, m4, m5, m6, m7, m8, m9, m10, m11, m12, m13, m14, ⟨t0, t1, t2, t3, t4, t5, t6, t7, t8, t9, t10, t11, t12⟩, l0, l1, l2, l3, l4, l5, l6, l7, l8, l9, l10, l11, l12⟩ := hm
  have k : ∀ a b : Int32, a ≠ b → (a = b) = False := fun a b h => eq_false h
  by_cases x0 : x = 0
  · subst x0
    refine ⟨E (bcA A), ?_, ?_⟩
    · show rn (d + 12) 104 0 [some (Sum.inr (Sum.inl (2))), some (Sum.inl (0))] [] μ = _
      simp only [st104_0, st104_1, st104_2, st104_3, st104_4, st104_5, st104_6, st104_7, st104_8, st104_9, st104_10, st104_11, st104_12, st104_13, st104_14, st104_15, st104_16, st104_17, st104_18, st104_19, st104_20, st104_21, st104_22, st104_23, st104_24, st104_25, st104_26, st104_27, hc.1, hc.2.1, ht.1.1, ht.2.1, aft_some, Option.toList_some, Option.toList_none, List.cons_append, List.nil_append, br0, br1, br2, br3, zr01, zr02, n10, n01, ne_eq, not_true_eq_false, not_false_eq_true, if_true, if_false, true_and, and_true, and_self]
    · show rn (d + 12) 213 0 [some (Sum.inr (Sum.inl (69))), some (Sum.inl (0))] [] μ = _
      simp only [st213_0, st213_1, st213_2, st213_3, st213_4, st213_5, st213_6, st213_7, st213_8, st213_9, st213_10, st213_11, st213_12, st213_13, st213_14, st213_15, st213_16, st213_17, m1, m2, t0, l0, z00, zn0, zl0, hr.1, aft_some, Option.toList_some, Option.toList_none, List.cons_append, List.nil_append, br0, br1, br2, br3, zr01, zr02, n10, n01, ne_eq, not_true_eq_false, not_false_eq_true, if_true, if_false, true_and, and_true, and_self]
  · by_cases x1 : x = 1
    · subst x1
      refine ⟨E (rcA A), ?_, ?_⟩
      · show rn (d + 12) 104 0 [some (Sum.inr (Sum.inl (2))), some (Sum.inl (1))] [] μ = _
        simp only [st104_0, st104_1, st104_2, st104_3, st104_4, st104_5, st104_6, st104_7, st104_8, st104_9, st104_10, st104_11, st104_12, st104_13, st104_14, st104_15, st104_16, st104_17, st104_18, st104_19, st104_20, st104_21, st104_22, st104_23, st104_24, st104_25, st104_26, st104_27, hc.1, hc.2.1, ht.1.1, ht.2.2.1, aft_some, Option.toList_some, Option.toList_none, List.cons_append, List.nil_append, br0, br1, br2, br3, zr01, zr02, n10, n01, ne_eq, not_true_eq_false, not_false_eq_true, if_true, if_false, true_and, and_true, and_self]
      · show rn (d + 12) 213 0 [some (Sum.inr (Sum.inl (69))), some (Sum.inl (1))] [] μ = _
        simp only [st213_0, st213_1, st213_2, st213_3, st213_4, st213_5, st213_6, st213_7, st213_8, st213_9, st213_10, st213_11, st213_12, st213_13, st213_14, st213_15, st213_16, st213_17, m1, m2, t0, l0, z01, zn1, zl1, hr.2.1, aft_some, Option.toList_some, Option.toList_none, List.cons_append, List.nil_append, br0, br1, br2, br3, zr01, zr02, n10, n01, ne_eq, not_true_eq_false, not_false_eq_true, if_true, if_false, true_and, and_true, and_self]
    · by_cases x2 : x = 2
      · subst x2
        refine ⟨dyA A, ?_, ?_⟩
        · show rn (d + 12) 104 0 [some (Sum.inr (Sum.inl (2))), some (Sum.inl (2))] [] μ = _
          simp only [st104_0, st104_1, st104_2, st104_3, st104_4, st104_5, st104_6, st104_7, st104_8, st104_9, st104_10, st104_11, st104_12, st104_13, st104_14, st104_15, st104_16, st104_17, st104_18, st104_19, st104_20, st104_21, st104_22, st104_23, st104_24, st104_25, st104_26, st104_27, hc.1, hc.2.1, ht.1.1, ht.2.2.2.1, en21', en20', aft_some, Option.toList_some, Option.toList_none, List.cons_append, List.nil_append, br0, br1, br2, br3, zr01, zr02, n10, n01, ne_eq, not_true_eq_false, not_false_eq_true, if_true, if_false, true_and, and_true, and_self]
        · show rn (d + 12) 213 0 [some (Sum.inr (Sum.inl (69))), some (Sum.inl (2))] [] μ = _
          simp only [st213_0, st213_1, st213_2, st213_3, st213_4, st213_5, st213_6, st213_7, st213_8, st213_9, st213_10, st213_11, st213_12, st213_13, st213_14, st213_15, st213_16, st213_17, m1, m2, t0, l0, z02, zn2, zl2, hr.2.2.1, en21', en20', aft_some, Option.toList_some, Option.toList_none, List.cons_append, List.nil_append, br0, br1, br2, br3, zr01, zr02, n10, n01, ne_eq, not_true_eq_false, not_false_eq_true, if_true, if_false, true_and, and_true, and_self]
      · by_cases x3 : x = 3
        · subst x3
          refine ⟨E (smF (fun b => pcn (inA A b)) 4), ?_, ?_⟩
          · show rn (d + 12) 104 0 [some (Sum.inr (Sum.inl (2))), some (Sum.inl (3))] [] μ = _
            simp only [st104_0, st104_1, st104_2, st104_3, st104_4, st104_5, st104_6, st104_7, st104_8, st104_9, st104_10, st104_11, st104_12, st104_13, st104_14, st104_15, st104_16, st104_17, st104_18, st104_19, st104_20, st104_21, st104_22, st104_23, st104_24, st104_25, st104_26, st104_27, hc.1, hc.2.1, ht.1.1, f75 hw ht, x0, x1, x2, aft_some, Option.toList_some, Option.toList_none, List.cons_append, List.nil_append, br0, br1, br2, br3, zr01, zr02, n10, n01, ne_eq, not_true_eq_false, not_false_eq_true, if_true, if_false, true_and, and_true, and_self]
          · show rn (d + 12) 213 0 [some (Sum.inr (Sum.inl (69))), some (Sum.inl (3))] [] μ = _
            simp only [st213_0, st213_1, st213_2, st213_3, st213_4, st213_5, st213_6, st213_7, st213_8, st213_9, st213_10, st213_11, st213_12, st213_13, st213_14, st213_15, st213_16, st213_17, m1, e186, x0, x1, x2, aft_some, Option.toList_some, Option.toList_none, List.cons_append, List.nil_append, br0, br1, br2, br3, zr01, zr02, n10, n01, ne_eq, not_true_eq_false, not_false_eq_true, if_true, if_false, true_and, and_true, and_self]
        · by_cases x4 : x = 4
          · subst x4
            refine ⟨E (smF (pgA A) 4) - E (smF (fun b => pcn (inA A b)) 4), ?_, ?_⟩
            · show rn (d + 12) 104 0 [some (Sum.inr (Sum.inl (2))), some (Sum.inl (4))] [] μ = _
              simp only [st104_0, st104_1, st104_2, st104_3, st104_4, st104_5, st104_6, st104_7, st104_8, st104_9, st104_10, st104_11, st104_12, st104_13, st104_14, st104_15, st104_16, st104_17, st104_18, st104_19, st104_20, st104_21, st104_22, st104_23, st104_24, st104_25, st104_26, st104_27, hc.1, hc.2.1, ht.1.1, f75 hw ht, f76 ht, x0, x1, x2, x3, aft_some, Option.toList_some, Option.toList_none, List.cons_append, List.nil_append, br0, br1, br2, br3, zr01, zr02, n10, n01, ne_eq, not_true_eq_false, not_false_eq_true, if_true, if_false, true_and, and_true, and_self]
            · show rn (d + 12) 213 0 [some (Sum.inr (Sum.inl (69))), some (Sum.inl (4))] [] μ = _
              simp only [st213_0, st213_1, st213_2, st213_3, st213_4, st213_5, st213_6, st213_7, st213_8, st213_9, st213_10, st213_11, st213_12, st213_13, st213_14, st213_15, st213_16, st213_17, m1, e186, f187 hm0 hw hq, x0, x1, x2, x3, aft_some, Option.toList_some, Option.toList_none, List.cons_append, List.nil_append, br0, br1, br2, br3, zr01, zr02, n10, n01, ne_eq, not_true_eq_false, not_false_eq_true, if_true, if_false, true_and, and_true, and_self]
          · refine ⟨-1, ?_, ?_⟩
            · show rn (d + 12) 104 0 [some (Sum.inr (Sum.inl (2))), some (Sum.inl (x))] [] μ = _
              simp only [st104_0, st104_1, st104_2, st104_3, st104_4, st104_5, st104_6, st104_7, st104_8, st104_9, st104_10, st104_11, st104_12, st104_13, st104_14, st104_15, st104_16, st104_17, st104_18, st104_19, st104_20, st104_21, st104_22, st104_23, st104_24, st104_25, st104_26, st104_27, x0, x1, x2, x3, x4, aft_some, Option.toList_some, Option.toList_none, List.cons_append, List.nil_append, br0, br1, br2, br3, zr01, zr02, n10, n01, ne_eq, not_true_eq_false, not_false_eq_true, if_true, if_false, true_and, and_true, and_self]
            · show rn (d + 12) 213 0 [some (Sum.inr (Sum.inl (69))), some (Sum.inl (x))] [] μ = _
              simp only [st213_0, st213_1, st213_2, st213_3, st213_4, st213_5, st213_6, st213_7, st213_8, st213_9, st213_10, st213_11, st213_12, st213_13, st213_14, st213_15, st213_16, st213_17, x0, x1, x2, x3, x4, aft_some, Option.toList_some, Option.toList_none, List.cons_append, List.nil_append, br0, br1, br2, br3, zr01, zr02, n10, n01, ne_eq, not_true_eq_false, not_false_eq_true, if_true, if_false, true_and, and_true, and_self]
