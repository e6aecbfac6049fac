/-! SPECS V: readings on end (of the class) -/
theorem wor_lt {k f pg S : Nat} {nd : Nat → Int32} (hf : f < 10) : wor k f pg nd S < 1000 := by
  have h1 := pcn_le _ (und_lt (nd := nd) (S := S) 8 (by omega))
  have h2 : ktim k ≤ 2 := by unfold ktim; split <;> omega
  have h3 : pcn (und nd S 8) * ktim k ≤ 8 * 2 := Nat.mul_le_mul h1 h2
  unfold wor
  split
  · omega
  · split <;> omega
/-- how many of n readings on end are worth something, till the first that is not -/
def lsc (k f pg : Nat) (nd : Nat → Int32) : Nat → Nat → Nat
  | _, 0 => 0
  | S, n + 1 => if wor k f pg nd S = 0 then 0 else lsc k f pg nd (lft k f pg nd S) n + 1
theorem lsc_s {k f pg : Nat} {nd : Nat → Int32} (S n : Nat) : lsc k f pg nd S (n + 1) = if wor k f pg nd S = 0 then 0 else lsc k f pg nd (lft k f pg nd S) n + 1 := rfl
theorem E_pos {n : Nat} (h : n < 1000) : (0 < E n) = (n ≠ 0) := by
  rw [E_0, E_ltE (by decide) (by omega), eq_iff_iff]
  omega
theorem f126_lp {d n a k f pg N : Nat} {x2 : Int32} {nd : Nat → Int32} (hN : N < 1000) (hpg : pg < 9) (h1 : 1 ≤ pg) (hnd : NdOK nd) {μ : SMem} (h : RdA μ n k f) (hb : BkN μ a pg nd) : ∀ m i S, i + m = N → S < 256 → rn (d + 5) 126 4 [some (Sum.inr (Sum.inl (n))), some (Sum.inr (Sum.inl (a))), some (Sum.inl (x2)), some (Sum.inl (E N)), some (Sum.inl (E S)), some (Sum.inl (E i))] [] μ = some (Sum.inl (some (Sum.inl (E (i + lsc k f pg nd S m)))), μ) := by
  intro m
  induction m with
  | zero =>
    intro i S hi hS
    have : i = N := by omega
    subst this
    rw [st126_4]
    simp only [st126_0, st126_1, st126_2, st126_3, st126_5, st126_6, st126_7, st126_8, st126_9, st126_10_t0, st126_10_t2, st126_10_t3, st126_10_t4, st126_10_t5, st126_10_t6, st126_10_t7, st126_10_t9, st126_11, st126_12, st126_13, st126_14, st126_15, st126_16, st126_17, st126_18_t0, st126_18_t2, st126_18_t3, st126_18_t4, st126_18_t5, st126_18_t6, st126_18_t7, st126_18_t9, st126_19, st126_20, st126_21, st126_22, st126_23, st126_24, st126_25, st126_26, st126_10v, st126_18v, Int32.le_refl, if_true]
    rfl
  | succ m ih =>
    intro i S hi hS
    have hc : ¬ E N ≤ E i := by rw [E_le (by omega) (by omega)]; omega
    have hB := tor_lt (k := k) (f := f) (pg := pg) (nd := nd) hS h.2.2.1 h.2.2.2 h1 hpg
    have hl := tor_lft (k := k) (f := f) (pg := pg) (nd := nd) hS h.2.2.1 h.2.2.2 h1 hpg
    have ihs := ih (i + 1) (lft k f pg nd S) (by omega) (lft_lt hS h.2.2.1 h.2.2.2 h1 hpg)
    rw [st126_4, lsc_s S m]
    by_cases w : wor k f pg nd S = 0
    · simp only [st126_0, st126_1, st126_2, st126_3, st126_5, st126_6, st126_7, st126_8, st126_9, st126_10_t0, st126_10_t2, st126_10_t3, st126_10_t4, st126_10_t5, st126_10_t6, st126_10_t7, st126_10_t9, st126_11, st126_12, st126_13, st126_14, st126_15, st126_16, st126_17, st126_18_t0, st126_18_t2, st126_18_t3, st126_18_t4, st126_18_t5, st126_18_t6, st126_18_t7, st126_18_t9, st126_19, st126_20, st126_21, st126_22, st126_23, st126_24, st126_25, st126_26, st126_10v, st126_18v, hc, st126_10v h.rd, fwor hS hpg h1 hnd h hb, E_pos (wor_lt h.2.2.2), w, show (0 < E 0) = False from eq_false (by decide), aft_some, Option.toList_some, Option.toList_none, List.cons_append, List.nil_append, br0, br1, br2, br3, zr01, zr02, n10, n01, ne_eq, not_true_eq_false, not_false_eq_true, if_true, if_false, true_and, and_true, and_self, Nat.add_zero]
    · simp only [st126_0, st126_1, st126_2, st126_3, st126_5, st126_6, st126_7, st126_8, st126_9, st126_10_t0, st126_10_t2, st126_10_t3, st126_10_t4, st126_10_t5, st126_10_t6, st126_10_t7, st126_10_t9, st126_11, st126_12, st126_13, st126_14, st126_15, st126_16, st126_17, st126_18_t0, st126_18_t2, st126_18_t3, st126_18_t4, st126_18_t5, st126_18_t6, st126_18_t7, st126_18_t9, st126_19, st126_20, st126_21, st126_22, st126_23, st126_24, st126_25, st126_26, st126_10v, st126_18v, hc, st126_10v h.rd, fwor hS hpg h1 hnd h hb, E_pos (wor_lt h.2.2.2), w, st126_18v h.rd, ftor hS hpg h1 hnd h hb, E_and _ hS _ hB, hl, show E i + 1 = E (i + 1) from E_add i 1, aft_some, Option.toList_some, Option.toList_none, List.cons_append, List.nil_append, br0, br1, br2, br3, zr01, zr02, n10, n01, ne_eq, not_true_eq_false, not_false_eq_true, if_true, if_false, true_and, and_true, and_self]
      rw [ihs, show i + 1 + lsc k f pg nd (lft k f pg nd S) m = i + (lsc k f pg nd (lft k f pg nd S) m + 1) by omega]
theorem f126 {d n a k f pg N S : Nat} {nd : Nat → Int32} (hN : N < 1000) (hS : S < 256) (hpg : pg < 9) (h1 : 1 ≤ pg) (hnd : NdOK nd) {μ : SMem} (h : RdA μ n k f) (hb : BkN μ a pg nd) : cl (d + 5) 126 [Sum.inr (Sum.inl (n)), Sum.inr (Sum.inl (a)), Sum.inl (E S), Sum.inl (E N)] μ = some (Sum.inl (some (Sum.inl (E (lsc k f pg nd S N)))), μ) := by
  have h9 := f126_lp (d := d) (x2 := E S) hN hpg h1 hnd h hb N 0 S (by omega) hS
  rw [Nat.zero_add] at h9
  show rn (d + 5) 126 0 [some (Sum.inr (Sum.inl (n))), some (Sum.inr (Sum.inl (a))), some (Sum.inl (E S)), some (Sum.inl (E N)), none, none] [] μ = _
  simp only [st126_0, st126_1, st126_2, st126_3]
  exact h9
