/-! SPECS ZI: orders, the class -/
def pvt (o : Nat → Nat) : Nat → Nat
  | 0 => 0
  | k + 1 => if o k ≤ o (k + 1) then k + 1 else pvt o k
def rsr (o : Nat → Nat) (p : Nat) : Nat → Nat
  | 0 => 0
  | k + 1 => if k + 1 ≤ p then k + 1 else if o p ≤ o (k + 1) then k + 1 else rsr o p k
def swp (o : Nat → Nat) (a b : Nat) : Nat → Nat := fun j => if j = b then o a else if j = a then o b else o j
def rvF : Nat → (Nat → Nat) → Nat → Nat → (Nat → Nat)
  | 0, o, _, _ => o
  | f + 1, o, l, r => if l < r then rvF f (swp o l r) (l + 1) (r - 1) else o
def nxt (n : Nat) (o : Nat → Nat) : Nat × (Nat → Nat) := if pvt o (n - 1) = 0 then (0, o) else (pvt o (n - 1), rvF 3 (swp o (pvt o (n - 1) - 1) (rsr o (pvt o (n - 1) - 1) (n - 1))) (pvt o (n - 1)) (n - 1))
def oL (l : List Nat) : Nat → Nat := fun j => l.getD j 0
def dfsL (n : Nat) : Nat → List Nat → Nat → List (List Nat)
  | 0, pre, _ => [pre]
  | m + 1, pre, mask => (List.range n).flatMap fun i => if mask.testBit i = true then [] else dfsL n m (pre ++ [i]) (mask ||| 1 <<< i)
def chk (n : Nat) : List (List Nat) → Bool
  | [] => false
  | l :: rest => (List.range n).all (fun j => decide (oL l j < n)) && match rest with
    | [] => (nxt n (oL l)).1 == 0
    | l' :: _ => (nxt n (oL l)).1 != 0 && (List.range n).all (fun j => (nxt n (oL l)).2 j == oL l' j) && (List.range ((nxt n (oL l)).1 - 1)).all (fun j => oL l' j == oL l j) && chk n rest
theorem chk_ok : ∀ n, n < 7 → chk n (dfsL n n [] 0) = true ∧ (dfsL n n [] 0).length ≤ 720 := by decide +kernel
theorem dfsL_0 {n : Nat} {pre : List Nat} {mask : Nat} : dfsL n 0 pre mask = [pre] := rfl
theorem dfsL_s {n : Nat} (m : Nat) (pre : List Nat) (mask : Nat) : dfsL n (m + 1) pre mask = (List.range n).flatMap fun i => if mask.testBit i = true then [] else dfsL n m (pre ++ [i]) (mask ||| 1 <<< i) := rfl
theorem pvt_s {o : Nat → Nat} (k : Nat) : pvt o (k + 1) = if o k ≤ o (k + 1) then k + 1 else pvt o k := rfl
theorem pvt_le {o : Nat → Nat} : ∀ k, pvt o k ≤ k := by
  intro k
  induction k with
  | zero => exact Nat.le_refl _
  | succ k ih => rw [pvt_s]; split <;> omega
theorem rsr_s {o : Nat → Nat} {p : Nat} (k : Nat) : rsr o p (k + 1) = if k + 1 ≤ p then k + 1 else if o p ≤ o (k + 1) then k + 1 else rsr o p k := rfl
theorem rsr_le {o : Nat → Nat} {p : Nat} : ∀ k, rsr o p k ≤ k := by
  intro k
  induction k with
  | zero => exact Nat.le_refl _
  | succ k ih => rw [rsr_s]; split <;> first | omega | (split <;> omega)
theorem rvF_s {f : Nat} {o : Nat → Nat} {l r : Nat} : rvF (f + 1) o l r = if l < r then rvF f (swp o l r) (l + 1) (r - 1) else o := rfl
theorem E_lt0 {n : Nat} (h : n < 1000) : (E n < (0 : Int32)) = False := eq_false (Int32.not_lt.mpr (E_nonneg (by omega)))
theorem E_m1 {n : Nat} (h : 1 ≤ n) : E n - 1 = E (n - 1) := E_sub (b := 1) h
theorem E_p1 {n : Nat} : E n + -1 = E n - 1 := (Int32.sub_eq_add_neg _ _).symm
theorem E01 : (E 0 - 1 < (0 : Int32)) = True := eq_true (by decide)
theorem f226 {d : Nat} {x y : Int32} {μ : SMem} : cl d 226 [Sum.inl (x), Sum.inl (y)] μ = some (Sum.inl (some (Sum.inl (if y < x then y else x))), μ) := by
  show rn d 226 0 [some (Sum.inl (x)), some (Sum.inl (y))] [] μ = _
  by_cases c : y < x
  · simp only [st226_0, st226_1, st226_2, st226_3, st226_4, st226_5, st226_6, c, aft_some, Option.toList_some, Option.toList_none, List.cons_append, List.nil_append, br0, br1, br2, br3, zr01, zr02, n10, n01, ne_eq, not_true_eq_false, not_false_eq_true, if_true, if_false, true_and, and_true, and_self]
  · simp only [st226_0, st226_1, st226_2, st226_3, st226_4, st226_5, st226_6, c, aft_some, Option.toList_some, Option.toList_none, List.cons_append, List.nil_append, br0, br1, br2, br3, zr01, zr02, n10, n01, ne_eq, not_true_eq_false, not_false_eq_true, if_true, if_false, true_and, and_true, and_self]
theorem f225 {d : Nat} {x y : Int32} {μ : SMem} : cl d 225 [Sum.inl (x), Sum.inl (y)] μ = some (Sum.inl (some (Sum.inl (if x < y then y else x))), μ) := by
  show rn d 225 0 [some (Sum.inl (x)), some (Sum.inl (y))] [] μ = _
  by_cases c : x < y
  · simp only [st225_0, st225_1, st225_2, st225_3, st225_4, st225_5, st225_6, c, aft_some, Option.toList_some, Option.toList_none, List.cons_append, List.nil_append, br0, br1, br2, br3, zr01, zr02, n10, n01, ne_eq, not_true_eq_false, not_false_eq_true, if_true, if_false, true_and, and_true, and_self]
  · simp only [st225_0, st225_1, st225_2, st225_3, st225_4, st225_5, st225_6, c, aft_some, Option.toList_some, Option.toList_none, List.cons_append, List.nil_append, br0, br1, br2, br3, zr01, zr02, n10, n01, ne_eq, not_true_eq_false, not_false_eq_true, if_true, if_false, true_and, and_true, and_self]
theorem f131 {d a b : Nat} (ha : a < 6) (hb : b < 6) {μ : SMem} (hc : CAo μ) : cl d 131 [Sum.inr (Sum.inl (2)), Sum.inl (E a), Sum.inl (E b)] μ = some (Sum.inl none, seti (seti μ 50 a (gi μ 50 b)) 50 b (gi μ 50 a)) := by
  obtain ⟨c1, c2, c3, c4, c5, c6, c7, c8, c9, ⟨a1, a2, a3, a4, a5⟩, ⟨b1, b2, b3, b4, b5⟩, _⟩ := hc
  have k1 : (E 6 ≤ E a) = False := by rw [E_leE (by omega) (by omega)]; exact eq_false (by omega)
  have k2 : (E 6 ≤ E b) = False := by rw [E_leE (by omega) (by omega)]; exact eq_false (by omega)
  show rn d 131 0 [some (Sum.inr (Sum.inl (2))), some (Sum.inl (E a)), some (Sum.inl (E b)), none] [] μ = _
  simp only [st131_0, st131_1, st131_2, st131_3, st131_4, st131_5, st131_6, st131_7, st131_8, st131_9, st131_10, st131_11, st131_12, st131_13, st131_14, st131_15, st131_16, st131_17, st131_18, st131_19, st131_20, st131_21, st131_22, st131_23, st131_24, st131_25, st131_26, st131_27, st131_28, st131_29, st131_30, st131_31, st131_32, c1, c7, a3, b3, alA, alB, alC, alD, alE, and_self, gi_seti, gi_setr, gi_setl, gi_setrow, gr_seti, gr_setr, gr_setl, gr_setrow, gl_seti, gl_setr, gl_setl, gl_setrow, tg_seti, tg_setr, tg_setl, tg_setrow, ln_seti, ln_setr, ln_setl, ln_setrow, sz_seti, sz_setr, sz_setl, sz_setrow, sl_seti, sl_setr, sl_setl, sl_setrow, show Int32.ofNat 6 = E 6 from rfl, k1, k2, E_lt0 (show a < 1000 by omega), E_lt0 (show b < 1000 by omega), E_ge0 (show a < 1000 by omega), E_n (show a < 1000 by omega), E_ge0 (show b < 1000 by omega), E_n (show b < 1000 by omega), ha, hb, aft_some, Option.toList_some, Option.toList_none, List.cons_append, List.nil_append, br0, br1, br2, br3, zr01, zr02, n10, n01, ne_eq, not_true_eq_false, not_false_eq_true, if_true, if_false, true_and, and_true, and_self]
theorem SB.se2 {a k k' : Nat} {x y : Int32} {μ : SMem} : SB (fun c => c = a) μ (seti (seti μ a k x) a k' y) := (SB.se (A := fun c => c = a) rfl).tr (SB.se (A := fun c => c = a) rfl)
theorem swp_v {n a b : Nat} {o : Nat → Nat} {μ : SMem} (ha : a < n) (hb : b < n) (hv : ∀ j, j < n → gi μ 50 j = E (o j)) : ∀ j, j < n → gi (seti (seti μ 50 a (gi μ 50 b)) 50 b (gi μ 50 a)) 50 j = E (swp o a b j) := by
  intro j hj
  rw [gi_seti, gi_seti]
  unfold swp
  by_cases c : j = b
  · rw [if_pos ⟨rfl, c⟩, if_pos c, hv a ha]
  · rw [if_neg (fun h => c h.2), if_neg c]
    by_cases e : j = a
    · rw [if_pos ⟨rfl, e⟩, if_pos e, hv b hb]
    · rw [if_neg (fun h => e h.2), if_neg e, hv j hj]
theorem f130_p {d n : Nat} {o : Nat → Nat} {μ : SMem} (hc : CAo μ) (hn : n < 7) (hv : ∀ j, j < n → gi μ 50 j = E (o j)) (ho : ∀ j, j < n → o j < n) : ∀ k, k < n → rn (d + 1) 130 12 [some (Sum.inr (Sum.inl (2))), some (Sum.inl (E n)), some (Sum.inl (E (n - 1))), some (Sum.inl (E k - 1)), none, none, none] [] μ = rn (d + 1) 130 27 [some (Sum.inr (Sum.inl (2))), some (Sum.inl (E n)), some (Sum.inl (E (n - 1))), some (Sum.inl (E (pvt o k) - 1)), none, none, none] [] μ := by
  obtain ⟨c1, c2, c3, c4, c5, c6, c7, c8, c9, ⟨a1, a2, a3, a4, a5⟩, ⟨b1, b2, b3, b4, b5⟩, _⟩ := hc
  intro k
  induction k with
  | zero =>
    intro hk
    rw [st130_12]
    simp only [st130_13, E01, if_true, pvt]
  | succ k ih =>
    intro hk
    have i1 := ih (by omega)
    rw [pvt_s, st130_12]
    have h1 := ho k (by omega)
    have h2 := ho (k + 1) (by omega)
    have e1 : E (k + 1) - 1 = E k := E_m1 (n := k + 1) (by omega)
    by_cases c : o k ≤ o (k + 1)
    · rw [if_pos c, e1]
      simp only [st130_13, st130_14, st130_15, st130_16, st130_17, st130_18, st130_19, st130_20, st130_21, st130_22, st130_23, st130_24, st130_25, st130_26, e1, E_lt0 (show k < 1000 by omega), c1, c7, a3, b3, alA, alB, alC, alD, alE, and_self, E_ge0 (show k < 1000 by omega), E_n (show k < 1000 by omega), show k < 6 by omega, show E k + 1 = E (k + 1) from E_add k 1, E_ge0 (show k + 1 < 1000 by omega), E_n (show k + 1 < 1000 by omega), show k + 1 < 6 by omega, hv k (by omega), hv (k + 1) hk, E_leE (show o k < 2147483648 by omega) (show o (k + 1) < 2147483648 by omega), c, aft_some, Option.toList_some, Option.toList_none, List.cons_append, List.nil_append, br0, br1, br2, br3, zr01, zr02, n10, n01, ne_eq, not_true_eq_false, not_false_eq_true, if_true, if_false, true_and, and_true, and_self]
    · rw [if_neg c, ← i1, e1]
      simp only [st130_13, st130_14, st130_15, st130_16, st130_17, st130_18, st130_19, st130_20, st130_21, st130_22, st130_23, st130_24, st130_25, st130_26, e1, E_lt0 (show k < 1000 by omega), c1, c7, a3, b3, alA, alB, alC, alD, alE, and_self, E_ge0 (show k < 1000 by omega), E_n (show k < 1000 by omega), show k < 6 by omega, show E k + 1 = E (k + 1) from E_add k 1, E_ge0 (show k + 1 < 1000 by omega), E_n (show k + 1 < 1000 by omega), show k + 1 < 6 by omega, hv k (by omega), hv (k + 1) hk, E_leE (show o k < 2147483648 by omega) (show o (k + 1) < 2147483648 by omega), c, E_p1, aft_some, Option.toList_some, Option.toList_none, List.cons_append, List.nil_append, br0, br1, br2, br3, zr01, zr02, n10, n01, ne_eq, not_true_eq_false, not_false_eq_true, if_true, if_false, true_and, and_true, and_self]
theorem f130_q {d n p : Nat} {o : Nat → Nat} {μ : SMem} (hc : CAo μ) (hn : n < 7) (hp : p < n) (hv : ∀ j, j < n → gi μ 50 j = E (o j)) (ho : ∀ j, j < n → o j < n) : ∀ k, k < n → rn (d + 1) 130 33 [some (Sum.inr (Sum.inl (2))), some (Sum.inl (E n)), some (Sum.inl (E (n - 1))), some (Sum.inl (E p)), some (Sum.inl (E k)), none, none] [] μ = rn (d + 1) 130 47 [some (Sum.inr (Sum.inl (2))), some (Sum.inl (E n)), some (Sum.inl (E (n - 1))), some (Sum.inl (E p)), some (Sum.inl (E (rsr o p k))), none, none] [] μ := by
  obtain ⟨c1, c2, c3, c4, c5, c6, c7, c8, c9, ⟨a1, a2, a3, a4, a5⟩, ⟨b1, b2, b3, b4, b5⟩, _⟩ := hc
  intro k
  induction k with
  | zero =>
    intro hk
    rw [st130_33]
    simp only [st130_34, st130_35, E_leE (show 0 < 2147483648 by omega) (show p < 2147483648 by omega), Nat.zero_le, if_true, rsr]
  | succ k ih =>
    intro hk
    have i1 := ih (by omega)
    rw [rsr_s, st130_33]
    have h1 := ho p (by omega)
    have h2 := ho (k + 1) (by omega)
    have e1 : E (k + 1) - 1 = E k := E_m1 (n := k + 1) (by omega)
    have l1 := E_leE (show k + 1 < 2147483648 by omega) (show p < 2147483648 by omega)
    by_cases c0 : k + 1 ≤ p
    · rw [if_pos c0]
      simp only [st130_34, st130_35, l1, c0, if_true]
    rw [if_neg c0]
    by_cases c : o p ≤ o (k + 1)
    · rw [if_pos c]
      simp only [st130_34, st130_35, st130_36, st130_37, st130_38, st130_39, st130_40, st130_41, st130_42, st130_43, st130_44, st130_45, st130_46, l1, c0, c1, c7, a3, b3, alA, alB, alC, alD, alE, and_self, E_ge0 (show p < 1000 by omega), E_n (show p < 1000 by omega), show p < 6 by omega, E_ge0 (show k + 1 < 1000 by omega), E_n (show k + 1 < 1000 by omega), show k + 1 < 6 by omega, hv p hp, hv (k + 1) hk, E_leE (show o p < 2147483648 by omega) (show o (k + 1) < 2147483648 by omega), c, aft_some, Option.toList_some, Option.toList_none, List.cons_append, List.nil_append, br0, br1, br2, br3, zr01, zr02, n10, n01, ne_eq, not_true_eq_false, not_false_eq_true, if_true, if_false, true_and, and_true, and_self]
    · rw [if_neg c, ← i1]
      simp only [st130_34, st130_35, st130_36, st130_37, st130_38, st130_39, st130_40, st130_41, st130_42, st130_43, st130_44, st130_45, st130_46, l1, c0, c1, c7, a3, b3, alA, alB, alC, alD, alE, and_self, E_ge0 (show p < 1000 by omega), E_n (show p < 1000 by omega), show p < 6 by omega, E_ge0 (show k + 1 < 1000 by omega), E_n (show k + 1 < 1000 by omega), show k + 1 < 6 by omega, hv p hp, hv (k + 1) hk, E_leE (show o p < 2147483648 by omega) (show o (k + 1) < 2147483648 by omega), c, E_p1, e1, aft_some, Option.toList_some, Option.toList_none, List.cons_append, List.nil_append, br0, br1, br2, br3, zr01, zr02, n10, n01, ne_eq, not_true_eq_false, not_false_eq_true, if_true, if_false, true_and, and_true, and_self]
theorem f130_r {d n : Nat} {x3 x4 : Int32} {μ0 : SMem} (hc : CAo μ0) (hn : n < 7) : ∀ f l r (o : Nat → Nat) (μ : SMem), l ≤ n → r < n → r < l + 2 * f → SB (fun c => c = 50) μ0 μ → (∀ j, j < n → gi μ 50 j = E (o j)) → ∃ μ', rn (d + 1) 130 57 [some (Sum.inr (Sum.inl (2))), some (Sum.inl (E n)), some (Sum.inl (E (n - 1))), some (Sum.inl (x3)), some (Sum.inl (x4)), some (Sum.inl (E l)), some (Sum.inl (E r))] [] μ = some (Sum.inl (some (Sum.inl (x3))), μ') ∧ SB (fun c => c = 50) μ0 μ' ∧ (∀ j, j < n → gi μ' 50 j = E (rvF f o l r j)) := by
  intro f
  induction f with
  | zero =>
    intro l r o μ hl9 hr hl hs hv
    refine ⟨μ, ?_, hs, hv⟩
    rw [st130_57]
    simp only [st130_58, st130_59, st130_60, st130_61, st130_62, st130_63, st130_64, st130_65, st130_66, st130_67, st130_68, E_leE (show r < 2147483648 by omega) (show l < 2147483648 by omega), show r ≤ l by omega, if_true]
  | succ f ih =>
    intro l r o μ hl9 hr hl hs hv
    rw [rvF_s]
    by_cases c : l < r
    · rw [if_pos c]
      have hc1 := hc.sb hs
      obtain ⟨μ', y1, y2, y3⟩ := ih (l + 1) (r - 1) (swp o l r) (seti (seti μ 50 l (gi μ 50 r)) 50 r (gi μ 50 l)) (by omega) (by omega) (by omega) (hs.tr SB.se2) (swp_v (by omega) hr hv)
      refine ⟨μ', ?_, y2, y3⟩
      rw [st130_57]
      simp only [st130_58, st130_59, st130_60, st130_61, st130_62, st130_63, st130_64, st130_65, st130_66, st130_67, st130_68, E_leE (show r < 2147483648 by omega) (show l < 2147483648 by omega), show ¬ r ≤ l by omega, hc1.1, f131 (show l < 6 by omega) (show r < 6 by omega) hc1, show E l + 1 = E (l + 1) from E_add l 1, E_p1, E_m1 (show 1 ≤ r by omega), aft_some, Option.toList_some, Option.toList_none, List.cons_append, List.nil_append, br0, br1, br2, br3, zr01, zr02, n10, n01, ne_eq, not_true_eq_false, not_false_eq_true, if_true, if_false, true_and, and_true, and_self]
      exact y1
    · rw [if_neg c]
      refine ⟨μ, ?_, hs, hv⟩
      rw [st130_57]
      simp only [st130_58, st130_59, st130_60, st130_61, st130_62, st130_63, st130_64, st130_65, st130_66, st130_67, st130_68, E_leE (show r < 2147483648 by omega) (show l < 2147483648 by omega), show r ≤ l by omega, if_true]
theorem f130 {d n : Nat} {o : Nat → Nat} {μ : SMem} (hc : CAo μ) (hn : n < 7) (hv : ∀ j, j < n → gi μ 50 j = E (o j)) (ho : ∀ j, j < n → o j < n) : ∃ μ', cl (d + 1) 130 [Sum.inr (Sum.inl (2)), Sum.inl (E n)] μ = some (Sum.inl (some (Sum.inl (if (nxt n o).1 = 0 then -4 else E ((nxt n o).1 - 1)))), μ') ∧ SB (fun c => c = 50) μ μ' ∧ (∀ j, j < n → gi μ' 50 j = E ((nxt n o).2 j)) := by
  have hc0 := hc
  obtain ⟨c1, c2, c3, c4, c5, c6, c7, c8, c9, ⟨a1, a2, a3, a4, a5⟩, ⟨b1, b2, b3, b4, b5⟩, _⟩ := hc
  have l6 : (E 6 < E n) = False := by rw [E_ltE (by omega) (by omega)]; exact eq_false (by omega)
  by_cases n0 : n = 0
  · subst n0
    refine ⟨μ, ?_, SB.rf, fun j hj => by omega⟩
    show rn (d + 1) 130 0 [some (Sum.inr (Sum.inl (2))), some (Sum.inl (E 0)), none, none, none, none, none] [] μ = _
    simp only [st130_0, st130_1, st130_2, st130_3, st130_4, st130_5, st130_6, st130_7, st130_8, st130_9, st130_10, st130_11, c1, c7, a3, b3, alA, alB, alC, alD, alE, and_self, show Int32.ofNat 6 = E 6 from rfl, f226, l6, aft_some, Option.toList_some, Option.toList_none, List.cons_append, List.nil_append, br0, br1, br2, br3, zr01, zr02, n10, n01, ne_eq, not_true_eq_false, not_false_eq_true, if_true, if_false, true_and, and_true, and_self]
    rw [st130_12]
    simp only [st130_13, st130_14, st130_15, st130_16, st130_17, st130_18, st130_19, st130_20, st130_21, st130_22, st130_23, st130_24, st130_25, st130_26, st130_27, st130_28, st130_29, st130_30, show (E 0 - 1 - 1 < (0 : Int32)) = True from eq_true (by decide), show ((0 : Int32) ≤ E 0 - 1 - 1) = False from eq_false (by decide), show (nxt 0 o).1 = 0 from rfl, aft_some, Option.toList_some, Option.toList_none, List.cons_append, List.nil_append, br0, br1, br2, br3, zr01, zr02, n10, n01, ne_eq, not_true_eq_false, not_false_eq_true, if_true, if_false, true_and, and_true, and_self]
  · have hp := f130_p (d := d) hc0 hn hv ho (n - 1) (by omega)
    have hpl := pvt_le (o := o) (n - 1)
    have e1 : E n - 1 = E (n - 1) := E_m1 (by omega)
    by_cases k : pvt o (n - 1) = 0
    · have en : nxt n o = (0, o) := by unfold nxt; rw [if_pos k]
      refine ⟨μ, ?_, SB.rf, fun j hj => by rw [en]; exact hv j hj⟩
      rw [en]
      rw [k] at hp
      show rn (d + 1) 130 0 [some (Sum.inr (Sum.inl (2))), some (Sum.inl (E n)), none, none, none, none, none] [] μ = _
      simp only [st130_0, st130_1, st130_2, st130_3, st130_4, st130_5, st130_6, st130_7, st130_8, st130_9, st130_10, st130_11, c1, c7, a3, b3, alA, alB, alC, alD, alE, and_self, show Int32.ofNat 6 = E 6 from rfl, f226, l6, e1, aft_some, Option.toList_some, Option.toList_none, List.cons_append, List.nil_append, br0, br1, br2, br3, zr01, zr02, n10, n01, ne_eq, not_true_eq_false, not_false_eq_true, if_true, if_false, true_and, and_true, and_self]
      refine hp.trans ?_
      simp only [st130_27, st130_28, st130_29, st130_30, show ((0 : Int32) ≤ E 0 - 1) = False from eq_false (by decide), aft_some, Option.toList_some, Option.toList_none, List.cons_append, List.nil_append, br0, br1, br2, br3, zr01, zr02, n10, n01, ne_eq, not_true_eq_false, not_false_eq_true, if_true, if_false, true_and, and_true, and_self]
    · have en : nxt n o = (pvt o (n - 1), rvF 3 (swp o (pvt o (n - 1) - 1) (rsr o (pvt o (n - 1) - 1) (n - 1))) (pvt o (n - 1)) (n - 1)) := by unfold nxt; rw [if_neg k]
      have hq := f130_q (d := d) (p := pvt o (n - 1) - 1) hc0 hn (by omega) hv ho (n - 1) (by omega)
      have hql := rsr_le (o := o) (p := pvt o (n - 1) - 1) (n - 1)
      have hv2 := swp_v (a := pvt o (n - 1) - 1) (b := rsr o (pvt o (n - 1) - 1) (n - 1)) (by omega) (by omega) hv
      have hpq : rsr o (pvt o (n - 1) - 1) (n - 1) < 6 := by omega
      generalize hqq : rsr o (pvt o (n - 1) - 1) (n - 1) = q at *
      have ep : E (pvt o (n - 1)) - 1 = E (pvt o (n - 1) - 1) := E_m1 (by omega)
      have hr := f130_r (d := d) (x3 := E (pvt o (n - 1) - 1)) (x4 := E q) hc0 hn 3 (pvt o (n - 1)) (n - 1) (swp o (pvt o (n - 1) - 1) q) (seti (seti μ 50 (pvt o (n - 1) - 1) (gi μ 50 q)) 50 q (gi μ 50 (pvt o (n - 1) - 1))) (by omega) (by omega) (by omega) SB.se2 hv2
      have ep2 : E (pvt o (n - 1) - 1) + 1 = E (pvt o (n - 1)) := by rw [show (1 : Int32) = E 1 from rfl, E_add]; congr 1; omega
      rw [ep] at hp
      generalize pvt o (n - 1) = pv at *
      obtain ⟨μ', y1, y2, y3⟩ := hr
      refine ⟨μ', ?_, y2, fun j hj => by rw [en]; exact y3 j hj⟩
      rw [en]
      show rn (d + 1) 130 0 [some (Sum.inr (Sum.inl (2))), some (Sum.inl (E n)), none, none, none, none, none] [] μ = _
      simp only [st130_0, st130_1, st130_2, st130_3, st130_4, st130_5, st130_6, st130_7, st130_8, st130_9, st130_10, st130_11, c1, c7, a3, b3, alA, alB, alC, alD, alE, and_self, show Int32.ofNat 6 = E 6 from rfl, f226, l6, e1, aft_some, Option.toList_some, Option.toList_none, List.cons_append, List.nil_append, br0, br1, br2, br3, zr01, zr02, n10, n01, ne_eq, not_true_eq_false, not_false_eq_true, if_true, if_false, true_and, and_true, and_self]
      refine hp.trans ?_
      simp only [st130_27, st130_28, st130_29, st130_30, st130_31, st130_32, E_ge0 (show pv - 1 < 1000 by omega), aft_some, Option.toList_some, Option.toList_none, List.cons_append, List.nil_append, br0, br1, br2, br3, zr01, zr02, n10, n01, ne_eq, not_true_eq_false, not_false_eq_true, if_true, if_false, true_and, and_true, and_self]
      refine hq.trans ?_
      simp only [st130_47, st130_48, st130_49, st130_50, st130_51, st130_52, st130_53, st130_54, st130_55, st130_56, c1, f131 (show pv - 1 < 6 by omega) hpq hc0, ep2, k, aft_some, Option.toList_some, Option.toList_none, List.cons_append, List.nil_append, br0, br1, br2, br3, zr01, zr02, n10, n01, ne_eq, not_true_eq_false, not_false_eq_true, if_true, if_false, true_and, and_true, and_self]
      exact y1
def dgF (o : Nat → Nat) : Nat → Nat → Nat
  | 0, acc => acc
  | k + 1, acc => dgF o k (acc * 10 + o k)
theorem dgF_s {o : Nat → Nat} (k acc : Nat) : dgF o (k + 1) acc = dgF o k (acc * 10 + o k) := rfl
theorem f129_lp {d n : Nat} {o : Nat → Nat} {μ : SMem} (hc : CAo μ) (hn : n < 7) (hv : ∀ j, j < n → gi μ 50 j = E (o j)) : ∀ k acc, k ≤ n → rn (d + 1) 129 10 [some (Sum.inr (Sum.inl (2))), some (Sum.inl (E n)), some (Sum.inl (E acc)), some (Sum.inl (E k - 1))] [] μ = some (Sum.inl (some (Sum.inl (E (dgF o k acc)))), μ) := by
  obtain ⟨c1, c2, c3, c4, c5, c6, c7, c8, c9, ⟨a1, a2, a3, a4, a5⟩, ⟨b1, b2, b3, b4, b5⟩, _⟩ := hc
  intro k
  induction k with
  | zero =>
    intro acc hk
    rw [st129_10]
    simp only [st129_11, st129_12, st129_13, st129_14, st129_15, st129_16, st129_17, st129_18, st129_19, st129_20, st129_21, st129_22, st129_23, st129_24, E01, if_true, dgF]
  | succ k ih =>
    intro acc hk
    have i1 := ih (acc * 10 + o k) (by omega)
    have e1 : E (k + 1) - 1 = E k := E_m1 (n := k + 1) (by omega)
    have e2 : E acc * 10 = E (acc * 10) := E_mul acc 10
    rw [dgF_s, st129_10, ← i1, e1]
    simp only [st129_11, st129_12, st129_13, st129_14, st129_15, st129_16, st129_17, st129_18, st129_19, st129_20, st129_21, st129_22, st129_23, st129_24, E_lt0 (show k < 1000 by omega), c1, c7, a3, b3, alA, alB, alC, alD, alE, and_self, E_ge0 (show k < 1000 by omega), E_n (show k < 1000 by omega), show k < 6 by omega, hv k (by omega), e2, E_add, E_p1, aft_some, Option.toList_some, Option.toList_none, List.cons_append, List.nil_append, br0, br1, br2, br3, zr01, zr02, n10, n01, ne_eq, not_true_eq_false, not_false_eq_true, if_true, if_false, true_and, and_true, and_self]
theorem f129 {d n : Nat} {o : Nat → Nat} {μ : SMem} (hc : CAo μ) (hn : n < 7) (hv : ∀ j, j < n → gi μ 50 j = E (o j)) : cl (d + 1) 129 [Sum.inr (Sum.inl (2)), Sum.inl (E n)] μ = some (Sum.inl (some (Sum.inl (E (dgF o n 0)))), μ) := by
  have hc0 := hc
  obtain ⟨c1, c2, c3, c4, c5, c6, c7, c8, c9, ⟨a1, a2, a3, a4, a5⟩, ⟨b1, b2, b3, b4, b5⟩, _⟩ := hc
  have l6 : (E 6 < E n) = False := by rw [E_ltE (by omega) (by omega)]; exact eq_false (by omega)
  show rn (d + 1) 129 0 [some (Sum.inr (Sum.inl (2))), some (Sum.inl (E n)), none, none] [] μ = _
  simp only [st129_0, st129_1, st129_2, st129_3, st129_4, st129_5, st129_6, st129_7, st129_8, st129_9, c1, c7, a3, b3, alA, alB, alC, alD, alE, and_self, show Int32.ofNat 6 = E 6 from rfl, f226, l6, aft_some, Option.toList_some, Option.toList_none, List.cons_append, List.nil_append, br0, br1, br2, br3, zr01, zr02, n10, n01, ne_eq, not_true_eq_false, not_false_eq_true, if_true, if_false, true_and, and_true, and_self]
  exact f129_lp hc0 hn hv n 0 (Nat.le_refl n)
def prF (A : AT) (b : Nat) (el : Nat → Int32) (o : Nat → Nat) : Nat → Nat × Nat
  | 0 => (0, inA A b)
  | j + 1 => ((prF A b el o j).1 + wor (kdA A (el (o j)).toNatClampNeg) (fgA A (el (o j)).toNatClampNeg) (pgA A b) (ndA A b) (prF A b el o j).2, lft (kdA A (el (o j)).toNatClampNeg) (fgA A (el (o j)).toNatClampNeg) (pgA A b) (ndA A b) (prF A b el o j).2)
theorem prF_s {A : AT} {b : Nat} {el : Nat → Int32} {o : Nat → Nat} (j : Nat) : prF A b el o (j + 1) = ((prF A b el o j).1 + wor (kdA A (el (o j)).toNatClampNeg) (fgA A (el (o j)).toNatClampNeg) (pgA A b) (ndA A b) (prF A b el o j).2, lft (kdA A (el (o j)).toNatClampNeg) (fgA A (el (o j)).toNatClampNeg) (pgA A b) (ndA A b) (prF A b el o j).2) := rfl
theorem prF_cg {A : AT} {b : Nat} {el : Nat → Int32} {o o' : Nat → Nat} : ∀ m, (∀ j, j < m → o' j = o j) → prF A b el o' m = prF A b el o m := by
  intro m
  induction m with
  | zero => intro _; rfl
  | succ m ih => intro h; rw [prF_s, prF_s, ih (fun j hj => h j (by omega)), h m (by omega)]
theorem prF_lt {A : AT} {b : Nat} {el : Nat → Int32} {o : Nat → Nat} (hw : WF A) (hb : b < bcA A) : ∀ m, (∀ j, j < m → ∃ r, r < rcA A ∧ el (o j) = E r) → (prF A b el o m).2 < 2 ^ pgA A b ∧ (prF A b el o m).1 ≤ 1000 * m := by
  obtain ⟨v1, v2, v3, v4, v5, v6⟩ := hw.2.2.1 b hb
  intro m
  induction m with
  | zero => intro _; exact ⟨v3, Nat.zero_le _⟩
  | succ m ih =>
    intro h
    obtain ⟨i1, i2⟩ := ih (fun j hj => h j (by omega))
    obtain ⟨r, hr, e⟩ := h m (by omega)
    obtain ⟨k1, k2⟩ := hw.2.2.2.2 r hr
    rw [prF_s, e, E_nn (by have := hw.2.1; omega)]
    refine ⟨lft_lt2 i1 k1 k2 v1 v2, ?_⟩
    have := wor_lt (k := kdA A r) (f := fgA A r) (pg := pgA A b) (nd := ndA A b) (S := (prF A b el o m).2) k2
    show (prF A b el o m).1 + wor _ _ _ _ _ ≤ _
    omega
theorem f128_lp {d e b n : Nat} {A : AT} {H : HT} {o : Nat → Nat} {x1 : Int32} {μ0 : SMem} (he : e < 8) (h : Both μ0 A) (hH : HWF H) (hC : ShC μ0 e H) (hk : hkt H = 2) (hsn : hsz H = n) (hn : n < 7) (hb : b < bcA A) (hok : ∀ i, i < n → ∃ r, r < rcA A ∧ hel H i = E r) (hv : ∀ j, j < n → gi μ0 50 j = E (o j)) (ho : ∀ j, j < n → o j < n) : ∀ k i (μ : SMem) (u6 : Option SV), i + k = n → SB (fun c => c = 51 ∨ c = 52) μ0 μ → (∀ j, j ≤ i → gi μ 51 j = E (prF A b (hel H) o j).2 ∧ gi μ 52 j = E (prF A b (hel H) o j).1) → ∃ μ', rn (d + 5) 128 4 [some (Sum.inr (Sum.inl (2))), some (Sum.inl (x1)), some (Sum.inl (E n)), some (Sum.inr (Sum.inl (53 + 2 * e))), some (Sum.inr (Sum.inl (3 + 3 + 3 * b))), some (Sum.inl (E i)), u6] [] μ = some (Sum.inl none, μ') ∧ SB (fun c => c = 51 ∨ c = 52) μ0 μ' ∧ (∀ j, j ≤ n → gi μ' 51 j = E (prF A b (hel H) o j).2 ∧ gi μ' 52 j = E (prF A b (hel H) o j).1) := by
  have hw := h.2.2.1
  obtain ⟨v1, v2, v3, v4, v5, v6⟩ := hw.2.2.1 b hb
  have b4 : b < 4 := by have := hw.1; omega
  intro k
  induction k with
  | zero =>
    intro i μ u6 hi hs hp
    have : i = n := by omega
    subst this
    refine ⟨μ, ?_, hs, hp⟩
    rw [st128_4]
    simp only [st128_5, st128_6, st128_7, st128_8, st128_9, st128_10, st128_11, st128_12, st128_13, st128_14, st128_15, st128_16, st128_17, st128_18, st128_19, st128_20, st128_21, st128_22, st128_23, st128_24, st128_25, st128_26, st128_27, st128_28, st128_29, st128_30, st128_31, st128_32, st128_33, st128_34, st128_35, st128_36, st128_37, st128_38, st128_39_t0, st128_39_t2, st128_39_t3, st128_39_t4, st128_39_t5, st128_39_t6, st128_39_t7, st128_39_t9, st128_40, st128_41, st128_42, st128_43, st128_44, st128_45, st128_46, st128_47, st128_48, st128_49, st128_50, st128_51, st128_52, st128_53, st128_54, st128_55, st128_56, st128_57_t0, st128_57_t2, st128_57_t3, st128_57_t4, st128_57_t5, st128_57_t6, st128_57_t7, st128_57_t9, st128_58, st128_59, st128_60, st128_61, st128_62, st128_63, st128_64, st128_39v, st128_57v, Int32.le_refl, if_true]
  | succ k ih =>
    intro i μ u6 hi hs hp
    have hB := h.tw hs (fun c e => by omega)
    have hC1 := hC.sb hH hs (fun c e9 => ⟨by omega, by omega, scr_tag h (by unfold Scr; omega)⟩)
    obtain ⟨hm', hc, hw', ht, hr9⟩ := hB
    have hc0 := hc
    have t8 := (hc.2.2.2.2.2.2.2.2.2.2.2 e he).2.1
    have hoi := ho i (by omega)
    obtain ⟨r, hr, er⟩ := hok (o i) hoi
    obtain ⟨r0, hrd⟩ := ht.2.2.2.2.2 r hr
    have r9 : r < 1000 := by have := hw.2.1; omega
    obtain ⟨k1, k2⟩ := hw.2.2.2.2 r hr
    have hbk := ht.bk b4
    have hpl := prF_lt (A := A) (b := b) (el := hel H) (o := o) hw hb i (fun j hj => hok (o j) (ho j (by omega)))
    have hS := lt_256 hpl.1 v2
    obtain ⟨p1, p2⟩ := hp i (Nat.le_refl i)
    have e50 : gi μ 50 i = E (o i) := by rw [hs.2.2.2.2.2.2 50 (by omega)]; exact hv i (by omega)
    have cR : (0 ≤ E r ∧ E r < E (rcA A)) = True := eq_true ((inr (by omega) (by have := hw.2.1; omega)).mpr hr)
    have cc : (0 ≤ E (o i) ∧ E (o i) < E (hsz H)) = True := eq_true ((inr (by omega) (by omega)).mpr (by omega))
    have cx : ¬ E n ≤ E i := by rw [E_le (by omega) (by omega)]; omega
    have cx6 : (E 6 ≤ E i) = False := by rw [E_leE (by omega) (by omega)]; exact eq_false (by omega)
    have hT := tor_lt (k := kdA A r) (f := fgA A r) (pg := pgA A b) (nd := ndA A b) hS k1 k2 v1 v2
    have hl := tor_lft (k := kdA A r) (f := fgA A r) (pg := pgA A b) (nd := ndA A b) hS k1 k2 v1 v2
    have hpr : prF A b (hel H) o (i + 1) = ((prF A b (hel H) o i).1 + wor (kdA A r) (fgA A r) (pgA A b) (ndA A b) (prF A b (hel H) o i).2, lft (kdA A r) (fgA A r) (pgA A b) (ndA A b) (prF A b (hel H) o i).2) := by rw [prF_s, er, E_nn (by omega)]
    have wsb : SB (fun c => c = 51 ∨ c = 52) μ (seti μ 52 (i + 1) (E ((prF A b (hel H) o i).1 + wor (kdA A r) (fgA A r) (pgA A b) (ndA A b) (prF A b (hel H) o i).2))) := SB.se (Or.inr rfl)
    obtain ⟨μ', y1, y2, y3⟩ := ih (i + 1) (seti (seti μ 52 (i + 1) (E ((prF A b (hel H) o i).1 + wor (kdA A r) (fgA A r) (pgA A b) (ndA A b) (prF A b (hel H) o i).2))) 51 (i + 1) (E (lft (kdA A r) (fgA A r) (pgA A b) (ndA A b) (prF A b (hel H) o i).2))) (some (Sum.inr (Sum.inl (gr μ (3 + 2) r)))) (by omega) (hs.tr (wsb.tr (SB.se (Or.inl rfl)))) (fun j hj => by
      by_cases q : j = i + 1
      · subst q
        rw [gi_seti, if_pos ⟨rfl, rfl⟩, gi_seti, if_neg (by omega), gi_seti, if_pos ⟨rfl, rfl⟩, hpr]
        exact ⟨rfl, rfl⟩
      · rw [gi_seti, if_neg (by omega), gi_seti, if_neg (by omega), gi_seti, if_neg (by omega), gi_seti, if_neg (by omega)]
        exact hp j (by omega))
    refine ⟨μ', ?_, y2, y3⟩
    obtain ⟨c1, c2, c3, c4, c5, c6, c7, c8, c9, ⟨a1, a2, a3, a4, a5⟩, ⟨b1, b2, b3, b4', b5⟩, _⟩ := hc
    have hrd1 : ∀ d, RdA (seti μ 52 (i + 1) d) (gr μ (3 + 2) r) (kdA A r) (fgA A r) := fun d => hrd.sb (SB.se (A := fun c => c = 52) rfl) (fun e => by have h9 := hrd.rd; rw [e, a5] at h9; exact absurd h9 (by decide))
    have hbk1 : ∀ d, BkN (seti μ 52 (i + 1) d) (3 + 3 + 3 * b) (pgA A b) (ndA A b) := fun d => by
      refine ⟨hbk.1, ?_, fun p hp => ?_⟩
      · rw [gi_seti, if_neg (by omega)]; exact hbk.2.1
      · rw [gi_seti, if_neg (by omega)]; exact hbk.2.2 p hp
    have hW := fun d => fwor (d := d) hS v2 v1 v4 hrd hbk
    have hT2 : ∀ (x : Int32) (d : Nat), cl (d + 4) (dvy_4 (tg μ (gr μ (3 + 2) r))) [Sum.inr (Sum.inl (gr μ (3 + 2) r)), Sum.inr (Sum.inl (3 + 3 + 3 * b)), Sum.inl (E (prF A b (hel H) o i).2)] (seti μ 52 (i + 1) x) = some (Sum.inl (some (Sum.inl (E (tor (kdA A r) (fgA A r) (pgA A b) (ndA A b) (prF A b (hel H) o i).2)))), seti μ 52 (i + 1) x) := fun x d => ftor (d := d) hS v2 v1 v4 (hrd1 x) (hbk1 x)
    have n51 : ((51 : Nat) = 52) = False := eq_false (by decide)
    rw [st128_4]
    simp only [st128_5, st128_6, st128_7, st128_8, st128_9, st128_10, st128_11, st128_12, st128_13, st128_14, st128_15, st128_16, st128_17, st128_18, st128_19, st128_20, t8, cx, c1, c2, c7, a3, b3, alA, alB, alC, alD, alE, and_self, show Int32.ofNat 6 = E 6 from rfl, cx6, E_ge0 (show i < 1000 by omega), E_n (show i < 1000 by omega), show i < 6 by omega, e50, f57 he hc0 hH hC1 hk, cc, E_n (show o i < 1000 by omega), er, ht.1.1, f68 hw ht, cR, E_n r9, aft_some, Option.toList_some, Option.toList_none, List.cons_append, List.nil_append, br0, br1, br2, br3, zr01, zr02, n10, n01, ne_eq, not_true_eq_false, not_false_eq_true, if_true, if_false, true_and, and_true, and_self]
    simp only [st128_21, st128_22, st128_23, st128_24, st128_25, st128_26, st128_27, st128_28, st128_29, st128_30, st128_31, st128_32, st128_33, st128_34, st128_35, st128_36, st128_37, st128_38, r0, c1, c8, c9, a4, a5, b4', b5, alA, alB, alC, alD, alE, and_self, show E i + 1 = E (i + 1) from E_add i 1, E_ge0 (show i < 1000 by omega), E_n (show i < 1000 by omega), show i < 7 by omega, p1, p2, aft_some, Option.toList_some, Option.toList_none, List.cons_append, List.nil_append, br0, br1, br2, br3, zr01, zr02, n10, n01, ne_eq, not_true_eq_false, not_false_eq_true, if_true, if_false, true_and, and_true, and_self]
    rw [st128_39v hrd.rd]
    simp only [hW, st128_40, st128_41, st128_42, st128_43, st128_44, st128_45, st128_46, st128_47, st128_48, st128_49, st128_50, st128_51, st128_52, st128_53, st128_54, st128_55, st128_56, c1, c8, c9, a4, a5, b4', b5, alA, alB, alC, alD, alE, and_self, gi_seti, gi_setr, gi_setl, gi_setrow, gr_seti, gr_setr, gr_setl, gr_setrow, gl_seti, gl_setr, gl_setl, gl_setrow, tg_seti, tg_setr, tg_setl, tg_setrow, ln_seti, ln_setr, ln_setl, ln_setrow, sz_seti, sz_setr, sz_setl, sz_setrow, sl_seti, sl_setr, sl_setl, sl_setrow, E_add, n51, false_and, show E i + 1 = E (i + 1) from E_add i 1, E_ge0 (show i + 1 < 1000 by omega), E_n (show i + 1 < 1000 by omega), show i + 1 < 7 by omega, E_ge0 (show i < 1000 by omega), E_n (show i < 1000 by omega), show i < 7 by omega, p1, p2, aft_some, Option.toList_some, Option.toList_none, List.cons_append, List.nil_append, br0, br1, br2, br3, zr01, zr02, n10, n01, ne_eq, not_true_eq_false, not_false_eq_true, if_true, if_false, true_and, and_true, and_self]
    rw [st128_57v (by exact hrd.rd)]
    simp only [hT2, st128_58, st128_59, st128_60, st128_61, st128_62, st128_63, E_and _ hS _ hT, hl, tg_seti, ln_seti, a4, b4', alA, alB, alC, alD, alE, and_self, E_ge0 (show i + 1 < 1000 by omega), E_n (show i + 1 < 1000 by omega), show i + 1 < 7 by omega, show E i + 1 = E (i + 1) from E_add i 1, aft_some, Option.toList_some, Option.toList_none, List.cons_append, List.nil_append, br0, br1, br2, br3, zr01, zr02, n10, n01, ne_eq, not_true_eq_false, not_false_eq_true, if_true, if_false, true_and, and_true, and_self]
    exact y1
