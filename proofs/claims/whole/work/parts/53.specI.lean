/-! SPECS I: shelves and what is refused, of both -/
theorem alA : ((50 : Nat) ≤ 50) = True := eq_true (by decide)
theorem alB : ((50 : Nat) ≤ 54) = True := eq_true (by decide)
theorem alC : ((54 : Nat) ≤ 54) = True := eq_true (by decide)
theorem alD : ((50 : Nat) ≤ 53) = True := eq_true (by decide)
theorem alE : ((53 : Nat) ≤ 54) = True := eq_true (by decide)
def allF (ok : Nat → Bool) : Nat → Nat → Bool
  | _, 0 => true
  | i, k + 1 => ok i && allF ok (i + 1) k
theorem allF_s {ok : Nat → Bool} (i k : Nat) : allF ok i (k + 1) = (ok i && allF ok (i + 1) k) := rfl
theorem allF_at {ok : Nat → Bool} : ∀ k i, allF ok i k = true → ∀ j, i ≤ j → j < i + k → ok j = true := by
  intro k
  induction k with
  | zero => intro i _ j h1 h2; omega
  | succ k ih =>
    intro i h j h1 h2
    rw [allF_s, Bool.and_eq_true] at h
    by_cases e : j = i
    · rw [e]; exact h.1
    · exact ih (i + 1) h.2 j (by omega) (by omega)
abbrev HT : Type := (Nat × Nat × Nat × Nat × Nat) × (Nat → Int32)
def hkt (H : HT) : Nat := H.1.1
def hso (H : HT) : Nat := H.1.2.1
def hsz (H : HT) : Nat := H.1.2.2.1
def hkd (H : HT) : Nat := H.1.2.2.2.1
def hfg (H : HT) : Nat := H.1.2.2.2.2
def hel (H : HT) : Nat → Int32 := H.2
def HWF (H : HT) : Prop := hkt H < 3 ∧ hso H < 3 ∧ hsz H ≤ 100 ∧ (hkt H = 1 → hkd H < 8 ∧ hfg H < 10)
/-- the cells of the class's own object -/
def CAo (μ : SMem) : Prop := tg μ 2 = 11 ∧ gr μ 2 0 = 3 ∧ gr μ 2 1 = 18 ∧ gr μ 2 2 = 33 ∧ gr μ 2 4 = 48 ∧ gr μ 2 5 = 49 ∧ gr μ 2 6 = 50 ∧ gr μ 2 7 = 51 ∧ gr μ 2 8 = 52 ∧ (tg μ 48 = 54 ∧ tg μ 49 = 50 ∧ tg μ 50 = 50 ∧ tg μ 51 = 50 ∧ tg μ 52 = 50) ∧ (ln μ 48 = 8 ∧ ln μ 49 = 4 ∧ ln μ 50 = 6 ∧ ln μ 51 = 7 ∧ ln μ 52 = 7) ∧ ∀ e, e < 8 → gr μ 48 e = 53 + 2 * e ∧ tg μ (53 + 2 * e) = 8 ∧ gr μ (53 + 2 * e) 4 = 54 + 2 * e ∧ tg μ (54 + 2 * e) = 50 ∧ ln μ (54 + 2 * e) = 100
def ShC (μ : SMem) (e : Nat) (H : HT) : Prop := (∀ i, i < 100 → gi μ (54 + 2 * e) i = hel H i) ∧ (hkt H = 2 → gr μ (53 + 2 * e) 0 = 0 ∧ gi μ (53 + 2 * e) 1 = 1 ∧ gi μ (53 + 2 * e) 2 = E (hso H) ∧ gi μ (53 + 2 * e) 3 = E (hsz H)) ∧ (hkt H = 1 → gi μ (53 + 2 * e) 1 = 0 ∧ gr μ (53 + 2 * e) 0 ≠ 0 ∧ RdA μ (gr μ (53 + 2 * e) 0) (hkd H) (hfg H)) ∧ (hkt H = 0 → gr μ (53 + 2 * e) 0 = 0 ∧ gi μ (53 + 2 * e) 1 = 0)
def ShM (μ : SMem) (e : Nat) (H : HT) : Prop := gi μ 74 e = E (hkt H) ∧ (hkt H = 2 → gi μ 75 e = E (hso H) ∧ gi μ 76 e = E (hsz H)) ∧ (hkt H = 1 → gi μ 78 e = E (hkd H) ∧ gi μ 79 e = E (hfg H)) ∧ ∀ i, i < 100 → gi μ 77 (100 * e + i) = hel H i
def rfW (H : HT) : Int32 := if hkt H = 0 then -11 else if hkt H = 2 then 0 else -12
def rfK (H : HT) : Int32 := if hkt H = 0 then -11 else if hkt H = 1 then 0 else -12
def rfB (H : HT) : Int32 := if hkt H = 0 then -11 else if hkt H = 2 ∧ hso H = 0 then 0 else -12
def okR (A : AT) (x : Int32) : Bool := decide (0 ≤ x ∧ x < E (rcA A))
def okB (A : AT) (x : Int32) : Bool := decide (0 ≤ x ∧ x < E (bcA A))
def rfRs (A : AT) (H : HT) : Int32 := if rfB H ≠ 0 then rfB H else if 6 < hsz H then -13 else if allF (fun i => okR A (hel H i)) 0 (hsz H) = true then 0 else -13
def rfRd (A : AT) (H : HT) : Int32 := if rfB H ≠ 0 then rfB H else if hsz H % 2 ≠ 0 ∨ 24 < hsz H then -13 else if allF (fun i => okR A (hel H (2 * i)) && okB A (hel H (2 * i + 1))) 0 (hsz H / 2) = true then 0 else -13
theorem f113 {d : Nat} {x : Int32} {μ : SMem} (hc : CAo μ) : cl d 113 [Sum.inr (Sum.inl (2)), Sum.inl (x)] μ = some (Sum.inl (some (Sum.inr (Sum.inl (if 0 ≤ x ∧ x < 8 then 53 + 2 * x.toNatClampNeg else 0)))), μ) := by
  obtain ⟨c1, c2, c3, c4, c5, c6, c7, c8, c9, ⟨a1, a2, a3, a4, a5⟩, ⟨b1, b2, b3, b4, b5⟩, s⟩ := hc
  show rn d 113 0 [some (Sum.inr (Sum.inl (2))), some (Sum.inl (x))] [] μ = _
  have e8 : (Int32.ofNat 8) = (8 : Int32) := rfl
  by_cases c : 0 ≤ x ∧ x < 8
  · obtain ⟨p, hp, rfl⟩ := E_of (n := 8) c.1 c.2 (by omega)
    have k0 : ¬ E p < 0 := Int32.not_lt.mpr c.1
    have k1 : ¬ (8 : Int32) ≤ E p := Int32.not_le.mpr c.2
    simp only [st113_0, st113_1, st113_2, st113_3, st113_4, st113_5, st113_6, st113_7, st113_8, st113_9, st113_10, st113_11, st113_12, st113_13, c1, c5, a1, b1, k0, k1, e8, c, E_ge0 (show p < 1000 by omega), E_n (show p < 1000 by omega), hp, alA, alB, alC, alD, alE, and_self, if_true, if_false, (s p hp).1, ne_eq, not_false_iff]
  · rw [if_neg c]
    by_cases k0 : x < 0
    · simp only [st113_0, st113_1, st113_2, st113_3, st113_4, st113_5, st113_6, st113_7, st113_8, st113_9, st113_10, st113_11, st113_12, st113_13, k0, if_true]
    · have k1 : (8 : Int32) ≤ x := Int32.not_lt.mp (fun e => c ⟨Int32.not_lt.mp k0, e⟩)
      simp only [st113_0, st113_1, st113_2, st113_3, st113_4, st113_5, st113_6, st113_7, st113_8, st113_9, st113_10, st113_11, st113_12, st113_13, k0, k1, c1, c5, a1, b1, e8, alA, alB, alC, alD, alE, and_self, if_true, if_false]
theorem f54 {d e : Nat} {H : HT} {μ : SMem} (he : e < 8) (hc : CAo μ) (hH : HWF H) (h : ShC μ e H) : cl d 54 [Sum.inr (Sum.inl (53 + 2 * e))] μ = some (Sum.inl (some (Sum.inl (if hkt H = 0 then 1 else 0))), μ) := by
  have t8 := (hc.2.2.2.2.2.2.2.2.2.2.2 e he).2.1
  obtain ⟨h1, h2, h3, h4⟩ := h
  show rn d 54 0 [some (Sum.inr (Sum.inl (53 + 2 * e)))] [] μ = _
  have hk : hkt H = 0 ∨ hkt H = 1 ∨ hkt H = 2 := by have := hH.1; omega
  rcases hk with k | k | k
  · obtain ⟨x1, x2⟩ := h4 k
    simp [st54_0, st54_1, st54_2, st54_3, st54_4, st54_5, st54_6, st54_7, st54_8, st54_9, t8, k, x1, x2]
  · obtain ⟨x1, x2, x3⟩ := h3 k
    simp [st54_0, st54_1, st54_2, st54_3, st54_4, st54_5, st54_6, st54_7, st54_8, st54_9, t8, k, x1, x2]
  · obtain ⟨x1, x2, x3, x4⟩ := h2 k
    simp [st54_0, st54_1, st54_2, st54_3, st54_4, st54_5, st54_6, st54_7, st54_8, st54_9, t8, k, x1, x2]
theorem f57 {d e : Nat} {x : Int32} {H : HT} {μ : SMem} (he : e < 8) (hc : CAo μ) (hH : HWF H) (h : ShC μ e H) (hk : hkt H = 2) : cl d 57 [Sum.inr (Sum.inl (53 + 2 * e)), Sum.inl (x)] μ = some (Sum.inl (some (Sum.inl (if 0 ≤ x ∧ x < E (hsz H) then hel H x.toNatClampNeg else 0))), μ) := by
  obtain ⟨s1, s2, s3, s4, s5⟩ := hc.2.2.2.2.2.2.2.2.2.2.2 e he
  obtain ⟨x1, x2, x3, x4⟩ := h.2.1 hk
  have hn := hH.2.2.1
  show rn d 57 0 [some (Sum.inr (Sum.inl (53 + 2 * e))), some (Sum.inl (x))] [] μ = _
  by_cases c : 0 ≤ x ∧ x < E (hsz H)
  · obtain ⟨p, hp, rfl⟩ := E_of c.1 c.2 (by omega)
    have k0 : ¬ E p < 0 := Int32.not_lt.mpr c.1
    have k1 : ¬ E (hsz H) ≤ E p := Int32.not_le.mpr c.2
    have k2 : ¬ (100 : Int32) ≤ E p := by rw [show (100 : Int32) = E 100 from rfl, E_le (by decide) (by omega)]; omega
    simp only [st57_0, st57_1, st57_2, st57_3, st57_4, st57_5, st57_6, st57_7, st57_8, st57_9, st57_10, st57_11, st57_12, st57_13, st57_14, st57_15, s2, s3, s4, s5, x4, k0, k1, k2, c, E_ge0 (show p < 1000 by omega), E_n (show p < 1000 by omega), show p < 100 by omega, h.1 p (by omega), and_self, if_true, if_false]
  · rw [if_neg c]
    by_cases k0 : x < 0
    · simp only [st57_0, st57_1, st57_2, st57_3, st57_4, st57_5, st57_6, st57_7, st57_8, st57_9, st57_10, st57_11, st57_12, st57_13, st57_14, st57_15, k0, if_true]
    · have k1 : E (hsz H) ≤ x := Int32.not_lt.mp (fun e => c ⟨Int32.not_lt.mp k0, e⟩)
      simp only [st57_0, st57_1, st57_2, st57_3, st57_4, st57_5, st57_6, st57_7, st57_8, st57_9, st57_10, st57_11, st57_12, st57_13, st57_14, st57_15, k0, k1, s2, x4, if_true, if_false]
theorem f114 {d e : Nat} {H : HT} {μ : SMem} (he : e < 8) (hc : CAo μ) (hH : HWF H) (h : ShC μ e H) : cl (d + 1) 114 [Sum.inr (Sum.inl (53 + 2 * e))] μ = some (Sum.inl (some (Sum.inl (rfW H))), μ) := by
  have t8 := (hc.2.2.2.2.2.2.2.2.2.2.2 e he).2.1
  have h54 := fun d => f54 (d := d) he hc hH h
  have e0 : (53 + 2 * e = 0) = False := eq_false (by omega)
  obtain ⟨h1, h2, h3, h4⟩ := h
  show rn (d + 1) 114 0 [some (Sum.inr (Sum.inl (53 + 2 * e)))] [] μ = _
  have hk : hkt H = 0 ∨ hkt H = 1 ∨ hkt H = 2 := by have := hH.1; omega
  unfold rfW
  rcases hk with k | k | k
  · simp [st114_0, st114_1, st114_2, st114_3, st114_4, st114_5, st114_6, st114_7, st114_8, st114_9, st114_10, st114_11, st114_12, st114_13, st114_14, st114_15, t8, h54, k, e0, aft_some]
  · obtain ⟨x1, x2, x3⟩ := h3 k
    simp [st114_0, st114_1, st114_2, st114_3, st114_4, st114_5, st114_6, st114_7, st114_8, st114_9, st114_10, st114_11, st114_12, st114_13, st114_14, st114_15, t8, h54, k, e0, aft_some, x1]
  · obtain ⟨x1, x2, x3, x4⟩ := h2 k
    simp [st114_0, st114_1, st114_2, st114_3, st114_4, st114_5, st114_6, st114_7, st114_8, st114_9, st114_10, st114_11, st114_12, st114_13, st114_14, st114_15, t8, h54, k, e0, aft_some, x2]
theorem f114n {d : Nat} {μ : SMem} : cl d 114 [Sum.inr (Sum.inl (0))] μ = some (Sum.inl (some (Sum.inl (-1))), μ) := by
  show rn d 114 0 [some (Sum.inr (Sum.inl (0)))] [] μ = _
  simp [st114_0, st114_1, st114_2, st114_3, st114_4, st114_5, st114_6, st114_7, st114_8, st114_9, st114_10, st114_11, st114_12, st114_13, st114_14, st114_15]
theorem f116 {d e : Nat} {H : HT} {μ : SMem} (he : e < 8) (hc : CAo μ) (hH : HWF H) (h : ShC μ e H) : cl (d + 1) 116 [Sum.inr (Sum.inl (53 + 2 * e))] μ = some (Sum.inl (some (Sum.inl (rfK H))), μ) := by
  have t8 := (hc.2.2.2.2.2.2.2.2.2.2.2 e he).2.1
  have h54 := fun d => f54 (d := d) he hc hH h
  have e0 : (53 + 2 * e = 0) = False := eq_false (by omega)
  obtain ⟨h1, h2, h3, h4⟩ := h
  show rn (d + 1) 116 0 [some (Sum.inr (Sum.inl (53 + 2 * e)))] [] μ = _
  have hk : hkt H = 0 ∨ hkt H = 1 ∨ hkt H = 2 := by have := hH.1; omega
  unfold rfK
  rcases hk with k | k | k
  · simp [st116_0, st116_1, st116_2, st116_3, st116_4, st116_5, st116_6, st116_7, st116_8, st116_9, st116_10, st116_11, st116_12, st116_13, st116_14, st116_15, t8, h54, k, e0, aft_some]
  · obtain ⟨x1, x2, x3⟩ := h3 k
    simp [st116_0, st116_1, st116_2, st116_3, st116_4, st116_5, st116_6, st116_7, st116_8, st116_9, st116_10, st116_11, st116_12, st116_13, st116_14, st116_15, t8, h54, k, e0, aft_some, x1]
  · obtain ⟨x1, x2, x3, x4⟩ := h2 k
    simp [st116_0, st116_1, st116_2, st116_3, st116_4, st116_5, st116_6, st116_7, st116_8, st116_9, st116_10, st116_11, st116_12, st116_13, st116_14, st116_15, t8, h54, k, e0, aft_some, x2]
theorem f116n {d : Nat} {μ : SMem} : cl d 116 [Sum.inr (Sum.inl (0))] μ = some (Sum.inl (some (Sum.inl (-1))), μ) := by
  show rn d 116 0 [some (Sum.inr (Sum.inl (0)))] [] μ = _
  simp [st116_0, st116_1, st116_2, st116_3, st116_4, st116_5, st116_6, st116_7, st116_8, st116_9, st116_10, st116_11, st116_12, st116_13, st116_14, st116_15]
theorem Es3 : ∀ k, k < 3 → ((E k = (0 : Int32)) ↔ k = 0) := by decide +kernel
theorem f115 {d e : Nat} {H : HT} {μ : SMem} (he : e < 8) (hc : CAo μ) (hH : HWF H) (h : ShC μ e H) : cl (d + 2) 115 [Sum.inr (Sum.inl (53 + 2 * e))] μ = some (Sum.inl (some (Sum.inl (rfB H))), μ) := by
  have t8 := (hc.2.2.2.2.2.2.2.2.2.2.2 e he).2.1
  have h114 := fun d => f114 (d := d) he hc hH h
  have e0 : (53 + 2 * e = 0) = False := eq_false (by omega)
  obtain ⟨h1, h2, h3, h4⟩ := h
  show rn (d + 2) 115 0 [some (Sum.inr (Sum.inl (53 + 2 * e))), none] [] μ = _
  have hk : hkt H = 0 ∨ hkt H = 1 ∨ hkt H = 2 := by have := hH.1; omega
  unfold rfB
  rcases hk with k | k | k
  · simp [st115_0, st115_1, st115_2, st115_3, st115_4, st115_5, st115_6, st115_7, st115_8, st115_9, st115_10, st115_11, st115_12, st115_13, st115_14, st115_15, t8, h114, k, e0, aft_some, rfW]
  · simp [st115_0, st115_1, st115_2, st115_3, st115_4, st115_5, st115_6, st115_7, st115_8, st115_9, st115_10, st115_11, st115_12, st115_13, st115_14, st115_15, t8, h114, k, e0, aft_some, rfW]
  · obtain ⟨x1, x2, x3, x4⟩ := h2 k
    by_cases c : hso H = 0
    · simp [st115_0, st115_1, st115_2, st115_3, st115_4, st115_5, st115_6, st115_7, st115_8, st115_9, st115_10, st115_11, st115_12, st115_13, st115_14, st115_15, t8, h114, k, e0, aft_some, rfW, x3, Es3 _ hH.2.1, c, show E 0 = (0 : Int32) from rfl]
    · simp [st115_0, st115_1, st115_2, st115_3, st115_4, st115_5, st115_6, st115_7, st115_8, st115_9, st115_10, st115_11, st115_12, st115_13, st115_14, st115_15, t8, h114, k, e0, aft_some, rfW, x3, Es3 _ hH.2.1, c]
theorem f115n {d : Nat} {μ : SMem} : cl (d + 1) 115 [Sum.inr (Sum.inl (0))] μ = some (Sum.inl (some (Sum.inl (-1))), μ) := by
  show rn (d + 1) 115 0 [some (Sum.inr (Sum.inl (0))), none] [] μ = _
  simp [st115_0, st115_1, st115_2, st115_3, st115_4, st115_5, st115_6, st115_7, st115_8, st115_9, st115_10, st115_11, st115_12, st115_13, st115_14, st115_15, f114n, aft_some]
theorem rfB_0 {H : HT} (h : rfB H = 0) : hkt H = 2 ∧ hso H = 0 := by
  unfold rfB at h
  by_cases c : hkt H = 0
  · rw [if_pos c] at h; exact absurd h (by decide)
  · rw [if_neg c] at h
    by_cases c2 : hkt H = 2 ∧ hso H = 0
    · exact c2
    · rw [if_neg c2] at h; exact absurd h (by decide)
theorem f117_lp {d e : Nat} {A : AT} {H : HT} {x2 : Int32} {μ : SMem} (he : e < 8) (hc : CAo μ) (hH : HWF H) (h : ShC μ e H) (hw : WF A) (ht : TwC μ 3 A) (hk : hkt H = 2) : ∀ k i, i + k = hsz H → rn (d + 1) 117 17 [some (Sum.inr (Sum.inl (2))), some (Sum.inr (Sum.inl (53 + 2 * e))), some (Sum.inl (x2)), some (Sum.inl (E i))] [] μ = some (Sum.inl (some (Sum.inl (if allF (fun i => okR A (hel H i)) i k = true then 0 else -13))), μ) := by
  have t8 := (hc.2.2.2.2.2.2.2.2.2.2.2 e he).2.1
  obtain ⟨x1, x2', x3, x4⟩ := h.2.1 hk
  have hn := hH.2.2.1
  intro k
  induction k with
  | zero =>
    intro i hi
    have : i = hsz H := by omega
    subst this
    rw [st117_17]
    simp only [st117_0, st117_1, st117_2, st117_3, st117_4, st117_5, st117_6, st117_7, st117_8, st117_9, st117_10, st117_11, st117_12, st117_13, st117_14, st117_15, st117_16, st117_18, st117_19, st117_20, st117_21, st117_22, st117_23, st117_24, st117_25, st117_26, st117_27, st117_28, st117_29, st117_30, st117_31, st117_32, st117_33, t8, x4, Int32.le_refl, if_true, allF]
  | succ k ih =>
    intro i hi
    have hcc : ¬ E (hsz H) ≤ E i := by rw [E_le (by omega) (by omega)]; omega
    have cc : 0 ≤ E i ∧ E i < E (hsz H) := (inr (by omega) (by omega)).mpr (by omega)
    rw [st117_17]
    simp only [st117_0, st117_1, st117_2, st117_3, st117_4, st117_5, st117_6, st117_7, st117_8, st117_9, st117_10, st117_11, st117_12, st117_13, st117_14, st117_15, st117_16, st117_18, st117_19, st117_20, st117_21, st117_22, st117_23, st117_24, st117_25, st117_26, st117_27, st117_28, st117_29, st117_30, st117_31, st117_32, st117_33, t8, x4, hcc, if_false, hc.1, hc.2.1, f57 he hc hH h hk, cc, and_self, if_true, E_n (show i < 1000 by omega), ht.1.1, f68 hw ht, aft_some, Option.toList_some, Option.toList_none, List.cons_append, List.nil_append, br0, br1, br2, br3, zr01, zr02]
    rw [allF_s]
    by_cases c : 0 ≤ hel H i ∧ hel H i < E (rcA A)
    · obtain ⟨r, hr, hrr⟩ := E_of c.1 c.2 (by have := hw.2.1; omega)
      have hg := (ht.2.2.2.2.2 r hr).1
      rw [hrr] at c ⊢
      simp only [c, and_self, if_true, E_n (show r < 1000 by have := hw.2.1; omega), ne_eq, hg, not_false_iff, if_true, show E i + 1 = E (i + 1) from E_add i 1]
      rw [ih (i + 1) (by omega)]
      have : okR A (hel H i) = true := by rw [hrr]; unfold okR; exact decide_eq_true c
      rw [show okR A (E r) = true by rw [← hrr]; exact this]
      simp
    · simp only [c, if_false, ne_eq, not_true_eq_false]
      have : okR A (hel H i) = false := by unfold okR; exact decide_eq_false c
      rw [this]
      simp
theorem f117 {d e : Nat} {A : AT} {H : HT} {μ : SMem} (he : e < 8) (hc : CAo μ) (hH : HWF H) (h : ShC μ e H) (hw : WF A) (ht : TwC μ 3 A) : cl (d + 3) 117 [Sum.inr (Sum.inl (2)), Sum.inr (Sum.inl (53 + 2 * e))] μ = some (Sum.inl (some (Sum.inl (rfRs A H))), μ) := by
  have t8 := (hc.2.2.2.2.2.2.2.2.2.2.2 e he).2.1
  have h115 := fun d => f115 (d := d) he hc hH h
  have e0 : (53 + 2 * e = 0) = False := eq_false (by omega)
  show rn (d + 3) 117 0 [some (Sum.inr (Sum.inl (2))), some (Sum.inr (Sum.inl (53 + 2 * e))), none, none] [] μ = _
  unfold rfRs
  by_cases hb : rfB H = 0
  · obtain ⟨k2, k0⟩ := rfB_0 hb
    obtain ⟨x1, x2', x3, x4⟩ := h.2.1 k2
    have hn := hH.2.2.1
    have c6 : (E (hsz H) ≤ (6 : Int32)) = (hsz H ≤ 6) := by rw [show (6 : Int32) = E 6 from rfl, E_leE (by omega) (by decide)]
    have hlp := f117_lp (d := d + 2) (x2 := 0) he hc hH h hw ht k2 (hsz H) 0 (by omega)
    by_cases c : hsz H ≤ 6
    · have c' : ¬ 6 < hsz H := by omega
      simp only [st117_0, st117_1, st117_2, st117_3, st117_4, st117_5, st117_6, st117_7, st117_8, st117_9, st117_10, st117_11, st117_12, st117_13, st117_14, st117_15, st117_16, h115, e0, hb, t8, x4, c6, c, c', aft_some, Option.toList_some, Option.toList_none, List.cons_append, List.nil_append, br0, br1, br2, br3, zr01, zr02, n10, n01, ne_eq, not_true_eq_false, not_false_eq_true, if_true, if_false, true_and, and_true, and_self]
      exact hlp
    · have c' : 6 < hsz H := by omega
      simp only [st117_0, st117_1, st117_2, st117_3, st117_4, st117_5, st117_6, st117_7, st117_8, st117_9, st117_10, st117_11, st117_12, st117_13, st117_14, st117_15, st117_16, h115, e0, hb, t8, x4, c6, c, c', aft_some, Option.toList_some, Option.toList_none, List.cons_append, List.nil_append, br0, br1, br2, br3, zr01, zr02, n10, n01, ne_eq, not_true_eq_false, not_false_eq_true, if_true, if_false, true_and, and_true, and_self]
  · simp only [st117_0, st117_1, st117_2, st117_3, st117_4, st117_5, st117_6, st117_7, st117_8, st117_9, st117_10, st117_11, st117_12, st117_13, st117_14, st117_15, st117_16, h115, e0, hb, aft_some, Option.toList_some, Option.toList_none, List.cons_append, List.nil_append, br0, br1, br2, br3, zr01, zr02, n10, n01, ne_eq, not_true_eq_false, not_false_eq_true, if_true, if_false, true_and, and_true, and_self]
theorem f117n {d : Nat} {μ : SMem} : cl (d + 2) 117 [Sum.inr (Sum.inl (2)), Sum.inr (Sum.inl (0))] μ = some (Sum.inl (some (Sum.inl (-1))), μ) := by
  show rn (d + 2) 117 0 [some (Sum.inr (Sum.inl (2))), some (Sum.inr (Sum.inl (0))), none, none] [] μ = _
  simp [st117_0, st117_1, st117_2, st117_3, st117_4, st117_5, st117_6, st117_7, st117_8, st117_9, st117_10, st117_11, st117_12, st117_13, st117_14, st117_15, st117_16, f115n, aft_some]
