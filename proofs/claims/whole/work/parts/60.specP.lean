/-! SPECS P: readings in mind, of the class -/
def MD (μ : SMem) (S : Nat → Nat) : Prop := ∀ b, b < 4 → gi μ 49 b = E (S b)
def SLt (A : AT) (S : Nat → Nat) : Prop := ∀ b, b < bcA A → S b < 2 ^ pgA A b
theorem rdS_lt {A : AT} {S : Nat → Nat} {r b : Nat} (hw : WF A) (hS : SLt A S) (hr : r < rcA A) (hb : b < bcA A) : SLt A (rdS A S r b) := by
  intro b' hb'
  unfold rdS up1
  by_cases e : b' = b
  · subst e
    rw [if_pos rfl]
    exact lft_lt2 (hS b' hb') (hw.2.2.2.2 r hr).1 (hw.2.2.2.2 r hr).2 (hw.2.2.1 b' hb).1 (hw.pg9 b')
  · rw [if_neg e]
    exact hS b' hb'
def bgM (μ : SMem) (S : Nat → Nat) : Nat → SMem
  | 0 => μ
  | b + 1 => seti (bgM μ S b) 49 b (E (S b))
theorem bgM_s {μ : SMem} {S : Nat → Nat} (b : Nat) : bgM μ S (b + 1) = seti (bgM μ S b) 49 b (E (S b)) := rfl
theorem bgM_rd {μ : SMem} {S : Nat → Nat} : ∀ k, SB (fun x => x = 49) μ (bgM μ S k) ∧ ∀ j, j < k → gi (bgM μ S k) 49 j = E (S j) := by
  intro k
  induction k with
  | zero => exact ⟨SB.rf, fun j hj => by omega⟩
  | succ k ih =>
    rw [bgM_s k]
    refine ⟨ih.1.tr (SB.se (A := fun x => x = 49) rfl), fun j hj => ?_⟩
    rw [gi_seti]
    by_cases e : j = k
    · subst e; rw [if_pos ⟨rfl, rfl⟩]
    · rw [if_neg (by omega)]; exact ih.2 j (by omega)
theorem Both.tw {μ μ' : SMem} {A : AT} (h : Both μ A) {P : Nat → Prop} (hs : SB P μ μ') (hP : ∀ c, P c → 49 ≤ c ∧ c ≤ 52) : Both μ' A := by
  have h0 := h
  obtain ⟨hm, hc, hw, ht, hr⟩ := h
  refine ⟨hm.sb hs, hc.sb hs, hw, ht.sb hs (fun c hc => ⟨by have := hP c hc; omega, scr_tag h0 (by have := hP c hc; unfold Scr; omega)⟩), ?_⟩
  rw [hs.2.2.2.2.2.2 70 (fun e => by have := hP _ e; omega)]
  exact hr
theorem f121_lp {d : Nat} {A : AT} {μ : SMem} (h : Both μ A) : ∀ k b (u2 : Option SV), b + k = 4 → rn (d + 1) 121 2 [some (Sum.inr (Sum.inl (2))), some (Sum.inl (E b)), u2] [] (bgM μ (inA A) b) = some (Sum.inl none, bgM μ (inA A) 4) := by
  intro k
  induction k with
  | zero =>
    intro b u2 hb
    have : b = 4 := by omega
    subst this
    have hB := h.tw (bgM_rd (S := inA A) 4).1 (fun c e => by omega)
    obtain ⟨_, ⟨c1, c2, c3, c4, c5, c6, c7, c8, c9, ⟨a1, a2, a3, a4, a5⟩, ⟨b1, b2, b3, b4, b5⟩, _⟩, _⟩ := hB
    rw [st121_2]
    simp only [st121_0, st121_1, st121_3, st121_4, st121_5, st121_6, st121_7, st121_8, st121_9, st121_10, st121_11, st121_12, st121_13, st121_14, st121_15, st121_16, st121_17, st121_18, st121_19, st121_20, st121_21, st121_22, st121_23, st121_24, c1, c6, a2, b2, alA, alB, alC, alD, alE, and_self, show Int32.ofNat 4 = E 4 from rfl, Int32.le_refl, if_true]
  | succ k ih =>
    intro b u2 hb
    have hB := h.tw (bgM_rd (S := inA A) b).1 (fun c e => by omega)
    obtain ⟨_, ⟨c1, c2, c3, c4, c5, c6, c7, c8, c9, ⟨a1, a2, a3, a4, a5⟩, ⟨b1, b2, b3, b4, b5⟩, _⟩, hw, ht, _⟩ := hB
    have hc : ¬ E 4 ≤ E b := by rw [E_le (by decide) (by omega)]; omega
    have ihs := fun u => ih (b + 1) u (by omega)
    rw [bgM_s b] at ihs
    rw [st121_2]
    by_cases c : b < bcA A
    · have cc : 0 ≤ E b ∧ E b < E (bcA A) := (inr (by omega) (by have := hw.1; omega)).mpr c
      have e0 : (3 + 3 + 3 * b = 0) = False := eq_false (by omega)
      have hbk := ht.bk (show b < 4 by omega)
      simp only [st121_0, st121_1, st121_3, st121_4, st121_5, st121_6, st121_7, st121_8, st121_9, st121_10, st121_11, st121_12, st121_13, st121_14, st121_15, st121_16, st121_17, st121_18, st121_19, st121_20, st121_21, st121_22, st121_23, st121_24, c1, c2, c6, a2, b2, alA, alB, alC, alD, alE, and_self, show Int32.ofNat 4 = E 4 from rfl, hc, ht.1.1, f67 hw ht, cc, E_n (show b < 1000 by omega), e0, hbk.1.1, (ht.2.2.2.2.1 b (by omega)).2.1, cc.1, show b < 4 by omega, show E b + 1 = E (b + 1) from E_add b 1, aft_some, Option.toList_some, Option.toList_none, List.cons_append, List.nil_append, br0, br1, br2, br3, zr01, zr02, n10, n01, ne_eq, not_true_eq_false, not_false_eq_true, if_true, if_false, true_and, and_true, and_self]
      exact ihs _
    · have cc : ¬ E b < E (bcA A) := by rw [E_lt (by omega) (by have := hw.1; omega)]; exact c
      rw [(hw.2.2.2.1 b (by omega)).2, show E 0 = (0 : Int32) from rfl] at ihs
      simp only [st121_0, st121_1, st121_3, st121_4, st121_5, st121_6, st121_7, st121_8, st121_9, st121_10, st121_11, st121_12, st121_13, st121_14, st121_15, st121_16, st121_17, st121_18, st121_19, st121_20, st121_21, st121_22, st121_23, st121_24, c1, c2, c6, a2, b2, alA, alB, alC, alD, alE, and_self, show Int32.ofNat 4 = E 4 from rfl, hc, ht.1.1, f67 hw ht, cc, E_ge0 (show b < 1000 by omega), E_n (show b < 1000 by omega), show b < 4 by omega, show E b + 1 = E (b + 1) from E_add b 1, aft_some, Option.toList_some, Option.toList_none, List.cons_append, List.nil_append, br0, br1, br2, br3, zr01, zr02, n10, n01, ne_eq, not_true_eq_false, not_false_eq_true, if_true, if_false, true_and, and_true, and_self]
      exact ihs _
theorem f121 {d : Nat} {A : AT} {μ : SMem} (h : Both μ A) : ∃ μ', cl (d + 1) 121 [Sum.inr (Sum.inl (2))] μ = some (Sum.inl none, μ') ∧ SB (fun c => c = 49) μ μ' ∧ MD μ' (inA A) := by
  refine ⟨bgM μ (inA A) 4, ?_, (bgM_rd 4).1, (bgM_rd 4).2⟩
  show rn (d + 1) 121 0 [some (Sum.inr (Sum.inl (2))), none, none] [] μ = _
  simp only [st121_0, st121_1]
  exact f121_lp h 4 0 none rfl
/-- a READING in mind: by a reader of kind k with figure f -/
theorem f122 {d n b k f : Nat} {A : AT} {S : Nat → Nat} {μ : SMem} (h : Both μ A) (hM : MD μ S) (hS : SLt A S) (hb : b < bcA A) (hn : n ≠ 0) (hrd : RdA μ n k f) : ∃ μ', cl (d + 5) 122 [Sum.inr (Sum.inl (2)), Sum.inr (Sum.inl (n)), Sum.inl (E b)] μ = some (Sum.inl (some (Sum.inl (E (wor k f (pgA A b) (ndA A b) (S b))))), μ') ∧ SB (fun c => c = 49) μ μ' ∧ MD μ' (up1 S b (lft k f (pgA A b) (ndA A b) (S b))) := by
  obtain ⟨_, ⟨c1, c2, c3, c4, c5, c6, c7, c8, c9, ⟨a1, a2, a3, a4, a5⟩, ⟨b1, b2, b3, b4, b5⟩, _⟩, hw, ht, _⟩ := h
  have b9 : b < 4 := by have := hw.1; omega
  have cc : 0 ≤ E b ∧ E b < E (bcA A) := (inr (by omega) (by have := hw.1; omega)).mpr hb
  have e0 : (3 + 3 + 3 * b = 0) = False := eq_false (by omega)
  have hbk := ht.bk b9
  have S9 : S b < 256 := lt_256 (hS b hb) (hw.pg9 b)
  obtain ⟨v1, v2, v3, v4, _⟩ := hw.2.2.1 b hb
  have hB := tor_lt (k := k) (f := f) (pg := pgA A b) (nd := ndA A b) S9 hrd.2.2.1 hrd.2.2.2 v1 v2
  have hl := tor_lft (k := k) (f := f) (pg := pgA A b) (nd := ndA A b) S9 hrd.2.2.1 hrd.2.2.2 v1 v2
  have k1 : ¬ E b < 0 := Int32.not_lt.mpr cc.1
  have k2 : E b < E 4 := by rw [E_lt (by omega) (by decide)]; exact b9
  refine ⟨seti μ 49 b (E (lft k f (pgA A b) (ndA A b) (S b))), ?_, SB.se (A := fun c => c = 49) rfl, fun b' hb' => ?_⟩
  · show rn (d + 5) 122 0 [some (Sum.inr (Sum.inl (2))), some (Sum.inr (Sum.inl (n))), some (Sum.inl (E b)), none, none] [] μ = _
    simp only [st122_0, st122_1, st122_2, st122_3, st122_4, st122_5, st122_6, st122_7, st122_8, st122_9, st122_10, st122_11, st122_12, st122_13, st122_14, st122_15, st122_16, st122_17, st122_18, st122_19, st122_20, st122_21, st122_22, st122_23, st122_24_t0, st122_24_t2, st122_24_t3, st122_24_t4, st122_24_t5, st122_24_t6, st122_24_t7, st122_24_t9, st122_25, st122_26, st122_27, st122_28, st122_29, st122_30, st122_31, st122_32, st122_33, st122_34, st122_35, st122_36, st122_37_t0, st122_37_t2, st122_37_t3, st122_37_t4, st122_37_t5, st122_37_t6, st122_37_t7, st122_37_t9, st122_38, st122_39, st122_40, st122_41, st122_42, st122_43, st122_24v, st122_37v, c1, c2, c6, a2, b2, alA, alB, alC, alD, alE, and_self, show Int32.ofNat 4 = E 4 from rfl, ht.1.1, f67 hw ht, cc, E_n (show b < 1000 by omega), e0, hn, k1, k2, b9, hM b b9, st122_24v hrd.rd, fwor S9 v2 v1 v4 hrd hbk, st122_37v hrd.rd, ftor S9 v2 v1 v4 hrd hbk, E_and _ S9 _ hB, hl, aft_some, Option.toList_some, Option.toList_none, List.cons_append, List.nil_append, br0, br1, br2, br3, zr01, zr02, n10, n01, ne_eq, not_true_eq_false, not_false_eq_true, if_true, if_false, true_and, and_true, and_self]
  · rw [gi_seti]
    unfold up1
    by_cases e : b' = b
    · subst e; simp
    · rw [if_neg (by omega), if_neg e]; exact hM b' hb'
/-- RUN by a row: sums and what is left after i readings -/
def rnv (A : AT) (el : Nat → Int32) (but : Int32) (S0 : Nat → Nat) : Nat → Nat × (Nat → Nat)
  | 0 => (0, S0)
  | i + 1 => if el (2 * i) = but then rnv A el but S0 i else ((rnv A el but S0 i).1 + wrS A (rnv A el but S0 i).2 (el (2 * i)).toNatClampNeg (el (2 * i + 1)).toNatClampNeg, rdS A (rnv A el but S0 i).2 (el (2 * i)).toNatClampNeg (el (2 * i + 1)).toNatClampNeg)
theorem rnv_s {A : AT} {el : Nat → Int32} {but : Int32} {S0 : Nat → Nat} (i : Nat) : rnv A el but S0 (i + 1) = if el (2 * i) = but then rnv A el but S0 i else ((rnv A el but S0 i).1 + wrS A (rnv A el but S0 i).2 (el (2 * i)).toNatClampNeg (el (2 * i + 1)).toNatClampNeg, rdS A (rnv A el but S0 i).2 (el (2 * i)).toNatClampNeg (el (2 * i + 1)).toNatClampNeg) := rfl
