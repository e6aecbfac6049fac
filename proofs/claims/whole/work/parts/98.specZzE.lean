/-! SPECS ZZE: the law's start -/
theorem NW.sg {O : Nat → Prop} {μ μ' : SMem} (h : NW O μ μ') (hu : ∀ c, sz μ ≤ c → tg μ c = 99) (hl : sl μ ≤ sl μ') (h1 : ¬ O 1) (h2 : 2 ≤ sz μ) : SG (fun c _ => O c) (fun c _ => O c) μ μ' := by
  obtain ⟨a1, a2, a3, a4⟩ := h
  have lt : ∀ c, tg μ c ≠ 99 → c < sz μ := fun c hc => by
    by_cases q : c < sz μ
    · exact q
    · exact absurd (hu c (by omega)) hc
  exact ⟨fun c hc => a2 c (lt c hc), fun c j hc hn => by rw [(a3 c (lt c hc) hn).1], fun c j hc hn => by rw [(a3 c (lt c hc) hn).2], ⟨a1, (a3 1 (by omega) h1).1, (a2 1 (by omega)).2⟩, hl, a4⟩
def SQ (μ : SMem) (e : Nat) : Prop := tg μ (53 + 2 * e) = 8 ∧ gr μ (53 + 2 * e) 0 = 0 ∧ gr μ (53 + 2 * e) 4 = 54 + 2 * e ∧ gi μ (53 + 2 * e) 1 = 0 ∧ tg μ (54 + 2 * e) = 50 ∧ ln μ (54 + 2 * e) = 100 ∧ ∀ j, gi μ (54 + 2 * e) j = 0
theorem SQ.nw {O : Nat → Prop} {μ μ' : SMem} {e : Nat} (h : SQ μ e) (hn : NW O μ μ') (hs : 54 + 2 * e < sz μ) (ho : ¬ O (53 + 2 * e) ∧ ¬ O (54 + 2 * e)) : SQ μ' e := by
  obtain ⟨x1, x2, x3, x4, x5, x6, x7⟩ := h
  obtain ⟨a1, a2, a3, a4⟩ := hn
  obtain ⟨b1, b2⟩ := a3 (53 + 2 * e) (by omega) ho.1
  obtain ⟨b3, b4⟩ := a3 (54 + 2 * e) (by omega) ho.2
  exact ⟨by rw [(a2 _ (by omega)).1]; exact x1, by rw [b2]; exact x2, by rw [b2]; exact x3, by rw [b1]; exact x4, by rw [(a2 _ (by omega)).1]; exact x5, by rw [(a2 _ (by omega)).2]; exact x6, fun j => by rw [b3]; exact x7 j⟩
theorem f53 {d e : Nat} {μ : SMem} (ha : tg μ (53 + 2 * e) = 8) (hs : 54 + 2 * e = sz μ) (hu : ∀ c, sz μ ≤ c → tg μ c = 99) : ∃ μ', cl d 53 [Sum.inr (Sum.inl (53 + 2 * e))] μ = some (Sum.inl none, μ') ∧ NW (fun c => c = 53 + 2 * e) μ μ' ∧ sz μ' = sz μ + 1 ∧ sl μ' = sl μ + 100 ∧ SQ μ' e := by
  have z100 : ((0 : Int32) ≤ 100) = True := eq_true (by decide)
  have d100 : ((100 : Nat) ≤ 1000) = True := eq_true (by decide)
  have zn100 : (100 : Int32).toNatClampNeg = 100 := rfl
  have a0 : 53 + 2 * e ≠ 0 := by omega
  have n1 : NW (fun c => c = 53 + 2 * e) μ (setr μ (53 + 2 * e) 0 0) := NW.sr hu rfl
  have n2 : NW (fun c => c = 53 + 2 * e) (setr μ (53 + 2 * e) 0 0) (seti (setr μ (53 + 2 * e) 0 0) (53 + 2 * e) 1 0) := NW.si hu rfl
  have n3 : NW (fun c => c = 53 + 2 * e) (seti (setr μ (53 + 2 * e) 0 0) (53 + 2 * e) 1 0) (seti (seti (setr μ (53 + 2 * e) 0 0) (53 + 2 * e) 1 0) (53 + 2 * e) 2 0) := NW.si hu rfl
  have n4 : NW (fun c => c = 53 + 2 * e) (seti (seti (setr μ (53 + 2 * e) 0 0) (53 + 2 * e) 1 0) (53 + 2 * e) 2 0) (seti (seti (seti (setr μ (53 + 2 * e) 0 0) (53 + 2 * e) 1 0) (53 + 2 * e) 2 0) (53 + 2 * e) 3 0) := NW.si hu rfl
  have n5 : NW (fun c => c = 53 + 2 * e) (seti (seti (seti (setr μ (53 + 2 * e) 0 0) (53 + 2 * e) 1 0) (53 + 2 * e) 2 0) (53 + 2 * e) 3 0) (alloc (seti (seti (seti (setr μ (53 + 2 * e) 0 0) (53 + 2 * e) 1 0) (53 + 2 * e) 2 0) (53 + 2 * e) 3 0) 50 100 100) := NW.al hu
  have n6 : NW (fun c => c = 53 + 2 * e) (alloc (seti (seti (seti (setr μ (53 + 2 * e) 0 0) (53 + 2 * e) 1 0) (53 + 2 * e) 2 0) (53 + 2 * e) 3 0) 50 100 100) (setr (alloc (seti (seti (seti (setr μ (53 + 2 * e) 0 0) (53 + 2 * e) 1 0) (53 + 2 * e) 2 0) (53 + 2 * e) 3 0) 50 100 100) (53 + 2 * e) 4 (sz μ)) := NW.sr n5.2.2.2 rfl
  refine ⟨setr (alloc (seti (seti (seti (setr μ (53 + 2 * e) 0 0) (53 + 2 * e) 1 0) (53 + 2 * e) 2 0) (53 + 2 * e) 3 0) 50 100 100) (53 + 2 * e) 4 (sz μ), ?_, n1.tr (n2.tr (n3.tr (n4.tr (n5.tr n6)))), rfl, rfl, ?_⟩
  · show rn d 53 0 [some (Sum.inr (Sum.inl (53 + 2 * e)))] [] μ = _
    simp only [st53_0, st53_1, st53_2, st53_3, st53_4, st53_5, st53_6, st53_7, st53_8, st53_9, st53_10, st53_11, st53_12, st53_13, st53_14, st53_15, st53_16, st53_17, st53_18, a0, ha, z100, d100, zn100, tg_setr, tg_seti, tg_alc, sz_al, sz_setr, sz_seti, show ¬ 53 + 2 * e = sz μ by omega, true_or, or_true, aft_some, Option.toList_some, Option.toList_none, List.cons_append, List.nil_append, br0, br1, br2, br3, zr01, zr02, n10, n01, ne_eq, not_true_eq_false, not_false_eq_true, if_true, if_false, true_and, and_true, and_self]
  · refine ⟨?_, ?_, ?_, ?_, ?_, ?_, fun j => ?_⟩
    · rw [tg_setr, tg_alc, sz_seti, sz_seti, sz_seti, sz_setr, if_neg (by omega)]; exact ha
    · rw [gr_setr, if_neg (by omega), gr_alc, sz_seti, sz_seti, sz_seti, sz_setr, if_neg (by omega), gr_seti, gr_seti, gr_seti, gr_setr, if_pos ⟨rfl, rfl⟩]
    · rw [gr_setr, if_pos ⟨rfl, rfl⟩, hs]
    · rw [gi_setr, gi_alc, sz_seti, sz_seti, sz_seti, sz_setr, if_neg (by omega), gi_seti, if_neg (by omega), gi_seti, if_neg (by omega), gi_seti, if_pos ⟨rfl, rfl⟩]
    · rw [tg_setr, tg_alc, sz_seti, sz_seti, sz_seti, sz_setr, if_pos hs]
    · rw [ln_setr, ln_alc, sz_seti, sz_seti, sz_seti, sz_setr, if_pos hs]
    · rw [gi_setr, gi_alc, sz_seti, sz_seti, sz_seti, sz_setr, if_pos hs]
theorem f77_lp {d : Nat} : ∀ k e (μ : SMem), e + k = 8 → sz μ = 53 + 2 * e → (∀ c, sz μ ≤ c → tg μ c = 99) → tg μ 2 = 11 → gr μ 2 4 = 48 → tg μ 48 = 54 → ln μ 48 = 8 → (∀ e', e' < e → gr μ 48 e' = 53 + 2 * e' ∧ SQ μ e') → ∃ μ', rn (d + 1) 77 42 [some (Sum.inr (Sum.inl (2))), some (Sum.inl (E e))] [] μ = some (Sum.inl none, μ') ∧ NW (fun c => c = 48) μ μ' ∧ sz μ' = 69 ∧ sl μ' = sl μ + 105 * k ∧ (∀ e', e' < 8 → gr μ' 48 e' = 53 + 2 * e' ∧ SQ μ' e') := by
  intro k
  induction k with
  | zero =>
    intro e μ he hs hu h1 h2 h3 h4 hv
    have : e = 8 := by omega
    subst this
    refine ⟨μ, ?_, ⟨Nat.le_refl _, fun _ _ => ⟨rfl, rfl⟩, fun _ _ _ => ⟨rfl, rfl⟩, hu⟩, by omega, rfl, hv⟩
    rw [st77_42]
    simp only [st77_43, st77_44, st77_45, st77_46, st77_56, h1, h2, h3, h4, alA, alB, alC, alD, alE, and_self, show Int32.ofNat 8 = E 8 from rfl, Int32.le_refl, true_or, or_true, aft_some, Option.toList_some, Option.toList_none, List.cons_append, List.nil_append, br0, br1, br2, br3, zr01, zr02, n10, n01, ne_eq, not_true_eq_false, not_false_eq_true, if_true, if_false, true_and, and_true, and_self]
  | succ k ih =>
    intro e μ he hs hu h1 h2 h3 h4 hv
    have cx : (E 8 ≤ E e) = False := by rw [E_leE (by decide) (by omega)]; exact eq_false (by omega)
    have n1 : NW (fun c => c = 48) μ (alloc μ 8 0 5) := NW.al hu
    obtain ⟨μ1, a1, a2, a3, a4, a5⟩ := f53 (d := d) (e := e) (μ := alloc μ 8 0 5) (by rw [tg_alc, if_pos (by omega)]) (by rw [sz_al]; omega) n1.2.2.2
    have n2 : NW (fun c => c = 48) μ μ1 := ⟨by rw [a3, sz_al]; omega, fun c hc => ⟨(a2.2.1 c (by rw [sz_al]; omega)).1.trans (n1.2.1 c hc).1, (a2.2.1 c (by rw [sz_al]; omega)).2.trans (n1.2.1 c hc).2⟩, fun c hc hn => ⟨(a2.2.2.1 c (by rw [sz_al]; omega) (by omega)).1.trans (n1.2.2.1 c hc hn).1, (a2.2.2.1 c (by rw [sz_al]; omega) (by omega)).2.trans (n1.2.2.1 c hc hn).2⟩, a2.2.2.2⟩
    have g1 : ∀ c, c < sz μ → gr μ1 c = gr μ c := fun c hc => (a2.2.2.1 c (by rw [sz_al]; omega) (by omega)).2.trans (funext fun j => by rw [gr_alc, if_neg (by omega)])
    have t1 : tg μ1 48 = 54 := by rw [(n2.2.1 _ (by omega)).1]; exact h3
    have l1 : ln μ1 48 = 8 := by rw [(n2.2.1 _ (by omega)).2]; exact h4
    have t2 : tg μ1 (53 + 2 * e) = 8 := a5.1
    have n3 : NW (fun c => c = 48) μ1 (setr μ1 48 e (53 + 2 * e)) := NW.sr a2.2.2.2 rfl
    have gr3 : ∀ c j, gr (setr μ1 48 e (53 + 2 * e)) c j = if c = 48 ∧ j = e then 53 + 2 * e else gr μ1 c j := fun c j => by rw [gr_setr]
    have e8 : e < 8 := by omega
    obtain ⟨μ', y1, y2, y3, y4, y5⟩ := ih (e + 1) (setr μ1 48 e (53 + 2 * e)) (by omega) (by rw [sz_setr, a3, sz_al]; omega) n3.2.2.2 (by rw [tg_setr, (n2.2.1 2 (by omega)).1]; exact h1) (by rw [gr3, if_neg (by omega), g1 2 (by omega)]; exact h2) t1 l1 (fun e' he' => by
      by_cases q : e' = e
      · subst q
        refine ⟨by rw [gr3, if_pos ⟨rfl, rfl⟩], a5.nw n3 (by rw [a3, sz_al]; omega) ⟨by omega, by omega⟩⟩
      · obtain ⟨v1, v2⟩ := hv e' (by omega)
        refine ⟨by rw [gr3, if_neg (by omega), g1 _ (by omega)]; exact v1, (v2.nw n2 (by omega) ⟨by omega, by omega⟩).nw n3 (by rw [a3, sz_al]; omega) ⟨by omega, by omega⟩⟩)
    refine ⟨μ', ?_, n2.tr (n3.tr y2), y3, by rw [y4, sl_setr, a4, sl_al]; omega, y5⟩
    rw [st77_42]
    rw [← hs] at a1 t2 y1
    simp only [st77_43, st77_44, st77_45, st77_46, st77_47, st77_48, st77_49, st77_50, st77_51, st77_52, st77_53, st77_54, st77_55, h1, h2, h3, h4, alA, alB, alC, alD, alE, and_self, show Int32.ofNat 8 = E 8 from rfl, cx, tg_alc, gr_alc, show (sz μ = 0) = False from eq_false (by omega), show ¬ 2 = sz μ by omega, a1, t1, l1, t2, E_ge0 (show e < 1000 by omega), E_n (show e < 1000 by omega), e8, or_true, true_or, false_or, show (((8 : Nat) == 8) = true) = True from eq_true rfl, show E e + 1 = E (e + 1) from E_add e 1, aft_some, Option.toList_some, Option.toList_none, List.cons_append, List.nil_append, br0, br1, br2, br3, zr01, zr02, n10, n01, ne_eq, not_true_eq_false, not_false_eq_true, if_true, if_false, true_and, and_true, and_self]
    exact y1
/-- a town is made -/
theorem f77_t {d : Nat} {μ : SMem} {T : Nat} (hT : 3 ≤ T) (hs : sz μ = T) (hu : ∀ c, sz μ ≤ c → tg μ c = 99) : ∃ μ', cl (d + 1) 65 [Sum.inr (Sum.inl (T))] (alloc μ 10 0 5) = some (Sum.inl none, μ') ∧ NW (fun _ => False) μ μ' ∧ sz μ' = T + 15 ∧ sl μ' = sl μ + 95 ∧ TwC μ' T A0 := by
  have n1 : NW (fun _ => False) μ (alloc μ 10 0 5) := NW.al hu
  obtain ⟨μ', a1, a2, a3, a4, a5⟩ := f65 (d := d) (T := T) (μ := alloc μ 10 0 5) (by omega) (by rw [tg_alc, if_pos hs.symm]) (by rw [sz_al, hs]) n1.2.2.2
  exact ⟨μ', a1, ⟨by rw [a3]; omega, fun c hc => ⟨(a2.2.1 c (by rw [sz_al]; omega)).1.trans (n1.2.1 c hc).1, (a2.2.1 c (by rw [sz_al]; omega)).2.trans (n1.2.1 c hc).2⟩, fun c hc hn => ⟨(a2.2.2.1 c (by rw [sz_al]; omega) (by omega)).1.trans (n1.2.2.1 c hc hn).1, (a2.2.2.1 c (by rw [sz_al]; omega) (by omega)).2.trans (n1.2.2.1 c hc hn).2⟩, a2.2.2.2⟩, a3, by rw [a4, sl_al], a5⟩
theorem TwC.nw {O : Nat → Prop} {μ μ' : SMem} {T : Nat} {A : AT} (h : TwC μ T A) (hn : NW O μ μ') (hu : ∀ c, sz μ ≤ c → tg μ c = 99) (hl : sl μ ≤ sl μ') (h2 : 2 ≤ sz μ) (ho : ∀ c, O c → c ≠ 1 ∧ (c < T ∨ T + 15 ≤ c) ∧ isRd (tg μ c) = false) : TwC μ' T A :=
  h.sg (hn.sg hu hl (fun e => (ho 1 e).1 rfl) h2) (fun c _ p => (ho c p).2) (fun c _ p => (ho c p).2.1)
/-- the class's object is made -/
theorem f77 {d : Nat} {μ : SMem} (h1 : tg μ 2 = 11) (hs : sz μ = 3) (hu : ∀ c, sz μ ≤ c → tg μ c = 99) (hg : ∀ j, gi μ 2 j = 0) : ∃ μ', cl (d + 2) 77 [Sum.inr (Sum.inl (2))] μ = some (Sum.inl none, μ') ∧ NW (fun c => c = 2) μ μ' ∧ sz μ' = 69 ∧ sl μ ≤ sl μ' ∧ sl μ' ≤ sl μ + 2000 ∧ CAo μ' ∧ gi μ' 2 3 = 0 ∧ (TwC μ' 3 A0 ∧ TwC μ' 18 A0 ∧ TwC μ' 33 A0) ∧ (∀ e, e < 8 → SQ μ' e) := by
  have Fk : ∀ {a b : SMem}, NW (fun _ => False) a b → NW (fun c => c = 2) a b := fun h => h.wk (fun c _ e => e.elim)
  obtain ⟨μ1, a1, a2, a3, a4, a5⟩ := f77_t (d := d) (T := 3) (by omega) hs hu
  have t1 : tg μ1 2 = 11 := by rw [(a2.2.1 2 (by omega)).1]; exact h1
  have n1 : NW (fun c => c = 2) μ1 (setr μ1 2 0 3) := NW.sr a2.2.2.2 rfl
  have b5 := a5.nw n1 a2.2.2.2 (Nat.le_refl _) (by omega) (fun c e => ⟨by omega, by omega, by rw [e, t1]; rfl⟩)
  obtain ⟨μ2, c1, c2, c3, c4, c5⟩ := f77_t (d := d) (T := 18) (μ := setr μ1 2 0 3) (by omega) a3 n1.2.2.2
  have t2 : tg μ2 2 = 11 := by rw [(c2.2.1 2 (by show 2 < sz μ1; omega)).1]; exact t1
  have r2 : gr μ2 2 = gr (setr μ1 2 0 3) 2 := (c2.2.2.1 2 (by show 2 < sz μ1; omega) (fun e => e)).2
  have b5' := b5.nw c2 n1.2.2.2 (by show sl μ1 ≤ _; rw [c4]; show sl μ1 ≤ sl μ1 + 95; omega) (by show 2 ≤ sz μ1; omega) (fun c e => e.elim)
  have n2 : NW (fun c => c = 2) μ2 (setr μ2 2 1 18) := NW.sr c2.2.2.2 rfl
  have b6 := b5'.nw n2 c2.2.2.2 (Nat.le_refl _) (by omega) (fun c e => ⟨by omega, by omega, by rw [e, t2]; rfl⟩)
  have b7 := c5.nw n2 c2.2.2.2 (Nat.le_refl _) (by omega) (fun c e => ⟨by omega, by omega, by rw [e, t2]; rfl⟩)
  obtain ⟨μ3, e1, e2, e3, e4, e5⟩ := f77_t (d := d) (T := 33) (μ := setr μ2 2 1 18) (by omega) c3 n2.2.2.2
  have t3 : tg μ3 2 = 11 := by rw [(e2.2.1 2 (by show 2 < sz μ2; omega)).1]; exact t2
  have r3 : gr μ3 2 = gr (setr μ2 2 1 18) 2 := (e2.2.2.1 2 (by show 2 < sz μ2; omega) (fun e => e)).2
  have sl3 : sl μ3 = sl μ + 285 := by rw [e4]; show sl μ2 + 95 = _; rw [c4]; show sl μ1 + 95 + 95 = _; rw [a4]
  have b6' := b6.nw e2 n2.2.2.2 (by show sl μ2 ≤ _; rw [e4]; show sl μ2 ≤ sl μ2 + 95; omega) (by show 2 ≤ sz μ2; omega) (fun c e => e.elim)
  have b7' := b7.nw e2 n2.2.2.2 (by show sl μ2 ≤ _; rw [e4]; show sl μ2 ≤ sl μ2 + 95; omega) (by show 2 ≤ sz μ2; omega) (fun c e => e.elim)
  have nA : NW (fun c => c = 2) μ μ3 := (Fk a2).tr (n1.tr ((Fk c2).tr (n2.tr (Fk e2))))
  have gr0 : ∀ j, gr μ3 2 j = if j = 1 then 18 else if j = 0 then 3 else gr μ1 2 j := fun j => by
    rw [r3, gr_setr]
    by_cases q : j = 1
    · rw [if_pos ⟨rfl, q⟩, if_pos q]
    · rw [if_neg (fun h => q h.2), if_neg q, r2, gr_setr]
      by_cases q2 : j = 0
      · rw [if_pos ⟨rfl, q2⟩, if_pos q2]
      · rw [if_neg (fun h => q2 h.2), if_neg q2]
  -- rows of the class
  have z8 : ((0 : Int32) ≤ 8) = True := eq_true (by decide)
  have z4 : ((0 : Int32) ≤ 4) = True := eq_true (by decide)
  have z6 : ((0 : Int32) ≤ 6) = True := eq_true (by decide)
  have z7 : ((0 : Int32) ≤ 7) = True := eq_true (by decide)
  have k8 : (8 : Int32).toNatClampNeg = 8 := rfl
  have k4 : (4 : Int32).toNatClampNeg = 4 := rfl
  have k6 : (6 : Int32).toNatClampNeg = 6 := rfl
  have k7 : (7 : Int32).toNatClampNeg = 7 := rfl
  have m8 : ((8 : Nat) ≤ 1000) = True := eq_true (by decide)
  have m4 : ((4 : Nat) ≤ 1000) = True := eq_true (by decide)
  have m6 : ((6 : Nat) ≤ 1000) = True := eq_true (by decide)
  have m7 : ((7 : Nat) ≤ 1000) = True := eq_true (by decide)
  have hu3 := e2.2.2.2
  obtain ⟨μ4, q1⟩ : ∃ μ4, μ4 = setr (alloc (setr (alloc (setr (alloc (setr (alloc (setr (alloc (seti (setr μ3 2 2 33) 2 3 0) 54 8 8) 2 4 48) 50 4 4) 2 5 49) 50 6 6) 2 6 50) 50 7 7) 2 7 51) 50 7 7) 2 8 52 := ⟨_, rfl⟩
  have E0 : rn (d + 2) 77 0 [some (Sum.inr (Sum.inl (2))), none] [] μ = rn (d + 2) 77 42 [some (Sum.inr (Sum.inl (2))), some (Sum.inl (E 0))] [] μ4 := by
    rw [q1]
    simp only [st77_0, st77_1, st77_2, st77_3, st77_4, st77_5, hs, show ((2 : Nat) = 0) = False from eq_false (by decide), show ((3 : Nat) = 0) = False from eq_false (by decide), ne_eq, not_false_eq_true, a1, aft_some, Option.toList_some, Option.toList_none, List.cons_append, List.nil_append, br0, br1, br2, br3, zr01, zr02, n10, n01, ne_eq, not_true_eq_false, not_false_eq_true, if_true, if_false, true_and, and_true, and_self]
    simp only [st77_6, st77_7, st77_8, st77_9, st77_10, t1, sz_setr, a3, show ((3 + 15 : Nat)) = 18 from rfl, show ((18 : Nat) = 0) = False from eq_false (by decide), c1, true_or, aft_some, Option.toList_some, Option.toList_none, List.cons_append, List.nil_append, br0, br1, br2, br3, zr01, zr02, n10, n01, ne_eq, not_true_eq_false, not_false_eq_true, if_true, if_false, true_and, and_true, and_self]
    simp only [st77_11, st77_12, st77_13, st77_14, st77_15, t2, sz_setr, c3, show ((18 + 15 : Nat)) = 33 from rfl, show ((33 : Nat) = 0) = False from eq_false (by decide), e1, true_or, aft_some, Option.toList_some, Option.toList_none, List.cons_append, List.nil_append, br0, br1, br2, br3, zr01, zr02, n10, n01, ne_eq, not_true_eq_false, not_false_eq_true, if_true, if_false, true_and, and_true, and_self]
    simp only [st77_16, st77_17, st77_18, st77_19, st77_20, st77_21, st77_22, st77_23, st77_24, st77_25, st77_26, st77_27, st77_28, st77_29, st77_30, st77_31, st77_32, st77_33, st77_34, st77_35, st77_36, st77_37, st77_38, st77_39, st77_40, st77_41, t3, gi_seti, gi_setr, gi_setl, gi_setrow, gr_seti, gr_setr, gr_setl, gr_setrow, gl_seti, gl_setr, gl_setl, gl_setrow, tg_seti, tg_setr, tg_setl, tg_setrow, ln_seti, ln_setr, ln_setl, ln_setrow, sz_seti, sz_setr, sz_setl, sz_setrow, sl_seti, sl_setr, sl_setl, sl_setrow, tg_alc, sz_al, e3, show ((33 + 15 : Nat)) = 48 from rfl, z8, z4, z6, z7, k8, k4, k6, k7, m8, m4, m6, m7, show ((2 : Nat) = 48) = False from eq_false (by decide), show ((2 : Nat) = 48 + 1) = False from eq_false (by decide), show ((2 : Nat) = 48 + 1 + 1) = False from eq_false (by decide), show ((2 : Nat) = 48 + 1 + 1 + 1) = False from eq_false (by decide), show ((2 : Nat) = 48 + 1 + 1 + 1 + 1) = False from eq_false (by decide), true_or, or_true, aft_some, Option.toList_some, Option.toList_none, List.cons_append, List.nil_append, br0, br1, br2, br3, zr01, zr02, n10, n01, ne_eq, not_true_eq_false, not_false_eq_true, if_true, if_false, true_and, and_true, and_self]
    rfl
  have f1 : NW (fun c => c = 2) μ3 (setr μ3 2 2 33) := NW.sr hu3 rfl
  have f2 : NW (fun c => c = 2) (setr μ3 2 2 33) (seti (setr μ3 2 2 33) 2 3 0) := NW.si f1.2.2.2 rfl
  have f3 : NW (fun c => c = 2) (seti (setr μ3 2 2 33) 2 3 0) (alloc (seti (setr μ3 2 2 33) 2 3 0) 54 8 8) := NW.al f2.2.2.2
  have f4' : NW (fun c => c = 2) (alloc (seti (setr μ3 2 2 33) 2 3 0) 54 8 8) (setr (alloc (seti (setr μ3 2 2 33) 2 3 0) 54 8 8) 2 4 48) := NW.sr f3.2.2.2 rfl
  have f5' : NW (fun c => c = 2) (setr (alloc (seti (setr μ3 2 2 33) 2 3 0) 54 8 8) 2 4 48) (alloc (setr (alloc (seti (setr μ3 2 2 33) 2 3 0) 54 8 8) 2 4 48) 50 4 4) := NW.al f4'.2.2.2
  have f6' : NW (fun c => c = 2) (alloc (setr (alloc (seti (setr μ3 2 2 33) 2 3 0) 54 8 8) 2 4 48) 50 4 4) (setr (alloc (setr (alloc (seti (setr μ3 2 2 33) 2 3 0) 54 8 8) 2 4 48) 50 4 4) 2 5 49) := NW.sr f5'.2.2.2 rfl
  have f7' : NW (fun c => c = 2) (setr (alloc (setr (alloc (seti (setr μ3 2 2 33) 2 3 0) 54 8 8) 2 4 48) 50 4 4) 2 5 49) (alloc (setr (alloc (setr (alloc (seti (setr μ3 2 2 33) 2 3 0) 54 8 8) 2 4 48) 50 4 4) 2 5 49) 50 6 6) := NW.al f6'.2.2.2
  have f8' : NW (fun c => c = 2) (alloc (setr (alloc (setr (alloc (seti (setr μ3 2 2 33) 2 3 0) 54 8 8) 2 4 48) 50 4 4) 2 5 49) 50 6 6) (setr (alloc (setr (alloc (setr (alloc (seti (setr μ3 2 2 33) 2 3 0) 54 8 8) 2 4 48) 50 4 4) 2 5 49) 50 6 6) 2 6 50) := NW.sr f7'.2.2.2 rfl
  have f9' : NW (fun c => c = 2) (setr (alloc (setr (alloc (setr (alloc (seti (setr μ3 2 2 33) 2 3 0) 54 8 8) 2 4 48) 50 4 4) 2 5 49) 50 6 6) 2 6 50) (alloc (setr (alloc (setr (alloc (setr (alloc (seti (setr μ3 2 2 33) 2 3 0) 54 8 8) 2 4 48) 50 4 4) 2 5 49) 50 6 6) 2 6 50) 50 7 7) := NW.al f8'.2.2.2
  have f10' : NW (fun c => c = 2) (alloc (setr (alloc (setr (alloc (setr (alloc (seti (setr μ3 2 2 33) 2 3 0) 54 8 8) 2 4 48) 50 4 4) 2 5 49) 50 6 6) 2 6 50) 50 7 7) (setr (alloc (setr (alloc (setr (alloc (setr (alloc (seti (setr μ3 2 2 33) 2 3 0) 54 8 8) 2 4 48) 50 4 4) 2 5 49) 50 6 6) 2 6 50) 50 7 7) 2 7 51) := NW.sr f9'.2.2.2 rfl
  have f11' : NW (fun c => c = 2) (setr (alloc (setr (alloc (setr (alloc (setr (alloc (seti (setr μ3 2 2 33) 2 3 0) 54 8 8) 2 4 48) 50 4 4) 2 5 49) 50 6 6) 2 6 50) 50 7 7) 2 7 51) (alloc (setr (alloc (setr (alloc (setr (alloc (setr (alloc (seti (setr μ3 2 2 33) 2 3 0) 54 8 8) 2 4 48) 50 4 4) 2 5 49) 50 6 6) 2 6 50) 50 7 7) 2 7 51) 50 7 7) := NW.al f10'.2.2.2
  have f12' : NW (fun c => c = 2) (alloc (setr (alloc (setr (alloc (setr (alloc (setr (alloc (seti (setr μ3 2 2 33) 2 3 0) 54 8 8) 2 4 48) 50 4 4) 2 5 49) 50 6 6) 2 6 50) 50 7 7) 2 7 51) 50 7 7) μ4 := by rw [q1]; exact NW.sr f11'.2.2.2 rfl
  have nB : NW (fun c => c = 2) μ3 μ4 := f1.tr (f2.tr (f3.tr (f4'.tr (f5'.tr (f6'.tr (f7'.tr (f8'.tr (f9'.tr (f10'.tr (f11'.tr f12'))))))))))
  have s4 : sz μ4 = 53 := by rw [q1]; show sz μ3 + 1 + 1 + 1 + 1 + 1 = 53; omega
  have l4 : sl μ4 = sl μ3 + 32 := by rw [q1]; rfl
  have T4 : ∀ c, tg μ4 c = if c = 52 then 50 else if c = 51 then 50 else if c = 50 then 50 else if c = 49 then 50 else if c = 48 then 54 else tg μ3 c := fun c => by
    rw [q1]
    simp only [tg_setr, tg_seti, tg_alc, sz_setr, sz_seti, sz_al, e3, Nat.reduceAdd]
  have L4 : ∀ c, ln μ4 c = if c = 52 then 7 else if c = 51 then 7 else if c = 50 then 6 else if c = 49 then 4 else if c = 48 then 8 else ln μ3 c := fun c => by
    rw [q1]
    simp only [ln_setr, ln_seti, ln_alc, sz_setr, sz_seti, sz_al, e3, Nat.reduceAdd]
  have G4 : gi μ4 2 3 = 0 := by
    rw [q1]
    simp only [gi_setr, gi_alc, sz_setr, sz_seti, sz_al, e3, Nat.reduceAdd, Nat.reduceEqDiff, if_false, gi_seti, and_self, if_true]
  have R4 : ∀ j, gr μ4 2 j = if j = 8 then 52 else if j = 7 then 51 else if j = 6 then 50 else if j = 5 then 49 else if j = 4 then 48 else if j = 2 then 33 else gr μ3 2 j := fun j => by
    rw [q1]
    simp only [gr_setr, gr_alc, gr_seti, sz_setr, sz_seti, sz_al, e3, Nat.reduceAdd, Nat.reduceEqDiff, if_false, true_and]
  have hu4 := nB.2.2.2
  obtain ⟨μ5, g1, g2, g3, g4, g5⟩ := f77_lp (d := d + 1) 8 0 μ4 rfl s4 hu4 (by rw [T4]; simp only [Nat.reduceEqDiff, if_false]; exact t3) (by rw [R4]; rfl) (by rw [T4]; rfl) (by rw [L4]; rfl) (fun e' he' => by omega)
  have t4 : tg μ4 2 = 11 := by rw [T4]; simp only [Nat.reduceEqDiff, if_false]; exact t3
  have x3 := (b6'.nw nB hu3 (by omega) (by omega) (fun c e => ⟨by omega, by omega, by rw [e, t3]; rfl⟩)).nw g2 hu4 (by omega) (by omega) (fun c e => ⟨by omega, by omega, by rw [e, T4]; rfl⟩)
  have x18 := (b7'.nw nB hu3 (by omega) (by omega) (fun c e => ⟨by omega, by omega, by rw [e, t3]; rfl⟩)).nw g2 hu4 (by omega) (by omega) (fun c e => ⟨by omega, by omega, by rw [e, T4]; rfl⟩)
  have x33 := (e5.nw nB hu3 (by omega) (by omega) (fun c e => ⟨by omega, by omega, by rw [e, t3]; rfl⟩)).nw g2 hu4 (by omega) (by omega) (fun c e => ⟨by omega, by omega, by rw [e, T4]; rfl⟩)
  have R5 : gr μ5 2 = gr μ4 2 := (g2.2.2.1 2 (by omega) (by omega)).2
  have T5 : ∀ c, c < 53 → tg μ5 c = tg μ4 c ∧ ln μ5 c = ln μ4 c := fun c hc => g2.2.1 c (by omega)
  refine ⟨μ5, ?_, nA.tr (nB.tr ⟨g2.1, g2.2.1, fun c hc hn => ?_, g2.2.2.2⟩) , g3, by omega, by omega, ?_, ?_, ⟨x3, x18, x33⟩, fun e he => (g5 e he).2⟩
  · show rn (d + 2) 77 0 [some (Sum.inr (Sum.inl (2))), none] [] μ = _
    rw [E0]
    exact g1
  · sorry
  · refine ⟨by rw [(T5 2 (by omega)).1]; exact t4, by rw [R5, R4]; simp only [Nat.reduceEqDiff, if_false]; rw [gr0]; rfl, by rw [R5, R4]; simp only [Nat.reduceEqDiff, if_false]; rw [gr0]; rfl, by rw [R5, R4]; rfl, by rw [R5, R4]; rfl, by rw [R5, R4]; rfl, by rw [R5, R4]; rfl, by rw [R5, R4]; rfl, by rw [R5, R4]; rfl, ⟨by rw [(T5 48 (by omega)).1, T4]; rfl, by rw [(T5 49 (by omega)).1, T4]; rfl, by rw [(T5 50 (by omega)).1, T4]; rfl, by rw [(T5 51 (by omega)).1, T4]; rfl, by rw [(T5 52 (by omega)).1, T4]; rfl⟩, ⟨by rw [(T5 48 (by omega)).2, L4]; rfl, by rw [(T5 49 (by omega)).2, L4]; rfl, by rw [(T5 50 (by omega)).2, L4]; rfl, by rw [(T5 51 (by omega)).2, L4]; rfl, by rw [(T5 52 (by omega)).2, L4]; rfl⟩, fun e he => ?_⟩
    obtain ⟨y1, y2, y3, y4, y5, y6, y7, y8⟩ := g5 e he
    exact ⟨y1, y2, y4, y6, y7⟩
  · rw [(g2.2.2.1 2 (by omega) (by omega)).1]; exact G4
