/-! SPECS ZO: a frame with new cells -/
/-- the cells grow, the script stays -/
def SL1 (μ μ' : SMem) : Prop := sz μ ≤ sz μ' ∧ gi μ' 1 = gi μ 1 ∧ ln μ' 1 = ln μ 1
theorem SL1.rf {μ : SMem} : SL1 μ μ := ⟨Nat.le_refl _, rfl, rfl⟩
theorem SL1.tr {μ μ1 μ2 : SMem} (h : SL1 μ μ1) (h' : SL1 μ1 μ2) : SL1 μ μ2 := ⟨Nat.le_trans h.1 h'.1, h'.2.1.trans h.2.1, h'.2.2.trans h.2.2⟩
def SG (P Q : Nat → Nat → Prop) (μ μ' : SMem) : Prop := (∀ c, tg μ c ≠ 99 → tg μ' c = tg μ c ∧ ln μ' c = ln μ c) ∧ (∀ c j, tg μ c ≠ 99 → ¬ P c j → gi μ' c j = gi μ c j) ∧ (∀ c j, tg μ c ≠ 99 → ¬ Q c j → gr μ' c j = gr μ c j) ∧ SL1 μ μ' ∧ sl μ ≤ sl μ' ∧ ∀ c, sz μ' ≤ c → tg μ' c = 99
def NoC : Nat → Nat → Prop := fun _ _ => False
theorem SG.rf {P Q : Nat → Nat → Prop} {μ : SMem} (h : ∀ c, sz μ ≤ c → tg μ c = 99) : SG P Q μ μ := ⟨fun _ _ => ⟨rfl, rfl⟩, fun _ _ _ _ => rfl, fun _ _ _ _ => rfl, SL1.rf, Nat.le_refl _, h⟩
theorem SG.tr {P Q : Nat → Nat → Prop} {μ μ1 μ2 : SMem} (h : SG P Q μ μ1) (h' : SG P Q μ1 μ2) : SG P Q μ μ2 := by
  obtain ⟨a1, a2, a3, a4, a5, a6⟩ := h
  obtain ⟨b1, b2, b3, b4, b5, b6⟩ := h'
  have t : ∀ c, tg μ c ≠ 99 → tg μ1 c ≠ 99 := fun c hc => by rw [(a1 c hc).1]; exact hc
  exact ⟨fun c hc => ⟨(b1 c (t c hc)).1.trans (a1 c hc).1, (b1 c (t c hc)).2.trans (a1 c hc).2⟩, fun c j hc hp => (b2 c j (t c hc) hp).trans (a2 c j hc hp), fun c j hc hq => (b3 c j (t c hc) hq).trans (a3 c j hc hq), a4.tr b4, Nat.le_trans a5 b5, b6⟩
theorem SG.wk {P Q P' Q' : Nat → Nat → Prop} {μ μ1 : SMem} (h : SG P Q μ μ1) (hp : ∀ c j, P c j → P' c j) (hq : ∀ c j, Q c j → Q' c j) : SG P' Q' μ μ1 := by
  obtain ⟨a1, a2, a3, a4, a5, a6⟩ := h
  exact ⟨a1, fun c j hc hn => a2 c j hc (fun h => hn (hp c j h)), fun c j hc hn => a3 c j hc (fun h => hn (hq c j h)), a4, a5, a6⟩
theorem SG.seti {P Q : Nat → Nat → Prop} {μ : SMem} {a k : Nat} {x : Int32} (h : ∀ c, sz μ ≤ c → tg μ c = 99) (ha : P a k) (h1 : a ≠ 1 := by omega) : SG P Q μ (seti μ a k x) := by
  refine ⟨fun _ _ => ⟨rfl, rfl⟩, fun c j _ hn => ?_, fun _ _ _ _ => rfl, ⟨Nat.le_refl _, funext fun j => by rw [gi_seti, if_neg (fun e => h1 e.1.symm)], rfl⟩, Nat.le_refl _, h⟩
  rw [gi_seti, if_neg (fun e => hn (by rw [e.1, e.2]; exact ha))]
theorem SG.setr {P Q : Nat → Nat → Prop} {μ : SMem} {a k : Nat} {x : Nat} (h : ∀ c, sz μ ≤ c → tg μ c = 99) (ha : Q a k) : SG P Q μ (setr μ a k x) := by
  refine ⟨fun _ _ => ⟨rfl, rfl⟩, fun _ _ _ _ => rfl, fun c j _ hn => ?_, ⟨Nat.le_refl _, rfl, rfl⟩, Nat.le_refl _, h⟩
  rw [gr_setr, if_neg (fun e => hn (by rw [e.1, e.2]; exact ha))]
theorem SG.al {P Q : Nat → Nat → Prop} {μ : SMem} {t n w : Nat} (h : ∀ c, sz μ ≤ c → tg μ c = 99) (h2 : 2 ≤ sz μ) : SG P Q μ (alloc μ t n w) := by
  have ne : ∀ c, tg μ c ≠ 99 → c ≠ μ.1.1 := fun c hc e => hc (h c (by rw [e]; exact Nat.le_refl _))
  refine ⟨fun c hc => ⟨?_, ?_⟩, fun c j hc _ => ?_, fun c j hc _ => ?_, ⟨Nat.le_succ _, ?_, ?_⟩, Nat.le_add_right _ _, fun c hc => ?_⟩
  · show up1 μ.2.1 μ.1.1 t c = _; rw [up1, if_neg (ne c hc)]; rfl
  · show up1 μ.2.2.1 μ.1.1 n c = _; rw [up1, if_neg (ne c hc)]; rfl
  · show up1 μ.2.2.2.1 μ.1.1 (fun _ => 0) c j = _; rw [up1, if_neg (ne c hc)]; rfl
  · show up1 μ.2.2.2.2.1 μ.1.1 (fun _ => 0) c j = _; rw [up1, if_neg (ne c hc)]; rfl
  · have h3 : 2 ≤ μ.1.1 := h2
    show up1 μ.2.2.2.1 μ.1.1 (fun _ => 0) 1 = _; rw [up1, if_neg (by omega)]; rfl
  · have h3 : 2 ≤ μ.1.1 := h2
    show up1 μ.2.2.1 μ.1.1 n 1 = _; rw [up1, if_neg (by omega)]; rfl
  · have h1 : μ.1.1 + 1 ≤ c := hc
    show up1 μ.2.1 μ.1.1 t c = 99
    rw [up1, if_neg (by omega)]
    exact h c (by show μ.1.1 ≤ c; omega)
theorem SG.sb {P : Nat → Prop} {P' Q : Nat → Nat → Prop} {μ μ' : SMem} (h : ∀ c, sz μ ≤ c → tg μ c = 99) (hs : SB P μ μ') (hp : ∀ c j, P c → P' c j) (h1 : ¬ P 1 := by first | omega | (intro q; dsimp only at q; omega)) : SG P' Q μ μ' := by
  obtain ⟨a1, a2, a3, a4, a5, a6, a7⟩ := hs
  exact ⟨fun c _ => ⟨by rw [a1], by rw [a2]⟩, fun c j _ hn => by rw [a7 c (fun e => hn (hp c j e))], fun c j _ _ => by rw [a3], ⟨by rw [a5]; exact Nat.le_refl _, a7 1 h1, by rw [a2]⟩, by rw [a6]; exact Nat.le_refl _, fun c hc => by rw [a1]; rw [a5] at hc; exact h c hc⟩
theorem K1.sg {P Q : Nat → Nat → Prop} {μ μ1 : SMem} (h : SG P Q μ μ1) : K1 μ μ1 := ⟨h.2.2.2.1.2.1, h.2.2.2.1.2.2, fun q => (h.1 69 q).1⟩
theorem rd99 {t : Nat} (h : isRd t = true) : t ≠ 99 := by intro e; subst e; exact absurd h (by decide)
theorem MA.sg {P Q : Nat → Nat → Prop} {μ μ' : SMem} (h : MA μ) (hs : SG P Q μ μ') (hq : ∀ j, ¬ Q 69 j) : MA μ' := by
  obtain ⟨m1, m2, m3, m4, m5, m6, m7, m8, m9, m10, m11, m12, m13, m14, ⟨t0, t1, t2, t3, t4, t5, t6, t7, t8, t9, t10, t11, t12⟩, l0, l1, l2, l3, l4, l5, l6, l7, l8, l9, l10, l11, l12⟩ := h
  obtain ⟨a1, a2, a3, a4, a5, a6⟩ := hs
  have k69 := a1 69 (by rw [m1]; decide)
  have kr : ∀ j, gr μ' 69 j = gr μ 69 j := fun j => a3 69 j (by rw [m1]; decide) (hq j)
  have kt : ∀ c, tg μ c = 50 → tg μ' c = 50 := fun c e => by rw [(a1 c (by rw [e]; decide)).1]; exact e
  have kl : ∀ c, tg μ c = 50 → ln μ' c = ln μ c := fun c e => (a1 c (by rw [e]; decide)).2
  exact ⟨by rw [k69.1]; exact m1, by rw [kr]; exact m2, by rw [kr]; exact m3, by rw [kr]; exact m4, by rw [kr]; exact m5, by rw [kr]; exact m6, by rw [kr]; exact m7, by rw [kr]; exact m8, by rw [kr]; exact m9, by rw [kr]; exact m10, by rw [kr]; exact m11, by rw [kr]; exact m12, by rw [kr]; exact m13, by rw [kr]; exact m14, ⟨kt _ t0, kt _ t1, kt _ t2, kt _ t3, kt _ t4, kt _ t5, kt _ t6, kt _ t7, kt _ t8, kt _ t9, kt _ t10, kt _ t11, kt _ t12⟩, by rw [kl _ t0]; exact l0, by rw [kl _ t1]; exact l1, by rw [kl _ t2]; exact l2, by rw [kl _ t3]; exact l3, by rw [kl _ t4]; exact l4, by rw [kl _ t5]; exact l5, by rw [kl _ t6]; exact l6, by rw [kl _ t7]; exact l7, by rw [kl _ t8]; exact l8, by rw [kl _ t9]; exact l9, by rw [kl _ t10]; exact l10, by rw [kl _ t11]; exact l11, by rw [kl _ t12]; exact l12⟩
theorem CAo.sg {P Q : Nat → Nat → Prop} {μ μ' : SMem} (h : CAo μ) (hs : SG P Q μ μ') (hq : ∀ c j, Q c j → c ≠ 2 ∧ c ≠ 48 ∧ (j ≠ 4 ∨ c < 53)) : CAo μ' := by
  obtain ⟨c1, c2, c3, c4, c5, c6, c7, c8, c9, ⟨t1, t2, t3, t4, t5⟩, ⟨q1, q2, q3, q4, q5⟩, hh⟩ := h
  obtain ⟨a1, a2, a3, a4, a5, a6⟩ := hs
  have kr : ∀ j, gr μ' 2 j = gr μ 2 j := fun j => a3 2 j (by rw [c1]; decide) (fun e => (hq _ _ e).1 rfl)
  have kt : ∀ c, tg μ c = 50 → tg μ' c = 50 := fun c e => by rw [(a1 c (by rw [e]; decide)).1]; exact e
  have kl : ∀ c, tg μ c = 50 → ln μ' c = ln μ c := fun c e => (a1 c (by rw [e]; decide)).2
  have k48 := a1 48 (by rw [t1]; decide)
  refine ⟨by rw [(a1 2 (by rw [c1]; decide)).1]; exact c1, by rw [kr]; exact c2, by rw [kr]; exact c3, by rw [kr]; exact c4, by rw [kr]; exact c5, by rw [kr]; exact c6, by rw [kr]; exact c7, by rw [kr]; exact c8, by rw [kr]; exact c9, ⟨by rw [k48.1]; exact t1, kt _ t2, kt _ t3, kt _ t4, kt _ t5⟩, ⟨by rw [k48.2]; exact q1, by rw [kl _ t2]; exact q2, by rw [kl _ t3]; exact q3, by rw [kl _ t4]; exact q4, by rw [kl _ t5]; exact q5⟩, fun e he => ?_⟩
  obtain ⟨x1, x2, x3, x4, x5⟩ := hh e he
  refine ⟨?_, ?_, ?_, kt _ x4, by rw [kl _ x4]; exact x5⟩
  · rw [a3 48 e (by rw [t1]; decide) (fun h => (hq _ _ h).2.1 rfl)]; exact x1
  · rw [(a1 _ (by rw [x2]; decide)).1]; exact x2
  · rw [a3 _ 4 (by rw [x2]; decide) (fun h => (hq _ _ h).2.2.elim (fun q => q rfl) (fun q => by omega))]; exact x3
theorem BkA.sg {P Q : Nat → Nat → Prop} {μ μ' : SMem} {a : Nat} (h : BkA μ a) (hs : SG P Q μ μ') (hq : ∀ j, ¬ Q a j) : BkA μ' a := by
  obtain ⟨x1, x2, x3, x4, x5, x6, x7⟩ := h
  obtain ⟨a1, a2, a3, a4, a5, a6⟩ := hs
  have n1 : tg μ a ≠ 99 := by rw [x1]; decide
  have n2 : tg μ (a + 1) ≠ 99 := by rw [x4]; decide
  have n3 : tg μ (a + 2) ≠ 99 := by rw [x6]; decide
  exact ⟨by rw [(a1 _ n1).1]; exact x1, by rw [a3 _ 0 n1 (hq 0)]; exact x2, by rw [a3 _ 1 n1 (hq 1)]; exact x3, by rw [(a1 _ n2).1]; exact x4, by rw [(a1 _ n2).2]; exact x5, by rw [(a1 _ n3).1]; exact x6, by rw [(a1 _ n3).2]; exact x7⟩
theorem TwS.sg {P Q : Nat → Nat → Prop} {μ μ' : SMem} {T : Nat} (h : TwS μ T) (hs : SG P Q μ μ') (hq : ∀ c j, Q c j → c < T ∨ T + 15 ≤ c) : TwS μ' T := by
  obtain ⟨s1, s2, s3, s4, s5, s6, s7, s8, s9⟩ := h
  have hs0 := hs
  obtain ⟨a1, a2, a3, a4, a5, a6⟩ := hs
  have n1 : tg μ T ≠ 99 := by rw [s1]; decide
  have n2 : tg μ (T + 1) ≠ 99 := by rw [s4]; decide
  have n3 : tg μ (T + 2) ≠ 99 := by rw [s6]; decide
  have kq : ∀ c j, T ≤ c → c ≤ T + 14 → ¬ Q c j := fun c j h1 h2 h => by have := hq c j h; omega
  refine ⟨by rw [(a1 _ n1).1]; exact s1, by rw [a3 _ 0 n1 (kq _ _ (by omega) (by omega))]; exact s2, by rw [a3 _ 1 n1 (kq _ _ (by omega) (by omega))]; exact s3, by rw [(a1 _ n2).1]; exact s4, by rw [(a1 _ n2).2]; exact s5, by rw [(a1 _ n3).1]; exact s6, by rw [(a1 _ n3).2]; exact s7, fun b hb => ⟨?_, (s8 b hb).2.sg hs0 (fun j => kq _ _ (by omega) (by omega))⟩, fun r hr => ?_⟩
  · rw [a3 _ b n2 (kq _ _ (by omega) (by omega))]; exact (s8 b hb).1
  · rw [a3 _ r n3 (kq _ _ (by omega) (by omega))]
    rcases s9 r hr with e | e
    · exact Or.inl e
    · right; rw [(a1 _ (rd99 e)).1]; exact e
theorem RdA.sg {P Q : Nat → Nat → Prop} {μ μ' : SMem} {n k f : Nat} (h : RdA μ n k f) (hs : SG P Q μ μ') (hp : ¬ P n 0) : RdA μ' n k f := by
  have hr := rd99 h.rd
  exact ⟨by rw [(hs.1 n hr).1]; exact h.1, by rw [hs.2.1 n 0 hr hp]; exact h.2.1, h.2.2⟩
theorem TwC.sg {P Q : Nat → Nat → Prop} {μ μ' : SMem} {T : Nat} {A : AT} (h : TwC μ T A) (hs : SG P Q μ μ') (hp : ∀ c j, P c j → (c < T ∨ T + 15 ≤ c) ∧ isRd (tg μ c) = false) (hq : ∀ c j, Q c j → c < T ∨ T + 15 ≤ c) : TwC μ' T A := by
  obtain ⟨hS, t2, t3, t4, t5, t6⟩ := h
  have hS0 := hS
  obtain ⟨s1, s2, s3, s4, s5, s6, s7, s8, s9⟩ := hS
  have kp : ∀ c j, T ≤ c → c ≤ T + 14 → ¬ P c j := fun c j h1 h2 h => by have := (hp c j h).1; omega
  have n1 : tg μ T ≠ 99 := by rw [s1]; decide
  have n3 : tg μ (T + 2) ≠ 99 := by rw [s6]; decide
  refine ⟨hS0.sg hs hq, ?_, ?_, ?_, fun b hb => ?_, fun r hr => ?_⟩
  · rw [hs.2.1 T 2 n1 (kp _ _ (by omega) (by omega))]; exact t2
  · rw [hs.2.1 T 3 n1 (kp _ _ (by omega) (by omega))]; exact t3
  · rw [hs.2.1 T 4 n1 (kp _ _ (by omega) (by omega))]; exact t4
  · obtain ⟨x1, x2, x3, x4⟩ := t5 b hb
    obtain ⟨y1, y2, y3, y4, y5, y6, y7⟩ := (s8 b hb).2
    have m1 : tg μ (T + 3 + 3 * b) ≠ 99 := by rw [y1]; decide
    have m2 : tg μ (T + 3 + 3 * b + 1) ≠ 99 := by rw [y4]; decide
    have m3 : tg μ (T + 3 + 3 * b + 2) ≠ 99 := by rw [y6]; decide
    refine ⟨?_, ?_, fun p hp9 => ?_, fun p hp9 => ?_⟩
    · rw [hs.2.1 _ 2 m1 (kp _ _ (by omega) (by omega))]; exact x1
    · rw [hs.2.1 _ 3 m1 (kp _ _ (by omega) (by omega))]; exact x2
    · rw [hs.2.1 _ p m2 (kp _ _ (by omega) (by omega))]; exact x3 p hp9
    · rw [hs.2.1 _ p m3 (kp _ _ (by omega) (by omega))]; exact x4 p hp9
  · obtain ⟨y1, y2⟩ := t6 r hr
    have hqr : ¬ Q (T + 2) r := fun h => by have := hq _ _ h; omega
    rw [hs.2.2.1 _ r n3 hqr]
    exact ⟨y1, y2.sg hs (fun h => by have := (hp _ _ h).2; rw [y2.rd] at this; cases this)⟩
theorem ShC.sg {P Q : Nat → Nat → Prop} {μ μ' : SMem} {e : Nat} {H : HT} (h : ShC μ e H) (he : e < 8) (hc : CAo μ) (hs : SG P Q μ μ') (hp : ∀ c j, P c j → c ≠ 53 + 2 * e ∧ c ≠ 54 + 2 * e ∧ isRd (tg μ c) = false) (hq : ∀ c j, Q c j → c ≠ 53 + 2 * e) : ShC μ' e H := by
  obtain ⟨x1, x2, x3, x4, x5⟩ := hc.2.2.2.2.2.2.2.2.2.2.2 e he
  have n1 : tg μ (53 + 2 * e) ≠ 99 := by rw [x2]; decide
  have n2 : tg μ (54 + 2 * e) ≠ 99 := by rw [x4]; decide
  have k1 : ∀ j, gi μ' (53 + 2 * e) j = gi μ (53 + 2 * e) j := fun j => hs.2.1 _ j n1 (fun h => (hp _ _ h).1 rfl)
  have k2 : gr μ' (53 + 2 * e) 0 = gr μ (53 + 2 * e) 0 := hs.2.2.1 _ 0 n1 (fun h => hq _ _ h rfl)
  obtain ⟨h1, h2, h3, h4⟩ := h
  refine ⟨fun i hi => ?_, fun q => ?_, fun q => ?_, fun q => ?_⟩
  · rw [hs.2.1 _ i n2 (fun h => (hp _ _ h).2.1 rfl)]; exact h1 i hi
  · rw [k1, k1, k1, k2]; exact h2 q
  · rw [k1, k2]
    obtain ⟨a, b, c⟩ := h3 q
    exact ⟨a, b, c.sg hs (fun h => by have := (hp _ _ h).2.2; rw [c.rd] at this; cases this)⟩
  · rw [k1, k2]; exact h4 q
