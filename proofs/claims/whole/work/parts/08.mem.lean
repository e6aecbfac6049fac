/-! STEP FUNCTIONS over memory, each with the proof that the machine does so -/
def s_getI (P : Nat → Bool) (k : Nat) : SIns := fun i L st μ => match st with | .inr (.inl a) :: st => if P (tg μ a) = true then some (.inl (i + 1, L, .inl (gi μ a k) :: st, μ)) else none | _ => none
def s_getR (P : Nat → Bool) (k : Nat) : SIns := fun i L st μ => match st with | .inr (.inl a) :: st => if P (tg μ a) = true then some (.inl (i + 1, L, .inr (.inl (gr μ a k)) :: st, μ)) else none | _ => none
def s_putI (t k : Nat) : SIns := fun i L st μ => match st with | .inl x :: .inr (.inl a) :: st => if tg μ a = t then some (.inl (i + 1, L, st, seti μ a k x)) else none | _ => none
def s_putZ (t k : Nat) : SIns := fun i L st μ => match st with | .inl x :: .inr (.inl a) :: st => if tg μ a = t ∧ (x = 0 ∨ x = 1) then some (.inl (i + 1, L, st, seti μ a k x)) else none | _ => none
def s_putR (t k : Nat) : SIns := fun i L st μ => match st with | .inr (.inl x) :: .inr (.inl a) :: st => if tg μ a = t then some (.inl (i + 1, L, st, setr μ a k x)) else none | _ => none
def s_iald : SIns := fun i L st μ => match st with | .inl j :: .inr (.inl a) :: st => if tg μ a = 50 ∧ 0 ≤ j ∧ j.toNatClampNeg < ln μ a then some (.inl (i + 1, L, .inl (gi μ a j.toNatClampNeg) :: st, μ)) else none | _ => none
def s_iast : SIns := fun i L st μ => match st with | .inl x :: .inl j :: .inr (.inl a) :: st => if tg μ a = 50 ∧ 0 ≤ j ∧ j.toNatClampNeg < ln μ a then some (.inl (i + 1, L, st, seti μ a j.toNatClampNeg x)) else none | _ => none
def s_lald : SIns := fun i L st μ => match st with | .inl j :: .inr (.inl a) :: st => if tg μ a = 51 ∧ 0 ≤ j ∧ j.toNatClampNeg < ln μ a then some (.inl (i + 1, L, .inr (.inr (gl μ a j.toNatClampNeg)) :: st, μ)) else none | _ => none
def s_last : SIns := fun i L st μ => match st with | .inr (.inr x) :: .inl j :: .inr (.inl a) :: st => if tg μ a = 51 ∧ 0 ≤ j ∧ j.toNatClampNeg < ln μ a then some (.inl (i + 1, L, st, setl μ a j.toNatClampNeg x)) else none | _ => none
def s_aald (t : Nat) : SIns := fun i L st μ => match st with | .inl j :: .inr (.inl a) :: st => if tg μ a = t ∧ 0 ≤ j ∧ j.toNatClampNeg < ln μ a then some (.inl (i + 1, L, .inr (.inl (gr μ a j.toNatClampNeg)) :: st, μ)) else none | _ => none
def s_aast (t : Nat) (P : Nat → Bool) : SIns := fun i L st μ => match st with | .inr (.inl v) :: .inl j :: .inr (.inl a) :: st => if tg μ a = t ∧ 0 ≤ j ∧ j.toNatClampNeg < ln μ a ∧ (v = 0 ∨ P (tg μ v) = true) then some (.inl (i + 1, L, st, setr μ a j.toNatClampNeg v)) else none | _ => none
def s_alen : SIns := fun i L st μ => match st with | .inr (.inl a) :: st => if 50 ≤ tg μ a ∧ tg μ a ≤ 54 then some (.inl (i + 1, L, .inl (Int32.ofNat (ln μ a)) :: st, μ)) else none | _ => none
def s_newarr (t : Nat) : SIns := fun i L st μ => match st with | .inl n :: st => if 0 ≤ n ∧ n.toNatClampNeg ≤ 1000 then some (.inl (i + 1, L, .inr (.inl (sz μ)) :: st, alloc μ t n.toNatClampNeg n.toNatClampNeg)) else none | _ => none
def s_new (t w : Nat) : SIns := fun i L st μ => some (.inl (i + 1, L, .inr (.inl (sz μ)) :: st, alloc μ t 0 w))
def s_objInit : SIns := fun i L st μ => match st with | .inr (.inl a) :: st => if a = 0 then none else if st.length ≤ 4 then some (.inl (i + 1, L, st, μ)) else none | _ => none
def s_acopy : SIns := fun i L st μ => match st with
  | .inl n :: .inl dp :: .inr (.inl a) :: .inl sp :: .inr (.inl a0) :: st =>
    if tg μ a0 = 50 ∧ tg μ a = 50 ∧ 0 ≤ sp ∧ 0 ≤ dp ∧ 0 ≤ n ∧ sp.toNatClampNeg + n.toNatClampNeg ≤ ln μ a0 ∧ dp.toNatClampNeg + n.toNatClampNeg ≤ ln μ a ∧ st.length ≤ 4 then
      some (.inl (i + 1, L, st, setrow μ a (va_cpy (gi μ a0) (gi μ a) sp.toNatClampNeg dp.toNatClampNeg n.toNatClampNeg)))
    else none
  | _ => none
def s_sld : SIns := fun i L st μ => match st with | .inl j :: .inr (.inl a) :: st => if a = 1 ∧ 0 ≤ j ∧ j.toNatClampNeg < ln μ 1 then some (.inl (i + 1, L, .inl (gi μ 1 j.toNatClampNeg) :: st, μ)) else none | _ => none
def s_slen : SIns := fun i L st μ => match st with | .inr (.inl a) :: st => if a = 1 then some (.inl (i + 1, L, .inl (Int32.ofNat (ln μ 1)) :: st, μ)) else none | _ => none
/-- where field k of class t lies, for the pool entry idx of own -/
def sm_fd (own : String) (idx : Nat) (ref : String) (t k : Nat) : Prop := ∃ C T N, vwCl[t]? = some (C, T, N) ∧ k < N ∧ (∀ w ∈ u_ws C T N, w ∈ lw_g) ∧ Cond.fieldLink own idx ref (T k).2.1 (T k).2.2.1 ∈ lw_g ∧ (ref = (T k).1 ∨ Cond.sameField ref (T k).1 (T k).2.1 (T k).2.2.1 ∈ lw_g)
/-- and that it may be written -/
def sm_fdp (own : String) (idx : Nat) (ref : String) (t k : Nat) (fin : Bool) (ty : FieldType) : Prop := ∃ (C : String) (T : u_T) (N : Nat) (ty0 : Nat → FieldType), vwCl[t]? = some (C, T, N) ∧ k < N ∧ (∀ w ∈ u_ws C T N, w ∈ lw_g) ∧ Cond.fieldLink own idx ref (T k).2.1 (T k).2.2.1 ∈ lw_g ∧ ref = (T k).1 ∧
  (∀ k, k < N → parseFieldDescriptor (T k).2.2.1 = some (ty0 k)) ∧ (∀ a, a < N → ∀ b, b < N → a ≠ b → (T a).2.1 ≠ (T b).2.1) ∧ (T k).2.2.2 = fin ∧ parseFieldDescriptor (T k).2.2.1 = some ty ∧ (fin = true → (T k).1 = own)
theorem sm_ref {S b n : Nat} (h : n ≠ 0) : sm_v S b (.inr (.inl n)) = .ref (sm_adr S b n) := by
  show va_rf (sm_rad S b n) = _
  rw [sm_rad, if_neg h]
  rfl
theorem sm_ent_o {S b : Nat} {cA : Nat → ClassId} {μ : SMem} {a t : Nat} (h : tg μ a = t) (ht : t < 50) : sm_ent S b cA μ a = .inr (t, (List.range (sm_nf t)).map (sm_fv S b μ a t)) := by
  unfold sm_ent
  rw [h, if_pos ht]
theorem sm_ent_i {S b : Nat} {cA : Nat → ClassId} {μ : SMem} {a : Nat} (h : tg μ a = 50) : sm_ent S b cA μ a = .inl (cA 0, ln μ a, .inl (gi μ a)) := by
  unfold sm_ent
  rw [h]
  rfl
theorem sm_ent_l {S b : Nat} {cA : Nat → ClassId} {μ : SMem} {a : Nat} (h : tg μ a = 51) : sm_ent S b cA μ a = .inl (cA 1, ln μ a, .inr (.inl (gl μ a))) := by
  unfold sm_ent
  rw [h]
  rfl
theorem sm_ent_r {S b : Nat} {cA : Nat → ClassId} {μ : SMem} {a t : Nat} (h : tg μ a = t) (ht : 52 ≤ t) : sm_ent S b cA μ a = .inl (cA (t - 50), ln μ a, .inr (.inr (.inr (.inr (fun k => sm_rad S b (gr μ a k)))))) := by
  unfold sm_ent
  rw [h, if_neg (by omega), if_neg (by omega), if_neg (by omega)]
theorem up2_ne {α : Type} {f : Nat → Nat → α} {a k : Nat} {x : α} {c : Nat} (h : c ≠ a) : up2 f a k x c = f c := by
  funext j
  unfold up2
  rw [if_neg (fun e => h e.1)]
theorem sm_ent_cg {S b : Nat} {cA : Nat → ClassId} {μ μ' : SMem} {c : Nat} (h1 : tg μ' c = tg μ c) (h2 : ln μ' c = ln μ c) (h3 : gi μ' c = gi μ c) (h4 : gr μ' c = gr μ c) (h5 : gl μ' c = gl μ c) : sm_ent S b cA μ' c = sm_ent S b cA μ c := by
  unfold sm_ent
  rw [h1, h2, h3, h4, h5]
  have : sm_fv S b μ' c (tg μ c) = sm_fv S b μ c (tg μ c) := by
    funext k
    unfold sm_fv
    rw [h3, h4]
  rw [this]
theorem ent_seti {S b : Nat} {cA : Nat → ClassId} {μ : SMem} {a k : Nat} {x : Int32} (c : Nat) (h : c ≠ a) : sm_ent S b cA (seti μ a k x) c = sm_ent S b cA μ c := sm_ent_cg rfl rfl (up2_ne h) rfl rfl
theorem ent_setr {S b : Nat} {cA : Nat → ClassId} {μ : SMem} {a k : Nat} {x : Nat} (c : Nat) (h : c ≠ a) : sm_ent S b cA (setr μ a k x) c = sm_ent S b cA μ c := sm_ent_cg rfl rfl rfl (up2_ne h) rfl
theorem ent_setl {S b : Nat} {cA : Nat → ClassId} {μ : SMem} {a k : Nat} {x : Int64} (c : Nat) (h : c ≠ a) : sm_ent S b cA (setl μ a k x) c = sm_ent S b cA μ c := sm_ent_cg rfl rfl rfl rfl (up2_ne h)
theorem ent_setrow {S b : Nat} {cA : Nat → ClassId} {μ : SMem} {a : Nat} {f : Nat → Int32} (c : Nat) (h : c ≠ a) : sm_ent S b cA (setrow μ a f) c = sm_ent S b cA μ c := sm_ent_cg rfl rfl (by show up1 _ a f c = _; unfold up1; rw [if_neg h]; rfl) rfl rfl
theorem ent_alloc {S b : Nat} {cA : Nat → ClassId} {μ : SMem} {t n w : Nat} (c : Nat) (h : c ≠ sz μ) : sm_ent S b cA (alloc μ t n w) c = sm_ent S b cA μ c := by
  have e : ∀ {α : Type} (f : Nat → α) (x : α), up1 f (sz μ) x c = f c := fun f x => by unfold up1; rw [if_neg h]
  exact sm_ent_cg (e _ _) (e _ _) (e _ _) (e _ _) (e _ _)
theorem gi_seti (μ : SMem) (a k : Nat) (x : Int32) (c j : Nat) : gi (seti μ a k x) c j = if c = a ∧ j = k then x else gi μ c j := rfl
theorem gr_setr (μ : SMem) (a k : Nat) (x : Nat) (c j : Nat) : gr (setr μ a k x) c j = if c = a ∧ j = k then x else gr μ c j := rfl
theorem gl_setl (μ : SMem) (a k : Nat) (x : Int64) (c j : Nat) : gl (setl μ a k x) c j = if c = a ∧ j = k then x else gl μ c j := rfl
theorem fv_seti_ne {S b : Nat} {μ : SMem} {a k t j : Nat} {x : Int32} (hj : j ≠ k) : sm_fv S b (seti μ a k x) a t j = sm_fv S b μ a t j := by
  have e : gi (seti μ a k x) a j = gi μ a j := by rw [gi_seti, if_neg (fun e => hj e.2)]
  unfold sm_fv
  rw [e]
  rfl
theorem fv_setr_ne {S b : Nat} {μ : SMem} {a k t j : Nat} {x : Nat} (hj : j ≠ k) : sm_fv S b (setr μ a k x) a t j = sm_fv S b μ a t j := by
  have e : gr (setr μ a k x) a j = gr μ a j := by rw [gr_setr, if_neg (fun e => hj e.2)]
  unfold sm_fv
  rw [e]
  rfl
theorem fv_seti {S b : Nat} {μ : SMem} {a k t : Nat} {x : Int32} (h : sm_fr t k = false) : sm_fv S b (seti μ a k x) a t k = .int x := by
  unfold sm_fv
  rw [h, gi_seti]
  simp
theorem fv_setr {S b : Nat} {μ : SMem} {a k t : Nat} {x : Nat} (h : sm_fr t k = true) : sm_fv S b (setr μ a k x) a t k = va_rf (sm_rad S b x) := by
  unfold sm_fv
  rw [h, gr_setr]
  simp
section SMMEM
variable {l : Launch} {S b Lx : Nat} {xs : Nat → Int32} {dC : Nat → ClassId} {dI : Nat → Nat → Nat} {cA : Nat → ClassId} {M : Nat → SMeth} {X : Nat → State → Prop} {m : Nat} {pcs : Nat → Nat} {i : Nat}
/-- what isn't there has no tag -/
theorem sm_R.get {μ : SMem} {H : Heap} (h : sm_R S b Lx xs dC dI cA μ H) {a : Nat} (ht : tg μ a ≠ 99) : 2 ≤ a ∧ a < sz μ ∧ a ≠ 0 ∧ ∃ k : Nat, (sm_ws S b cA μ)[k]? = some (sm_adr S b a, sm_ent S b cA μ a) := by
  obtain ⟨h1, h2, h3, h4, h5, h6⟩ := h
  have ha : 2 ≤ a ∧ a < sz μ := by
    by_cases h : 2 ≤ a ∧ a < sz μ
    · exact h
    · exact absurd (h6 a (by omega)) ht
  exact ⟨ha.1, ha.2, by omega, sm_ws_get ha.1 ha.2 ht⟩
theorem sm_S0 {H0 H : Heap} {locs : List Loc} (h : va_S (sm_A S) H0 H locs) : va_S (sm_A S) H H locs := ⟨Nat.le_refl _, fun _ _ _ => rfl, h.2.2⟩
theorem sm_S1 {H0 H H1 : Heap} {locs locs1 : List Loc} (h : va_S (sm_A S) H0 H locs) (h1 : va_S (sm_A S) H H1 locs1) : va_S (sm_A S) H0 H1 locs1 :=
  ⟨Nat.le_trans h.1 h1.1, fun q g1 g2 => (h1.2.1 q (Nat.lt_of_lt_of_le g1 h.1) g2).trans (h.2.1 q g1 g2), h1.2.2⟩
/-- a write to one cell -/
theorem sm_R.wr {μ μ' : SMem} {H H1 : Heap} {locs locs1 : List Loc} (h : sm_R S b Lx xs dC dI cA μ H) {a k : Nat} (ht : tg μ a ≠ 99) (hk : (sm_ws S b cA μ)[k]? = some (sm_adr S b a, sm_ent S b cA μ a)) {en : va_E} (hP : va_P (dC, dI) vwCl ((sm_ws S b cA μ).set k (sm_adr S b a, en)) H1) (hS : va_S (sm_A S) H H1 locs1)
    (hs : sz μ' = sz μ) (htt : tg μ' = tg μ) (hl : ln μ' = ln μ) (he : ∀ c, c ≠ a → sm_ent S b cA μ' c = sm_ent S b cA μ c) (hen : sm_ent S b cA μ' a = en) (h1 : ∀ k, gi μ' 1 k = gi μ 1 k) : sm_R S b Lx xs dC dI cA μ' H1 := by
  obtain ⟨g1, g2, g3, -⟩ := h.get ht
  obtain ⟨q1, q2, q3, q4, q5, q6⟩ := h
  refine ⟨?_, by rw [hs]; exact q2, by rw [hs]; exact Nat.le_trans q3 hS.1, by rw [hl]; exact q4, fun k => (h1 k).trans (q5 k), by rw [hs, htt]; exact q6⟩
  rw [← sm_ws_set g1 g2 ht hs htt he hk hen]
  exact hP
theorem sm_nf_of {t : Nat} {C : String} {T : u_T} {N : Nat} (h : vwCl[t]? = some (C, T, N)) : sm_nf t = N ∧ t < 50 := by
  refine ⟨by unfold sm_nf; rw [h]; rfl, ?_⟩
  have := (List.getElem?_eq_some_iff.mp h).1
  have h13 : vwCl.length = 13 := rfl
  omega
theorem sm_get_at {N k : Nat} {f : Nat → Value} (h : k < N) : ((List.range N).map f)[k]? = some (f k) := by
  rw [List.getElem?_map, List.getElem?_range h]
  rfl
theorem sm_set_at {N k : Nat} {f g : Nat → Value} {v : Value} (hk : g k = v) (hne : ∀ j, j ≠ k → g j = f j) : (List.range N).map g = ((List.range N).map f).set k v := by
  apply List.ext_getElem?
  intro j
  rw [List.getElem?_set]
  by_cases hj : k = j
  · subst hj
    rw [if_pos rfl]
    by_cases hN : k < N
    · rw [sm_get_at hN, if_pos (by simpa using hN), hk]
    · rw [if_neg (by simpa using hN), List.getElem?_eq_none (by simpa using hN)]
  · rw [if_neg hj]
    by_cases hN : j < N
    · rw [sm_get_at hN, sm_get_at hN, hne j (fun e => hj e.symm)]
    · rw [List.getElem?_eq_none (by simpa using hN), List.getElem?_eq_none (by simpa using hN)]
theorem ok_getI {P : Nat → Bool} {k idx : Nat} {ref : String} (hd : decode (M m).2.1 (pcs i) = .ok (.getfield idx, 3)) (hp : pcs (i + 1) = pcs i + 3) (hfd : ∀ t, P t = true → sm_fd (M m).1.cls idx ref t k ∧ sm_fr t k = false) : sm_OK l S b Lx xs dC dI cA M X m pcs i (s_getI P k) := by
  intro L st μ cmd h hL
  unfold s_getI at h
  split at h
  · next a st9 =>
    split at h
    · next hc9 =>
      cases h
      refine ⟨rfl, Nat.le_refl _, Nat.le_refl _, fun p e R s mm args below meth c Q z0 n0 hF hX hz hn hc hs hW H locs ls hR hS hl => ?_⟩
      obtain ⟨hx, hb, -, hown, hts, -, -, hK, -⟩ := hF
      have hk := hW H locs ls hR hS hl
      rw [hp] at hk
      obtain ⟨⟨C, T, N, e1, e2, e3, e4, e5⟩, e6⟩ := hfd _ hc9
      obtain ⟨f1, f2⟩ := sm_nf_of e1
      obtain ⟨g1, g2, g3, q0, hq⟩ := hR.get (a := a) (by omega)
      rw [sm_ent_o rfl f2, f1] at hq
      rw [List.map_cons, sm_ref g3]
      refine va_get (C := C) (T := T) (N := N) (ref := ref) hx hb hts e3 hown hK hR.1 q0 hq e1 k e2 (hts _ e4) ?_ (sm_get_at e2) hd ?_
      · intro x hx
        rcases e5 with e5 | e5
        · rw [e5]; exact hx
        · exact u_same (hts _ e5) x hx
      · unfold sm_fv
        rw [e6]
        exact hk
    · cases h
  · cases h
theorem ok_getR {P : Nat → Bool} {k idx : Nat} {ref : String} (hd : decode (M m).2.1 (pcs i) = .ok (.getfield idx, 3)) (hp : pcs (i + 1) = pcs i + 3) (hfd : ∀ t, P t = true → sm_fd (M m).1.cls idx ref t k ∧ sm_fr t k = true) : sm_OK l S b Lx xs dC dI cA M X m pcs i (s_getR P k) := by
  intro L st μ cmd h hL
  unfold s_getR at h
  split at h
  · next a st9 =>
    split at h
    · next hc9 =>
      cases h
      refine ⟨rfl, Nat.le_refl _, Nat.le_refl _, fun p e R s mm args below meth c Q z0 n0 hF hX hz hn hc hs hW H locs ls hR hS hl => ?_⟩
      obtain ⟨hx, hb, -, hown, hts, -, -, hK, -⟩ := hF
      have hk := hW H locs ls hR hS hl
      rw [hp] at hk
      obtain ⟨⟨C, T, N, e1, e2, e3, e4, e5⟩, e6⟩ := hfd _ hc9
      obtain ⟨f1, f2⟩ := sm_nf_of e1
      obtain ⟨g1, g2, g3, q0, hq⟩ := hR.get (a := a) (by omega)
      rw [sm_ent_o rfl f2, f1] at hq
      rw [List.map_cons, sm_ref g3]
      refine va_get (C := C) (T := T) (N := N) (ref := ref) hx hb hts e3 hown hK hR.1 q0 hq e1 k e2 (hts _ e4) ?_ (sm_get_at e2) hd ?_
      · intro x hx
        rcases e5 with e5 | e5
        · rw [e5]; exact hx
        · exact u_same (hts _ e5) x hx
      · unfold sm_fv
        rw [e6]
        exact hk
    · cases h
  · cases h
theorem ok_putI {t k idx : Nat} {ref : String} (hd : decode (M m).2.1 (pcs i) = .ok (.putfield idx, 3)) (hp : pcs (i + 1) = pcs i + 3) (hfd : sm_fdp (M m).1.cls idx ref t k false .int) (hfr : sm_fr t k = false) : sm_OK l S b Lx xs dC dI cA M X m pcs i (s_putI t k) := by
  intro L st μ cmd h hL
  unfold s_putI at h
  split at h
  · next x a st9 =>
    split at h
    · next hc9 =>
      cases h
      refine ⟨rfl, Nat.le_refl _, Nat.le_refl _, fun p e R s mm args below meth c Q z0 n0 hF hX hz hn hc hs hW H locs ls hR hS hl => ?_⟩
      obtain ⟨hx, hb, -, hown, hts, -, -, hK, -, hnm, -⟩ := hF
      obtain ⟨C, T, N, ty0, e1, e2, e3, e4, e5, e6, e7, e8, e9, e10⟩ := hfd
      obtain ⟨f1, f2⟩ := sm_nf_of e1
      have htg : tg μ a = t := hc9
      have h99 : tg μ a ≠ 99 := by omega
      obtain ⟨g1, g2, g3, q0, hq⟩ := hR.get h99
      have hq' := hq
      rw [sm_ent_o htg f2, f1] at hq
      rw [List.map_cons, List.map_cons, sm_ref g3]
      refine va_put (v := .int x) (C := C) (T := T) (N := N) (ref := ref) hx hb hts e3 ty0 e6 e7 hown hK hR.1 sm_D (sm_S0 hS) q0 hq e1 k e2 (hts _ e4) (fun x hx => by rw [e5]; exact hx) e8 e9 rfl rfl (by simpa using e2) hd (fun H1 locs1 hP1 _ hS1 => ?_)
      have hR1 : sm_R S b Lx xs dC dI cA (seti μ a k x) H1 := by
        refine hR.wr (locs := locs) h99 hq' hP1 hS1 rfl rfl rfl (fun c hc => ent_seti c hc) ?_ ?_
        · rw [sm_ent_o (t := t) (μ := seti μ a k x) htg f2, f1]
          exact congrArg (fun z => Sum.inr (t, z)) (sm_set_at (fv_seti hfr) fun j hj => fv_seti_ne hj)
        · intro j
          exact congrFun (up2_ne (by omega)) j
      have hk := hW H1 locs1 ls hR1 (sm_S1 hS hS1) hl
      rwa [hp] at hk
    · cases h
  · cases h
theorem ok_putIF {t k idx : Nat} {ref : String} (hd : decode (M m).2.1 (pcs i) = .ok (.putfield idx, 3)) (hp : pcs (i + 1) = pcs i + 3) (hin : (M m).1.name = "<init>") (hfd : sm_fdp (M m).1.cls idx ref t k true .int) (hfr : sm_fr t k = false) : sm_OK l S b Lx xs dC dI cA M X m pcs i (s_putI t k) := by
  intro L st μ cmd h hL
  unfold s_putI at h
  split at h
  · next x a st9 =>
    split at h
    · next hc9 =>
      cases h
      refine ⟨rfl, Nat.le_refl _, Nat.le_refl _, fun p e R s mm args below meth c Q z0 n0 hF hX hz hn hc hs hW H locs ls hR hS hl => ?_⟩
      obtain ⟨hx, hb, -, hown, hts, -, -, hK, -, hnm, -⟩ := hF
      obtain ⟨C, T, N, ty0, e1, e2, e3, e4, e5, e6, e7, e8, e9, e10⟩ := hfd
      obtain ⟨f1, f2⟩ := sm_nf_of e1
      have htg : tg μ a = t := hc9
      have h99 : tg μ a ≠ 99 := by omega
      obtain ⟨g1, g2, g3, q0, hq⟩ := hR.get h99
      have hq' := hq
      rw [sm_ent_o htg f2, f1] at hq
      rw [List.map_cons, List.map_cons, sm_ref g3]
      refine va_putF (v := .int x) (C := C) (T := T) (N := N) (ref := ref) hx hb hts e3 ty0 e6 e7 hown hK hR.1 sm_D (sm_S0 hS) q0 hq e1 k e2 (hts _ e4) (fun x hx => by rw [e5]; exact hx) e8 ((hnm hin).trans hin) (e10 rfl) e9 rfl rfl (by simpa using e2) hd (fun H1 locs1 hP1 _ hS1 => ?_)
      have hR1 : sm_R S b Lx xs dC dI cA (seti μ a k x) H1 := by
        refine hR.wr (locs := locs) h99 hq' hP1 hS1 rfl rfl rfl (fun c hc => ent_seti c hc) ?_ ?_
        · rw [sm_ent_o (t := t) (μ := seti μ a k x) htg f2, f1]
          exact congrArg (fun z => Sum.inr (t, z)) (sm_set_at (fv_seti hfr) fun j hj => fv_seti_ne hj)
        · intro j
          exact congrFun (up2_ne (by omega)) j
      have hk := hW H1 locs1 ls hR1 (sm_S1 hS hS1) hl
      rwa [hp] at hk
    · cases h
  · cases h
theorem ok_putZ {t k idx : Nat} {ref : String} (hd : decode (M m).2.1 (pcs i) = .ok (.putfield idx, 3)) (hp : pcs (i + 1) = pcs i + 3) (hfd : sm_fdp (M m).1.cls idx ref t k false .boolean) (hfr : sm_fr t k = false) : sm_OK l S b Lx xs dC dI cA M X m pcs i (s_putZ t k) := by
  intro L st μ cmd h hL
  unfold s_putZ at h
  split at h
  · next x a st9 =>
    split at h
    · next hc9 =>
      cases h
      refine ⟨rfl, Nat.le_refl _, Nat.le_refl _, fun p e R s mm args below meth c Q z0 n0 hF hX hz hn hc hs hW H locs ls hR hS hl => ?_⟩
      obtain ⟨hx, hb, -, hown, hts, -, -, hK, -, hnm, -⟩ := hF
      obtain ⟨C, T, N, ty0, e1, e2, e3, e4, e5, e6, e7, e8, e9, e10⟩ := hfd
      obtain ⟨f1, f2⟩ := sm_nf_of e1
      have htg : tg μ a = t := hc9.1
      have h99 : tg μ a ≠ 99 := by omega
      obtain ⟨g1, g2, g3, q0, hq⟩ := hR.get h99
      have hq' := hq
      rw [sm_ent_o htg f2, f1] at hq
      rw [List.map_cons, List.map_cons, sm_ref g3]
      refine va_put (v := .int x) (C := C) (T := T) (N := N) (ref := ref) hx hb hts e3 ty0 e6 e7 hown hK hR.1 sm_D (sm_S0 hS) q0 hq e1 k e2 (hts _ e4) (fun x hx => by rw [e5]; exact hx) e8 e9 (by rcases hc9.2 with q | q <;> subst q <;> rfl) (by rcases hc9.2 with q | q <;> subst q <;> rfl) (by simpa using e2) hd (fun H1 locs1 hP1 _ hS1 => ?_)
      have hR1 : sm_R S b Lx xs dC dI cA (seti μ a k x) H1 := by
        refine hR.wr (locs := locs) h99 hq' hP1 hS1 rfl rfl rfl (fun c hc => ent_seti c hc) ?_ ?_
        · rw [sm_ent_o (t := t) (μ := seti μ a k x) htg f2, f1]
          exact congrArg (fun z => Sum.inr (t, z)) (sm_set_at (fv_seti hfr) fun j hj => fv_seti_ne hj)
        · intro j
          exact congrFun (up2_ne (by omega)) j
      have hk := hW H1 locs1 ls hR1 (sm_S1 hS hS1) hl
      rwa [hp] at hk
    · cases h
  · cases h
theorem ok_putZF {t k idx : Nat} {ref : String} (hd : decode (M m).2.1 (pcs i) = .ok (.putfield idx, 3)) (hp : pcs (i + 1) = pcs i + 3) (hin : (M m).1.name = "<init>") (hfd : sm_fdp (M m).1.cls idx ref t k true .boolean) (hfr : sm_fr t k = false) : sm_OK l S b Lx xs dC dI cA M X m pcs i (s_putZ t k) := by
  intro L st μ cmd h hL
  unfold s_putZ at h
  split at h
  · next x a st9 =>
    split at h
    · next hc9 =>
      cases h
      refine ⟨rfl, Nat.le_refl _, Nat.le_refl _, fun p e R s mm args below meth c Q z0 n0 hF hX hz hn hc hs hW H locs ls hR hS hl => ?_⟩
      obtain ⟨hx, hb, -, hown, hts, -, -, hK, -, hnm, -⟩ := hF
      obtain ⟨C, T, N, ty0, e1, e2, e3, e4, e5, e6, e7, e8, e9, e10⟩ := hfd
      obtain ⟨f1, f2⟩ := sm_nf_of e1
      have htg : tg μ a = t := hc9.1
      have h99 : tg μ a ≠ 99 := by omega
      obtain ⟨g1, g2, g3, q0, hq⟩ := hR.get h99
      have hq' := hq
      rw [sm_ent_o htg f2, f1] at hq
      rw [List.map_cons, List.map_cons, sm_ref g3]
      refine va_putF (v := .int x) (C := C) (T := T) (N := N) (ref := ref) hx hb hts e3 ty0 e6 e7 hown hK hR.1 sm_D (sm_S0 hS) q0 hq e1 k e2 (hts _ e4) (fun x hx => by rw [e5]; exact hx) e8 ((hnm hin).trans hin) (e10 rfl) e9 (by rcases hc9.2 with q | q <;> subst q <;> rfl) (by rcases hc9.2 with q | q <;> subst q <;> rfl) (by simpa using e2) hd (fun H1 locs1 hP1 _ hS1 => ?_)
      have hR1 : sm_R S b Lx xs dC dI cA (seti μ a k x) H1 := by
        refine hR.wr (locs := locs) h99 hq' hP1 hS1 rfl rfl rfl (fun c hc => ent_seti c hc) ?_ ?_
        · rw [sm_ent_o (t := t) (μ := seti μ a k x) htg f2, f1]
          exact congrArg (fun z => Sum.inr (t, z)) (sm_set_at (fv_seti hfr) fun j hj => fv_seti_ne hj)
        · intro j
          exact congrFun (up2_ne (by omega)) j
      have hk := hW H1 locs1 ls hR1 (sm_S1 hS hS1) hl
      rwa [hp] at hk
    · cases h
  · cases h
theorem ok_putR {t k idx : Nat} {ref : String} {ty : FieldType} (hty : ∀ v : Option Nat, narrow ty (va_rf v) = va_rf v ∧ fits ty (va_rf v) = true) (hd : decode (M m).2.1 (pcs i) = .ok (.putfield idx, 3)) (hp : pcs (i + 1) = pcs i + 3) (hfd : sm_fdp (M m).1.cls idx ref t k false ty) (hfr : sm_fr t k = true) : sm_OK l S b Lx xs dC dI cA M X m pcs i (s_putR t k) := by
  intro L st μ cmd h hL
  unfold s_putR at h
  split at h
  · next x a st9 =>
    split at h
    · next hc9 =>
      cases h
      refine ⟨rfl, Nat.le_refl _, Nat.le_refl _, fun p e R s mm args below meth c Q z0 n0 hF hX hz hn hc hs hW H locs ls hR hS hl => ?_⟩
      obtain ⟨hx, hb, -, hown, hts, -, -, hK, -, hnm, -⟩ := hF
      obtain ⟨C, T, N, ty0, e1, e2, e3, e4, e5, e6, e7, e8, e9, e10⟩ := hfd
      obtain ⟨f1, f2⟩ := sm_nf_of e1
      have htg : tg μ a = t := hc9
      have h99 : tg μ a ≠ 99 := by omega
      obtain ⟨g1, g2, g3, q0, hq⟩ := hR.get h99
      have hq' := hq
      rw [sm_ent_o htg f2, f1] at hq
      rw [List.map_cons, List.map_cons, sm_ref g3]
      refine va_put (v := va_rf (sm_rad S b x)) (C := C) (T := T) (N := N) (ref := ref) hx hb hts e3 ty0 e6 e7 hown hK hR.1 sm_D (sm_S0 hS) q0 hq e1 k e2 (hts _ e4) (fun x hx => by rw [e5]; exact hx) e8 e9 (hty _).1 (hty _).2 (by simpa using e2) hd (fun H1 locs1 hP1 _ hS1 => ?_)
      have hR1 : sm_R S b Lx xs dC dI cA (setr μ a k x) H1 := by
        refine hR.wr (locs := locs) h99 hq' hP1 hS1 rfl rfl rfl (fun c hc => ent_setr c hc) ?_ ?_
        · rw [sm_ent_o (t := t) (μ := setr μ a k x) htg f2, f1]
          exact congrArg (fun z => Sum.inr (t, z)) (sm_set_at (fv_setr hfr) fun j hj => fv_setr_ne hj)
        · exact fun _ => rfl
      have hk := hW H1 locs1 ls hR1 (sm_S1 hS hS1) hl
      rwa [hp] at hk
    · cases h
  · cases h
theorem ok_putRF {t k idx : Nat} {ref : String} {ty : FieldType} (hty : ∀ v : Option Nat, narrow ty (va_rf v) = va_rf v ∧ fits ty (va_rf v) = true) (hd : decode (M m).2.1 (pcs i) = .ok (.putfield idx, 3)) (hp : pcs (i + 1) = pcs i + 3) (hin : (M m).1.name = "<init>") (hfd : sm_fdp (M m).1.cls idx ref t k true ty) (hfr : sm_fr t k = true) : sm_OK l S b Lx xs dC dI cA M X m pcs i (s_putR t k) := by
  intro L st μ cmd h hL
  unfold s_putR at h
  split at h
  · next x a st9 =>
    split at h
    · next hc9 =>
      cases h
      refine ⟨rfl, Nat.le_refl _, Nat.le_refl _, fun p e R s mm args below meth c Q z0 n0 hF hX hz hn hc hs hW H locs ls hR hS hl => ?_⟩
      obtain ⟨hx, hb, -, hown, hts, -, -, hK, -, hnm, -⟩ := hF
      obtain ⟨C, T, N, ty0, e1, e2, e3, e4, e5, e6, e7, e8, e9, e10⟩ := hfd
      obtain ⟨f1, f2⟩ := sm_nf_of e1
      have htg : tg μ a = t := hc9
      have h99 : tg μ a ≠ 99 := by omega
      obtain ⟨g1, g2, g3, q0, hq⟩ := hR.get h99
      have hq' := hq
      rw [sm_ent_o htg f2, f1] at hq
      rw [List.map_cons, List.map_cons, sm_ref g3]
      refine va_putF (v := va_rf (sm_rad S b x)) (C := C) (T := T) (N := N) (ref := ref) hx hb hts e3 ty0 e6 e7 hown hK hR.1 sm_D (sm_S0 hS) q0 hq e1 k e2 (hts _ e4) (fun x hx => by rw [e5]; exact hx) e8 ((hnm hin).trans hin) (e10 rfl) e9 (hty _).1 (hty _).2 (by simpa using e2) hd (fun H1 locs1 hP1 _ hS1 => ?_)
      have hR1 : sm_R S b Lx xs dC dI cA (setr μ a k x) H1 := by
        refine hR.wr (locs := locs) h99 hq' hP1 hS1 rfl rfl rfl (fun c hc => ent_setr c hc) ?_ ?_
        · rw [sm_ent_o (t := t) (μ := setr μ a k x) htg f2, f1]
          exact congrArg (fun z => Sum.inr (t, z)) (sm_set_at (fv_setr hfr) fun j hj => fv_setr_ne hj)
        · exact fun _ => rfl
      have hk := hW H1 locs1 ls hR1 (sm_S1 hS hS1) hl
      rwa [hp] at hk
    · cases h
  · cases h
theorem ok_iald (hd : decode (M m).2.1 (pcs i) = .ok (.iaload, 1)) (hp : pcs (i + 1) = pcs i + 1) : sm_OK l S b Lx xs dC dI cA M X m pcs i s_iald := by
  intro L st μ cmd h hL
  unfold s_iald at h
  split at h
  · next j a st9 =>
    split at h
    · next hc9 =>
      cases h
      refine ⟨rfl, Nat.le_refl _, Nat.le_refl _, fun p e R s mm args below meth c Q z0 n0 hF hX hz hn hc hs hW H locs ls hR hS hl => ?_⟩
      obtain ⟨hx, hb, -, hown, hts, -, -, hK, -⟩ := hF
      have hk := hW H locs ls hR hS hl
      rw [hp] at hk
      obtain ⟨g1, g2, g3, q0, hq⟩ := hR.get (a := a) (by rw [hc9.1]; decide)
      rw [sm_ent_i hc9.1] at hq
      rw [List.map_cons, List.map_cons, sm_ref g3]
      have hv9 : vp_in j (ln μ a) := fun q => q.elim (fun q => absurd q (Int32.not_lt.mpr hc9.2.1)) (fun q => absurd hc9.2.2 (Nat.not_lt.mpr q))
      exact va_iald hx hb hK hR.1 q0 0 hq rfl hv9 hd hk
    · cases h
  · cases h
theorem ok_lald (hd : decode (M m).2.1 (pcs i) = .ok (.laload, 1)) (hp : pcs (i + 1) = pcs i + 1) : sm_OK l S b Lx xs dC dI cA M X m pcs i s_lald := by
  intro L st μ cmd h hL
  unfold s_lald at h
  split at h
  · next j a st9 =>
    split at h
    · next hc9 =>
      cases h
      refine ⟨rfl, Nat.le_refl _, Nat.le_refl _, fun p e R s mm args below meth c Q z0 n0 hF hX hz hn hc hs hW H locs ls hR hS hl => ?_⟩
      obtain ⟨hx, hb, -, hown, hts, -, -, hK, -⟩ := hF
      have hk := hW H locs ls hR hS hl
      rw [hp] at hk
      obtain ⟨g1, g2, g3, q0, hq⟩ := hR.get (a := a) (by rw [hc9.1]; decide)
      rw [sm_ent_l hc9.1] at hq
      rw [List.map_cons, List.map_cons, sm_ref g3]
      have hv9 : vp_in j (ln μ a) := fun q => q.elim (fun q => absurd q (Int32.not_lt.mpr hc9.2.1)) (fun q => absurd hc9.2.2 (Nat.not_lt.mpr q))
      exact va_lald hx hb hK hR.1 q0 1 hq rfl hv9 hd hk
    · cases h
  · cases h
theorem ok_aald {t : Nat} {C : String} (ht : 52 ≤ t) (hty : ∀ cA : Nat → ClassId, (sm_tys cA)[t - 50]? = some (cA (t - 50), .object C)) (h9 : t ≠ 99) (hd : decode (M m).2.1 (pcs i) = .ok (.aaload, 1)) (hp : pcs (i + 1) = pcs i + 1) : sm_OK l S b Lx xs dC dI cA M X m pcs i (s_aald t) := by
  intro L st μ cmd h hL
  unfold s_aald at h
  split at h
  · next j a st9 =>
    split at h
    · next hc9 =>
      cases h
      refine ⟨rfl, Nat.le_refl _, Nat.le_refl _, fun p e R s mm args below meth c Q z0 n0 hF hX hz hn hc hs hW H locs ls hR hS hl => ?_⟩
      obtain ⟨hx, hb, -, hown, hts, -, -, hK, -⟩ := hF
      have hk := hW H locs ls hR hS hl
      rw [hp] at hk
      obtain ⟨g1, g2, g3, q0, hq⟩ := hR.get (a := a) (by rw [hc9.1]; exact h9)
      rw [sm_ent_r hc9.1 ht] at hq
      rw [List.map_cons, List.map_cons, sm_ref g3]
      have hv9 : vp_in j (ln μ a) := fun q => q.elim (fun q => absurd q (Int32.not_lt.mpr hc9.2.1)) (fun q => absurd hc9.2.2 (Nat.not_lt.mpr q))
      exact va_aldq (C := C) hx hb hK hR.1 q0 (t - 50) hq (hty cA) hv9 hd hk
    · cases h
  · cases h
theorem ok_iast (hd : decode (M m).2.1 (pcs i) = .ok (.iastore, 1)) (hp : pcs (i + 1) = pcs i + 1) : sm_OK l S b Lx xs dC dI cA M X m pcs i s_iast := by
  intro L st μ cmd h hL
  unfold s_iast at h
  split at h
  · next x j a st9 =>
    split at h
    · next hc9 =>
      cases h
      refine ⟨rfl, Nat.le_refl _, Nat.le_refl _, fun p e R s mm args below meth c Q z0 n0 hF hX hz hn hc hs hW H locs ls hR hS hl => ?_⟩
      obtain ⟨hx, hb, -, hown, hts, -, -, hK, -⟩ := hF
      have h99 : tg μ a ≠ 99 := by rw [hc9.1]; decide
      obtain ⟨g1, g2, g3, q0, hq⟩ := hR.get h99
      have hq' := hq
      rw [sm_ent_i hc9.1] at hq
      rw [List.map_cons, List.map_cons, List.map_cons, sm_ref g3]
      have hv9 : vp_in j (ln μ a) := fun q => q.elim (fun q => absurd q (Int32.not_lt.mpr hc9.2.1)) (fun q => absurd hc9.2.2 (Nat.not_lt.mpr q))
      refine va_iast hx hb hK hR.1 sm_D (sm_S0 hS) q0 0 hq rfl hv9 hd (fun H1 locs1 hP1 _ hS1 => ?_)
      have hR1 : sm_R S b Lx xs dC dI cA (seti μ a j.toNatClampNeg x) H1 := by
        refine hR.wr (locs := locs) h99 hq' hP1 hS1 rfl rfl rfl (fun c hc => ent_seti c hc) ?_ ?_
        · rw [sm_ent_i (μ := seti μ a j.toNatClampNeg x) hc9.1]
          refine congrArg (fun z => Sum.inl (cA 0, ln μ a, Sum.inl z)) ?_
          funext q
          show up2 _ a _ x a q = _
          unfold up2 upd
          by_cases hq9 : q = j.toNatClampNeg
          · rw [if_pos ⟨rfl, hq9⟩, if_pos hq9]
          · rw [if_neg (fun e => hq9 e.2), if_neg hq9]; rfl
        · intro z
          exact congrFun (up2_ne (by omega)) z
      have hk := hW H1 locs1 ls hR1 (sm_S1 hS hS1) hl
      rwa [hp] at hk
    · cases h
  · cases h
theorem ok_last (hd : decode (M m).2.1 (pcs i) = .ok (.lastore, 1)) (hp : pcs (i + 1) = pcs i + 1) : sm_OK l S b Lx xs dC dI cA M X m pcs i s_last := by
  intro L st μ cmd h hL
  unfold s_last at h
  split at h
  · next x j a st9 =>
    split at h
    · next hc9 =>
      cases h
      refine ⟨rfl, Nat.le_refl _, Nat.le_refl _, fun p e R s mm args below meth c Q z0 n0 hF hX hz hn hc hs hW H locs ls hR hS hl => ?_⟩
      obtain ⟨hx, hb, -, hown, hts, -, -, hK, -⟩ := hF
      have h99 : tg μ a ≠ 99 := by rw [hc9.1]; decide
      obtain ⟨g1, g2, g3, q0, hq⟩ := hR.get h99
      have hq' := hq
      rw [sm_ent_l hc9.1] at hq
      rw [List.map_cons, List.map_cons, List.map_cons, sm_ref g3]
      have hv9 : vp_in j (ln μ a) := fun q => q.elim (fun q => absurd q (Int32.not_lt.mpr hc9.2.1)) (fun q => absurd hc9.2.2 (Nat.not_lt.mpr q))
      refine va_last hx hb hK hR.1 sm_D (sm_S0 hS) q0 1 hq rfl hv9 hd (fun H1 locs1 hP1 _ hS1 => ?_)
      have hR1 : sm_R S b Lx xs dC dI cA (setl μ a j.toNatClampNeg x) H1 := by
        refine hR.wr (locs := locs) h99 hq' hP1 hS1 rfl rfl rfl (fun c hc => ent_setl c hc) ?_ ?_
        · rw [sm_ent_l (μ := setl μ a j.toNatClampNeg x) hc9.1]
          refine congrArg (fun z => Sum.inl (cA 1, ln μ a, Sum.inr (Sum.inl z))) ?_
          funext q
          show up2 _ a _ x a q = _
          unfold up2
          by_cases hq9 : q = j.toNatClampNeg
          · rw [if_pos ⟨rfl, hq9⟩]; subst hq9; simp [vp_updL]
          · rw [if_neg (fun e => hq9 e.2)]; simp [vp_updL, hq9]; rfl
        · exact fun _ => rfl
      have hk := hW H1 locs1 ls hR1 (sm_S1 hS hS1) hl
      rwa [hp] at hk
    · cases h
  · cases h
end SMMEM
