/-! THE SMALL MACHINE AND THE MACHINE: cell a of the small memory lies at S + (a - 2); cell 1 is the script, at b -/
def sm_nf (t : Nat) : Nat := ((vwCl[t]?).map (fun q => q.2.2)).getD 0
/-- which fields hold references -/
def sm_fr (t k : Nat) : Bool := match t with
  | 1 => Nat.blt k 2
  | 8 => k == 0 || k == 4
  | 10 => Nat.blt k 2
  | 11 => !(k == 3)
  | 12 => Nat.blt k 10 || k == 15 || k == 16 || k == 19
  | _ => false
def sm_adr (S b n : Nat) : Nat := if n = 1 then b else S + (n - 2)
def sm_rad (S b n : Nat) : Option Nat := if n = 0 then none else some (sm_adr S b n)
def sm_v (S b : Nat) : SV → Value
  | .inl x => .int x
  | .inr (.inl n) => va_rf (sm_rad S b n)
  | .inr (.inr z) => .long z
def sm_fv (S b : Nat) (μ : SMem) (a t k : Nat) : Value := if sm_fr t k = true then va_rf (sm_rad S b (gr μ a k)) else .int (gi μ a k)
def sm_ent (S b : Nat) (cA : Nat → ClassId) (μ : SMem) (a : Nat) : va_E :=
  if tg μ a < 50 then .inr (tg μ a, (List.range (sm_nf (tg μ a))).map (sm_fv S b μ a (tg μ a)))
  else if tg μ a = 50 then .inl (cA 0, ln μ a, .inl (gi μ a))
  else if tg μ a = 51 then .inl (cA 1, ln μ a, .inr (.inl (gl μ a)))
  else .inl (cA (tg μ a - 50), ln μ a, .inr (.inr (.inr (.inr (fun k => sm_rad S b (gr μ a k))))))
/-- tag 99: a cell of which nothing is known -/
def sm_wf (S b : Nat) (cA : Nat → ClassId) (μ : SMem) (k : Nat) : Option (Nat × va_E) := if tg μ (k + 2) = 99 then none else some (S + k, sm_ent S b cA μ (k + 2))
def sm_ws (S b : Nat) (cA : Nat → ClassId) (μ : SMem) : va_W := (List.range (sz μ - 2)).filterMap (sm_wf S b cA μ)
def sm_tys (cA : Nat → ClassId) : List (ClassId × FieldType) := [(cA 0, .int), (cA 1, .long), (cA 2, .object "TakesAPage$Reader"), (cA 3, .object "TakesAPage$Book"), (cA 4, .object "TakesAPage$Shelf")]
def sm_A (S : Nat) : Nat → Prop := fun q => S ≤ q
theorem sm_fmc {α β : Type} {f g : α → Option β} {l : List α} (h : ∀ x ∈ l, f x = g x) : l.filterMap f = l.filterMap g := by
  induction l with
  | nil => rfl
  | cons a l ih =>
    rw [List.filterMap_cons, List.filterMap_cons, h a List.mem_cons_self, ih (fun x hx => h x (List.mem_cons_of_mem _ hx))]
theorem sm_ws_get {S b : Nat} {cA : Nat → ClassId} {μ : SMem} {a : Nat} (h1 : 2 ≤ a) (h2 : a < sz μ) (h3 : tg μ a ≠ 99) : ∃ k : Nat, (sm_ws S b cA μ)[k]? = some (sm_adr S b a, sm_ent S b cA μ a) := by
  apply List.getElem?_of_mem
  refine List.mem_filterMap.mpr ⟨a - 2, List.mem_range.mpr (by omega), ?_⟩
  unfold sm_wf
  rw [show a - 2 + 2 = a by omega, if_neg h3, sm_adr, if_neg (by omega)]
theorem sm_ws_ge {S b : Nat} {cA : Nat → ClassId} {μ : SMem} {k : Nat} {q : Nat × va_E} (h : (sm_ws S b cA μ)[k]? = some q) : S ≤ q.1 ∧ q.1 < S + (sz μ - 2) ∧ tg μ (q.1 - S + 2) ≠ 99 ∧ q.2 = sm_ent S b cA μ (q.1 - S + 2) := by
  obtain ⟨a, ha, hf⟩ := List.mem_filterMap.mp (List.mem_of_getElem? h)
  have ha' := List.mem_range.mp ha
  unfold sm_wf at hf
  split at hf
  · cases hf
  · next h9 =>
    cases hf
    refine ⟨Nat.le_add_right _ _, by show S + a < _; omega, ?_, ?_⟩
    · show tg μ (S + a - S + 2) ≠ 99
      rw [Nat.add_sub_cancel_left]
      exact h9
    · show _ = sm_ent S b cA μ (S + a - S + 2)
      rw [Nat.add_sub_cancel_left]
theorem sm_fm_nd {α : Type} {f : Nat → Option (Nat × α)} {S : Nat} (hf : ∀ k q, f k = some q → q.1 = S + k) : ∀ (l : List Nat), l.Nodup → ∀ (i j : Nat) (p q : Nat × α), (l.filterMap f)[i]? = some p → (l.filterMap f)[j]? = some q → p.1 = q.1 → i = j := by
  intro l
  induction l with
  | nil => intro _ i j p q h; simp at h
  | cons a l ih =>
    intro hn i j p q hi hj e
    obtain ⟨hna, hnl⟩ := List.nodup_cons.mp hn
    cases hfa : f a with
    | none =>
      rw [List.filterMap_cons_none hfa] at hi hj
      exact ih hnl i j p q hi hj e
    | some x =>
      rw [List.filterMap_cons_some hfa] at hi hj
      have aux : ∀ (y : Nat × α) (k : Nat), (l.filterMap f)[k]? = some y → y.1 ≠ x.1 := by
        intro y k hk he
        obtain ⟨c, hc, hfc⟩ := List.mem_filterMap.mp (List.mem_of_getElem? hk)
        have e1 := hf _ _ hfc
        have e2 := hf _ _ hfa
        have : c = a := by omega
        exact hna (this ▸ hc)
      match i, j, hi, hj with
      | 0, 0, _, _ => rfl
      | 0, j + 1, hi, hj =>
        simp at hi hj
        subst hi
        exact absurd e.symm (aux q j hj)
      | i + 1, 0, hi, hj =>
        simp at hi hj
        subst hj
        exact absurd e (aux p i hi)
      | i + 1, j + 1, hi, hj =>
        simp at hi hj
        rw [ih hnl i j p q hi hj e]
theorem sm_wf_1 {S b : Nat} {cA : Nat → ClassId} {μ : SMem} (k : Nat) (q : Nat × va_E) (h : sm_wf S b cA μ k = some q) : q.1 = S + k := by
  unfold sm_wf at h
  split at h
  · cases h
  · cases h; rfl
theorem sm_D {S b : Nat} {cA : Nat → ClassId} {μ : SMem} : va_D (sm_A S) (sm_ws S b cA μ) :=
  ⟨sm_fm_nd sm_wf_1 _ List.nodup_range, fun _ _ h => (sm_ws_ge h).1⟩
theorem sm_ws_set {S b : Nat} {cA : Nat → ClassId} {μ μ' : SMem} {a k : Nat} (h1 : 2 ≤ a) (h2 : a < sz μ) (h3 : tg μ a ≠ 99) (hs : sz μ' = sz μ) (ht : tg μ' = tg μ) (he : ∀ c, c ≠ a → sm_ent S b cA μ' c = sm_ent S b cA μ c) (hk : (sm_ws S b cA μ)[k]? = some (sm_adr S b a, sm_ent S b cA μ a)) {en : va_E} (hen : sm_ent S b cA μ' a = en) : (sm_ws S b cA μ).set k (sm_adr S b a, en) = sm_ws S b cA μ' := by
  subst hen
  have e1 : (sm_ws S b cA μ).set k (sm_adr S b a, sm_ent S b cA μ' a) = (sm_ws S b cA μ).map (fun q => if q.1 = sm_adr S b a then (sm_adr S b a, sm_ent S b cA μ' a) else q) := by
    apply List.ext_getElem?
    intro j
    rw [List.getElem?_map, List.getElem?_set]
    by_cases hkj : k = j
    · subst hkj
      rw [if_pos rfl, if_pos (List.getElem?_eq_some_iff.mp hk).1, hk]
      simp
    · rw [if_neg hkj]
      cases hj : (sm_ws S b cA μ)[j]? with
      | none => rfl
      | some q =>
        have : q.1 ≠ sm_adr S b a := fun e => hkj (sm_D.1 k j _ q hk hj e.symm)
        simp [this]
  rw [e1]
  unfold sm_ws
  rw [List.map_filterMap, hs]
  apply sm_fmc
  intro c _
  unfold sm_wf
  rw [ht]
  by_cases h9 : tg μ (c + 2) = 99
  · simp [h9]
  · rw [if_neg h9, if_neg h9]
    have ea : sm_adr S b a = S + (a - 2) := by rw [sm_adr, if_neg (by omega)]
    by_cases hc : c + 2 = a
    · subst hc
      simp [ea]
    · have : ¬ S + c = sm_adr S b a := by rw [ea]; omega
      simp [this, he _ hc]
theorem sm_ws_push {S b : Nat} {cA : Nat → ClassId} {μ μ' : SMem} (h2 : 2 ≤ sz μ) (hs : sz μ' = sz μ + 1) (ht : ∀ c, c ≠ sz μ → tg μ' c = tg μ c) (he : ∀ c, c ≠ sz μ → sm_ent S b cA μ' c = sm_ent S b cA μ c) (h9 : tg μ' (sz μ) ≠ 99) : sm_ws S b cA μ' = sm_ws S b cA μ ++ [(S + (sz μ - 2), sm_ent S b cA μ' (sz μ))] := by
  unfold sm_ws
  rw [hs, show sz μ + 1 - 2 = (sz μ - 2) + 1 by omega, List.range_succ, List.filterMap_append]
  congr 1
  · apply sm_fmc
    intro k hk
    have := List.mem_range.mp hk
    unfold sm_wf
    rw [he _ (by omega), ht _ (by omega)]
  · have : sm_wf S b cA μ' (sz μ - 2) = some (S + (sz μ - 2), sm_ent S b cA μ' (sz μ)) := by
      unfold sm_wf
      rw [show sz μ - 2 + 2 = sz μ by omega, if_neg h9]
    rw [List.filterMap_cons_some this]
    rfl
theorem sm_ws_junk {S b : Nat} {cA : Nat → ClassId} {μ μ' : SMem} (h2 : 2 ≤ sz μ) (hs : sz μ' = sz μ + 1) (ht : ∀ c, c ≠ sz μ → tg μ' c = tg μ c) (he : ∀ c, c ≠ sz μ → sm_ent S b cA μ' c = sm_ent S b cA μ c) (h9 : tg μ' (sz μ) = 99) : sm_ws S b cA μ' = sm_ws S b cA μ := by
  unfold sm_ws
  rw [hs, show sz μ + 1 - 2 = (sz μ - 2) + 1 by omega, List.range_succ, List.filterMap_append]
  have : sm_wf S b cA μ' (sz μ - 2) = none := by
    unfold sm_wf
    rw [show sz μ - 2 + 2 = sz μ by omega, if_pos h9]
  rw [List.filterMap_cons_none this, List.filterMap_nil, List.append_nil]
  apply sm_fmc
  intro k hk
  have := List.mem_range.mp hk
  unfold sm_wf
  rw [he _ (by omega), ht _ (by omega)]
/-- the heap holds the small memory; the script is cell 1 -/
def sm_R (S b Lx : Nat) (xs : Nat → Int32) (dC : Nat → ClassId) (dI : Nat → Nat → Nat) (cA : Nat → ClassId) (μ : SMem) (H : Heap) : Prop :=
  va_P (dC, dI) vwCl (sm_ws S b cA μ) H ∧ 2 ≤ sz μ ∧ S + (sz μ - 2) ≤ H.size ∧ ln μ 1 = Lx ∧ (∀ k, gi μ 1 k = xs k) ∧ ∀ a, (a < 2 ∨ sz μ ≤ a) → tg μ a = 99
/-- locals -/
def sm_L (S b : Nat) (ls : Array Slot) (L : SL) : Prop := ∃ lv, lv_has ls L.length lv ∧ ∀ i v, L[i]? = some (some v) → (i, sm_v S b v) ∈ lv
theorem sm_L.at {S b : Nat} {ls : Array Slot} {L : SL} (h : sm_L S b ls L) {i : Nat} {v : SV} (hi : L[i]? = some (some v)) : ls[i]? = some (.val (sm_v S b v)) := by
  obtain ⟨lv, h1, h2⟩ := h
  exact h1.2.2 _ (h2 i v hi)
theorem sm_L.size {S b : Nat} {ls : Array Slot} {L : SL} (h : sm_L S b ls L) : ls.size = L.length := by
  obtain ⟨lv, h1, h2⟩ := h
  exact h1.1
theorem sm_v_cat {S b : Nat} (v : SV) : (sm_v S b v).category = match v with | .inr (.inr _) => 2 | _ => 1 := by
  rcases v with x | n | z
  · rfl
  · show (va_rf (sm_rad S b n)).category = 1
    unfold sm_rad
    by_cases h : n = 0
    · rw [if_pos h]; rfl
    · rw [if_neg h]; rfl
  · rfl
/-- no long stands just ahead of place i -/
def snol (L : SL) (i : Nat) : Bool := match i with
  | 0 => true
  | j + 1 => match L[j]? with
    | some (some (.inr (.inr _))) => false
    | _ => true
theorem snol_ne {L : SL} {i j : Nat} {v : SV} {S b : Nat} (h : snol L i = true) (hj : L[j]? = some (some v)) (hij : j + 1 = i) : (sm_v S b v).category = 1 := by
  subst hij
  unfold snol at h
  dsimp only at h
  rw [hj] at h
  rcases v with x | n | z
  · exact sm_v_cat _
  · exact sm_v_cat _
  · cases h
theorem sm_L.store {S b : Nat} {L : SL} {i : Nat} {v : SV} {lv : List (Nat × Value)} (h2 : ∀ i v, L[i]? = some (some v) → (i, sm_v S b v) ∈ lv) (hn : snol L i = true) {ls' : Array Slot}
    (h : lv_has ls' L.length ((i, sm_v S b v) :: lv.filter (fun q => !(q.1 == i) && !(q.1 + 1 == i && q.2.category == 2)))) : sm_L S b ls' (L.set i (some v)) := by
  refine ⟨_, by rw [List.length_set]; exact h, fun j w hj => ?_⟩
  rw [List.getElem?_set] at hj
  by_cases hij : i = j
  · rw [if_pos hij] at hj
    split at hj
    · cases hj
      rw [← hij]
      exact List.mem_cons_self
    · cases hj
  · rw [if_neg hij] at hj
    refine List.mem_cons_of_mem _ (List.mem_filter.mpr ⟨h2 j w hj, ?_⟩)
    have h3 : (j == i) = false := by simpa using fun e => hij e.symm
    by_cases hj1 : j + 1 = i
    · have h4 := snol_ne (S := S) (b := b) hn hj hj1
      simp [h3, h4]
    · have h5 : (j + 1 == i) = false := by simpa using hj1
      simp [h3, h5]
theorem sm_L.store2 {S b : Nat} {L : SL} {i : Nat} {z : Int64} {lv : List (Nat × Value)} (h2 : ∀ i v, L[i]? = some (some v) → (i, sm_v S b v) ∈ lv) (hn : snol L i = true) {ls' : Array Slot}
    (h : lv_has ls' L.length ((i, Value.long z) :: lv.filter (fun q => !(q.1 == i) && (!(q.1 == i + 1) && !(q.1 + 1 == i && q.2.category == 2))))) : sm_L S b ls' ((L.set i (some (.inr (.inr z)))).set (i + 1) none) := by
  refine ⟨_, by rw [List.length_set, List.length_set]; exact h, fun j w hj => ?_⟩
  rw [List.getElem?_set] at hj
  by_cases hi1 : i + 1 = j
  · rw [if_pos hi1] at hj
    split at hj <;> cases hj
  · rw [if_neg hi1, List.getElem?_set] at hj
    by_cases hij : i = j
    · rw [if_pos hij] at hj
      split at hj
      · cases hj
        rw [← hij]
        exact List.mem_cons_self
      · cases hj
    · rw [if_neg hij] at hj
      refine List.mem_cons_of_mem _ (List.mem_filter.mpr ⟨h2 j w hj, ?_⟩)
      have h3 : (j == i) = false := by simpa using fun e => hij e.symm
      have h31 : (j == i + 1) = false := by simpa using fun e => hi1 e.symm
      by_cases hj1 : j + 1 = i
      · have h4 := snol_ne (S := S) (b := b) hn hj hj1
        simp [h3, h31, h4]
      · have h5 : (j + 1 == i) = false := by simpa using hj1
        simp [h3, h31, h5]
theorem sm_L.drop {S b : Nat} {ls : Array Slot} {L : SL} (h : sm_L S b ls L) (i : Nat) : sm_L S b ls (L.set i none) := by
  obtain ⟨lv, h1, h2⟩ := h
  refine ⟨lv, by rw [List.length_set]; exact h1, fun j w hj => ?_⟩
  rw [List.getElem?_set] at hj
  by_cases hij : i = j
  · rw [if_pos hij] at hj
    split at hj <;> cases hj
  · rw [if_neg hij] at hj
    exact h2 j w hj
theorem sm_lg {S b : Nat} (as : List SV) : (lg_sl (as.map (sm_v S b))).length = (sinit as).length := by
  induction as with
  | nil => rfl
  | cons v vs ih =>
    have e : lg_sl ((v :: vs).map (sm_v S b)) = (if (sm_v S b v).category = 2 then [Slot.val (sm_v S b v), Slot.second] else [Slot.val (sm_v S b v)]) ++ lg_sl (vs.map (sm_v S b)) := by simp [lg_sl]
    rw [e, List.length_append, ih, sm_v_cat]
    rcases v with x | n | z
    · simp [sinit]; omega
    · simp [sinit]; omega
    · simp [sinit]; omega
theorem sm_args {S b : Nat} (as : List SV) : ∀ (k i : Nat) (v : SV), (sinit as)[i]? = some (some v) → (k + i, sm_v S b v) ∈ lv_args k (as.map (sm_v S b)) := by
  induction as with
  | nil => intro k i v h; simp [sinit] at h
  | cons w ws ih =>
    intro k i v h
    simp only [List.map_cons, lv_args]
    rw [sm_v_cat]
    rcases w with x | n | z
    · simp only [sinit] at h
      cases i with
      | zero => simp at h; subst h; simp
      | succ i =>
        have := ih (k + 1) i v (by simpa using h)
        rw [show k + (i + 1) = k + 1 + i by omega]
        exact List.mem_cons_of_mem _ (by simpa using this)
    · simp only [sinit] at h
      cases i with
      | zero => simp at h; subst h; simp
      | succ i =>
        have := ih (k + 1) i v (by simpa using h)
        rw [show k + (i + 1) = k + 1 + i by omega]
        exact List.mem_cons_of_mem _ (by simpa using this)
    · simp only [sinit] at h
      match i, h with
      | 0, h => simp at h; subst h; simp
      | 1, h => simp at h
      | i + 2, h =>
        have := ih (k + 2) i v (by simpa using h)
        rw [show k + (i + 2) = k + 2 + i by omega]
        exact List.mem_cons_of_mem _ (by simpa using this)
theorem sm_entry {S b n : Nat} {as : List SV} (h : (sinit as).length ≤ n) : sm_L S b ((lg_sl (as.map (sm_v S b)) ++ List.replicate (n - (lg_sl (as.map (sm_v S b))).length) Slot.unset).toArray) (sfit n as) := by
  refine ⟨lv_args 0 (as.map (sm_v S b)), ?_, fun i v hi => ?_⟩
  · have := lv_entry (as.map (sm_v S b)) (n := n) (by rw [sm_lg]; exact h)
    have e : (sfit n as).length = n := by simp [sfit]; omega
    rw [e]
    exact this
  · unfold sfit at hi
    rw [List.getElem?_append] at hi
    split at hi
    · have := sm_args (S := S) (b := b) as 0 i v hi
      rwa [Nat.zero_add] at this
    · rw [List.getElem?_replicate] at hi
      split at hi <;> cases hi
