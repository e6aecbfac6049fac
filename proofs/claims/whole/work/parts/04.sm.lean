/-! THE SMALL MACHINE: memory by numbers of cells, an exec with fuel n and depth d over code as a list of step functions -/
abbrev SV : Type := Int32 ⊕ (Nat ⊕ Int64)
abbrev SMem : Type := (Nat × Nat) × (Nat → Nat) × (Nat → Nat) × (Nat → Nat → Int32) × (Nat → Nat → Nat) × (Nat → Nat → Int64)
def sz (μ : SMem) : Nat := μ.1.1
def sl (μ : SMem) : Nat := μ.1.2
def tg (μ : SMem) : Nat → Nat := μ.2.1
def ln (μ : SMem) : Nat → Nat := μ.2.2.1
def gi (μ : SMem) : Nat → Nat → Int32 := μ.2.2.2.1
def gr (μ : SMem) : Nat → Nat → Nat := μ.2.2.2.2.1
def gl (μ : SMem) : Nat → Nat → Int64 := μ.2.2.2.2.2
def up1 {α : Type} (f : Nat → α) (a : Nat) (x : α) : Nat → α := fun b => if b = a then x else f b
def up2 {α : Type} (f : Nat → Nat → α) (a k : Nat) (x : α) : Nat → Nat → α := fun b j => if b = a ∧ j = k then x else f b j
def seti (μ : SMem) (a k : Nat) (x : Int32) : SMem := (μ.1, μ.2.1, μ.2.2.1, up2 μ.2.2.2.1 a k x, μ.2.2.2.2.1, μ.2.2.2.2.2)
def setr (μ : SMem) (a k : Nat) (x : Nat) : SMem := (μ.1, μ.2.1, μ.2.2.1, μ.2.2.2.1, up2 μ.2.2.2.2.1 a k x, μ.2.2.2.2.2)
def setl (μ : SMem) (a k : Nat) (x : Int64) : SMem := (μ.1, μ.2.1, μ.2.2.1, μ.2.2.2.1, μ.2.2.2.2.1, up2 μ.2.2.2.2.2 a k x)
def setrow (μ : SMem) (a : Nat) (f : Nat → Int32) : SMem := (μ.1, μ.2.1, μ.2.2.1, up1 μ.2.2.2.1 a f, μ.2.2.2.2.1, μ.2.2.2.2.2)
/-- a cell more, of tag t, length n, w slots -/
def alloc (μ : SMem) (t n w : Nat) : SMem :=
  ((μ.1.1 + 1, μ.1.2 + w), up1 μ.2.1 μ.1.1 t, up1 μ.2.2.1 μ.1.1 n, up1 μ.2.2.2.1 μ.1.1 (fun _ => 0), up1 μ.2.2.2.2.1 μ.1.1 (fun _ => 0), up1 μ.2.2.2.2.2 μ.1.1 (fun _ => 0))
abbrev SL : Type := List (Option SV)
abbrev SRes : Type := (Option SV ⊕ Nat) × SMem
/-- a call: method, arguments, where it goes on, handlers (exception, place behind the handler's store, its local), locals, the stack's rest -/
abbrev SCall : Type := Nat × List SV × Nat × List (Nat × Nat × Nat) × SL × List SV × SMem
abbrev SCmd : Type := (Nat × SL × List SV × SMem) ⊕ (SRes ⊕ SCall)
abbrev SIns : Type := Nat → SL → List SV → SMem → Option SCmd
def sinit : List SV → SL
  | [] => []
  | .inr (.inr z) :: vs => some (.inr (.inr z)) :: none :: sinit vs
  | v :: vs => some v :: sinit vs
def sfit (n : Nat) (as : List SV) : SL := sinit as ++ List.replicate (n - (sinit as).length) none
def shnd : List (Nat × Nat × Nat) → Nat → Option (Nat × Nat)
  | [], _ => none
  | (k, j, x) :: hs, q => if k = q then some (j, x) else shnd hs q
def sx (P : Nat → Nat → Option SIns) (ML : Nat → Nat) : Nat → Nat → Nat → Nat → SL → List SV → SMem → Option SRes
  | 0, _, _, _, _, _, _ => none
  | n + 1, d, m, i, L, st, μ => match P m i with
    | none => none
    | some f => match f i L st μ with
      | none => none
      | some (.inl (i', L', st', μ')) => sx P ML n d m i' L' st' μ'
      | some (.inr (.inl r)) => some r
      | some (.inr (.inr (y, as, i', hs, L', st', μ'))) => match d with
        | 0 => none
        | d' + 1 => match sx P ML n d' y 0 (sfit (ML y) as) [] μ' with
          | none => none
          | some (.inl v, μ2) => sx P ML n (d' + 1) m i' L' (v.toList ++ st') μ2
          | some (.inr k, μ2) => match shnd hs k with
            | none => none
            | some (j, x) => sx P ML n (d' + 1) m j (L'.set x none) [] μ2
theorem sx_mono {P : Nat → Nat → Option SIns} {ML : Nat → Nat} : ∀ (n d m i : Nat) (L : SL) (st : List SV) (μ : SMem) (r : SRes), sx P ML n d m i L st μ = some r → sx P ML (n + 1) d m i L st μ = some r := by
  intro n
  induction n with
  | zero => intro d m i L st μ r h; cases h
  | succ n ih =>
    intro d m i L st μ r h
    unfold sx at h ⊢
    cases hP : P m i with
    | none => rw [hP] at h; cases h
    | some f =>
      rw [hP] at h
      dsimp only at h ⊢
      cases hf : f i L st μ with
      | none => rw [hf] at h; cases h
      | some cmd =>
        rw [hf] at h
        rcases cmd with ⟨i', L', st', μ'⟩ | r' | ⟨y, as, i', hs, L', st', μ'⟩
        · exact ih _ _ _ _ _ _ _ h
        · exact h
        · dsimp only at h ⊢
          cases d with
          | zero => cases h
          | succ d =>
            dsimp only at h ⊢
            cases hc : sx P ML n d y 0 (sfit (ML y) as) [] μ' with
            | none => rw [hc] at h; cases h
            | some q =>
              rw [hc] at h
              rw [ih _ _ _ _ _ _ _ hc]
              obtain ⟨v | k, μ2⟩ := q
              · exact ih _ _ _ _ _ _ _ h
              · dsimp only at h ⊢
                cases hh : shnd hs k with
                | none => rw [hh] at h; cases h
                | some j =>
                  rw [hh] at h
                  exact ih _ _ _ _ _ _ _ h
theorem sx_le {P : Nat → Nat → Option SIns} {ML : Nat → Nat} {n n' d m i : Nat} {L : SL} {st : List SV} {μ : SMem} {r : SRes} (h : sx P ML n d m i L st μ = some r) (hn : n ≤ n') : sx P ML n' d m i L st μ = some r := by
  induction hn with
  | refl => exact h
  | step _ ih => exact sx_mono _ _ _ _ _ _ _ _ ih
/-- what comes of it, without fuel -/
noncomputable def lim {α : Type} (f : Nat → Option α) : Option α := by
  classical exact if h : ∃ r, ∃ n, f n = some r then some (Classical.choose h) else none
theorem lim_eq {α : Type} {f : Nat → Option α} (hm : ∀ n r, f n = some r → f (n + 1) = some r) {n : Nat} {r : α} (h : f n = some r) : lim f = some r := by
  have hle : ∀ {n n' : Nat} {r : α}, f n = some r → n ≤ n' → f n' = some r := by
    intro n n' r h hn
    induction hn with
    | refl => exact h
    | step _ ih => exact hm _ _ ih
  have hex : ∃ r, ∃ n, f n = some r := ⟨r, n, h⟩
  unfold lim
  rw [dif_pos hex]
  obtain ⟨n2, h2⟩ := Classical.choose_spec hex
  have e1 := hle h (Nat.le_max_left n n2)
  have e2 := hle h2 (Nat.le_max_right n n2)
  rw [← e2, e1]
theorem lim_some {α : Type} {f : Nat → Option α} {r : α} (h : lim f = some r) : ∃ n, f n = some r := by
  unfold lim at h
  split at h
  next hex =>
    cases h
    exact Classical.choose_spec hex
  next => cases h
theorem lim_congr {α : Type} {f g : Nat → Option α} (hf : ∀ n r, f n = some r → f (n + 1) = some r) (hg : ∀ n r, g n = some r → g (n + 1) = some r) (h1 : ∀ n r, f n = some r → ∃ n', g n' = some r) (h2 : ∀ n r, g n = some r → ∃ n', f n' = some r) : lim f = lim g := by
  cases hl : lim f with
  | some r =>
    obtain ⟨n, hn⟩ := lim_some hl
    obtain ⟨n', hn'⟩ := h1 n r hn
    exact (lim_eq hg hn').symm
  | none =>
    cases hl2 : lim g with
    | none => rfl
    | some r =>
      obtain ⟨n, hn⟩ := lim_some hl2
      obtain ⟨n', hn'⟩ := h2 n r hn
      rw [lim_eq hf hn'] at hl
      cases hl
