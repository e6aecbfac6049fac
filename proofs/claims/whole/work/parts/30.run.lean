/-! THE RUN WITHOUT FUEL: what a method comes to, by equations -/
def sm_ML (y : Nat) : Nat := (sm_M y).2.2.1
noncomputable def rn (d m i : Nat) (L : SL) (st : List SV) (μ : SMem) : Option SRes := lim (fun n => sx sm_P sm_ML n d m i L st μ)
/-- a call of method y at depth d -/
noncomputable def cl (d y : Nat) (as : List SV) (μ : SMem) : Option SRes := rn d y 0 (sfit (sm_ML y) as) [] μ
def aft (o : Option SRes) (k : Option SV → SMem → Option SRes) : Option SRes := match o with
  | some (.inl v, μ2) => k v μ2
  | _ => none
def aftH (hs : List (Nat × Nat × Nat)) (L : SL) (o : Option SRes) (k : Option SV → SMem → Option SRes) (kx : Nat → SL → SMem → Option SRes) : Option SRes := match o with
  | some (.inl v, μ2) => k v μ2
  | some (.inr x, μ2) => match shnd hs x with
    | some (j, z) => kx j (L.set z none) μ2
    | none => none
  | none => none
theorem aft_some (v : Option SV) (μ : SMem) (k : Option SV → SMem → Option SRes) : aft (some (.inl v, μ)) k = k v μ := rfl
theorem aft_none (k : Option SV → SMem → Option SRes) : aft none k = none := rfl
theorem rn_mono {d m i : Nat} {L : SL} {st : List SV} {μ : SMem} : ∀ n r, sx sm_P sm_ML n d m i L st μ = some r → sx sm_P sm_ML (n + 1) d m i L st μ = some r := fun n r h => sx_mono n d m i L st μ r h
theorem rn_some {d m i : Nat} {L : SL} {st : List SV} {μ : SMem} {r : SRes} (h : rn d m i L st μ = some r) : ∃ n, sx sm_P sm_ML n d m i L st μ = some r := lim_some h
theorem sm_P_of {m i : Nat} {c : List SIns} {f : SIns} (hc : sm_cl[m]? = some c) (hi : c[i]? = some f) : sm_P m i = some f := by
  unfold sm_P
  rw [hc]
  exact hi
theorem rn_next {d m i i' : Nat} {L L' : SL} {st st' : List SV} {μ μ' : SMem} {c : List SIns} {f : SIns} (hc : sm_cl[m]? = some c) (hi : c[i]? = some f) (hf : f i L st μ = some (.inl (i', L', st', μ'))) : rn d m i L st μ = rn d m i' L' st' μ' := by
  have hP := sm_P_of hc hi
  have e : ∀ n, sx sm_P sm_ML (n + 1) d m i L st μ = sx sm_P sm_ML n d m i' L' st' μ' := fun n => by
    conv => lhs; unfold sx
    rw [hP]
    dsimp only
    rw [hf]
  exact lim_congr rn_mono rn_mono (fun n r h => by cases n with | zero => cases h | succ n => exact ⟨n, by rw [← e]; exact h⟩) (fun n r h => ⟨n + 1, by rw [e]; exact h⟩)
theorem rn_stop {d m i : Nat} {L : SL} {st : List SV} {μ : SMem} {c : List SIns} {f : SIns} (hc : sm_cl[m]? = some c) (hi : c[i]? = some f) (hf : f i L st μ = none) : rn d m i L st μ = none := by
  have hP := sm_P_of hc hi
  cases h : rn d m i L st μ with
  | none => rfl
  | some r =>
    obtain ⟨n, hn⟩ := rn_some h
    cases n with
    | zero => cases hn
    | succ n =>
      unfold sx at hn
      rw [hP] at hn
      dsimp only at hn
      rw [hf] at hn
      cases hn
theorem rn_ret {d m i : Nat} {L : SL} {st : List SV} {μ : SMem} {r : SRes} {c : List SIns} {f : SIns} (hc : sm_cl[m]? = some c) (hi : c[i]? = some f) (hf : f i L st μ = some (.inr (.inl r))) : rn d m i L st μ = some r := by
  have hP := sm_P_of hc hi
  refine lim_eq rn_mono (n := 1) ?_
  unfold sx
  rw [hP]
  dsimp only
  rw [hf]
theorem rn_gnext {d m i i' : Nat} {L L' : SL} {st st' : List SV} {μ μ' : SMem} {c : List SIns} {f : SIns} {C : Prop} [hC : Decidable C] (hc : sm_cl[m]? = some c) (hi : c[i]? = some f) (hf : f i L st μ = if C then some (.inl (i', L', st', μ')) else none) : rn d m i L st μ = if C then rn d m i' L' st' μ' else none := by
  by_cases h : C
  · rw [if_pos h] at hf ⊢
    exact rn_next hc hi hf
  · rw [if_neg h] at hf ⊢
    exact rn_stop hc hi hf
theorem rn_gnext2 {d m i i' : Nat} {L L' : SL} {st st' : List SV} {μ μ' : SMem} {c : List SIns} {f : SIns} {C : Prop} [hC : Decidable C] (hc : sm_cl[m]? = some c) (hi : c[i]? = some f) (hf : f i L st μ = if C then none else some (.inl (i', L', st', μ'))) : rn d m i L st μ = if C then none else rn d m i' L' st' μ' := by
  by_cases h : C
  · rw [if_pos h] at hf ⊢
    exact rn_stop hc hi hf
  · rw [if_neg h] at hf ⊢
    exact rn_next hc hi hf
theorem rn_gret {d m i : Nat} {L : SL} {st : List SV} {μ : SMem} {r : SRes} {c : List SIns} {f : SIns} {C : Prop} [hC : Decidable C] (hc : sm_cl[m]? = some c) (hi : c[i]? = some f) (hf : f i L st μ = if C then some (.inr (.inl r)) else none) : rn d m i L st μ = if C then some r else none := by
  by_cases h : C
  · rw [if_pos h] at hf ⊢
    exact rn_ret hc hi hf
  · rw [if_neg h] at hf ⊢
    exact rn_stop hc hi hf
theorem rn_br {d m t u : Nat} {L : SL} {st : List SV} {μ : SMem} {C : Prop} [hC : Decidable C] : rn d m (if C then t else u) L st μ = if C then rn d m t L st μ else rn d m u L st μ := by
  split <;> rfl
def slk (f : Nat → Option SRes) : List (Int32 × Nat) → Nat → Int32 → Option SRes
  | [], dd, _ => f dd
  | (k, t) :: r, dd, x => if x = k then f t else slk f r dd x
theorem slk_eq (f : Nat → Option SRes) (ts : List (Int32 × Nat)) (dd : Nat) (x : Int32) : f (slook ts dd x) = slk f ts dd x := by
  induction ts with
  | nil => rfl
  | cons q r ih =>
    obtain ⟨k, t⟩ := q
    unfold slook slk
    by_cases h : x = k
    · rw [if_pos h, if_pos h]
    · rw [if_neg h, if_neg h]
      exact ih
theorem rn_sw {d m : Nat} {L : SL} {st : List SV} {μ : SMem} {x : Int32} (ts : List (Int32 × Nat)) (dd : Nat) : rn d m (slook ts dd x) L st μ = slk (fun j => rn d m j L st μ) ts dd x := slk_eq (fun j => rn d m j L st μ) ts dd x
theorem rn_callH {d m i i' y : Nat} {as : List SV} {hs : List (Nat × Nat × Nat)} {L L' : SL} {st st' : List SV} {μ μ' : SMem} {c : List SIns} {f : SIns} (hc : sm_cl[m]? = some c) (hi : c[i]? = some f) (hf : f i L st μ = some (.inr (.inr (y, as, i', hs, L', st', μ')))) :
    rn (d + 1) m i L st μ = aftH hs L' (cl d y as μ') (fun v μ2 => rn (d + 1) m i' L' (v.toList ++ st') μ2) (fun j L2 μ2 => rn (d + 1) m j L2 [] μ2) := by
  have hP := sm_P_of hc hi
  have e : ∀ n, sx sm_P sm_ML (n + 1) (d + 1) m i L st μ = match sx sm_P sm_ML n d y 0 (sfit (sm_ML y) as) [] μ' with
      | none => none
      | some (.inl v, μ2) => sx sm_P sm_ML n (d + 1) m i' L' (v.toList ++ st') μ2
      | some (.inr k, μ2) => match shnd hs k with
        | none => none
        | some (j, x) => sx sm_P sm_ML n (d + 1) m j (L'.set x none) [] μ2 := fun n => by
    conv => lhs; unfold sx
    rw [hP]
    dsimp only
    rw [hf]
    rfl
  cases hcl : cl d y as μ' with
  | none =>
    show _ = none
    cases h : rn (d + 1) m i L st μ with
    | none => rfl
    | some r =>
      obtain ⟨n, hn⟩ := rn_some h
      cases n with
      | zero => cases hn
      | succ n =>
        rw [e] at hn
        cases h2 : sx sm_P sm_ML n d y 0 (sfit (sm_ML y) as) [] μ' with
        | none => rw [h2] at hn; cases hn
        | some r2 =>
          have h3 : cl d y as μ' = some r2 := lim_eq rn_mono h2
          rw [hcl] at h3
          cases h3
  | some r2 =>
    obtain ⟨n2, hn2⟩ := rn_some hcl
    have hdet : ∀ n r, sx sm_P sm_ML n d y 0 (sfit (sm_ML y) as) [] μ' = some r → r = r2 := fun n r h => by
      have h3 : cl d y as μ' = some r := lim_eq rn_mono h
      rw [hcl] at h3
      exact (Option.some.inj h3).symm
    have key : ∀ (g : Nat → Option SRes), (∀ n r, g n = some r → g (n + 1) = some r) → (∀ n, n2 ≤ n → sx sm_P sm_ML (n + 1) (d + 1) m i L st μ = g n) → (∀ n r, sx sm_P sm_ML (n + 1) (d + 1) m i L st μ = some r → ∃ n', g n' = some r) → rn (d + 1) m i L st μ = lim g := by
      intro g hg h1 h2
      refine lim_congr rn_mono hg (fun n r h => by cases n with | zero => cases h | succ n => exact h2 n r h) (fun n r h => ⟨max n n2 + 1, ?_⟩)
      rw [h1 _ (Nat.le_max_right _ _)]
      have hle : ∀ {n n' : Nat} {r : SRes}, g n = some r → n ≤ n' → g n' = some r := by
        intro n n' r h hn
        induction hn with
        | refl => exact h
        | step _ ih => exact hg _ _ ih
      exact hle h (Nat.le_max_left _ _)
    obtain ⟨v | k, μ2⟩ := r2
    · show _ = rn (d + 1) m i' L' (v.toList ++ st') μ2
      refine key (fun n => sx sm_P sm_ML n (d + 1) m i' L' (v.toList ++ st') μ2) rn_mono (fun n hn => ?_) (fun n r h => ⟨n, ?_⟩)
      · rw [e, sx_le hn2 hn]
      · rw [e] at h
        cases h2 : sx sm_P sm_ML n d y 0 (sfit (sm_ML y) as) [] μ' with
        | none => rw [h2] at h; cases h
        | some r9 => rw [h2, hdet n r9 h2] at h; exact h
    · show _ = aftH hs L' (some (.inr k, μ2)) _ _
      cases hh : shnd hs k with
      | none =>
        have e9 : aftH hs L' (some (.inr k, μ2)) (fun v μ2 => rn (d + 1) m i' L' (v.toList ++ st') μ2) (fun j L2 μ2 => rn (d + 1) m j L2 [] μ2) = none := by
          unfold aftH
          dsimp only
          rw [hh]
        rw [e9]
        cases h : rn (d + 1) m i L st μ with
        | none => rfl
        | some r =>
          obtain ⟨n, hn⟩ := rn_some h
          cases n with
          | zero => cases hn
          | succ n =>
            rw [e] at hn
            cases h2 : sx sm_P sm_ML n d y 0 (sfit (sm_ML y) as) [] μ' with
            | none => rw [h2] at hn; cases hn
            | some r9 =>
              rw [h2, hdet n r9 h2] at hn
              dsimp only at hn
              rw [hh] at hn
              cases hn
      | some jx =>
        obtain ⟨j, x⟩ := jx
        have e9 : aftH hs L' (some (.inr k, μ2)) (fun v μ2 => rn (d + 1) m i' L' (v.toList ++ st') μ2) (fun j L2 μ2 => rn (d + 1) m j L2 [] μ2) = rn (d + 1) m j (L'.set x none) [] μ2 := by
          unfold aftH
          dsimp only
          rw [hh]
        rw [e9]
        refine key (fun n => sx sm_P sm_ML n (d + 1) m j (L'.set x none) [] μ2) rn_mono (fun n hn => ?_) (fun n r h => ⟨n, ?_⟩)
        · rw [e, sx_le hn2 hn]
          dsimp only
          rw [hh]
        · rw [e] at h
          cases h2 : sx sm_P sm_ML n d y 0 (sfit (sm_ML y) as) [] μ' with
          | none => rw [h2] at h; cases h
          | some r9 =>
            rw [h2, hdet n r9 h2] at h
            dsimp only at h
            rw [hh] at h
            exact h
theorem rn_call {d m i i' y : Nat} {as : List SV} {L L' : SL} {st st' : List SV} {μ μ' : SMem} {c : List SIns} {f : SIns} (hc : sm_cl[m]? = some c) (hi : c[i]? = some f) (hf : f i L st μ = some (.inr (.inr (y, as, i', [], L', st', μ')))) :
    rn (d + 1) m i L st μ = aft (cl d y as μ') (fun v μ2 => rn (d + 1) m i' L' (v.toList ++ st') μ2) := by
  rw [rn_callH hc hi hf]
  cases cl d y as μ' with
  | none => rfl
  | some r => obtain ⟨v | k, μ2⟩ := r <;> rfl
theorem s_invV_of {D : Nat → Option (Nat × Nat)} {hs : List (Nat × Nat × Nat)} {n i a y ml : Nat} {L : SL} {st r : List SV} {μ : SMem} (h1 : st.drop n = .inr (.inl a) :: r) (h2 : D (tg μ a) = some (y, ml)) (h3 : n ≤ st.length) (h4 : r.length ≤ 4) (h5 : (sinit (.inr (.inl a) :: (st.take n).reverse)).length ≤ ml) :
    s_invV D hs n i L st μ = some (.inr (.inr (y, .inr (.inl a) :: (st.take n).reverse, i + 1, hs, L, r, μ))) := by
  unfold s_invV
  rw [h1]
  dsimp only
  rw [h2]
  dsimp only
  rw [if_pos ⟨h3, h4, h5⟩]
