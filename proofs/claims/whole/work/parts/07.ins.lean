/-! STEP FUNCTIONS without memory, each with the proof that the machine does so -/
def s_const (x : Int32) : SIns := fun i L st μ => some (.inl (i + 1, L, .inl x :: st, μ))
def s_lconst (x : Int64) : SIns := fun i L st μ => some (.inl (i + 1, L, .inr (.inr x) :: st, μ))
def s_null : SIns := fun i L st μ => some (.inl (i + 1, L, .inr (.inl 0) :: st, μ))
def s_iload (k : Nat) : SIns := fun i L st μ => match L[k]? with | some (some (.inl x)) => some (.inl (i + 1, L, .inl x :: st, μ)) | _ => none
def s_aload (k : Nat) : SIns := fun i L st μ => match L[k]? with | some (some (.inr (.inl x))) => some (.inl (i + 1, L, .inr (.inl x) :: st, μ)) | _ => none
def s_lload (k : Nat) : SIns := fun i L st μ => match L[k]? with | some (some (.inr (.inr x))) => some (.inl (i + 1, L, .inr (.inr x) :: st, μ)) | _ => none
def s_istore (k : Nat) : SIns := fun i L st μ => match st with | .inl x :: st => if k < L.length ∧ snol L k = true then some (.inl (i + 1, L.set k (some (.inl x)), st, μ)) else none | _ => none
def s_astore (k : Nat) : SIns := fun i L st μ => match st with | .inr (.inl x) :: st => if k < L.length ∧ snol L k = true then some (.inl (i + 1, L.set k (some (.inr (.inl x))), st, μ)) else none | _ => none
def s_lstore (k : Nat) : SIns := fun i L st μ => match st with | .inr (.inr x) :: st => if k + 1 < L.length ∧ snol L k = true then some (.inl (i + 1, (L.set k (some (.inr (.inr x)))).set (k + 1) none, st, μ)) else none | _ => none
def s_iinc (k : Nat) (n : Int32) : SIns := fun i L st μ => match L[k]? with | some (some (.inl x)) => if snol L k = true then some (.inl (i + 1, L.set k (some (.inl (x + n))), st, μ)) else none | _ => none
def s_bin (g : Int32 → Int32 → Int32) : SIns := fun i L st μ => match st with | .inl y :: .inl x :: st => some (.inl (i + 1, L, .inl (g x y) :: st, μ)) | _ => none
def s_dvr (g : Int32 → Int32 → Int32) : SIns := fun i L st μ => match st with | .inl y :: .inl x :: st => if y = 0 then none else some (.inl (i + 1, L, .inl (g x y) :: st, μ)) | _ => none
def s_un (g : Int32 → Int32) : SIns := fun i L st μ => match st with | .inl x :: st => some (.inl (i + 1, L, .inl (g x) :: st, μ)) | _ => none
def s_i2l : SIns := fun i L st μ => match st with | .inl x :: st => some (.inl (i + 1, L, .inr (.inr x.toInt64) :: st, μ)) | _ => none
def s_lcmp : SIns := fun i L st μ => match st with | .inr (.inr y) :: .inr (.inr x) :: st => some (.inl (i + 1, L, .inl (lg_cmp x y) :: st, μ)) | _ => none
def s_if (P : Int32 → Prop) [DecidablePred P] (t : Nat) : SIns := fun i L st μ => match st with | .inl x :: st => some (.inl (if P x then t else i + 1, L, st, μ)) | _ => none
def s_icmp (P : Int32 → Int32 → Prop) [∀ x y, Decidable (P x y)] (t : Nat) : SIns := fun i L st μ => match st with | .inl y :: .inl x :: st => some (.inl (if P x y then t else i + 1, L, st, μ)) | _ => none
def s_ifnull (t : Nat) : SIns := fun i L st μ => match st with | .inr (.inl x) :: st => some (.inl (if x = 0 then t else i + 1, L, st, μ)) | _ => none
def s_ifnonnull (t : Nat) : SIns := fun i L st μ => match st with | .inr (.inl x) :: st => some (.inl (if x = 0 then i + 1 else t, L, st, μ)) | _ => none
def s_goto (t : Nat) : SIns := fun i L st μ => some (.inl (t, L, st, μ))
def slook : List (Int32 × Nat) → Nat → Int32 → Nat
  | [], dd, _ => dd
  | (k, t) :: r, dd, x => if x = k then t else slook r dd x
def s_sw (ts : List (Int32 × Nat)) (dd : Nat) : SIns := fun i L st μ => match st with | .inl x :: st => some (.inl (slook ts dd x, L, st, μ)) | _ => none
def ncat : SV → Bool
  | .inr (.inr _) => false
  | _ => true
def s_dup : SIns := fun i L st μ => match st with | v :: st => if ncat v = true then some (.inl (i + 1, L, v :: v :: st, μ)) else none | _ => none
def s_dup2 : SIns := fun i L st μ => match st with | v :: w :: st => if ncat v = true ∧ ncat w = true then some (.inl (i + 1, L, v :: w :: v :: w :: st, μ)) else none | _ => none
def s_pop : SIns := fun i L st μ => match st with | v :: st => if ncat v = true then some (.inl (i + 1, L, st, μ)) else none | _ => none
def s_ret : SIns := fun _ _ st μ => match st with | [.inl x] => some (.inr (.inl (.inl (some (.inl x)), μ))) | _ => none
def s_zret : SIns := fun _ _ st μ => match st with | [.inl x] => if x = 0 ∨ x = 1 then some (.inr (.inl (.inl (some (.inl x)), μ))) else none | _ => none
def s_aret : SIns := fun _ _ st μ => match st with | [.inr (.inl x)] => some (.inr (.inl (.inl (some (.inr (.inl x))), μ))) | _ => none
def s_lret : SIns := fun _ _ st μ => match st with | [.inr (.inr x)] => some (.inr (.inl (.inl (some (.inr (.inr x))), μ))) | _ => none
def s_vret : SIns := fun _ _ st μ => match st with | [] => some (.inr (.inl (.inl none, μ))) | _ => none
theorem ncat_1 {S b : Nat} {v : SV} (h : ncat v = true) : (sm_v S b v).category = 1 := by
  rw [sm_v_cat]
  rcases v with x | n | z
  · rfl
  · rfl
  · cases h
section SMINS
variable {l : Launch} {S b Lx : Nat} {xs : Nat → Int32} {dC : Nat → ClassId} {dI : Nat → Nat → Nat} {cA : Nat → ClassId} {M : Nat → SMeth} {X : Nat → State → Prop} {m : Nat} {pcs : Nat → Nat} {i : Nat}
theorem ok_iconst {n : Int} {v : Int32} (hd : decode (M m).2.1 (pcs i) = .ok (.iconst n, 1)) (hv : Int32.ofInt n = v) (hp : pcs (i + 1) = pcs i + 1) : sm_OK l S b Lx xs dC dI cA M X m pcs i (s_const v) := by
  intro L st μ cmd h hL
  cases h
  refine ⟨rfl, Nat.le_refl _, Nat.le_refl _, fun p e R s mm args below meth c Q z0 n0 hF hX hz hn hc hs hW H locs ls hR hS hl => ?_⟩
  obtain ⟨hx, hb, -⟩ := hF
  have hk := hW H locs ls hR hS hl
  rw [hp] at hk
  exact lv_iconst hx hb hd hv hk
theorem ok_bipush {n : Int} {v : Int32} (hd : decode (M m).2.1 (pcs i) = .ok (.bipush n, 2)) (hv : (Int8.ofInt n).toInt32 = v) (hp : pcs (i + 1) = pcs i + 2) : sm_OK l S b Lx xs dC dI cA M X m pcs i (s_const v) := by
  intro L st μ cmd h hL
  cases h
  refine ⟨rfl, Nat.le_refl _, Nat.le_refl _, fun p e R s mm args below meth c Q z0 n0 hF hX hz hn hc hs hW H locs ls hR hS hl => ?_⟩
  obtain ⟨hx, hb, -⟩ := hF
  have hk := hW H locs ls hR hS hl
  rw [hp] at hk
  exact lv_bipush hx hb hd hv hk
theorem ok_sipush {n : Int} {v : Int32} (hd : decode (M m).2.1 (pcs i) = .ok (.sipush n, 3)) (hv : (Int16.ofInt n).toInt32 = v) (hp : pcs (i + 1) = pcs i + 3) : sm_OK l S b Lx xs dC dI cA M X m pcs i (s_const v) := by
  intro L st μ cmd h hL
  cases h
  refine ⟨rfl, Nat.le_refl _, Nat.le_refl _, fun p e R s mm args below meth c Q z0 n0 hF hX hz hn hc hs hW H locs ls hR hS hl => ?_⟩
  obtain ⟨hx, hb, -⟩ := hF
  have hk := hW H locs ls hR hS hl
  rw [hp] at hk
  exact lv_sipush hx hb hd hv hk
theorem ok_lconst {n : Fin 2} {v : Int64} (hd : decode (M m).2.1 (pcs i) = .ok (.lconst n, 1)) (hv : Int64.ofNat (n : Nat) = v) (hp : pcs (i + 1) = pcs i + 1) : sm_OK l S b Lx xs dC dI cA M X m pcs i (s_lconst v) := by
  intro L st μ cmd h hL
  cases h
  refine ⟨rfl, Nat.le_refl _, Nat.le_refl _, fun p e R s mm args below meth c Q z0 n0 hF hX hz hn hc hs hW H locs ls hR hS hl => ?_⟩
  obtain ⟨hx, hb, -⟩ := hF
  have hk := hW H locs ls hR hS hl
  rw [hp] at hk
  exact lv_lconst hx hb hd hv hk
theorem ok_ldc {k : Nat} {v : Int32} (hd : decode (M m).2.1 (pcs i) = .ok (.ldc k, 2)) (hw : Cond.constant (M m).1.cls k v ∈ lw_g) (hp : pcs (i + 1) = pcs i + 2) : sm_OK l S b Lx xs dC dI cA M X m pcs i (s_const v) := by
  intro L st μ cmd h hL
  cases h
  refine ⟨rfl, Nat.le_refl _, Nat.le_refl _, fun p e R s mm args below meth c Q z0 n0 hF hX hz hn hc hs hW H locs ls hR hS hl => ?_⟩
  obtain ⟨hx, hb, -, hown, hts, -⟩ := hF
  have hk := hW H locs ls hR hS hl
  rw [hp] at hk
  exact lv_ldc hx hb hown (hts _ hw) hd hk
theorem ok_ldcw {k : Nat} {v : Int32} (hd : decode (M m).2.1 (pcs i) = .ok (.ldc_w k, 3)) (hw : Cond.constant (M m).1.cls k v ∈ lw_g) (hp : pcs (i + 1) = pcs i + 3) : sm_OK l S b Lx xs dC dI cA M X m pcs i (s_const v) := by
  intro L st μ cmd h hL
  cases h
  refine ⟨rfl, Nat.le_refl _, Nat.le_refl _, fun p e R s mm args below meth c Q z0 n0 hF hX hz hn hc hs hW H locs ls hR hS hl => ?_⟩
  obtain ⟨hx, hb, -, hown, hts, -⟩ := hF
  have hk := hW H locs ls hR hS hl
  rw [hp] at hk
  exact lv_ldcw hx hb hown (hts _ hw) hd hk
theorem ok_ldc2 {k : Nat} {v : Int64} (hd : decode (M m).2.1 (pcs i) = .ok (.ldc2_w k, 3)) (hw : Cond.constantLong (M m).1.cls k v ∈ lw_g) (hp : pcs (i + 1) = pcs i + 3) : sm_OK l S b Lx xs dC dI cA M X m pcs i (s_lconst v) := by
  intro L st μ cmd h hL
  cases h
  refine ⟨rfl, Nat.le_refl _, Nat.le_refl _, fun p e R s mm args below meth c Q z0 n0 hF hX hz hn hc hs hW H locs ls hR hS hl => ?_⟩
  obtain ⟨hx, hb, -, hown, hts, -⟩ := hF
  have hk := hW H locs ls hR hS hl
  rw [hp] at hk
  exact lv_ldc2 hx hb hown (hts _ hw) hd hk
theorem ok_null (hd : decode (M m).2.1 (pcs i) = .ok (.aconst_null, 1)) (hp : pcs (i + 1) = pcs i + 1) : sm_OK l S b Lx xs dC dI cA M X m pcs i s_null := by
  intro L st μ cmd h hL
  cases h
  refine ⟨rfl, Nat.le_refl _, Nat.le_refl _, fun p e R s mm args below meth c Q z0 n0 hF hX hz hn hc hs hW H locs ls hR hS hl => ?_⟩
  obtain ⟨hx, hb, -⟩ := hF
  have hk := hW H locs ls hR hS hl
  rw [hp] at hk
  intro T hT X
  obtain ⟨t, a, b9⟩ := hk T hT X
  refine ⟨t, ?_, b9⟩
  jvm_step X.here [X.here.top, hx, hb, hd]
  exact a
theorem ok_iload {k : Nat} (hd : decode (M m).2.1 (pcs i) = .ok (.iload k, 2)) (hp : pcs (i + 1) = pcs i + 2) : sm_OK l S b Lx xs dC dI cA M X m pcs i (s_iload k) := by
  intro L st μ cmd h hL
  unfold s_iload at h
  split at h
  · next x hx9 =>
    cases h
    refine ⟨rfl, Nat.le_refl _, Nat.le_refl _, fun p e R s mm args below meth c Q z0 n0 hF hX hz hn hc hs hW H locs ls hR hS hl => ?_⟩
    obtain ⟨hx, hb, -⟩ := hF
    have hk := hW H locs ls hR hS hl
    rw [hp] at hk
    have hat := hl.at hx9
    exact lv_iload hx hb hd hat hk
  · cases h
theorem ok_iload_n {k : Nat} {k9 : Fin 4} (hd : decode (M m).2.1 (pcs i) = .ok (.iload_n k9, 1)) (h9 : (k9 : Nat) = k) (hp : pcs (i + 1) = pcs i + 1) : sm_OK l S b Lx xs dC dI cA M X m pcs i (s_iload k) := by
  intro L st μ cmd h hL
  unfold s_iload at h
  split at h
  · next x hx9 =>
    cases h
    refine ⟨rfl, Nat.le_refl _, Nat.le_refl _, fun p e R s mm args below meth c Q z0 n0 hF hX hz hn hc hs hW H locs ls hR hS hl => ?_⟩
    obtain ⟨hx, hb, -⟩ := hF
    have hk := hW H locs ls hR hS hl
    rw [hp] at hk
    have hat := hl.at hx9
    exact lv_iload_n hx hb hd h9 hat hk
  · cases h
theorem ok_aload {k : Nat} (hd : decode (M m).2.1 (pcs i) = .ok (.aload k, 2)) (hp : pcs (i + 1) = pcs i + 2) : sm_OK l S b Lx xs dC dI cA M X m pcs i (s_aload k) := by
  intro L st μ cmd h hL
  unfold s_aload at h
  split at h
  · next x hx9 =>
    cases h
    refine ⟨rfl, Nat.le_refl _, Nat.le_refl _, fun p e R s mm args below meth c Q z0 n0 hF hX hz hn hc hs hW H locs ls hR hS hl => ?_⟩
    obtain ⟨hx, hb, -⟩ := hF
    have hk := hW H locs ls hR hS hl
    rw [hp] at hk
    have hat := hl.at hx9
    by_cases h0 : x = 0
    · subst h0
      exact lv_aloadN hx hb hd hat hk
    · have e9 : sm_v S b (.inr (.inl x)) = .ref (sm_adr S b x) := by show va_rf (sm_rad S b x) = _; rw [sm_rad, if_neg h0]; rfl
      rw [e9] at hat
      simp only [List.map_cons, e9] at hk
      exact lv_aload hx hb hd hat hk
  · cases h
theorem ok_aload_n {k : Nat} {k9 : Fin 4} (hd : decode (M m).2.1 (pcs i) = .ok (.aload_n k9, 1)) (h9 : (k9 : Nat) = k) (hp : pcs (i + 1) = pcs i + 1) : sm_OK l S b Lx xs dC dI cA M X m pcs i (s_aload k) := by
  intro L st μ cmd h hL
  unfold s_aload at h
  split at h
  · next x hx9 =>
    cases h
    refine ⟨rfl, Nat.le_refl _, Nat.le_refl _, fun p e R s mm args below meth c Q z0 n0 hF hX hz hn hc hs hW H locs ls hR hS hl => ?_⟩
    obtain ⟨hx, hb, -⟩ := hF
    have hk := hW H locs ls hR hS hl
    rw [hp] at hk
    have hat := hl.at hx9
    by_cases h0 : x = 0
    · subst h0
      exact lv_aload_nN hx hb hd h9 hat hk
    · have e9 : sm_v S b (.inr (.inl x)) = .ref (sm_adr S b x) := by show va_rf (sm_rad S b x) = _; rw [sm_rad, if_neg h0]; rfl
      rw [e9] at hat
      simp only [List.map_cons, e9] at hk
      exact lv_aload_n hx hb hd h9 hat hk
  · cases h
theorem ok_lload {k : Nat} (hd : decode (M m).2.1 (pcs i) = .ok (.lload k, 2)) (hp : pcs (i + 1) = pcs i + 2) : sm_OK l S b Lx xs dC dI cA M X m pcs i (s_lload k) := by
  intro L st μ cmd h hL
  unfold s_lload at h
  split at h
  · next x hx9 =>
    cases h
    refine ⟨rfl, Nat.le_refl _, Nat.le_refl _, fun p e R s mm args below meth c Q z0 n0 hF hX hz hn hc hs hW H locs ls hR hS hl => ?_⟩
    obtain ⟨hx, hb, -⟩ := hF
    have hk := hW H locs ls hR hS hl
    rw [hp] at hk
    have hat := hl.at hx9
    exact lv_lload hx hb hd hat hk
  · cases h
theorem ok_lload_n {k : Nat} {k9 : Fin 4} (hd : decode (M m).2.1 (pcs i) = .ok (.lload_n k9, 1)) (h9 : (k9 : Nat) = k) (hp : pcs (i + 1) = pcs i + 1) : sm_OK l S b Lx xs dC dI cA M X m pcs i (s_lload k) := by
  intro L st μ cmd h hL
  unfold s_lload at h
  split at h
  · next x hx9 =>
    cases h
    refine ⟨rfl, Nat.le_refl _, Nat.le_refl _, fun p e R s mm args below meth c Q z0 n0 hF hX hz hn hc hs hW H locs ls hR hS hl => ?_⟩
    obtain ⟨hx, hb, -⟩ := hF
    have hk := hW H locs ls hR hS hl
    rw [hp] at hk
    have hat := hl.at hx9
    exact lv_lload_n hx hb hd h9 hat hk
  · cases h
theorem ok_istore {k : Nat} (hd : decode (M m).2.1 (pcs i) = .ok (.istore k, 2)) (hp : pcs (i + 1) = pcs i + 2) : sm_OK l S b Lx xs dC dI cA M X m pcs i (s_istore k) := by
  intro L st μ cmd h hL
  unfold s_istore at h
  split at h
  · next x st9 =>
    split at h
    · next hc9 =>
      cases h
      refine ⟨by simp, Nat.le_refl _, Nat.le_refl _, fun p e R s mm args below meth c Q z0 n0 hF hX hz hn hc hs hW H locs ls hR hS hl => ?_⟩
      obtain ⟨hx, hb, -⟩ := hF
      obtain ⟨lv, hl1, hl2⟩ := hl
      refine lv_istore hx hb hd hl1 hc9.1 rfl fun ls' hl' => ?_
      have hk := hW H locs ls' hR hS (sm_L.store (v := .inl x) hl2 hc9.2 hl')
      rwa [hp] at hk
    · cases h
  · cases h
theorem ok_istore_n {k : Nat} {k9 : Fin 4} (hd : decode (M m).2.1 (pcs i) = .ok (.istore_n k9, 1)) (h9 : (k9 : Nat) = k) (hp : pcs (i + 1) = pcs i + 1) : sm_OK l S b Lx xs dC dI cA M X m pcs i (s_istore k) := by
  intro L st μ cmd h hL
  unfold s_istore at h
  split at h
  · next x st9 =>
    split at h
    · next hc9 =>
      cases h
      refine ⟨by simp, Nat.le_refl _, Nat.le_refl _, fun p e R s mm args below meth c Q z0 n0 hF hX hz hn hc hs hW H locs ls hR hS hl => ?_⟩
      obtain ⟨hx, hb, -⟩ := hF
      obtain ⟨lv, hl1, hl2⟩ := hl
      refine lv_istore_n hx hb hd h9 hl1 hc9.1 rfl fun ls' hl' => ?_
      have hk := hW H locs ls' hR hS (sm_L.store (v := .inl x) hl2 hc9.2 hl')
      rwa [hp] at hk
    · cases h
  · cases h
theorem ok_astore {k : Nat} (hd : decode (M m).2.1 (pcs i) = .ok (.astore k, 2)) (hp : pcs (i + 1) = pcs i + 2) : sm_OK l S b Lx xs dC dI cA M X m pcs i (s_astore k) := by
  intro L st μ cmd h hL
  unfold s_astore at h
  split at h
  · next x st9 =>
    split at h
    · next hc9 =>
      cases h
      refine ⟨by simp, Nat.le_refl _, Nat.le_refl _, fun p e R s mm args below meth c Q z0 n0 hF hX hz hn hc hs hW H locs ls hR hS hl => ?_⟩
      obtain ⟨hx, hb, -⟩ := hF
      obtain ⟨lv, hl1, hl2⟩ := hl
      by_cases h0 : x = 0
      · subst h0
        refine lv_astoreN hx hb hd hl1 hc9.1 rfl fun ls' hl' => ?_
        have hk := hW H locs ls' hR hS (sm_L.store (v := .inr (.inl 0)) hl2 hc9.2 hl')
        rwa [hp] at hk
      · have e9 : sm_v S b (.inr (.inl x)) = .ref (sm_adr S b x) := by show va_rf (sm_rad S b x) = _; rw [sm_rad, if_neg h0]; rfl
        rw [List.map_cons, e9]
        refine lv_astore hx hb hd hl1 hc9.1 rfl fun ls' hl' => ?_
        have hk := hW H locs ls' hR hS (sm_L.store (v := .inr (.inl x)) hl2 hc9.2 (by rw [e9]; exact hl'))
        rwa [hp] at hk
    · cases h
  · cases h
theorem ok_astore_n {k : Nat} {k9 : Fin 4} (hd : decode (M m).2.1 (pcs i) = .ok (.astore_n k9, 1)) (h9 : (k9 : Nat) = k) (hp : pcs (i + 1) = pcs i + 1) : sm_OK l S b Lx xs dC dI cA M X m pcs i (s_astore k) := by
  intro L st μ cmd h hL
  unfold s_astore at h
  split at h
  · next x st9 =>
    split at h
    · next hc9 =>
      cases h
      refine ⟨by simp, Nat.le_refl _, Nat.le_refl _, fun p e R s mm args below meth c Q z0 n0 hF hX hz hn hc hs hW H locs ls hR hS hl => ?_⟩
      obtain ⟨hx, hb, -⟩ := hF
      obtain ⟨lv, hl1, hl2⟩ := hl
      by_cases h0 : x = 0
      · subst h0
        refine lv_astore_nN hx hb hd h9 hl1 hc9.1 rfl fun ls' hl' => ?_
        have hk := hW H locs ls' hR hS (sm_L.store (v := .inr (.inl 0)) hl2 hc9.2 hl')
        rwa [hp] at hk
      · have e9 : sm_v S b (.inr (.inl x)) = .ref (sm_adr S b x) := by show va_rf (sm_rad S b x) = _; rw [sm_rad, if_neg h0]; rfl
        rw [List.map_cons, e9]
        refine lv_astore_n hx hb hd h9 hl1 hc9.1 rfl fun ls' hl' => ?_
        have hk := hW H locs ls' hR hS (sm_L.store (v := .inr (.inl x)) hl2 hc9.2 (by rw [e9]; exact hl'))
        rwa [hp] at hk
    · cases h
  · cases h
theorem ok_lstore {k : Nat} (hd : decode (M m).2.1 (pcs i) = .ok (.lstore k, 2)) (hp : pcs (i + 1) = pcs i + 2) : sm_OK l S b Lx xs dC dI cA M X m pcs i (s_lstore k) := by
  intro L st μ cmd h hL
  unfold s_lstore at h
  split at h
  · next x st9 =>
    split at h
    · next hc9 =>
      cases h
      refine ⟨by simp, Nat.le_refl _, Nat.le_refl _, fun p e R s mm args below meth c Q z0 n0 hF hX hz hn hc hs hW H locs ls hR hS hl => ?_⟩
      obtain ⟨hx, hb, -⟩ := hF
      obtain ⟨lv, hl1, hl2⟩ := hl
      refine lv_lstore hx hb hd hl1 hc9.1 rfl fun ls' hl' => ?_
      have hk := hW H locs ls' hR hS (sm_L.store2 hl2 hc9.2 hl')
      rwa [hp] at hk
    · cases h
  · cases h
theorem ok_lstore_n {k : Nat} {k9 : Fin 4} (hd : decode (M m).2.1 (pcs i) = .ok (.lstore_n k9, 1)) (h9 : (k9 : Nat) = k) (hp : pcs (i + 1) = pcs i + 1) : sm_OK l S b Lx xs dC dI cA M X m pcs i (s_lstore k) := by
  intro L st μ cmd h hL
  unfold s_lstore at h
  split at h
  · next x st9 =>
    split at h
    · next hc9 =>
      cases h
      refine ⟨by simp, Nat.le_refl _, Nat.le_refl _, fun p e R s mm args below meth c Q z0 n0 hF hX hz hn hc hs hW H locs ls hR hS hl => ?_⟩
      obtain ⟨hx, hb, -⟩ := hF
      obtain ⟨lv, hl1, hl2⟩ := hl
      refine lv_lstore_n hx hb hd h9 hl1 hc9.1 rfl fun ls' hl' => ?_
      have hk := hW H locs ls' hR hS (sm_L.store2 hl2 hc9.2 hl')
      rwa [hp] at hk
    · cases h
  · cases h
theorem ok_iinc {k : Nat} {n : Int} {v : Int32} (hd : decode (M m).2.1 (pcs i) = .ok (.iinc k n, 3)) (hv : Int32.ofInt n = v) (hp : pcs (i + 1) = pcs i + 3) : sm_OK l S b Lx xs dC dI cA M X m pcs i (s_iinc k v) := by
  intro L st μ cmd h hL
  unfold s_iinc at h
  split at h
  · next x hx9 =>
    split at h
    · next hc9 =>
      cases h
      refine ⟨by simp, Nat.le_refl _, Nat.le_refl _, fun p e R s mm args below meth c Q z0 n0 hF hX hz hn hc hs hW H locs ls hR hS hl => ?_⟩
      obtain ⟨hx, hb, -⟩ := hF
      obtain ⟨lv, hl1, hl2⟩ := hl
      obtain ⟨j, hj⟩ := List.getElem?_of_mem (hl2 k _ hx9)
      have hkl : k < L.length := (List.getElem?_eq_some_iff.mp hx9).1
      refine lv_iinc (v := x + v) hx hb hd hl1 hj (by rw [hv]) hkl rfl fun ls' hl' => ?_
      have hk := hW H locs ls' hR hS (sm_L.store (v := .inl (x + v)) hl2 hc9 hl')
      rwa [hp] at hk
    · cases h
  · cases h
def g_iadd : Int32 → Int32 → Int32 := fun x y => x + y
theorem ok_iadd (hd : decode (M m).2.1 (pcs i) = .ok (.iadd, 1)) (hp : pcs (i + 1) = pcs i + 1) : sm_OK l S b Lx xs dC dI cA M X m pcs i (s_bin g_iadd) := by
  intro L st μ cmd h hL
  unfold s_bin at h
  split at h
  · next y x st9 =>
    cases h
    refine ⟨rfl, Nat.le_refl _, Nat.le_refl _, fun p e R s mm args below meth c Q z0 n0 hF hX hz hn hc hs hW H locs ls hR hS hl => ?_⟩
    obtain ⟨hx, hb, -⟩ := hF
    have hk := hW H locs ls hR hS hl
    rw [hp] at hk
    exact lv_iadd hx hb hd hk
  · cases h
def g_isub : Int32 → Int32 → Int32 := fun x y => x - y
theorem ok_isub (hd : decode (M m).2.1 (pcs i) = .ok (.isub, 1)) (hp : pcs (i + 1) = pcs i + 1) : sm_OK l S b Lx xs dC dI cA M X m pcs i (s_bin g_isub) := by
  intro L st μ cmd h hL
  unfold s_bin at h
  split at h
  · next y x st9 =>
    cases h
    refine ⟨rfl, Nat.le_refl _, Nat.le_refl _, fun p e R s mm args below meth c Q z0 n0 hF hX hz hn hc hs hW H locs ls hR hS hl => ?_⟩
    obtain ⟨hx, hb, -⟩ := hF
    have hk := hW H locs ls hR hS hl
    rw [hp] at hk
    exact lv_isub hx hb hd hk
  · cases h
def g_imul : Int32 → Int32 → Int32 := fun x y => x * y
theorem ok_imul (hd : decode (M m).2.1 (pcs i) = .ok (.imul, 1)) (hp : pcs (i + 1) = pcs i + 1) : sm_OK l S b Lx xs dC dI cA M X m pcs i (s_bin g_imul) := by
  intro L st μ cmd h hL
  unfold s_bin at h
  split at h
  · next y x st9 =>
    cases h
    refine ⟨rfl, Nat.le_refl _, Nat.le_refl _, fun p e R s mm args below meth c Q z0 n0 hF hX hz hn hc hs hW H locs ls hR hS hl => ?_⟩
    obtain ⟨hx, hb, -⟩ := hF
    have hk := hW H locs ls hR hS hl
    rw [hp] at hk
    exact lv_imul hx hb hd hk
  · cases h
def g_iand : Int32 → Int32 → Int32 := fun x y => x &&& y
theorem ok_iand (hd : decode (M m).2.1 (pcs i) = .ok (.iand, 1)) (hp : pcs (i + 1) = pcs i + 1) : sm_OK l S b Lx xs dC dI cA M X m pcs i (s_bin g_iand) := by
  intro L st μ cmd h hL
  unfold s_bin at h
  split at h
  · next y x st9 =>
    cases h
    refine ⟨rfl, Nat.le_refl _, Nat.le_refl _, fun p e R s mm args below meth c Q z0 n0 hF hX hz hn hc hs hW H locs ls hR hS hl => ?_⟩
    obtain ⟨hx, hb, -⟩ := hF
    have hk := hW H locs ls hR hS hl
    rw [hp] at hk
    exact lv_iand hx hb hd hk
  · cases h
def g_ior : Int32 → Int32 → Int32 := fun x y => x ||| y
theorem ok_ior (hd : decode (M m).2.1 (pcs i) = .ok (.ior, 1)) (hp : pcs (i + 1) = pcs i + 1) : sm_OK l S b Lx xs dC dI cA M X m pcs i (s_bin g_ior) := by
  intro L st μ cmd h hL
  unfold s_bin at h
  split at h
  · next y x st9 =>
    cases h
    refine ⟨rfl, Nat.le_refl _, Nat.le_refl _, fun p e R s mm args below meth c Q z0 n0 hF hX hz hn hc hs hW H locs ls hR hS hl => ?_⟩
    obtain ⟨hx, hb, -⟩ := hF
    have hk := hW H locs ls hR hS hl
    rw [hp] at hk
    exact lv_ior hx hb hd hk
  · cases h
def g_ixor : Int32 → Int32 → Int32 := fun x y => x ^^^ y
theorem ok_ixor (hd : decode (M m).2.1 (pcs i) = .ok (.ixor, 1)) (hp : pcs (i + 1) = pcs i + 1) : sm_OK l S b Lx xs dC dI cA M X m pcs i (s_bin g_ixor) := by
  intro L st μ cmd h hL
  unfold s_bin at h
  split at h
  · next y x st9 =>
    cases h
    refine ⟨rfl, Nat.le_refl _, Nat.le_refl _, fun p e R s mm args below meth c Q z0 n0 hF hX hz hn hc hs hW H locs ls hR hS hl => ?_⟩
    obtain ⟨hx, hb, -⟩ := hF
    have hk := hW H locs ls hR hS hl
    rw [hp] at hk
    exact lv_ixor hx hb hd hk
  · cases h
def g_ishl : Int32 → Int32 → Int32 := fun x y => x <<< (y &&& 31)
theorem ok_ishl (hd : decode (M m).2.1 (pcs i) = .ok (.ishl, 1)) (hp : pcs (i + 1) = pcs i + 1) : sm_OK l S b Lx xs dC dI cA M X m pcs i (s_bin g_ishl) := by
  intro L st μ cmd h hL
  unfold s_bin at h
  split at h
  · next y x st9 =>
    cases h
    refine ⟨rfl, Nat.le_refl _, Nat.le_refl _, fun p e R s mm args below meth c Q z0 n0 hF hX hz hn hc hs hW H locs ls hR hS hl => ?_⟩
    obtain ⟨hx, hb, -⟩ := hF
    have hk := hW H locs ls hR hS hl
    rw [hp] at hk
    exact lv_ishl hx hb hd hk
  · cases h
def g_ishr : Int32 → Int32 → Int32 := fun x y => x >>> (y &&& 31)
theorem ok_ishr (hd : decode (M m).2.1 (pcs i) = .ok (.ishr, 1)) (hp : pcs (i + 1) = pcs i + 1) : sm_OK l S b Lx xs dC dI cA M X m pcs i (s_bin g_ishr) := by
  intro L st μ cmd h hL
  unfold s_bin at h
  split at h
  · next y x st9 =>
    cases h
    refine ⟨rfl, Nat.le_refl _, Nat.le_refl _, fun p e R s mm args below meth c Q z0 n0 hF hX hz hn hc hs hW H locs ls hR hS hl => ?_⟩
    obtain ⟨hx, hb, -⟩ := hF
    have hk := hW H locs ls hR hS hl
    rw [hp] at hk
    exact lv_ishr hx hb hd hk
  · cases h
def g_iushr : Int32 → Int32 → Int32 := fun x y => (x.toUInt32 >>> (y.toUInt32 &&& Int32.toUInt32 31)).toInt32
theorem ok_iushr (hd : decode (M m).2.1 (pcs i) = .ok (.iushr, 1)) (hp : pcs (i + 1) = pcs i + 1) : sm_OK l S b Lx xs dC dI cA M X m pcs i (s_bin g_iushr) := by
  intro L st μ cmd h hL
  unfold s_bin at h
  split at h
  · next y x st9 =>
    cases h
    refine ⟨rfl, Nat.le_refl _, Nat.le_refl _, fun p e R s mm args below meth c Q z0 n0 hF hX hz hn hc hs hW H locs ls hR hS hl => ?_⟩
    obtain ⟨hx, hb, -⟩ := hF
    have hk := hW H locs ls hR hS hl
    rw [hp] at hk
    exact lv_iushr hx hb hd rfl hk
  · cases h
def g_idiv : Int32 → Int32 → Int32 := fun x y => x / y
theorem ok_idiv (hd : decode (M m).2.1 (pcs i) = .ok (.idiv, 1)) (hp : pcs (i + 1) = pcs i + 1) : sm_OK l S b Lx xs dC dI cA M X m pcs i (s_dvr g_idiv) := by
  intro L st μ cmd h hL
  unfold s_dvr at h
  split at h
  · next y x st9 =>
    split at h
    · cases h
    · next hy9 =>
      cases h
      refine ⟨rfl, Nat.le_refl _, Nat.le_refl _, fun p e R s mm args below meth c Q z0 n0 hF hX hz hn hc hs hW H locs ls hR hS hl => ?_⟩
      obtain ⟨hx, hb, -⟩ := hF
      have hk := hW H locs ls hR hS hl
      rw [hp] at hk
      exact lv_idiv hx hb hd hy9 hk
  · cases h
def g_irem : Int32 → Int32 → Int32 := fun x y => x - x / y * y
theorem ok_irem (hd : decode (M m).2.1 (pcs i) = .ok (.irem, 1)) (hp : pcs (i + 1) = pcs i + 1) : sm_OK l S b Lx xs dC dI cA M X m pcs i (s_dvr g_irem) := by
  intro L st μ cmd h hL
  unfold s_dvr at h
  split at h
  · next y x st9 =>
    split at h
    · cases h
    · next hy9 =>
      cases h
      refine ⟨rfl, Nat.le_refl _, Nat.le_refl _, fun p e R s mm args below meth c Q z0 n0 hF hX hz hn hc hs hW H locs ls hR hS hl => ?_⟩
      obtain ⟨hx, hb, -⟩ := hF
      have hk := hW H locs ls hR hS hl
      rw [hp] at hk
      exact lv_irem hx hb hd hy9 hk
  · cases h
def g_ineg : Int32 → Int32 := fun x => -x
theorem ok_ineg (hd : decode (M m).2.1 (pcs i) = .ok (.ineg, 1)) (hp : pcs (i + 1) = pcs i + 1) : sm_OK l S b Lx xs dC dI cA M X m pcs i (s_un g_ineg) := by
  intro L st μ cmd h hL
  unfold s_un at h
  split at h
  · next x st9 =>
    cases h
    refine ⟨rfl, Nat.le_refl _, Nat.le_refl _, fun p e R s mm args below meth c Q z0 n0 hF hX hz hn hc hs hW H locs ls hR hS hl => ?_⟩
    obtain ⟨hx, hb, -⟩ := hF
    have hk := hW H locs ls hR hS hl
    rw [hp] at hk
    exact lv_ineg hx hb hd hk
  · cases h
def g_i2b : Int32 → Int32 := fun x => x.toInt8.toInt32
theorem ok_i2b (hd : decode (M m).2.1 (pcs i) = .ok (.i2b, 1)) (hp : pcs (i + 1) = pcs i + 1) : sm_OK l S b Lx xs dC dI cA M X m pcs i (s_un g_i2b) := by
  intro L st μ cmd h hL
  unfold s_un at h
  split at h
  · next x st9 =>
    cases h
    refine ⟨rfl, Nat.le_refl _, Nat.le_refl _, fun p e R s mm args below meth c Q z0 n0 hF hX hz hn hc hs hW H locs ls hR hS hl => ?_⟩
    obtain ⟨hx, hb, -⟩ := hF
    have hk := hW H locs ls hR hS hl
    rw [hp] at hk
    exact lv_i2b hx hb hd rfl hk
  · cases h
def g_i2s : Int32 → Int32 := fun x => x.toInt16.toInt32
theorem ok_i2s (hd : decode (M m).2.1 (pcs i) = .ok (.i2s, 1)) (hp : pcs (i + 1) = pcs i + 1) : sm_OK l S b Lx xs dC dI cA M X m pcs i (s_un g_i2s) := by
  intro L st μ cmd h hL
  unfold s_un at h
  split at h
  · next x st9 =>
    cases h
    refine ⟨rfl, Nat.le_refl _, Nat.le_refl _, fun p e R s mm args below meth c Q z0 n0 hF hX hz hn hc hs hW H locs ls hR hS hl => ?_⟩
    obtain ⟨hx, hb, -⟩ := hF
    have hk := hW H locs ls hR hS hl
    rw [hp] at hk
    exact lv_i2s hx hb hd rfl hk
  · cases h
theorem ok_i2l (hd : decode (M m).2.1 (pcs i) = .ok (.i2l, 1)) (hp : pcs (i + 1) = pcs i + 1) : sm_OK l S b Lx xs dC dI cA M X m pcs i s_i2l := by
  intro L st μ cmd h hL
  unfold s_i2l at h
  split at h
  · next x st9 =>
    cases h
    refine ⟨rfl, Nat.le_refl _, Nat.le_refl _, fun p e R s mm args below meth c Q z0 n0 hF hX hz hn hc hs hW H locs ls hR hS hl => ?_⟩
    obtain ⟨hx, hb, -⟩ := hF
    have hk := hW H locs ls hR hS hl
    rw [hp] at hk
    exact lv_i2l hx hb hd rfl hk
  · cases h
theorem ok_lcmp (hd : decode (M m).2.1 (pcs i) = .ok (.lcmp, 1)) (hp : pcs (i + 1) = pcs i + 1) : sm_OK l S b Lx xs dC dI cA M X m pcs i s_lcmp := by
  intro L st μ cmd h hL
  unfold s_lcmp at h
  split at h
  · next y x st9 =>
    cases h
    refine ⟨rfl, Nat.le_refl _, Nat.le_refl _, fun p e R s mm args below meth c Q z0 n0 hF hX hz hn hc hs hW H locs ls hR hS hl => ?_⟩
    obtain ⟨hx, hb, -⟩ := hF
    have hk := hW H locs ls hR hS hl
    rw [hp] at hk
    exact W.lcmp hx hb hd hk
  · cases h
theorem ok_if_eq {off : Int} {t : Nat} (hd : decode (M m).2.1 (pcs i) = .ok (.ifCond .eq off, 3)) (ht : (pcs i : Int) + off = (pcs t : Int)) (hp : pcs (i + 1) = pcs i + 3) : sm_OK l S b Lx xs dC dI cA M X m pcs i (s_if (fun x => x = 0) t) := by
  intro L st μ cmd h hL
  unfold s_if at h
  split at h
  · next x st9 =>
    cases h
    refine ⟨rfl, Nat.le_refl _, Nat.le_refl _, fun p e R s mm args below meth c Q z0 n0 hF hX hz hn hc hs hW H locs ls hR hS hl => ?_⟩
    obtain ⟨hx, hb, -⟩ := hF
    have hk := hW H locs ls hR hS hl
    refine lv_if_eq hx hb hd ht (fun h9 => ?_) (fun h9 => ?_)
    · rwa [if_pos h9] at hk
    · rwa [if_neg h9, hp] at hk
  · cases h
theorem ok_icmp_eq {off : Int} {t : Nat} (hd : decode (M m).2.1 (pcs i) = .ok (.if_icmp .eq off, 3)) (ht : (pcs i : Int) + off = (pcs t : Int)) (hp : pcs (i + 1) = pcs i + 3) : sm_OK l S b Lx xs dC dI cA M X m pcs i (s_icmp (fun x y => x = y) t) := by
  intro L st μ cmd h hL
  unfold s_icmp at h
  split at h
  · next y x st9 =>
    cases h
    refine ⟨rfl, Nat.le_refl _, Nat.le_refl _, fun p e R s mm args below meth c Q z0 n0 hF hX hz hn hc hs hW H locs ls hR hS hl => ?_⟩
    obtain ⟨hx, hb, -⟩ := hF
    have hk := hW H locs ls hR hS hl
    refine lv_icmp_eq hx hb hd ht (fun h9 => ?_) (fun h9 => ?_)
    · rwa [if_pos h9] at hk
    · rwa [if_neg h9, hp] at hk
  · cases h
theorem ok_if_ne {off : Int} {t : Nat} (hd : decode (M m).2.1 (pcs i) = .ok (.ifCond .ne off, 3)) (ht : (pcs i : Int) + off = (pcs t : Int)) (hp : pcs (i + 1) = pcs i + 3) : sm_OK l S b Lx xs dC dI cA M X m pcs i (s_if (fun x => x ≠ 0) t) := by
  intro L st μ cmd h hL
  unfold s_if at h
  split at h
  · next x st9 =>
    cases h
    refine ⟨rfl, Nat.le_refl _, Nat.le_refl _, fun p e R s mm args below meth c Q z0 n0 hF hX hz hn hc hs hW H locs ls hR hS hl => ?_⟩
    obtain ⟨hx, hb, -⟩ := hF
    have hk := hW H locs ls hR hS hl
    refine lv_if_ne hx hb hd ht (fun h9 => ?_) (fun h9 => ?_)
    · rwa [if_pos h9] at hk
    · rwa [if_neg (fun q => q h9), hp] at hk
  · cases h
theorem ok_icmp_ne {off : Int} {t : Nat} (hd : decode (M m).2.1 (pcs i) = .ok (.if_icmp .ne off, 3)) (ht : (pcs i : Int) + off = (pcs t : Int)) (hp : pcs (i + 1) = pcs i + 3) : sm_OK l S b Lx xs dC dI cA M X m pcs i (s_icmp (fun x y => x ≠ y) t) := by
  intro L st μ cmd h hL
  unfold s_icmp at h
  split at h
  · next y x st9 =>
    cases h
    refine ⟨rfl, Nat.le_refl _, Nat.le_refl _, fun p e R s mm args below meth c Q z0 n0 hF hX hz hn hc hs hW H locs ls hR hS hl => ?_⟩
    obtain ⟨hx, hb, -⟩ := hF
    have hk := hW H locs ls hR hS hl
    refine lv_icmp_ne hx hb hd ht (fun h9 => ?_) (fun h9 => ?_)
    · rwa [if_pos h9] at hk
    · rwa [if_neg (fun q => q h9), hp] at hk
  · cases h
theorem ok_if_lt {off : Int} {t : Nat} (hd : decode (M m).2.1 (pcs i) = .ok (.ifCond .lt off, 3)) (ht : (pcs i : Int) + off = (pcs t : Int)) (hp : pcs (i + 1) = pcs i + 3) : sm_OK l S b Lx xs dC dI cA M X m pcs i (s_if (fun x => x < 0) t) := by
  intro L st μ cmd h hL
  unfold s_if at h
  split at h
  · next x st9 =>
    cases h
    refine ⟨rfl, Nat.le_refl _, Nat.le_refl _, fun p e R s mm args below meth c Q z0 n0 hF hX hz hn hc hs hW H locs ls hR hS hl => ?_⟩
    obtain ⟨hx, hb, -⟩ := hF
    have hk := hW H locs ls hR hS hl
    refine lv_if_lt hx hb hd ht (fun h9 => ?_) (fun h9 => ?_)
    · rwa [if_pos h9] at hk
    · rwa [if_neg h9, hp] at hk
  · cases h
theorem ok_icmp_lt {off : Int} {t : Nat} (hd : decode (M m).2.1 (pcs i) = .ok (.if_icmp .lt off, 3)) (ht : (pcs i : Int) + off = (pcs t : Int)) (hp : pcs (i + 1) = pcs i + 3) : sm_OK l S b Lx xs dC dI cA M X m pcs i (s_icmp (fun x y => x < y) t) := by
  intro L st μ cmd h hL
  unfold s_icmp at h
  split at h
  · next y x st9 =>
    cases h
    refine ⟨rfl, Nat.le_refl _, Nat.le_refl _, fun p e R s mm args below meth c Q z0 n0 hF hX hz hn hc hs hW H locs ls hR hS hl => ?_⟩
    obtain ⟨hx, hb, -⟩ := hF
    have hk := hW H locs ls hR hS hl
    refine lv_icmp_lt hx hb hd ht (fun h9 => ?_) (fun h9 => ?_)
    · rwa [if_pos h9] at hk
    · rwa [if_neg h9, hp] at hk
  · cases h
theorem ok_if_ge {off : Int} {t : Nat} (hd : decode (M m).2.1 (pcs i) = .ok (.ifCond .ge off, 3)) (ht : (pcs i : Int) + off = (pcs t : Int)) (hp : pcs (i + 1) = pcs i + 3) : sm_OK l S b Lx xs dC dI cA M X m pcs i (s_if (fun x => 0 ≤ x) t) := by
  intro L st μ cmd h hL
  unfold s_if at h
  split at h
  · next x st9 =>
    cases h
    refine ⟨rfl, Nat.le_refl _, Nat.le_refl _, fun p e R s mm args below meth c Q z0 n0 hF hX hz hn hc hs hW H locs ls hR hS hl => ?_⟩
    obtain ⟨hx, hb, -⟩ := hF
    have hk := hW H locs ls hR hS hl
    refine lv_if_ge hx hb hd ht (fun h9 => ?_) (fun h9 => ?_)
    · rwa [if_pos h9] at hk
    · rwa [if_neg h9, hp] at hk
  · cases h
theorem ok_icmp_ge {off : Int} {t : Nat} (hd : decode (M m).2.1 (pcs i) = .ok (.if_icmp .ge off, 3)) (ht : (pcs i : Int) + off = (pcs t : Int)) (hp : pcs (i + 1) = pcs i + 3) : sm_OK l S b Lx xs dC dI cA M X m pcs i (s_icmp (fun x y => y ≤ x) t) := by
  intro L st μ cmd h hL
  unfold s_icmp at h
  split at h
  · next y x st9 =>
    cases h
    refine ⟨rfl, Nat.le_refl _, Nat.le_refl _, fun p e R s mm args below meth c Q z0 n0 hF hX hz hn hc hs hW H locs ls hR hS hl => ?_⟩
    obtain ⟨hx, hb, -⟩ := hF
    have hk := hW H locs ls hR hS hl
    refine lv_icmp_ge hx hb hd ht (fun h9 => ?_) (fun h9 => ?_)
    · rwa [if_pos h9] at hk
    · rwa [if_neg h9, hp] at hk
  · cases h
theorem ok_if_gt {off : Int} {t : Nat} (hd : decode (M m).2.1 (pcs i) = .ok (.ifCond .gt off, 3)) (ht : (pcs i : Int) + off = (pcs t : Int)) (hp : pcs (i + 1) = pcs i + 3) : sm_OK l S b Lx xs dC dI cA M X m pcs i (s_if (fun x => 0 < x) t) := by
  intro L st μ cmd h hL
  unfold s_if at h
  split at h
  · next x st9 =>
    cases h
    refine ⟨rfl, Nat.le_refl _, Nat.le_refl _, fun p e R s mm args below meth c Q z0 n0 hF hX hz hn hc hs hW H locs ls hR hS hl => ?_⟩
    obtain ⟨hx, hb, -⟩ := hF
    have hk := hW H locs ls hR hS hl
    refine lv_if_gt hx hb hd ht (fun h9 => ?_) (fun h9 => ?_)
    · rwa [if_pos h9] at hk
    · rwa [if_neg h9, hp] at hk
  · cases h
theorem ok_icmp_gt {off : Int} {t : Nat} (hd : decode (M m).2.1 (pcs i) = .ok (.if_icmp .gt off, 3)) (ht : (pcs i : Int) + off = (pcs t : Int)) (hp : pcs (i + 1) = pcs i + 3) : sm_OK l S b Lx xs dC dI cA M X m pcs i (s_icmp (fun x y => y < x) t) := by
  intro L st μ cmd h hL
  unfold s_icmp at h
  split at h
  · next y x st9 =>
    cases h
    refine ⟨rfl, Nat.le_refl _, Nat.le_refl _, fun p e R s mm args below meth c Q z0 n0 hF hX hz hn hc hs hW H locs ls hR hS hl => ?_⟩
    obtain ⟨hx, hb, -⟩ := hF
    have hk := hW H locs ls hR hS hl
    refine lv_icmp_gt hx hb hd ht (fun h9 => ?_) (fun h9 => ?_)
    · rwa [if_pos h9] at hk
    · rwa [if_neg h9, hp] at hk
  · cases h
theorem ok_if_le {off : Int} {t : Nat} (hd : decode (M m).2.1 (pcs i) = .ok (.ifCond .le off, 3)) (ht : (pcs i : Int) + off = (pcs t : Int)) (hp : pcs (i + 1) = pcs i + 3) : sm_OK l S b Lx xs dC dI cA M X m pcs i (s_if (fun x => x ≤ 0) t) := by
  intro L st μ cmd h hL
  unfold s_if at h
  split at h
  · next x st9 =>
    cases h
    refine ⟨rfl, Nat.le_refl _, Nat.le_refl _, fun p e R s mm args below meth c Q z0 n0 hF hX hz hn hc hs hW H locs ls hR hS hl => ?_⟩
    obtain ⟨hx, hb, -⟩ := hF
    have hk := hW H locs ls hR hS hl
    refine lv_if_le hx hb hd ht (fun h9 => ?_) (fun h9 => ?_)
    · rwa [if_pos h9] at hk
    · rwa [if_neg h9, hp] at hk
  · cases h
theorem ok_icmp_le {off : Int} {t : Nat} (hd : decode (M m).2.1 (pcs i) = .ok (.if_icmp .le off, 3)) (ht : (pcs i : Int) + off = (pcs t : Int)) (hp : pcs (i + 1) = pcs i + 3) : sm_OK l S b Lx xs dC dI cA M X m pcs i (s_icmp (fun x y => x ≤ y) t) := by
  intro L st μ cmd h hL
  unfold s_icmp at h
  split at h
  · next y x st9 =>
    cases h
    refine ⟨rfl, Nat.le_refl _, Nat.le_refl _, fun p e R s mm args below meth c Q z0 n0 hF hX hz hn hc hs hW H locs ls hR hS hl => ?_⟩
    obtain ⟨hx, hb, -⟩ := hF
    have hk := hW H locs ls hR hS hl
    refine lv_icmp_le hx hb hd ht (fun h9 => ?_) (fun h9 => ?_)
    · rwa [if_pos h9] at hk
    · rwa [if_neg h9, hp] at hk
  · cases h
theorem ok_ifnull {off : Int} {t : Nat} (hd : decode (M m).2.1 (pcs i) = .ok (.ifnull off, 3)) (ht : (pcs i : Int) + off = (pcs t : Int)) (hp : pcs (i + 1) = pcs i + 3) : sm_OK l S b Lx xs dC dI cA M X m pcs i (s_ifnull t) := by
  intro L st μ cmd h hL
  unfold s_ifnull at h
  split at h
  · next x st9 =>
    cases h
    refine ⟨rfl, Nat.le_refl _, Nat.le_refl _, fun p e R s mm args below meth c Q z0 n0 hF hX hz hn hc hs hW H locs ls hR hS hl => ?_⟩
    obtain ⟨hx, hb, -⟩ := hF
    have hk := hW H locs ls hR hS hl
    by_cases h0 : x = 0
    · subst h0
      rw [if_pos rfl] at hk
      exact lv_ifnullN hx hb hd ht hk
    · have e9 : sm_v S b (.inr (.inl x)) = .ref (sm_adr S b x) := by show va_rf (sm_rad S b x) = _; rw [sm_rad, if_neg h0]; rfl
      rw [if_neg h0] at hk
      rw [List.map_cons, e9]
      rw [hp] at hk
      exact lv_ifnull hx hb hd hk
  · cases h
theorem ok_ifnonnull {off : Int} {t : Nat} (hd : decode (M m).2.1 (pcs i) = .ok (.ifnonnull off, 3)) (ht : (pcs i : Int) + off = (pcs t : Int)) (hp : pcs (i + 1) = pcs i + 3) : sm_OK l S b Lx xs dC dI cA M X m pcs i (s_ifnonnull t) := by
  intro L st μ cmd h hL
  unfold s_ifnonnull at h
  split at h
  · next x st9 =>
    cases h
    refine ⟨rfl, Nat.le_refl _, Nat.le_refl _, fun p e R s mm args below meth c Q z0 n0 hF hX hz hn hc hs hW H locs ls hR hS hl => ?_⟩
    obtain ⟨hx, hb, -⟩ := hF
    have hk := hW H locs ls hR hS hl
    by_cases h0 : x = 0
    · subst h0
      rw [if_pos rfl] at hk
      rw [hp] at hk
      exact lv_ifnonnullN hx hb hd hk
    · have e9 : sm_v S b (.inr (.inl x)) = .ref (sm_adr S b x) := by show va_rf (sm_rad S b x) = _; rw [sm_rad, if_neg h0]; rfl
      rw [if_neg h0] at hk
      rw [List.map_cons, e9]
      exact lv_ifnonnull hx hb hd ht hk
  · cases h
theorem ok_goto {off : Int} {t : Nat} (hd : decode (M m).2.1 (pcs i) = .ok (.goto off, 3)) (ht : (pcs i : Int) + off = (pcs t : Int)) : sm_OK l S b Lx xs dC dI cA M X m pcs i (s_goto t) := by
  intro L st μ cmd h hL
  cases h
  refine ⟨rfl, Nat.le_refl _, Nat.le_refl _, fun p e R s mm args below meth c Q z0 n0 hF hX hz hn hc hs hW H locs ls hR hS hl => ?_⟩
  obtain ⟨hx, hb, -⟩ := hF
  exact lv_goto hx hb hd ht (hW H locs ls hR hS hl)
theorem slook_off {pcs : Nat → Nat} {pc : Nat} {dflt : Int} {dd : Nat} (hdd : (pc : Int) + dflt = (pcs dd : Int)) (x : Int32) : ∀ (ps : List (Int × Int)) (ts : List (Int32 × Nat)), ts.map (fun q => (q.1.toInt, (pcs q.2 : Int) - (pc : Int))) = ps → (pc : Int) + Op.lookupswitch.offset ps dflt x.toInt = (pcs (slook ts dd x) : Int) := by
  intro ps ts h
  subst h
  induction ts with
  | nil => exact hdd
  | cons q r ih =>
    obtain ⟨k, t⟩ := q
    simp only [List.map_cons]
    rw [Op.lookupswitch.offset_cons, slook]
    by_cases hk : x = k
    · subst hk
      rw [if_pos rfl, if_pos rfl]
      omega
    · rw [if_neg (fun e => hk (Int32.toInt_inj.mp e).symm), if_neg hk]
      exact ih
theorem ok_lookup {dflt : Int} {ps : Array (Int × Int)} {len dd : Nat} {ts : List (Int32 × Nat)} (hd : decode (M m).2.1 (pcs i) = .ok (.lookupswitch dflt ps, len)) (hs : (ps.toList.zip (ps.toList.drop 1)).all (fun (a, next) => a.1 < next.1) = true) (hts : ts.map (fun q => (q.1.toInt, (pcs q.2 : Int) - (pcs i : Int))) = ps.toList) (hdd : (pcs i : Int) + dflt = (pcs dd : Int)) : sm_OK l S b Lx xs dC dI cA M X m pcs i (s_sw ts dd) := by
  intro L st μ cmd h hL
  unfold s_sw at h
  split at h
  · next x st9 =>
    cases h
    refine ⟨rfl, Nat.le_refl _, Nat.le_refl _, fun p e R s mm args below meth c Q z0 n0 hF hX hz hn hc hs9 hW H locs ls hR hS hl => ?_⟩
    obtain ⟨hx, hb, -⟩ := hF
    exact lv_lookup hx hb hd hs rfl (slook_off hdd x _ _ hts) (hW H locs ls hR hS hl)
  · cases h
theorem slook_tab {pcs : Nat → Nat} {pc dd : Nat} (x : Int32) : ∀ (offs : List Int) (ts : List (Int32 × Nat)) (lo : Int), ts.map (fun q => (pcs q.2 : Int) - (pc : Int)) = offs → ts.map (fun q => q.1.toInt) = (List.range offs.length).map (fun k : Nat => lo + (k : Int)) →
    ((x.toInt < lo ∨ lo + (offs.length : Int) - 1 < x.toInt) → slook ts dd x = dd) ∧ ((¬ x.toInt < lo ∧ ¬ lo + (offs.length : Int) - 1 < x.toInt) → ∃ off, offs[(x.toInt - lo).toNat]? = some off ∧ (pc : Int) + off = (pcs (slook ts dd x) : Int)) := by
  intro offs
  induction offs with
  | nil =>
    intro ts lo h1 h2
    have : ts = [] := by simpa using h1
    subst this
    refine ⟨fun _ => rfl, fun h => ?_⟩
    simp only [List.length_nil] at h
    omega
  | cons o os ih =>
    intro ts lo h1 h2
    cases ts with
    | nil => cases h1
    | cons q r =>
      obtain ⟨k, t⟩ := q
      simp only [List.map_cons, List.cons.injEq] at h1
      rw [List.length_cons, List.range_succ_eq_map, List.map_cons, List.map_cons, List.map_map, List.cons.injEq] at h2
      obtain ⟨h1a, h1b⟩ := h1
      obtain ⟨h2a, h2b⟩ := h2
      have h2c : r.map (fun q => q.1.toInt) = (List.range os.length).map (fun k : Nat => (lo + 1) + (k : Int)) := by
        rw [h2b]
        apply List.map_congr_left
        intro j _
        simp only [Function.comp]
        omega
      obtain ⟨i1, i2⟩ := ih r (lo + 1) h1b h2c
      have hk0 : k.toInt = lo := by rw [h2a]; simp
      unfold slook
      by_cases hk : x = k
      · subst hk
        rw [if_pos rfl]
        refine ⟨fun h => ?_, fun _ => ⟨o, ?_, by omega⟩⟩
        · rw [List.length_cons] at h
          omega
        · rw [hk0, Int.sub_self]
          rfl
      · rw [if_neg hk]
        have hne : x.toInt ≠ lo := fun e => hk (Int32.toInt_inj.mp (e.trans hk0.symm))
        rw [List.length_cons]
        refine ⟨fun h => i1 (by omega), fun h => ?_⟩
        obtain ⟨off, j1, j2⟩ := i2 (by omega)
        refine ⟨off, ?_, j2⟩
        rw [show (x.toInt - lo).toNat = (x.toInt - (lo + 1)).toNat + 1 by omega]
        exact j1
theorem ok_table {dflt lo hi : Int} {offs : Array Int} {len dd : Nat} {ts : List (Int32 × Nat)} (hd : decode (M m).2.1 (pcs i) = .ok (.tableswitch dflt lo hi offs, len)) (h1 : ts.map (fun q => (pcs q.2 : Int) - (pcs i : Int)) = offs.toList) (h2 : ts.map (fun q => q.1.toInt) = (List.range offs.toList.length).map (fun k : Nat => lo + (k : Int))) (hhi : hi = lo + (offs.toList.length : Int) - 1) (hdd : (pcs i : Int) + dflt = (pcs dd : Int)) : sm_OK l S b Lx xs dC dI cA M X m pcs i (s_sw ts dd) := by
  intro L st μ cmd h hL
  unfold s_sw at h
  split at h
  · next x st9 =>
    cases h
    refine ⟨rfl, Nat.le_refl _, Nat.le_refl _, fun p e R s mm args below meth c Q z0 n0 hF hX hz hn hc hs hW H locs ls hR hS hl => ?_⟩
    obtain ⟨hx, hb, -⟩ := hF
    obtain ⟨j1, j2⟩ := slook_tab (pcs := pcs) (pc := pcs i) (dd := dd) x offs.toList ts lo h1 h2
    have hk := hW H locs ls hR hS hl
    subst hhi
    by_cases hr : x.toInt < lo ∨ lo + (offs.toList.length : Int) - 1 < x.toInt
    · rw [j1 hr] at hk
      exact lv_tableOut hx hb hd hr hdd hk
    · obtain ⟨off, k1, k2⟩ := j2 ⟨fun h => hr (Or.inl h), fun h => hr (Or.inr h)⟩
      exact lv_tableIn hx hb hd (fun h => hr (Or.inl h)) (fun h => hr (Or.inr h)) (by rw [← Array.getElem?_toList]; exact k1) k2 hk
  · cases h
theorem ok_dup (hd : decode (M m).2.1 (pcs i) = .ok (.dup, 1)) (hp : pcs (i + 1) = pcs i + 1) : sm_OK l S b Lx xs dC dI cA M X m pcs i s_dup := by
  intro L st μ cmd h hL
  unfold s_dup at h
  split at h
  · next v st9 =>
    split at h
    · next hc9 =>
      cases h
      refine ⟨rfl, Nat.le_refl _, Nat.le_refl _, fun p e R s mm args below meth c Q z0 n0 hF hX hz hn hc hs hW H locs ls hR hS hl => ?_⟩
      obtain ⟨hx, hb, -⟩ := hF
      have hk := hW H locs ls hR hS hl
      rw [hp] at hk
      exact lv_dup hx hb hd (ncat_1 hc9) hk
    · cases h
  · cases h
theorem ok_pop (hd : decode (M m).2.1 (pcs i) = .ok (.pop, 1)) (hp : pcs (i + 1) = pcs i + 1) : sm_OK l S b Lx xs dC dI cA M X m pcs i s_pop := by
  intro L st μ cmd h hL
  unfold s_pop at h
  split at h
  · next v st9 =>
    split at h
    · next hc9 =>
      cases h
      refine ⟨rfl, Nat.le_refl _, Nat.le_refl _, fun p e R s mm args below meth c Q z0 n0 hF hX hz hn hc hs hW H locs ls hR hS hl => ?_⟩
      obtain ⟨hx, hb, -⟩ := hF
      have hk := hW H locs ls hR hS hl
      rw [hp] at hk
      exact lv_pop hx hb hd (ncat_1 hc9) hk
    · cases h
  · cases h
theorem ok_dup2 (hd : decode (M m).2.1 (pcs i) = .ok (.dup2, 1)) (hp : pcs (i + 1) = pcs i + 1) : sm_OK l S b Lx xs dC dI cA M X m pcs i s_dup2 := by
  intro L st μ cmd h hL
  unfold s_dup2 at h
  split at h
  · next v w9 st9 =>
    split at h
    · next hc9 =>
      cases h
      refine ⟨rfl, Nat.le_refl _, Nat.le_refl _, fun p e R s mm args below meth c Q z0 n0 hF hX hz hn hc hs hW H locs ls hR hS hl => ?_⟩
      obtain ⟨hx, hb, -⟩ := hF
      have hk := hW H locs ls hR hS hl
      rw [hp] at hk
      exact lv_dup2_11 hx hb hd (ncat_1 hc9.1) (ncat_1 hc9.2) hk
    · cases h
  · cases h
theorem ok_ret (hd : decode (M m).2.1 (pcs i) = .ok (.ireturn, 1)) (hr : (M m).2.2.2.1 = some .int) : sm_OK l S b Lx xs dC dI cA M X m pcs i s_ret := by
  intro L st μ cmd h hL
  unfold s_ret at h
  split at h
  · cases h
    refine ⟨Or.inl hr, Nat.le_refl _, Nat.le_refl _, fun p e R s mm args below meth c Q z0 n0 hF hX hz hn hc hs hE H locs ls hR hS hl => ?_⟩
    obtain ⟨hx, hb, -⟩ := hF
    exact hE H locs ls (pcs i) hR hS (by rw [hb]; exact hd)
  · cases h
theorem ok_zret (hd : decode (M m).2.1 (pcs i) = .ok (.ireturn, 1)) (hr : (M m).2.2.2.1 = some .boolean) : sm_OK l S b Lx xs dC dI cA M X m pcs i s_zret := by
  intro L st μ cmd h hL
  unfold s_zret at h
  split at h
  · split at h
    · next hc9 =>
      cases h
      refine ⟨Or.inr ⟨hr, hc9⟩, Nat.le_refl _, Nat.le_refl _, fun p e R s mm args below meth c Q z0 n0 hF hX hz hn hc hs hE H locs ls hR hS hl => ?_⟩
      obtain ⟨hx, hb, -⟩ := hF
      exact hE H locs ls (pcs i) hR hS (by rw [hb]; exact hd)
    · cases h
  · cases h
theorem ok_aret (hd : decode (M m).2.1 (pcs i) = .ok (.areturn, 1)) {n : String} (hr : (M m).2.2.2.1 = some (.object n)) : sm_OK l S b Lx xs dC dI cA M X m pcs i s_aret := by
  intro L st μ cmd h hL
  unfold s_aret at h
  split at h
  · cases h
    refine ⟨⟨n, hr⟩, Nat.le_refl _, Nat.le_refl _, fun p e R s mm args below meth c Q z0 n0 hF hX hz hn hc hs hE H locs ls hR hS hl => ?_⟩
    obtain ⟨hx, hb, -⟩ := hF
    exact hE H locs ls (pcs i) hR hS (by rw [hb]; exact hd)
  · cases h
theorem ok_lret (hd : decode (M m).2.1 (pcs i) = .ok (.lreturn, 1)) (hr : (M m).2.2.2.1 = some .long) : sm_OK l S b Lx xs dC dI cA M X m pcs i s_lret := by
  intro L st μ cmd h hL
  unfold s_lret at h
  split at h
  · cases h
    refine ⟨hr, Nat.le_refl _, Nat.le_refl _, fun p e R s mm args below meth c Q z0 n0 hF hX hz hn hc hs hE H locs ls hR hS hl => ?_⟩
    obtain ⟨hx, hb, -⟩ := hF
    exact hE H locs ls (pcs i) hR hS (by rw [hb]; exact hd)
  · cases h
theorem ok_vret (hd : decode (M m).2.1 (pcs i) = .ok (.return_, 1)) (hr : (M m).2.2.2.1 = none) : sm_OK l S b Lx xs dC dI cA M X m pcs i s_vret := by
  intro L st μ cmd h hL
  unfold s_vret at h
  split at h
  · cases h
    refine ⟨hr, Nat.le_refl _, Nat.le_refl _, fun p e R s mm args below meth c Q z0 n0 hF hX hz hn hc hs hE H locs ls hR hS hl => ?_⟩
    obtain ⟨hx, hb, -⟩ := hF
    exact hE H locs ls (pcs i) hR hS (by rw [hb]; exact hd)
  · cases h
end SMINS
