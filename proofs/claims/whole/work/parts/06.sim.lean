/-! SOUNDNESS: what the small machine says of a method's run, the machine does -/
/-- a method: its name, bytes, locals, answer, handlers (from, to, at, kind) -/
abbrev SMeth : Type := MethodName × ByteArray × Nat × Option FieldType × List (Nat × Nat × Nat × Nat)
def sm_ws1 (q : SMeth) : Cond := if q.2.2.2.2 = [] then .code q.1 q.2.1 q.2.2.1 q.2.2.2.1 else .codeWith q.1 q.2.1 q.2.2.1 q.2.2.2.1 q.2.2.2.2
/-- the tables' words that hold on at any later state -/
def lw_g : List Cond := lw_tbl.filter goodWord
theorem lw_gm {w : Cond} (h : w ∈ lw_tbl) (hg : goodWord w = true) : w ∈ lw_g := List.mem_filter.mpr ⟨h, hg⟩
theorem lw_gi {k : Nat} {w : Cond} (h : lw_tbl[k]? = some w) (hg : goodWord w = true) : w ∈ lw_g := lw_gm (List.mem_of_getElem? h) hg
def sm_wsM (q : SMeth) : List Cond := sm_ws1 q :: lw_g
/-- words that hold on too, by laws of their own -/
def lw_n : List Cond := [.arrayOver (.object "TakesAPage$Book"),
  .arrayOver (.object "TakesAPage$Reader"),
  .arrayOver (.object "TakesAPage$Shelf"),
  .methodLinkNest "TakesAPage$Town" 33 ⟨"TakesAPage$Book", "<init>", "()V"⟩ "TakesAPage",
  .methodLinkNest "TakesAPage" 45 ⟨"TakesAPage$Shelf", "<init>", "()V"⟩ "TakesAPage",
  .methodLinkNest "TakesAPage$Town" 56 ⟨"TakesAPage", "readerOf", "(II)LTakesAPage$Reader;"⟩ "TakesAPage",
  .methodLinkNest "TakesAPage$LastReader" 7 ⟨"TakesAPage", "greatestPage", "(I)I"⟩ "TakesAPage",
  .methodLinkNest "TakesAPage$Reader" 28 ⟨"TakesAPage", "leastPage", "(I)I"⟩ "TakesAPage",
  .castable "java/lang/IllegalStateException" "java/lang/IllegalStateException",
  .castable "java/lang/IllegalArgumentException" "java/lang/IllegalArgumentException",
  .castable "TakesAPage$LastReader" "TakesAPage$Reader",
  .castable "TakesAPage$KindReader" "TakesAPage$Reader",
  .castable "TakesAPage$OwnReader" "TakesAPage$Reader",
  .castable "TakesAPage$FastReader" "TakesAPage$Reader",
  .castable "TakesAPage$BestReader" "TakesAPage$Reader",
  .castable "TakesAPage$ToldReader" "TakesAPage$Reader",
  .castable "TakesAPage$LeavesReader" "TakesAPage$Reader",
  .declares ⟨"java/lang/RuntimeException", "<init>", "(Ljava/lang/String;)V"⟩,
  .declares ⟨"java/lang/Exception", "<init>", "(Ljava/lang/String;)V"⟩,
  .declares ⟨"java/lang/Throwable", "<init>", "(Ljava/lang/String;)V"⟩]
theorem lw_n_warm {w : Cond} (hw : w ∈ lw_n) {s U : State} (hW : s.WarmedH U.vm) (h : w.before #[] s = true) : w.before #[] U = true := by
  simp only [lw_n, List.mem_cons, List.not_mem_nil, or_false] at hw
  rcases hw with rfl | rfl | rfl | rfl | rfl | rfl | rfl | rfl | rfl | rfl | rfl | rfl | rfl | rfl | rfl | rfl | rfl | rfl | rfl | rfl <;> first | exact va_AO.moved hW.alike h | exact va_Nw.warmM hW h | exact va_Nw.warmC hW h | exact va_Nw.warmD hW h
theorem lw_n_same {w : Cond} (hw : w ∈ lw_n) {s U : State} (hv : U.vm = s.vm) (h : w.before #[] s = true) : w.before #[] U = true := by
  simp only [lw_n, List.mem_cons, List.not_mem_nil, or_false] at hw
  rcases hw with rfl | rfl | rfl | rfl | rfl | rfl | rfl | rfl | rfl | rfl | rfl | rfl | rfl | rfl | rfl | rfl | rfl | rfl | rfl | rfl <;> first | exact va_tabs rfl hv.symm h | exact va_AO.moved (by rw [hv]; exact Vm.Alike.refl _) h
theorem lw_n_any {w : Cond} (hw : w ∈ lw_n) {s : State} {A : Array Value} (h : w.before #[] s = true) : w.before A s = true := by
  simp only [lw_n, List.mem_cons, List.not_mem_nil, or_false] at hw
  rcases hw with rfl | rfl | rfl | rfl | rfl | rfl | rfl | rfl | rfl | rfl | rfl | rfl | rfl | rfl | rfl | rfl | rfl | rfl | rfl | rfl <;> first | exact va_tabs rfl rfl h | exact va_AO.use (A := A) h
/-- what throws need: Throwable's two statics, the three texts -/
def sm_Z (S : Nat) (U : State) (H : Heap) : Prop :=
  vx_Zq Bundle.tN "UNASSIGNED_STACK" Bundle.steD (sm_A S) U H ∧ vx_Zq Bundle.tN "SUPPRESSED_SENTINEL" Bundle.listD (sm_A S) U H ∧
  (∃ a, vk_R "TakesAPage$Reader" 39 "the failure of a reader" a U) ∧ (∃ a, vk_R "TakesAPage" 223 "no such shelf" a U) ∧ (∃ a, vk_R "TakesAPage" 233 "no row, or no such place in it" a U) ∧ va_Nc "java/lang/IllegalStateException" "java/lang/IllegalArgumentException" U ∧ ∀ w ∈ lw_n, w.before #[] U = true
theorem sm_Z.nw {S : Nat} {U : State} {H : Heap} (h : sm_Z S U H) {w : Cond} (hw : w ∈ lw_n) {A : Array Value} : w.before A U = true := lw_n_any hw (h.2.2.2.2.2.2 w hw)
theorem sm_Z.go {S : Nat} {u U : State} {H0 H : Heap} {locs : List Loc} (h : sm_Z S u H0) (hW : u.WarmedH U.vm) (hS : va_S (sm_A S) H0 H locs) : sm_Z S U H := by
  obtain ⟨h1, h2, ⟨a3, h3⟩, ⟨a4, h4⟩, ⟨a5, h5⟩, h6, h7⟩ := h
  exact ⟨vx_Zq.moved hW.alike (h1.kept hS.2.1), vx_Zq.moved hW.alike (h2.kept hS.2.1), ⟨a3, h3.warm hW⟩, ⟨a4, h4.warm hW⟩, ⟨a5, h5.warm hW⟩, va_Nc.moved hW.alike h6, fun w hw => lw_n_warm hw hW (h7 w hw)⟩
theorem sm_Z.same {S : Nat} {u U : State} {H : Heap} (h : sm_Z S u H) (hv : U.vm = u.vm) : sm_Z S U H := by
  obtain ⟨h1, h2, ⟨a3, h3⟩, ⟨a4, h4⟩, ⟨a5, h5⟩, h6, h7⟩ := h
  have ha : u.vm.Alike U.vm := by rw [hv]; exact Vm.Alike.refl _
  exact ⟨vx_Zq.moved ha h1, vx_Zq.moved ha h2, ⟨a3, h3.same hv⟩, ⟨a4, h4.same hv⟩, ⟨a5, h5.same hv⟩, va_Nc.moved ha h6, fun w hw => lw_n_same hw hv (h7 w hw)⟩
def sm_exn (k : Nat) : String := if k = 0 then "java/lang/IllegalStateException" else "java/lang/IllegalArgumentException"
def sm_KL : Nat := 1400
def sm_CQ (S b Lx : Nat) (xs : Nat → Int32) (dC : Nat → ClassId) (dI : Nat → Nat → Nat) (cA : Nat → ClassId) (res : Option SV ⊕ Nat) (μ2 : SMem) : Array Value → State → Outcome → State → Prop := fun _ st o t =>
  ∃ v : Option SV, res = .inl v ∧ o = .returned (v.map (sm_v S b)) ∧ sm_R S b Lx xs dC dI cA μ2 t.heap ∧ va_F (sm_A S) st t
def sm_CX (S b Lx : Nat) (xs : Nat → Int32) (dC : Nat → ClassId) (dI : Nat → Nat → Nat) (cA : Nat → ClassId) (res : Option SV ⊕ Nat) (μ2 : SMem) : String → State → State → Prop := fun E st t =>
  ∃ k : Nat, res = .inr k ∧ E = sm_exn k ∧ sm_R S b Lx xs dC dI cA μ2 t.heap ∧ va_F (sm_A S) st t
def sm_room (d : Nat) (μ μ2 : SMem) : Room := { frames := d + 8, cells := sz μ2 - sz μ, slots := sl μ2 - sl μ, locals := (d + 1) * sm_KL }
/-- what a call of a method comes to -/
def sm_CT (l : Launch) (S b Lx : Nat) (xs : Nat → Int32) (dC : Nat → ClassId) (dI : Nat → Nat → Nat) (cA : Nat → ClassId) (q : SMeth) (d : Nat) (as : List SV) (μ : SMem) (res : Option SV ⊕ Nat) (μ2 : SMem) : Prop :=
  vx_Met l q.1 (sm_wsM q) (sm_room d μ μ2) (va_Pc (as.map (sm_v S b)) (fun U => U.heap.size + 2 = S + sz μ ∧ sm_R S b Lx xs dC dI cA μ U.heap ∧ va_K (dC, dI) vwCl (sm_tys cA) U ∧ sm_Z S U U.heap))
    (sm_CQ S b Lx xs dC dI cA res μ2) (sm_CX S b Lx xs dC dI cA res μ2) (sz μ2 - sz μ) (sl μ2 - sl μ) (sm_A S)
/-- a frame of a method -/
def sm_F (S z0 : Nat) (dC : Nat → ClassId) (dI : Nat → Nat → Nat) (cA : Nat → ClassId) (q : SMeth) (p : Program) (R : Room) (s : State) (mm : MethodId) (args : Array Value) (meth : Method) (c : Code) : Prop :=
  p.tables.exec = Jvm.exec ∧ c.code = q.2.1 ∧ c.maxLocals = q.2.2.1 ∧ s.vm.findClass q.1.cls = some mm.cls ∧ (∀ w ∈ lw_g, w.before args s = true) ∧ meth.locks = false ∧ meth.sig.returnType = q.2.2.2.1 ∧
  va_K (dC, dI) vwCl (sm_tys cA) s ∧ s.heap.size + 2 = S + z0 ∧ (q.1.name = "<init>" → meth.name = q.1.name) ∧ ((q.1.cls ≠ "TakesAPageLaw" ∨ q.1.name ≠ "law") → c.exceptionTable.toList = tableOf q.2.2.2.2) ∧ sm_Z S s s.heap ∧ 8 ≤ R.frames ∧ sm_KL ≤ R.locals
/-- the machine comes to Q from every state that is as the small one is here -/
def sm_W (S b Lx : Nat) (xs : Nat → Int32) (dC : Nat → ClassId) (dI : Nat → Nat → Nat) (cA : Nat → ClassId) (p : Program) (l : Launch) (e : Env) (R : Room) (s : State) (mm : MethodId) (args : Array Value) (below : List Frame) (meth : Method) (c : Code) (Q : State → Prop) (z0 n0 pc : Nat) (L : SL) (st : List SV) (μ : SMem) : Prop :=
  ∀ (H : Heap) (locs : List Loc) (ls : Array Slot), sm_R S b Lx xs dC dI cA μ H → va_S (sm_A S) s.heap H locs → sm_L S b ls L →
    W p l e R s mm args below meth c H locs (sz μ - z0) (sl μ - n0) Q (F0 mm pc ls (st.map (sm_v S b)))
def sm_retI : Option SV → Instr
  | none => .return_
  | some (.inl _) => .ireturn
  | some (.inr (.inl _)) => .areturn
  | some (.inr (.inr _)) => .lreturn
/-- what the end of a method owes -/
def sm_E (S b Lx : Nat) (xs : Nat → Int32) (dC : Nat → ClassId) (dI : Nat → Nat → Nat) (cA : Nat → ClassId) (p : Program) (l : Launch) (e : Env) (R : Room) (s : State) (mm : MethodId) (args : Array Value) (below : List Frame) (meth : Method) (c : Code) (Q : State → Prop) (z0 n0 : Nat) (res : Option SV ⊕ Nat) (μ : SMem) : Prop :=
  match res with
  | .inl v => ∀ (H : Heap) (locs : List Loc) (ls : Array Slot) (pc : Nat), sm_R S b Lx xs dC dI cA μ H → va_S (sm_A S) s.heap H locs → decode c.code pc = .ok (sm_retI v, 1) →
      W p l e R s mm args below meth c H locs (sz μ - z0) (sl μ - n0) Q (F0 mm pc ls (v.toList.map (sm_v S b)))
  | .inr k => Q = vx_MQ below (sm_CQ S b Lx xs dC dI cA res μ) (sm_CX S b Lx xs dC dI cA res μ) args s (sz μ - z0) (sl μ - n0) (sm_A S)
def sm_rt (rt : Option FieldType) (res : Option SV ⊕ Nat) : Prop := match res with
  | .inl none => rt = none
  | .inl (some (.inl x)) => rt = some .int ∨ (rt = some .boolean ∧ (x = 0 ∨ x = 1))
  | .inl (some (.inr (.inl _))) => ∃ n, rt = some (.object n)
  | .inl (some (.inr (.inr _))) => rt = some .long
  | .inr _ => True
/-- a step function is right at place i of a method, whose places stand at pcs -/
def sm_OK (l : Launch) (S b Lx : Nat) (xs : Nat → Int32) (dC : Nat → ClassId) (dI : Nat → Nat → Nat) (cA : Nat → ClassId) (M : Nat → SMeth) (X : Nat → State → Prop) (m : Nat) (pcs : Nat → Nat) (i : Nat) (f : SIns) : Prop :=
  ∀ (L : SL) (st : List SV) (μ : SMem) (cmd : SCmd), f i L st μ = some cmd → L.length = (M m).2.2.1 → match cmd with
  | .inl (i', L', st', μ') => L'.length = L.length ∧ sz μ ≤ sz μ' ∧ sl μ ≤ sl μ' ∧
      ∀ (p : Program) (e : Env) (R : Room) (s : State) (mm : MethodId) (args : Array Value) (below : List Frame) (meth : Method) (c : Code) (Q : State → Prop) (z0 n0 : Nat),
        sm_F S z0 dC dI cA (M m) p R s mm args meth c → X m s → z0 ≤ sz μ → n0 ≤ sl μ → sz μ' - z0 ≤ R.cells → sl μ' - n0 ≤ R.slots →
        sm_W S b Lx xs dC dI cA p l e R s mm args below meth c Q z0 n0 (pcs i') L' st' μ' → sm_W S b Lx xs dC dI cA p l e R s mm args below meth c Q z0 n0 (pcs i) L st μ
  | .inr (.inl (res, μ')) => sm_rt (M m).2.2.2.1 res ∧ sz μ ≤ sz μ' ∧ sl μ ≤ sl μ' ∧
      ∀ (p : Program) (e : Env) (R : Room) (s : State) (mm : MethodId) (args : Array Value) (below : List Frame) (meth : Method) (c : Code) (Q : State → Prop) (z0 n0 : Nat),
        sm_F S z0 dC dI cA (M m) p R s mm args meth c → X m s → z0 ≤ sz μ → n0 ≤ sl μ → sz μ' - z0 ≤ R.cells → sl μ' - n0 ≤ R.slots →
        sm_E S b Lx xs dC dI cA p l e R s mm args below meth c Q z0 n0 res μ' → sm_W S b Lx xs dC dI cA p l e R s mm args below meth c Q z0 n0 (pcs i) L st μ
  | .inr (.inr (y, as, i', hs, L', st', μ')) => L' = L ∧ μ' = μ ∧ (sinit as).length ≤ (M y).2.2.1 ∧ (∀ s, X y s) ∧
      ∀ (p : Program) (e : Env) (R : Room) (s : State) (mm : MethodId) (args : Array Value) (below : List Frame) (meth : Method) (c : Code) (Q : State → Prop) (z0 n0 : Nat),
        sm_F S z0 dC dI cA (M m) p R s mm args meth c → X m s → z0 ≤ sz μ → n0 ≤ sl μ →
        ∀ (d : Nat) (res : Option SV ⊕ Nat) (μ2 : SMem), d + 9 ≤ R.frames → (d + 2) * sm_KL ≤ R.locals → sm_CT l S b Lx xs dC dI cA (M y) d as μ res μ2 → sz μ ≤ sz μ2 → sl μ ≤ sl μ2 → sz μ2 - z0 ≤ R.cells → sl μ2 - n0 ≤ R.slots →
        (match res with
          | .inl v => sm_W S b Lx xs dC dI cA p l e R s mm args below meth c Q z0 n0 (pcs i') L (v.toList ++ st') μ2
          | .inr k => ∃ j x, shnd hs k = some (j, x) ∧ sm_W S b Lx xs dC dI cA p l e R s mm args below meth c Q z0 n0 (pcs j) (L.set x none) [] μ2) →
        sm_W S b Lx xs dC dI cA p l e R s mm args below meth c Q z0 n0 (pcs i) L st μ
section SMSIM
variable {l : Launch} {S b Lx : Nat} {xs : Nat → Int32} {dC : Nat → ClassId} {dI : Nat → Nat → Nat} {cA : Nat → ClassId}
theorem sm_ends {q : SMeth} {p : Program} {e : Env} {R : Room} {s : State} {mm : MethodId} {args : Array Value} {below : List Frame} {meth : Method} {c : Code} {z0 n0 : Nat} {μ2 : SMem} {res : Option SV ⊕ Nat}
    (hF : sm_F S z0 dC dI cA q p R s mm args meth c) (hv : sm_rt q.2.2.2.1 res) :
    sm_E S b Lx xs dC dI cA p l e R s mm args below meth c (vx_MQ below (sm_CQ S b Lx xs dC dI cA res μ2) (sm_CX S b Lx xs dC dI cA res μ2) args s (sz μ2 - z0) (sl μ2 - n0) (sm_A S)) z0 n0 res μ2 := by
  obtain ⟨hx, hb, hml, hown, hts, hlocks, hr, hK, hs0, hnm, htab, hZ, hfr, hlo⟩ := hF
  rcases res with v | k
  · intro H locs ls pc hR hS hdg
    have hf : ∀ z ∈ locs, sm_A S z.base := hS.2.2
    have hq : ∀ t : State, t.heap = H → s.WarmedH t.vm → sm_CQ S b Lx xs dC dI cA (.inl v) μ2 args s (.returned (v.map (sm_v S b))) t := fun t ht _ => ⟨v, rfl, rfl, by rw [ht]; exact hR, hS.F ht⟩
    rcases v with _ | x | n | z
    · exact vx_ret (W.vret hx rfl (hr.trans hv) hq hf hdg)
    · rcases hv with hv | ⟨hv, hx01⟩
      · exact vx_ret (W.iret hx rfl (hr.trans hv) hq hf hdg)
      · refine vx_ret (W.zret (ty := .boolean) hx rfl (hr.trans hv) ?_ hq hf hdg)
        rcases hx01 with h | h <;> subst h <;> rfl
    · obtain ⟨nm, hv⟩ := hv
      refine vx_ret (W.aret (rt := .object nm) hx rfl (hr.trans hv) (Or.inl ⟨nm, rfl⟩) ?_ hq hf hdg)
      show va_rf (sm_rad S b n) = .null ∨ ∃ a, va_rf (sm_rad S b n) = .ref a
      unfold sm_rad
      by_cases h0 : n = 0
      · rw [if_pos h0]; exact Or.inl rfl
      · rw [if_neg h0]; exact Or.inr ⟨_, rfl⟩
    · exact vx_ret (W.lret hx rfl (hr.trans hv) hq hf hdg)
  · rfl
theorem sm_blind {as : List Value} {μ : SMem} : FrameBlind (va_Pc as (fun U => U.heap.size + 2 = S + sz μ ∧ sm_R S b Lx xs dC dI cA μ U.heap ∧ va_K (dC, dI) vwCl (sm_tys cA) U ∧ sm_Z S U U.heap)) :=
  fun a U g mk h => ⟨h.1, h.2.1, h.2.2.1, va_K.moved (u := U) (U := U.calling g mk a) (Vm.Alike.refl U.vm) h.2.2.2.1, h.2.2.2.2.same (U := U.calling g mk a) rfl⟩
/-- a method's run gives its contract -/
theorem sm_ct {q : SMeth} {d : Nat} {as : List SV} {μ μ2 : SMem} {res : Option SV ⊕ Nat} (hpl : plainName q.1.cls = true) (hsi : (sinit as).length ≤ q.2.2.1) (hrt : sm_rt q.2.2.2.1 res)
    (hrun : ∀ (p : Program) (e : Env) (R : Room) (s : State) (mm : MethodId) (args : Array Value) (below : List Frame) (meth : Method) (c : Code) (Q : State → Prop),
        sm_F S (sz μ) dC dI cA q p R s mm args meth c → d + 8 ≤ R.frames → (d + 1) * sm_KL ≤ R.locals → sz μ2 - sz μ ≤ R.cells → sl μ2 - sl μ ≤ R.slots →
        sm_E S b Lx xs dC dI cA p l e R s mm args below meth c Q (sz μ) (sl μ) res μ2 → sm_W S b Lx xs dC dI cA p l e R s mm args below meth c Q (sz μ) (sl μ) 0 (sfit q.2.2.1 as) [] μ) :
    sm_CT l S b Lx xs dC dI cA q d as μ res μ2 := by
  have body : ∀ (cc : ByteArray) (p : Program) (e : Env) (s : State) (m : MethodId) (args : Array Value) (below : List Frame) (meth : Method) (c : Code) (s₁ : State), BodyLoose p l q.1 (headSpec (sm_wsM q) (sm_room d μ μ2)) q.2.1 q.2.2.1 q.2.2.2.1 e s m args below meth c s₁ → c.maxLocals = q.2.2.1 → c.exceptionTable.toList = tableOf q.2.2.2.2 →
      va_Pc (as.map (sm_v S b)) (fun U => U.heap.size + 2 = S + sz μ ∧ sm_R S b Lx xs dC dI cA μ U.heap ∧ va_K (dC, dI) vwCl (sm_tys cA) U ∧ sm_Z S U U.heap) args s →
      W p l e (headSpec (sm_wsM q) (sm_room d μ μ2)).room s m args below meth c s.heap [] 0 0 (vx_MQ below (sm_CQ S b Lx xs dC dI cA res μ2) (sm_CX S b Lx xs dC dI cA res μ2) args s (sz μ2 - sz μ) (sl μ2 - sl μ) (sm_A S)) (entryFrame m args q.2.2.1) := by
    intro cc p e s m args below meth c s₁ B hml htab hP
    obtain ⟨rfl, hs0, hR, hK, hZ⟩ := hP
    have hts : ∀ w ∈ lw_g, w.before (as.map (sm_v S b)).toArray s = true := fun w hw => atoms_spec (ws := sm_wsM q) B.pre w (List.mem_cons_of_mem _ hw)
    have hF : sm_F S (sz μ) dC dI cA q p (headSpec (sm_wsM q) (sm_room d μ μ2)).room s m (as.map (sm_v S b)).toArray meth c :=
      ⟨B.exec, B.bytes, hml, findClass_of_methodNamed B.named, hts, B.notSynchronized, B.returns, hK, hs0, fun _ => (name_of_methodNamed B.named B.method).1, fun _ => htab, hZ, by show 8 ≤ d + 8; omega, by show sm_KL ≤ (d + 1) * sm_KL; unfold sm_KL; omega⟩
    have hE := sm_ends (l := l) (e := e) (below := below) (n0 := sl μ) (μ2 := μ2) (b := b) (Lx := Lx) (xs := xs) hF hrt
    have hW := hrun p e _ s m _ below meth c _ hF (Nat.le_refl _) (Nat.le_refl _) (Nat.le_refl _) (Nat.le_refl _) hE
    rw [lg_entry_eq]
    have h := hW s.heap [] _ hR va_S.rf (sm_entry hsi)
    rwa [Nat.sub_self, Nat.sub_self] at h
  obtain ⟨y, cc, nL, rt, hh⟩ := q
  by_cases h0 : hh = []
  · subst h0
    refine vx_ofW (ws' := lw_g) (cc := cc) (maxL := nL) (ret := rt) hpl (by simp [sm_wsM, sm_ws1]) fun p e s m args below meth c s₁ B hml hex hP => body cc p e s m args below meth c s₁ B hml ?_ hP
    show c.exceptionTable.toList = tableOf []
    have : c.exceptionTable.toList = [] := List.eq_nil_iff_forall_not_mem.mpr hex
    rw [this]
    rfl
  · refine vx_ofWH (ws' := lw_g) (cc := cc) (maxL := nL) (ret := rt) (hh := hh) hpl (by simp [sm_wsM, sm_ws1, h0]) fun p e s m args below meth c s₁ B hml hP => body cc p e s m args below meth c s₁ B hml (vx_table (x := y) B (y := y) (bytes := cc) (maxL' := nL) (ret' := rt) (hh := hh) (atoms_spec (ws := sm_wsM (y, cc, nL, rt, hh)) B.pre _ (by unfold sm_wsM sm_ws1; rw [if_neg (show ¬ (y, cc, nL, rt, hh).2.2.2.2 = [] from h0)]; exact List.mem_cons_self))) hP
theorem sm_sim {P : Nat → Nat → Option SIns} {M : Nat → SMeth} {X : Nat → State → Prop} {pcs : Nat → Nat → Nat} (hOK : ∀ m i f, P m i = some f → sm_OK l S b Lx xs dC dI cA M X m (pcs m) i f) (hpl : ∀ m, plainName (M m).1.cls = true) (h0 : ∀ m, pcs m 0 = 0) :
    ∀ (n d m i : Nat) (L : SL) (st : List SV) (μ : SMem) (res : Option SV ⊕ Nat) (μF : SMem), sx P (fun y => (M y).2.2.1) n d m i L st μ = some (res, μF) → L.length = (M m).2.2.1 →
      sm_rt (M m).2.2.2.1 res ∧ sz μ ≤ sz μF ∧ sl μ ≤ sl μF ∧
      ∀ (p : Program) (e : Env) (R : Room) (s : State) (mm : MethodId) (args : Array Value) (below : List Frame) (meth : Method) (c : Code) (Q : State → Prop) (z0 n0 : Nat),
        sm_F S z0 dC dI cA (M m) p R s mm args meth c → X m s → d + 8 ≤ R.frames → (d + 1) * sm_KL ≤ R.locals → z0 ≤ sz μ → n0 ≤ sl μ → sz μF - z0 ≤ R.cells → sl μF - n0 ≤ R.slots →
        sm_E S b Lx xs dC dI cA p l e R s mm args below meth c Q z0 n0 res μF → sm_W S b Lx xs dC dI cA p l e R s mm args below meth c Q z0 n0 (pcs m i) L st μ := by
  intro n
  induction n with
  | zero => intro d m i L st μ res μF h; cases h
  | succ n ih =>
    intro d m i L st μ res μF h hL
    unfold sx at h
    cases hP : P m i with
    | none => rw [hP] at h; cases h
    | some f =>
      rw [hP] at h
      dsimp only at h
      cases hf : f i L st μ with
      | none => rw [hf] at h; cases h
      | some cmd =>
        rw [hf] at h
        have hok := hOK m i f hP L st μ cmd hf hL
        rcases cmd with ⟨i', L', st', μ'⟩ | r' | ⟨y, as, i', hs, L', st', μ'⟩
        · obtain ⟨g1, g2, g3, g4⟩ := hok
          obtain ⟨k1, k2, k3, k4⟩ := ih _ _ _ _ _ _ _ _ h (g1.trans hL)
          refine ⟨k1, by omega, by omega, fun p e R s mm args below meth c Q z0 n0 hF hX hfr hlo hz hn hc hsl hE => ?_⟩
          exact g4 p e R s mm args below meth c Q z0 n0 hF hX hz hn (by omega) (by omega) (k4 p e R s mm args below meth c Q z0 n0 hF hX hfr hlo (by omega) (by omega) hc hsl hE)
        · cases h
          obtain ⟨g0, g1, g2, g3⟩ := hok
          refine ⟨g0, g1, g2, fun p e R s mm args below meth c Q z0 n0 hF hX hfr hlo hz hn hc hsl hE => ?_⟩
          exact g3 p e R s mm args below meth c Q z0 n0 hF hX hz hn hc hsl hE
        · dsimp only at h
          obtain ⟨rfl, rfl, g1, g2, g3⟩ := hok
          cases d with
          | zero => cases h
          | succ d =>
            dsimp only at h
            cases hc : sx P (fun y => (M y).2.2.1) n d y 0 (sfit (M y).2.2.1 as) [] μ' with
            | none => rw [hc] at h; cases h
            | some r2 =>
              rw [hc] at h
              obtain ⟨res2, μ2⟩ := r2
              obtain ⟨j1, j2, j3, j4⟩ := ih _ _ _ _ _ _ _ _ hc (by simp [sfit]; omega)
              have hCT : sm_CT l S b Lx xs dC dI cA (M y) d as μ' res2 μ2 := sm_ct (hpl y) g1 j1 fun p e R s mm args below meth c Q hF hfr hlo hcc hss hE => by
                have := j4 p e R s mm args below meth c Q (sz μ') (sl μ') hF (g2 s) hfr hlo (Nat.le_refl _) (Nat.le_refl _) hcc hss hE
                rwa [h0] at this
              rcases res2 with v | k
              · obtain ⟨k1, k2, k3, k4⟩ := ih _ _ _ _ _ _ _ _ h hL
                refine ⟨k1, by omega, by omega, fun p e R s mm args below meth c Q z0 n0 hF hX hfr hlo hz hn hcc hss hE => ?_⟩
                exact g3 p e R s mm args below meth c Q z0 n0 hF hX hz hn d _ μ2 (by omega) (by omega) hCT j2 j3 (by omega) (by omega) (k4 p e R s mm args below meth c Q z0 n0 hF hX hfr hlo (by omega) (by omega) hcc hss hE)
              · dsimp only at h
                cases hh : shnd hs k with
                | none => rw [hh] at h; cases h
                | some jx =>
                  obtain ⟨j, x⟩ := jx
                  rw [hh] at h
                  obtain ⟨k1, k2, k3, k4⟩ := ih _ _ _ _ _ _ _ _ h (by rw [List.length_set]; exact hL)
                  refine ⟨k1, by omega, by omega, fun p e R s mm args below meth c Q z0 n0 hF hX hfr hlo hz hn hcc hss hE => ?_⟩
                  exact g3 p e R s mm args below meth c Q z0 n0 hF hX hz hn d _ μ2 (by omega) (by omega) hCT j2 j3 (by omega) (by omega) ⟨j, x, hh, k4 p e R s mm args below meth c Q z0 n0 hF hX hfr hlo (by omega) (by omega) hcc hss hE⟩
end SMSIM
