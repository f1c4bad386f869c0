/-! The small machine's heap in the machine's heap. -/
def zAd (sb c0 a : Nat) : Nat := if a = 0 then sb else c0 + a
def zTv (sb c0 : Nat) : ZV → Value
  | .inl x => .int x
  | .inr r => va_rf (r.map (zAd sb c0))
theorem zTv_cat (sb c0 : Nat) (v : ZV) : (zTv sb c0 v).category = 1 := by
  cases v with
  | inl x => rfl
  | inr r => cases r <;> rfl
theorem zTv_sum (sb c0 : Nat) (l : List ZV) : ((l.map (zTv sb c0)).map fun v => v.category).sum = l.length := by
  induction l with
  | nil => rfl
  | cons v l ih => simp only [List.map_cons, List.sum_cons, List.length_cons, zTv_cat, ih]; omega
def zFs (sb c0 : Nat) (h : ZH) (a ci : Nat) : List Value := (List.range (zfn ci)).map (fun k => if zrf ci k = true then va_rf ((h.2.2.1 a k).map (zAd sb c0)) else .int (h.2.1 a k))
def zCel (sb c0 : Nat) (cA : Nat → ClassId) (h : ZH) (a : Nat) : va_E := match h.1 a with
  | some (.inl ci) => .inr (ci, zFs sb c0 h a ci)
  | some (.inr (t, n)) => if t < 2 then .inl (cA t, n, .inl (h.2.1 a)) else .inl (cA t, n, .inr (.inr (.inr (.inr (fun j => (h.2.2.1 a j).map (zAd sb c0))))))
  | none => .inr (0, [])
def zTys (cA : Nat → ClassId) : List (ClassId × FieldType) := (List.range zty.length).map (fun t => (cA t, zty.getD t .int))
def zEnv (D : va_G) (cA : Nat → ClassId) (U : State) : Prop := va_K D zcl (zTys cA) U ∧ (∀ q ∈ zNW, va_Nw (.fieldLinkNest q.1 q.2.1 q.2.2.1 q.2.2.2.1 q.2.2.2.2.1 q.2.2.2.2.2) U) ∧ ∀ C ∈ zAO, va_AO C U
def zRel (sb c0 Ls : Nat) (xs : Nat → Int32) (D : va_G) (cA : Nat → ClassId) (U : State) (h : ZH) (H : Heap) : Prop :=
  (∀ a, 1 ≤ a → a < h.2.2.2.1 → va_at D zcl (c0 + a, zCel sb c0 cA h a) H) ∧ H.size = c0 + h.2.2.2.1 ∧ 1 ≤ h.2.2.2.1 ∧ (∀ a, h.2.2.2.1 ≤ a → h.1 a = none) ∧ h.1 0 = some (.inr (9, Ls)) ∧ h.2.1 0 = xs ∧ va_X sb Ls xs U H
def zLs (sb c0 : Nat) (ls : Array Slot) (nL : Nat) (L : ZL) : Prop := lv_has ls nL (L.map (fun q => (q.1, zTv sb c0 q.2))) ∧ (L.map (fun q => q.1)).Nodup
theorem zLs_get {sb c0 nL i : Nat} {ls : Array Slot} {L : ZL} {v : ZV} (h : zLs sb c0 ls nL L) (e : zget L i = some v) : ls[i]? = some (.val (zTv sb c0 v)) := by
  unfold zget at e
  cases hf : L.find? (fun q => q.1 == i) with
  | none => rw [hf] at e; cases e
  | some q =>
    rw [hf] at e
    cases e
    have h1 : q ∈ L := List.mem_of_find?_eq_some hf
    have h3 : q.1 = i := by simpa using List.find?_some hf
    have h4 := h.1.2.2 (q.1, zTv sb c0 q.2) (List.mem_map.mpr ⟨q, h1, rfl⟩)
    rw [← h3]
    exact h4
theorem zset_mem {i : Nat} {v : ZV} : ∀ {L : ZL}, (L.map (fun q => q.1)).Nodup → ∀ q ∈ zset L i v, q = (i, v) ∨ (q ∈ L ∧ q.1 ≠ i) := by
  intro L
  induction L with
  | nil => intro _ q hq; exact Or.inl (List.mem_singleton.mp hq)
  | cons w L ih =>
    obtain ⟨j, u⟩ := w
    intro hn q hq
    rw [List.map_cons, List.nodup_cons] at hn
    unfold zset at hq
    split at hq
    · rename_i hj
      rcases List.mem_cons.mp hq with rfl | h1
      · exact Or.inl rfl
      · refine Or.inr ⟨List.mem_cons_of_mem _ h1, fun h2 => hn.1 ?_⟩
        show j ∈ _
        rw [hj, ← h2]
        exact List.mem_map.mpr ⟨q, h1, rfl⟩
    · rename_i hj
      rcases List.mem_cons.mp hq with rfl | h1
      · exact Or.inr ⟨List.mem_cons_self, hj⟩
      · rcases ih hn.2 q h1 with h2 | h2
        · exact Or.inl h2
        · exact Or.inr ⟨List.mem_cons_of_mem _ h2.1, h2.2⟩
theorem zset_nd {i : Nat} {v : ZV} : ∀ {L : ZL}, (L.map (fun q => q.1)).Nodup → ((zset L i v).map (fun q => q.1)).Nodup := by
  intro L
  induction L with
  | nil => intro _; simp [zset]
  | cons w L ih =>
    obtain ⟨j, u⟩ := w
    intro hn
    have hn0 := hn
    rw [List.map_cons, List.nodup_cons] at hn
    unfold zset
    split
    · rename_i hj
      rw [List.map_cons, ← hj]
      exact hn0
    · rename_i hj
      rw [List.map_cons, List.nodup_cons]
      refine ⟨fun hm => ?_, ih hn.2⟩
      obtain ⟨q, h1, h2⟩ := List.mem_map.mp hm
      rcases zset_mem hn.2 q h1 with h3 | h3
      · rw [h3] at h2; exact hj h2.symm
      · exact hn.1 (List.mem_map.mpr ⟨q, h3.1, h2⟩)
theorem zLs_set {sb c0 nL i : Nat} {ls : Array Slot} {L : ZL} {v : ZV} (hn : (L.map (fun q => q.1)).Nodup) (h : lv_has ls nL ((i, zTv sb c0 v) :: (L.map (fun q => (q.1, zTv sb c0 q.2))).filter (fun q => !(q.1 == i) && !(q.1 + 1 == i && q.2.category == 2)))) : zLs sb c0 ls nL (zset L i v) := by
  refine ⟨⟨h.1, h.2.1, fun q hq => ?_⟩, zset_nd hn⟩
  obtain ⟨q0, h0, rfl⟩ := List.mem_map.mp hq
  rcases zset_mem hn q0 h0 with rfl | ⟨h2, h3⟩
  · exact h.2.2 _ List.mem_cons_self
  · refine h.2.2 _ (List.mem_cons_of_mem _ (List.mem_filter.mpr ⟨List.mem_map.mpr ⟨q0, h2, rfl⟩, ?_⟩))
    have h4 := zTv_cat sb c0 q0.2
    simp [h4, h3]
theorem zen_mem : ∀ (vs : List ZV) (k : Nat), ∀ q ∈ zen k vs, k ≤ q.1 := by
  intro vs
  induction vs with
  | nil => intro k q hq; cases hq
  | cons v vs ih =>
    intro k q hq
    rcases List.mem_cons.mp hq with rfl | h1
    · exact Nat.le_refl _
    · have := ih (k + 1) q h1; omega
theorem zen_nd : ∀ (vs : List ZV) (k : Nat), ((zen k vs).map (fun q => q.1)).Nodup := by
  intro vs
  induction vs with
  | nil => intro k; simp [zen]
  | cons v vs ih =>
    intro k
    show ((k, v) :: zen (k + 1) vs |>.map (fun q => q.1)).Nodup
    rw [List.map_cons, List.nodup_cons]
    refine ⟨fun hm => ?_, ih (k + 1)⟩
    obtain ⟨q, h1, h2⟩ := List.mem_map.mp hm
    have h3 := zen_mem vs (k + 1) q h1
    have h4 : q.1 = k := h2
    omega
theorem zen_args (sb c0 : Nat) : ∀ (vs : List ZV) (k : Nat), lv_args k (vs.map (zTv sb c0)) = (zen k vs).map (fun q => (q.1, zTv sb c0 q.2)) := by
  intro vs
  induction vs with
  | nil => intro k; rfl
  | cons v vs ih =>
    intro k
    show (k, zTv sb c0 v) :: lv_args (if (zTv sb c0 v).category = 2 then k + 2 else k + 1) (vs.map (zTv sb c0)) = (k, zTv sb c0 v) :: (zen (k + 1) vs).map _
    rw [zTv_cat, if_neg (by decide), ih]
theorem zsl_len (sb c0 : Nat) (vs : List ZV) : (lg_sl (vs.map (zTv sb c0))).length = vs.length := by
  induction vs with
  | nil => rfl
  | cons v vs ih =>
    have h1 : lg_sl ((v :: vs).map (zTv sb c0)) = lg_sl [zTv sb c0 v] ++ lg_sl (vs.map (zTv sb c0)) := by simp [lg_sl]
    rw [h1, List.length_append, ih]
    have h2 : (lg_sl [zTv sb c0 v]).length = 1 := by
      cases v with
      | inl x => rfl
      | inr r => cases r <;> rfl
    rw [h2, List.length_cons]
    omega
/-! Each instruction of the small machine is made by the machine. -/
def zGo (p : Program) (l : Launch) (e : Env) (R : Room) (s : State) (m : MethodId) (args : Array Value) (below : List Frame) (meth : Method) (c : Code) (Q : State → Prop) (sb c0 Ls n0 s0 : Nat) (xs : Nat → Int32) (D : va_G) (cA : Nat → ClassId) (M pc : Nat) (L : ZL) (st : List ZV) (h : ZH) : Prop :=
  ∀ (H : Heap) (locs : List Loc) (cells slots : Nat) (ls : Array Slot), zRel sb c0 Ls xs D cA s h H → zLs sb c0 ls (zmx M) L → (∀ q ∈ locs, c0 < q.base) → h.2.2.2.1 = n0 + cells → h.2.2.2.2 = s0 + slots → W p l e R s m args below meth c H locs cells slots Q (F0 m pc ls (st.map (zTv sb c0)))
def zFix (p : Program) (s : State) (m : MethodId) (args : Array Value) (meth : Method) (c : Code) (M : Nat) : Prop :=
  p.tables.exec = Jvm.exec ∧ c.code = zbc M ∧ c.maxLocals = zmx M ∧ s.vm.findClass (zow M) = some m.cls ∧ (∀ w ∈ zWS, w.before args s = true) ∧ (zct M = true → meth.name = "<init>")
def zk_const (M pc nx b : Nat) (n : Int) : Prop := if b = 0 then decode (zbc M) pc = .ok (.iconst n, 1) ∧ nx = pc + 1 else if b = 1 then decode (zbc M) pc = .ok (.bipush n, 2) ∧ nx = pc + 2 ∧ (Int8.ofInt n).toInt32 = Int32.ofInt n else decode (zbc M) pc = .ok (.sipush n, 3) ∧ nx = pc + 3 ∧ (Int16.ofInt n).toInt32 = Int32.ofInt n
def zarI (b : Nat) : Instr := if b = 0 then .iadd else if b = 1 then .isub else if b = 2 then .imul else if b = 3 then .idiv else if b = 4 then .iand else if b = 5 then .ishr else .iushr
def zcpC (b : Nat) : ClassFile.Cond := if b = 0 then .eq else if b = 1 then .ne else if b = 2 then .lt else if b = 3 then .ge else if b = 4 then .gt else .le
section ZS
variable {p : Program} {l : Launch} {e : Env} {R : Room} {s : State} {m : MethodId} {args : Array Value} {below : List Frame} {meth : Method} {c : Code} {Q : State → Prop}
variable {sb c0 Ls n0 s0 M pc nx : Nat} {xs : Nat → Int32} {D : va_G} {cA : Nat → ClassId} {L : ZL} {st r : List ZV} {h : ZH}
theorem zs_const (F : zFix p s m args meth c M) {b : Nat} {n : Int} (ok : zk_const M pc nx b n) (k : zGo p l e R s m args below meth c Q sb c0 Ls n0 s0 xs D cA M nx L (.inl (Int32.ofInt n) :: st) h) : zGo p l e R s m args below meth c Q sb c0 Ls n0 s0 xs D cA M pc L st h := by
  intro H locs cells slots ls hR hl hlo hn hs
  obtain ⟨hx, hb, hml, hown, hts, hct⟩ := F
  have kk := k H locs cells slots ls hR hl hlo hn hs
  unfold zk_const at ok
  split at ok
  · obtain ⟨d1, rfl⟩ := ok
    exact lv_iconst hx hb d1 rfl kk
  · split at ok
    · obtain ⟨d1, rfl, d2⟩ := ok
      exact lv_bipush hx hb d1 d2 kk
    · obtain ⟨d1, rfl, d2⟩ := ok
      exact lv_sipush hx hb d1 d2 kk
theorem zs_iload (F : zFix p s m args meth c M) {i b : Nat} {x : Int32} (ok : (b = 0 → ∃ f : Fin 4, f.val = i ∧ decode (zbc M) pc = .ok (.iload_n f, 1) ∧ nx = pc + 1) ∧ (¬ b = 0 → decode (zbc M) pc = .ok (.iload i, 2) ∧ nx = pc + 2)) (hg : zget L i = some (.inl x)) (k : zGo p l e R s m args below meth c Q sb c0 Ls n0 s0 xs D cA M nx L (.inl x :: st) h) : zGo p l e R s m args below meth c Q sb c0 Ls n0 s0 xs D cA M pc L st h := by
  intro H locs cells slots ls hR hl hlo hn hs
  obtain ⟨hx, hb, hml, hown, hts, hct⟩ := F
  have kk := k H locs cells slots ls hR hl hlo hn hs
  by_cases hb0 : b = 0
  · obtain ⟨f, h1, h2, rfl⟩ := ok.1 hb0
    exact lv_iload_n hx hb h2 h1 (zLs_get hl hg) kk
  · obtain ⟨h2, rfl⟩ := ok.2 hb0
    exact lv_iload hx hb h2 (zLs_get hl hg) kk
theorem zs_aload (F : zFix p s m args meth c M) {i b : Nat} {x : Option Nat} (ok : (b = 0 → ∃ f : Fin 4, f.val = i ∧ decode (zbc M) pc = .ok (.aload_n f, 1) ∧ nx = pc + 1) ∧ (¬ b = 0 → decode (zbc M) pc = .ok (.aload i, 2) ∧ nx = pc + 2)) (hg : zget L i = some (.inr x)) (k : zGo p l e R s m args below meth c Q sb c0 Ls n0 s0 xs D cA M nx L (.inr x :: st) h) : zGo p l e R s m args below meth c Q sb c0 Ls n0 s0 xs D cA M pc L st h := by
  intro H locs cells slots ls hR hl hlo hn hs
  obtain ⟨hx, hb, hml, hown, hts, hct⟩ := F
  have kk := k H locs cells slots ls hR hl hlo hn hs
  have hv := zLs_get hl hg
  by_cases hb0 : b = 0
  · obtain ⟨f, h1, h2, rfl⟩ := ok.1 hb0
    cases x with
    | none => exact lv_aload_nN hx hb h2 h1 hv kk
    | some y => exact lv_aload_n hx hb h2 h1 hv kk
  · obtain ⟨h2, rfl⟩ := ok.2 hb0
    cases x with
    | none => exact lv_aloadN hx hb h2 hv kk
    | some y => exact lv_aload hx hb h2 hv kk
theorem zs_istore (F : zFix p s m args meth c M) {i b : Nat} {x : Int32} (hi : i < zmx M) (ok : (b = 0 → ∃ f : Fin 4, f.val = i ∧ decode (zbc M) pc = .ok (.istore_n f, 1) ∧ nx = pc + 1) ∧ (¬ b = 0 → decode (zbc M) pc = .ok (.istore i, 2) ∧ nx = pc + 2)) (k : zGo p l e R s m args below meth c Q sb c0 Ls n0 s0 xs D cA M nx (zset L i (.inl x)) r h) : zGo p l e R s m args below meth c Q sb c0 Ls n0 s0 xs D cA M pc L (.inl x :: r) h := by
  intro H locs cells slots ls hR hl hlo hn hs
  obtain ⟨hx, hb, hml, hown, hts, hct⟩ := F
  by_cases hb0 : b = 0
  · obtain ⟨f, h1, h2, rfl⟩ := ok.1 hb0
    exact lv_istore_n hx hb h2 h1 hl.1 hi rfl fun ls' hl' => k H locs cells slots ls' hR (zLs_set hl.2 (v := .inl x) hl') hlo hn hs
  · obtain ⟨h2, rfl⟩ := ok.2 hb0
    exact lv_istore hx hb h2 hl.1 hi rfl fun ls' hl' => k H locs cells slots ls' hR (zLs_set hl.2 (v := .inl x) hl') hlo hn hs
theorem zs_astore (F : zFix p s m args meth c M) {i b : Nat} {x : Option Nat} (hi : i < zmx M) (ok : (b = 0 → ∃ f : Fin 4, f.val = i ∧ decode (zbc M) pc = .ok (.astore_n f, 1) ∧ nx = pc + 1) ∧ (¬ b = 0 → decode (zbc M) pc = .ok (.astore i, 2) ∧ nx = pc + 2)) (k : zGo p l e R s m args below meth c Q sb c0 Ls n0 s0 xs D cA M nx (zset L i (.inr x)) r h) : zGo p l e R s m args below meth c Q sb c0 Ls n0 s0 xs D cA M pc L (.inr x :: r) h := by
  intro H locs cells slots ls hR hl hlo hn hs
  obtain ⟨hx, hb, hml, hown, hts, hct⟩ := F
  by_cases hb0 : b = 0
  · obtain ⟨f, h1, h2, rfl⟩ := ok.1 hb0
    cases x with
    | none => exact lv_astore_nN hx hb h2 h1 hl.1 hi rfl fun ls' hl' => k H locs cells slots ls' hR (zLs_set hl.2 (v := .inr none) hl') hlo hn hs
    | some y => exact lv_astore_n hx hb h2 h1 hl.1 hi rfl fun ls' hl' => k H locs cells slots ls' hR (zLs_set hl.2 (v := .inr (some y)) hl') hlo hn hs
  · obtain ⟨h2, rfl⟩ := ok.2 hb0
    cases x with
    | none => exact lv_astoreN hx hb h2 hl.1 hi rfl fun ls' hl' => k H locs cells slots ls' hR (zLs_set hl.2 (v := .inr none) hl') hlo hn hs
    | some y => exact lv_astore hx hb h2 hl.1 hi rfl fun ls' hl' => k H locs cells slots ls' hR (zLs_set hl.2 (v := .inr (some y)) hl') hlo hn hs
theorem zs_iinc (F : zFix p s m args meth c M) {i : Nat} {n : Int} {x : Int32} (hi : i < zmx M) (ok : decode (zbc M) pc = .ok (.iinc i n, 3) ∧ nx = pc + 3) (hg : zget L i = some (.inl x)) (k : zGo p l e R s m args below meth c Q sb c0 Ls n0 s0 xs D cA M nx (zset L i (.inl (x + Int32.ofInt n))) st h) : zGo p l e R s m args below meth c Q sb c0 Ls n0 s0 xs D cA M pc L st h := by
  intro H locs cells slots ls hR hl hlo hn hs
  obtain ⟨hx, hb, hml, hown, hts, hct⟩ := F
  obtain ⟨h2, rfl⟩ := ok
  have hm : ∃ j : Nat, (L.map (fun q => (q.1, zTv sb c0 q.2)))[j]? = some (i, .int x) := by
    unfold zget at hg
    cases hf : L.find? (fun q => q.1 == i) with
    | none => rw [hf] at hg; cases hg
    | some q =>
      rw [hf] at hg
      have h4 : q.2 = .inl x := Option.some.inj hg
      have h3 : q.1 = i := by simpa using List.find?_some hf
      apply List.getElem?_of_mem
      exact List.mem_map.mpr ⟨q, List.mem_of_find?_eq_some hf, by rw [h3, h4]; rfl⟩
  obtain ⟨j, hj⟩ := hm
  exact lv_iinc hx hb h2 hl.1 hj rfl hi rfl fun ls' hl' => k H locs cells slots ls' hR (zLs_set hl.2 (v := .inl (x + Int32.ofInt n)) hl') hlo hn hs
theorem zs_ar (F : zFix p s m args meth c M) {b : Nat} {x y v : Int32} (hz : zar b x y = some v) (ok : decode (zbc M) pc = .ok (zarI b, 1) ∧ nx = pc + 1) (k : zGo p l e R s m args below meth c Q sb c0 Ls n0 s0 xs D cA M nx L (.inl v :: r) h) : zGo p l e R s m args below meth c Q sb c0 Ls n0 s0 xs D cA M pc L (.inl y :: .inl x :: r) h := by
  intro H locs cells slots ls hR hl hlo hn hs
  obtain ⟨hx, hb, hml, hown, hts, hct⟩ := F
  obtain ⟨h2, rfl⟩ := ok
  have kk := k H locs cells slots ls hR hl hlo hn hs
  unfold zar at hz
  unfold zarI at h2
  split at hz
  · rename_i hb0; subst hb0; cases hz
    exact lv_iadd hx hb h2 kk
  rename_i hb0
  rw [if_neg hb0] at h2
  split at hz
  · rename_i hb1; subst hb1; cases hz
    exact lv_isub hx hb h2 kk
  rename_i hb1
  rw [if_neg hb1] at h2
  split at hz
  · rename_i hb2; subst hb2; cases hz
    exact lv_imul hx hb h2 kk
  rename_i hb2
  rw [if_neg hb2] at h2
  split at hz
  · rename_i hb3; subst hb3
    split at hz
    · cases hz
    · rename_i hy; cases hz
      exact lv_idiv hx hb h2 hy kk
  rename_i hb3
  rw [if_neg hb3] at h2
  split at hz
  · rename_i hb4; subst hb4; cases hz
    exact lv_iand hx hb h2 kk
  rename_i hb4
  rw [if_neg hb4] at h2
  split at hz
  · rename_i hb5; subst hb5; cases hz
    exact lv_ishr hx hb h2 kk
  rename_i hb5
  rw [if_neg hb5] at h2
  split at hz
  · cases hz
    exact lv_iushr hx hb h2 rfl kk
  · cases hz
theorem zs_dup (F : zFix p s m args meth c M) {v : ZV} (ok : decode (zbc M) pc = .ok (.dup, 1) ∧ nx = pc + 1) (k : zGo p l e R s m args below meth c Q sb c0 Ls n0 s0 xs D cA M nx L (v :: v :: r) h) : zGo p l e R s m args below meth c Q sb c0 Ls n0 s0 xs D cA M pc L (v :: r) h := by
  intro H locs cells slots ls hR hl hlo hn hs
  obtain ⟨h2, rfl⟩ := ok
  exact lv_dup F.1 F.2.1 h2 (zTv_cat sb c0 v) (k H locs cells slots ls hR hl hlo hn hs)
theorem zs_dup2 (F : zFix p s m args meth c M) {v w : ZV} (ok : decode (zbc M) pc = .ok (.dup2, 1) ∧ nx = pc + 1) (k : zGo p l e R s m args below meth c Q sb c0 Ls n0 s0 xs D cA M nx L (v :: w :: v :: w :: r) h) : zGo p l e R s m args below meth c Q sb c0 Ls n0 s0 xs D cA M pc L (v :: w :: r) h := by
  intro H locs cells slots ls hR hl hlo hn hs
  obtain ⟨h2, rfl⟩ := ok
  exact lv_dup2_11 F.1 F.2.1 h2 (zTv_cat sb c0 v) (zTv_cat sb c0 w) (k H locs cells slots ls hR hl hlo hn hs)
theorem zs_dupx1 (F : zFix p s m args meth c M) {v w : ZV} (ok : decode (zbc M) pc = .ok (.dup_x1, 1) ∧ nx = pc + 1) (k : zGo p l e R s m args below meth c Q sb c0 Ls n0 s0 xs D cA M nx L (v :: w :: v :: r) h) : zGo p l e R s m args below meth c Q sb c0 Ls n0 s0 xs D cA M pc L (v :: w :: r) h := by
  intro H locs cells slots ls hR hl hlo hn hs
  obtain ⟨h2, rfl⟩ := ok
  exact lv_dup_x1 F.1 F.2.1 h2 (zTv_cat sb c0 v) (zTv_cat sb c0 w) (k H locs cells slots ls hR hl hlo hn hs)
theorem zs_pop (F : zFix p s m args meth c M) {v : ZV} (ok : decode (zbc M) pc = .ok (.pop, 1) ∧ nx = pc + 1) (k : zGo p l e R s m args below meth c Q sb c0 Ls n0 s0 xs D cA M nx L r h) : zGo p l e R s m args below meth c Q sb c0 Ls n0 s0 xs D cA M pc L (v :: r) h := by
  intro H locs cells slots ls hR hl hlo hn hs
  obtain ⟨h2, rfl⟩ := ok
  exact lv_pop F.1 F.2.1 h2 (zTv_cat sb c0 v) (k H locs cells slots ls hR hl hlo hn hs)
theorem zs_icmp (F : zFix p s m args meth c M) {b tg : Nat} {x y : Int32} (hb6 : b < 6) (ok : decode (zbc M) pc = .ok (.if_icmp (zcpC b) ((tg : Int) - pc), 3) ∧ nx = pc + 3) (k : zGo p l e R s m args below meth c Q sb c0 Ls n0 s0 xs D cA M (if zcp b x y = true then tg else nx) L r h) : zGo p l e R s m args below meth c Q sb c0 Ls n0 s0 xs D cA M pc L (.inl y :: .inl x :: r) h := by
  intro H locs cells slots ls hR hl hlo hn hs
  obtain ⟨h2, rfl⟩ := ok
  have kk := k H locs cells slots ls hR hl hlo hn hs
  have ht : (pc : Int) + ((tg : Int) - pc) = (tg : Int) := by omega
  rcases (show b = 0 ∨ b = 1 ∨ b = 2 ∨ b = 3 ∨ b = 4 ∨ b = 5 by omega) with rfl | rfl | rfl | rfl | rfl | rfl
  · exact lv_icmp_eq F.1 F.2.1 h2 ht (fun q => by rw [if_pos (by simpa [zcp] using q)] at kk; exact kk) (fun q => by rw [if_neg (by simpa [zcp] using q)] at kk; exact kk)
  · exact lv_icmp_ne F.1 F.2.1 h2 ht (fun q => by rw [if_pos (by simpa [zcp] using q)] at kk; exact kk) (fun q => by rw [if_neg (by simpa [zcp] using q)] at kk; exact kk)
  · exact lv_icmp_lt F.1 F.2.1 h2 ht (fun q => by rw [if_pos (by simpa [zcp] using q)] at kk; exact kk) (fun q => by rw [if_neg (by simpa [zcp] using q)] at kk; exact kk)
  · exact lv_icmp_ge F.1 F.2.1 h2 ht (fun q => by rw [if_pos (by simpa [zcp] using q)] at kk; exact kk) (fun q => by rw [if_neg (by simpa [zcp] using q)] at kk; exact kk)
  · exact lv_icmp_gt F.1 F.2.1 h2 ht (fun q => by rw [if_pos (by simpa [zcp] using q)] at kk; exact kk) (fun q => by rw [if_neg (by simpa [zcp] using q)] at kk; exact kk)
  · exact lv_icmp_le F.1 F.2.1 h2 ht (fun q => by rw [if_pos (by simpa [zcp] using q)] at kk; exact kk) (fun q => by rw [if_neg (by simpa [zcp] using q)] at kk; exact kk)
theorem zs_if (F : zFix p s m args meth c M) {b tg : Nat} {x : Int32} (hb6 : b < 6) (ok : decode (zbc M) pc = .ok (.ifCond (zcpC b) ((tg : Int) - pc), 3) ∧ nx = pc + 3) (k : zGo p l e R s m args below meth c Q sb c0 Ls n0 s0 xs D cA M (if zcp b x 0 = true then tg else nx) L r h) : zGo p l e R s m args below meth c Q sb c0 Ls n0 s0 xs D cA M pc L (.inl x :: r) h := by
  intro H locs cells slots ls hR hl hlo hn hs
  obtain ⟨h2, rfl⟩ := ok
  have kk := k H locs cells slots ls hR hl hlo hn hs
  have ht : (pc : Int) + ((tg : Int) - pc) = (tg : Int) := by omega
  rcases (show b = 0 ∨ b = 1 ∨ b = 2 ∨ b = 3 ∨ b = 4 ∨ b = 5 by omega) with rfl | rfl | rfl | rfl | rfl | rfl
  · exact lv_if_eq F.1 F.2.1 h2 ht (fun q => by rw [if_pos (by simpa [zcp] using q)] at kk; exact kk) (fun q => by rw [if_neg (by simpa [zcp] using q)] at kk; exact kk)
  · exact lv_if_ne F.1 F.2.1 h2 ht (fun q => by rw [if_pos (by simpa [zcp] using q)] at kk; exact kk) (fun q => by rw [if_neg (by simpa [zcp] using q)] at kk; exact kk)
  · exact lv_if_lt F.1 F.2.1 h2 ht (fun q => by rw [if_pos (by simpa [zcp] using q)] at kk; exact kk) (fun q => by rw [if_neg (by simpa [zcp] using q)] at kk; exact kk)
  · exact lv_if_ge F.1 F.2.1 h2 ht (fun q => by rw [if_pos (by simpa [zcp] using q)] at kk; exact kk) (fun q => by rw [if_neg (by simpa [zcp] using q)] at kk; exact kk)
  · exact lv_if_gt F.1 F.2.1 h2 ht (fun q => by rw [if_pos (by simpa [zcp] using q)] at kk; exact kk) (fun q => by rw [if_neg (by simpa [zcp] using q)] at kk; exact kk)
  · exact lv_if_le F.1 F.2.1 h2 ht (fun q => by rw [if_pos (by simpa [zcp] using q)] at kk; exact kk) (fun q => by rw [if_neg (by simpa [zcp] using q)] at kk; exact kk)
theorem zs_goto (F : zFix p s m args meth c M) {tg : Nat} (ok : decode (zbc M) pc = .ok (.goto ((tg : Int) - pc), 3)) (k : zGo p l e R s m args below meth c Q sb c0 Ls n0 s0 xs D cA M tg L st h) : zGo p l e R s m args below meth c Q sb c0 Ls n0 s0 xs D cA M pc L st h := by
  intro H locs cells slots ls hR hl hlo hn hs
  exact lv_goto F.1 F.2.1 ok (by omega) (k H locs cells slots ls hR hl hlo hn hs)
theorem zs_ifnull (F : zFix p s m args meth c M) {tg : Nat} {x : Option Nat} (ok : decode (zbc M) pc = .ok (.ifnull ((tg : Int) - pc), 3) ∧ nx = pc + 3) (k0 : x = none → zGo p l e R s m args below meth c Q sb c0 Ls n0 s0 xs D cA M tg L r h) (k1 : ∀ y, x = some y → zGo p l e R s m args below meth c Q sb c0 Ls n0 s0 xs D cA M nx L r h) : zGo p l e R s m args below meth c Q sb c0 Ls n0 s0 xs D cA M pc L (.inr x :: r) h := by
  intro H locs cells slots ls hR hl hlo hn hs
  obtain ⟨h2, rfl⟩ := ok
  cases x with
  | none => exact lv_ifnullN F.1 F.2.1 h2 (by omega) (k0 rfl H locs cells slots ls hR hl hlo hn hs)
  | some y => exact lv_ifnull F.1 F.2.1 h2 (k1 y rfl H locs cells slots ls hR hl hlo hn hs)
theorem zs_ifnonnull (F : zFix p s m args meth c M) {tg : Nat} {x : Option Nat} (ok : decode (zbc M) pc = .ok (.ifnonnull ((tg : Int) - pc), 3) ∧ nx = pc + 3) (k0 : x = none → zGo p l e R s m args below meth c Q sb c0 Ls n0 s0 xs D cA M nx L r h) (k1 : ∀ y, x = some y → zGo p l e R s m args below meth c Q sb c0 Ls n0 s0 xs D cA M tg L r h) : zGo p l e R s m args below meth c Q sb c0 Ls n0 s0 xs D cA M pc L (.inr x :: r) h := by
  intro H locs cells slots ls hR hl hlo hn hs
  obtain ⟨h2, rfl⟩ := ok
  cases x with
  | none => exact lv_ifnonnullN F.1 F.2.1 h2 (k0 rfl H locs cells slots ls hR hl hlo hn hs)
  | some y => exact lv_ifnonnull F.1 F.2.1 h2 (by omega) (k1 y rfl H locs cells slots ls hR hl hlo hn hs)
theorem zs_null (F : zFix p s m args meth c M) (ok : decode (zbc M) pc = .ok (.aconst_null, 1) ∧ nx = pc + 1) (k : zGo p l e R s m args below meth c Q sb c0 Ls n0 s0 xs D cA M nx L (.inr none :: st) h) : zGo p l e R s m args below meth c Q sb c0 Ls n0 s0 xs D cA M pc L st h := by
  intro H locs cells slots ls hR hl hlo hn hs
  obtain ⟨h2, rfl⟩ := ok
  exact lv_null F.1 F.2.1 h2 (k H locs cells slots ls hR hl hlo hn hs)
end ZS
