/-! A run of the small machine is a run of the machine. -/
theorem zev_n {cd : Nat → Nat → Option (ZI × Nat)} {N : Nat → Nat} : ∀ (n d M pc : Nat) (L : ZL) (st : List ZV) (h : ZH) (x : Option ZV × ZH), zev cd N n d M pc L st h = some x → h.2.2.2.1 ≤ x.2.2.2.2.1 ∧ h.2.2.2.2 ≤ x.2.2.2.2.2 := by
  intro n
  induction n with
  | zero => intro d M pc L st h x e; cases e
  | succ n ih =>
    intro d M pc L st h x e
    change zb N (zev cd N n) (cd M pc) d M L st h = some x at e
    unfold zb at e
    cases hc : cd M pc with
    | none => rw [hc] at e; cases e
    | some q =>
      obtain ⟨i, nx⟩ := q
      rw [hc] at e
      dsimp only at e
      by_cases h40 : i.1 = 40
      · rw [if_pos h40] at e
        cases d with
        | zero => cases e
        | succ d' =>
          dsimp only at e
          split at e
          · cases hq : zev cd N n d' i.2.1 0 (zen 0 (st.take i.2.2.1).reverse) [] h with
            | none => rw [hq] at e; cases e
            | some y =>
              obtain ⟨r, h1⟩ := y
              rw [hq] at e
              have g1 := ih _ _ _ _ _ _ _ hq
              have g2 := ih _ _ _ _ _ _ _ e
              exact ⟨Nat.le_trans g1.1 g2.1, Nat.le_trans g1.2 g2.2⟩
          · cases e
      · rw [if_neg h40] at e
        by_cases h41 : i.1 = 41
        · rw [if_pos h41] at e
          cases d with
          | zero => cases e
          | succ d' =>
            dsimp only at e
            split at e
            · split at e
              · exact ih _ _ _ _ _ _ _ e
              · cases e
            · cases e
        · rw [if_neg h41] at e
          by_cases h50 : i.1 = 50
          · rw [if_pos h50] at e
            split at e
            · cases e; exact ⟨Nat.le_refl _, Nat.le_refl _⟩
            · cases e
          · rw [if_neg h50] at e
            by_cases h51 : i.1 = 51
            · rw [if_pos h51] at e
              split at e
              · split at e
                · cases e; exact ⟨Nat.le_refl _, Nat.le_refl _⟩
                · cases e
              · cases e
            · rw [if_neg h51] at e
              by_cases h52 : i.1 = 52
              · rw [if_pos h52] at e
                split at e
                · cases e; exact ⟨Nat.le_refl _, Nat.le_refl _⟩
                · cases e
              · rw [if_neg h52] at e
                cases hz : zst N i nx L st h with
                | none => rw [hz] at e; cases e
                | some y =>
                  rw [hz] at e
                  have g1 := zst_n hz
                  have g2 := ih _ _ _ _ _ _ _ e
                  exact ⟨Nat.le_trans g1.1 g2.1, Nat.le_trans g1.2 g2.2⟩
theorem zEnv_warm {D : va_G} {cA : Nat → ClassId} {s U : State} (hW : s.WarmedH U.vm) (E : zEnv D cA s) : zEnv D cA U := ⟨va_K.moved hW.alike E.1, fun q hq => va_Nw.warmF hW (E.2.1 q hq), fun C hC => va_AO.moved hW.alike (E.2.2 C hC)⟩
theorem zEnv_same {D : va_G} {cA : Nat → ClassId} {s U : State} (hv : s.vm = U.vm) (E : zEnv D cA s) : zEnv D cA U := ⟨va_K.moved (by rw [hv]; exact Vm.Alike.refl _) E.1, fun q hq => va_Nw.same rfl hv (E.2.1 q hq), fun C hC => va_AO.moved (by rw [hv]; exact Vm.Alike.refl _) (E.2.2 C hC)⟩
theorem zRel_moved {sb c0 Ls : Nat} {xs : Nat → Int32} {D : va_G} {cA : Nat → ClassId} {u U : State} {h : ZH} {H : Heap} (hv : u.vm.Alike U.vm) (hR : zRel sb c0 Ls xs D cA u h H) : zRel sb c0 Ls xs D cA U h H := ⟨hR.1, hR.2.1, hR.2.2.1, hR.2.2.2.1, hR.2.2.2.2.1, hR.2.2.2.2.2.1, hR.2.2.2.2.2.2.moved hv⟩
/-- a contract's start and end, of one run of the small machine -/
def zPc (sb c0 Ls : Nat) (xs : Nat → Int32) (D : va_G) (cA : Nat → ClassId) (vs : List ZV) (h : ZH) : Array Value → State → Prop := fun v U => v = (vs.map (zTv sb c0)).toArray ∧ zEnv D cA U ∧ zRel sb c0 Ls xs D cA U h U.heap
def zQc (sb c0 Ls : Nat) (xs : Nat → Int32) (D : va_G) (cA : Nat → ClassId) (r : Option ZV) (h : ZH) : Array Value → State → Outcome → State → Prop := fun _ _ oc t => oc = .returned (r.map (zTv sb c0)) ∧ zRel sb c0 Ls xs D cA t h t.heap
theorem zPc_blind (sb c0 Ls : Nat) (xs : Nat → Int32) (D : va_G) (cA : Nat → ClassId) (vs : List ZV) (h : ZH) : FrameBlind (zPc sb c0 Ls xs D cA vs h) := fun a U g mk q => ⟨q.1, zEnv_same (s := U) (U := U.calling g mk a) rfl q.2.1, zRel_moved (u := U) (U := U.calling g mk a) (Vm.Alike.refl U.vm) q.2.2⟩
def zws (N : Nat) : List Cond := Cond.code (zmn N) (zbc N) (zmx N) (zrt N) :: zWS
theorem zgood {N : Nat} (hN : Cond.code (zmn N) (zbc N) (zmx N) (zrt N) ∈ zWS) : GoodIn zWS (zws N) := fun w hw => by
  rcases List.mem_cons.mp hw with rfl | hw
  · exact ⟨hN, zWS_ok _ hN⟩
  · exact ⟨hw, zWS_ok w hw⟩
def zrets (i : ZI) (rv : Option ZV) : Prop := (i.1 = 50 ∧ rv = none) ∨ (i.1 = 51 ∧ ∃ x, rv = some (.inl x) ∧ (i.2.2.1 = 0 ∨ x = 0 ∨ x = 1)) ∨ (i.1 = 52 ∧ ∃ x, rv = some (.inr x))
def zSnd (l : Launch) (sb c0 Ls : Nat) (xs : Nat → Int32) (D : va_G) (cA : Nat → ClassId) (n : Nat) : Prop := ∀ (d M pc : Nat) (L : ZL) (st : List ZV) (h : ZH) (rv : Option ZV) (h' : ZH), zev zcd zfn n d M pc L st h = some (rv, h') →
  ∀ (p : Program) (e : Env) (R : Room) (s : State) (m : MethodId) (args : Array Value) (below : List Frame) (meth : Method) (c : Code) (Q : State → Prop) (n0 s0 : Nat), zFix p s m args meth c M → zEnv D cA s → d ≤ R.frames → 40 * d ≤ R.locals → h'.2.2.2.1 ≤ n0 + R.cells → h'.2.2.2.2 ≤ s0 + R.slots →
    (∀ (i : ZI) (nx pc : Nat) (L : ZL), zok M pc i nx → zrets i rv → zGo p l e R s m args below meth c Q sb c0 Ls n0 s0 xs D cA M pc L rv.toList h') →
    zGo p l e R s m args below meth c Q sb c0 Ls n0 s0 xs D cA M pc L st h
set_option maxHeartbeats 4000000 in
/-- a method's contract, of one run of the small machine -/
theorem zmet {l : Launch} {sb c0 Ls : Nat} {xs : Nat → Int32} {D : va_G} {cA : Nat → ClassId} {n : Nat} (IH : zSnd l sb c0 Ls xs D cA n) {d N : Nat} {vs : List ZV} {h h' : ZH} {rv : Option ZV} (hlen : vs.length ≤ zmx N) (hm : zmok N) (e0 : zev zcd zfn n d N 0 (zen 0 vs) [] h = some (rv, h')) :
    Met l (zmn N) (zws N) { frames := d, cells := h'.2.2.2.1 - h.2.2.2.1, slots := h'.2.2.2.2 - h.2.2.2.2, locals := 40 * d } (zPc sb c0 Ls xs D cA vs h) (zQc sb c0 Ls xs D cA rv h') (h'.2.2.2.1 - h.2.2.2.1) (h'.2.2.2.2 - h.2.2.2.2) (fun q => c0 < q) := by
  obtain ⟨m1, m2, m3, m4, m5, m6, m7⟩ := hm
  have hmono := zev_n _ _ _ _ _ _ _ _ e0
  dsimp only at hmono
  refine Met.ofW (cc := zbc N) (maxL := zmx N) (ret := zrt N) m1 rfl ?_
  intro p e s m args below meth c s₁ B hml hv
  obtain ⟨rfl, hE, hR⟩ := hv
  have hts := atoms_spec (ws := zws N) B.pre
  have hown : s.vm.findClass (zow N) = some m.cls := findClass_of_methodNamed B.named
  have hnm : meth.name = (zmn N).name := (name_of_methodNamed B.named B.method).1
  have hlocks := B.notSynchronized
  have hl := lv_entry (vs.map (zTv sb c0)) (n := zmx N) (by rw [zsl_len]; exact hlen)
  rw [lg_entry_eq]
  rw [zen_args] at hl
  refine IH d N 0 (zen 0 vs) [] h rv h' e0 p e _ s m _ below meth c _ h.2.2.2.1 h.2.2.2.2 ⟨B.exec, B.bytes, hml, hown, fun w hw => hts w (List.mem_cons_of_mem _ hw), fun hct => hnm.trans (m6 hct)⟩ hE (Nat.le_refl d) (Nat.le_refl (40 * d)) (by show h'.2.2.2.1 ≤ h.2.2.2.1 + (h'.2.2.2.1 - h.2.2.2.1); omega) (by show h'.2.2.2.2 ≤ h.2.2.2.2 + (h'.2.2.2.2 - h.2.2.2.2); omega) ?_ s.heap [] 0 0 _ hR ⟨hl, zen_nd vs 0⟩ (fun q hq => by cases hq) (by omega) (by omega)
  intro i nx pc L hok hret H locs cells slots ls hR' hl' hlo hn hs
  have hc1 : cells = h'.2.2.2.1 - h.2.2.2.1 := by omega
  have hs1 : slots = h'.2.2.2.2 - h.2.2.2.2 := by omega
  subst hc1; subst hs1
  rcases hret with ⟨h5, rfl⟩ | ⟨h5, x, rfl, hx⟩ | ⟨h5, x, rfl⟩
  · obtain ⟨op, a, b, k, tl⟩ := i
    dsimp only at h5; subst h5
    have hok : decode (zbc N) pc = .ok (.return_, 1) ∧ zrt N = none := hok
    exact W.vret B.exec B.bytes (B.returns.trans hok.2) (fun t ht hW => ⟨rfl, by rw [ht]; exact zRel_moved hW.alike hR'⟩) hlo hok.1
  · obtain ⟨op, a, b, k, tl⟩ := i
    dsimp only at h5 hx; subst h5
    have hok : decode (zbc N) pc = .ok (.ireturn, 1) ∧ (if b = 0 then zrt N = some .int else zrt N = some .boolean) := hok
    by_cases hb : b = 0
    · have h2 := hok.2
      rw [if_pos hb] at h2
      exact W.iret (v := x) B.exec B.bytes (B.returns.trans h2) (fun t ht hW => ⟨rfl, by rw [ht]; exact zRel_moved hW.alike hR'⟩) hlo hok.1
    · have h2 := hok.2
      rw [if_neg hb] at h2
      have hx1 : x = 0 ∨ x = 1 := by rcases hx with q | q; exact absurd q hb; exact q
      exact W.zret (v := x) (ty := .boolean) B.exec B.bytes (B.returns.trans h2) (by rcases hx1 with rfl | rfl <;> decide +kernel) (fun t ht hW => ⟨rfl, by rw [ht]; exact zRel_moved hW.alike hR'⟩) hlo hok.1
  · obtain ⟨op, a, b, k, tl⟩ := i
    dsimp only at h5; subst h5
    have hok : decode (zbc N) pc = .ok (.areturn, 1) ∧ ∃ C, zrt N = some (.object C) := hok
    obtain ⟨h1, C, h2⟩ := hok
    refine W.aret (v := zTv sb c0 (.inr x)) (rt := .object C) B.exec B.bytes (B.returns.trans h2) (Or.inl ⟨_, rfl⟩) ?_ (fun t ht hW => ⟨rfl, by rw [ht]; exact zRel_moved hW.alike hR'⟩) hlo h1
    cases x with
    | none => exact Or.inl rfl
    | some y => exact Or.inr ⟨_, rfl⟩
set_option maxHeartbeats 4000000 in
theorem zcall {l : Launch} {sb c0 Ls : Nat} {xs : Nat → Int32} {D : va_G} {cA : Nat → ClassId} {n : Nat} (IH : zSnd l sb c0 Ls xs D cA n) {p : Program} {e : Env} {R : Room} {s : State} {m : MethodId} {args : Array Value} {below : List Frame} {meth : Method} {c : Code} {Q : State → Prop} {n0 s0 M pc nx N b idx kind cr d : Nat} {L : ZL} {as rest : List ZV} {h h1 : ZH} {rv : Option ZV}
    (F : zFix p s m args meth c M) (E : zEnv D cA s) (ok : zk_call M pc nx N b idx kind cr) (hlen : as.length = b) (hrest : rest.length ≤ 8) (hfr : d + 1 ≤ R.frames) (hlc : 40 * (d + 1) ≤ R.locals)
    (hrc : kind = 1 → ∃ o r', as = .inr (some o) :: r' ∧ h.1 o = some (.inl cr)) (hri : ¬ kind = 0 → ∃ o r', as = .inr (some o) :: r')
    (e0 : zev zcd zfn n d N 0 (zen 0 as) [] h = some (rv, h1)) (hrm : h1.2.2.2.1 ≤ n0 + R.cells ∧ h1.2.2.2.2 ≤ s0 + R.slots)
    (kg : zGo p l e R s m args below meth c Q sb c0 Ls n0 s0 xs D cA M nx L (rv.toList ++ rest) h1) : zGo p l e R s m args below meth c Q sb c0 Ls n0 s0 xs D cA M pc L (as.reverse ++ rest) h := by
  intro H locs cells slots ls hR hl hlo hn hs
  obtain ⟨rfl, hbx, hlink, hm, hkind⟩ := ok
  have hmono := zev_n _ _ _ _ _ _ _ _ e0
  dsimp only at hmono
  have hM := zmet IH (by rw [hlen]; exact hbx) hm e0
  have hm0 := hm
  obtain ⟨m1, m2, m3, m4, m5, m6, m7⟩ := hm
  obtain ⟨hx, hb, hml, hown, hts, hct⟩ := F
  have hRoom : d + 1 ≤ R.frames ∧ 8 + (zmx N + 11) + 40 * d ≤ R.locals := ⟨hfr, by omega⟩
  have hst : (as.reverse ++ rest).map (zTv sb c0) = (as.map (zTv sb c0)).reverse ++ rest.map (zTv sb c0) := by rw [List.map_append, List.map_reverse]
  rw [hst]
  have hW8 : 2 * (F0 m pc ls ((as.map (zTv sb c0)).reverse ++ rest.map (zTv sb c0))).monitorRoom + ((rest.map (zTv sb c0)).map fun v => v.category).sum ≤ 8 := lv_room (by rw [zTv_sum]; exact hrest)
  have hfit : cells + (h1.2.2.2.1 - h.2.2.2.1) ≤ R.cells ∧ slots + (h1.2.2.2.2 - h.2.2.2.2) ≤ R.slots := by omega
  have hPre : ∀ U : State, U.heap = H → s.WarmedH U.vm → zPc sb c0 Ls xs D cA as h (as.map (zTv sb c0)).toArray U := fun U hU hW => ⟨rfl, zEnv_warm hW E, by rw [hU]; exact zRel_moved hW.alike hR⟩
  have hini := hts _ m3
  -- what comes back
  have fin : va_Run p l e R s m args below meth c H locs cells slots (h1.2.2.2.1 - h.2.2.2.1) (h1.2.2.2.2 - h.2.2.2.2) (F0 m pc ls ((as.map (zTv sb c0)).reverse ++ rest.map (zTv sb c0))) (rest.map (zTv sb c0)) (zQc sb c0 Ls xs D cA rv h1 (as.map (zTv sb c0)).toArray) (fun q => c0 < q) → W p l e R s m args below meth c H locs cells slots Q (F0 m pc ls ((as.map (zTv sb c0)).reverse ++ rest.map (zTv sb c0))) := by
    intro hr T hT X
    obtain ⟨v, st₀, t, T', L', g0, X', hL, e1, e2, ⟨hv, hrel⟩, stp⟩ := hr T hT X
    have hv : v = rv.map (zTv sb c0) := by cases hv; rfl
    subst hv
    have kk := kg T'.heap (locs ++ L') (cells + (h1.2.2.2.1 - h.2.2.2.1)) (slots + (h1.2.2.2.2 - h.2.2.2.2)) ls (by rw [e1]; exact zRel_moved (by rw [← e2]; exact X'.warmed.alike.symm) hrel) hl (fun q hq => by
      rcases List.mem_append.mp hq with w | w
      · exact hlo q w
      · exact hL q w) (by omega) (by omega)
    have hst2 : (rv.toList ++ rest).map (zTv sb c0) = (rv.map (zTv sb c0)).toList ++ rest.map (zTv sb c0) := by
      cases rv <;> simp
    rw [hst2] at kk
    obtain ⟨t2, a1, b1⟩ := kk T' rfl X'
    exact ⟨t2, stp t2 a1, b1⟩
  by_cases hk0 : kind = 0
  · rw [if_pos hk0] at hkind
    obtain ⟨k1, k2, k3⟩ := hkind
    exact fin (va_runS (n := b) ⟨hx, hb, hml, hown, hts⟩ hM ⟨callB_of b hts (zgood m2) rfl rfl rfl hini (hts _ hlink) ⟨m4, m5, k3⟩ hRoom, hts _ k2⟩ ⟨zPc_blind sb c0 Ls xs D cA as h, hPre⟩ rfl (by rw [List.length_map, hlen]) hl.1.1 rfl hW8 k1 hfit)
  · rw [if_neg hk0] at hkind
    obtain ⟨o, r', has⟩ := hri hk0
    subst has
    have hrev : (((Sum.inr (some o) : ZV) :: r').map (zTv sb c0)).reverse ++ rest.map (zTv sb c0) = (r'.map (zTv sb c0)).reverse ++ (Value.ref (zAd sb c0 o) :: rest.map (zTv sb c0)) := by
      simp [zTv, va_rf]
    by_cases hk1 : kind = 1
    · rw [if_pos hk1] at hkind
      obtain ⟨k1, k2, k3, k4, k5, k6, k7⟩ := hkind
      obtain ⟨o2, r2, has2, ho2⟩ := hrc hk1
      have hoe : o = o2 := by cases has2; rfl
      subst hoe
      obtain ⟨o1, o3⟩ := zRel_in hR ho2
      have hat := hR.1 o o1 o3
      rw [zCel_o ho2] at hat
      obtain ⟨hc, -⟩ := zcl_ok k5
      have hrcv := va_recv (q0 := 0) E.1 (zP1 hat) hc rfl
      rw [k4] at hrcv
      rw [← zAd_pos (sb := sb) (by omega)] at hrcv
      exact fin (va_runV (n := b - 1) (C := (zmn N).cls) (b := zAd sb c0 o) (As := r'.map (zTv sb c0)) ⟨hx, hb, hml, hown, hts⟩ hM ⟨callB_of (b - 1) hts (zgood m2) rfl rfl rfl hini (hts _ hlink) ⟨m4, m5, k7⟩ hRoom, hts _ k2, hts _ k3⟩ ⟨zPc_blind sb c0 Ls xs D cA _ h, hrcv, hPre⟩ rfl (by rw [List.length_map]; rw [List.length_cons] at hlen; omega) hl.1.1 hrev hW8 k1 hfit)
    · rw [if_neg hk1] at hkind
      obtain ⟨k1, k2, k3, k4, k5, k6⟩ := hkind
      have hM2 := hM
      exact fin (va_runI (n := b - 1) (b := zAd sb c0 o) (As := r'.map (zTv sb c0)) ⟨hx, hb, hml, hown, hts⟩ hM ⟨callB_of (b - 1) (ret := none) hts (zgood m2) (by rw [zws, k4]) rfl rfl hini (hts _ hlink) ⟨m4, m5, k6⟩ hRoom, k3, hts _ k2⟩ ⟨zPc_blind sb c0 Ls xs D cA _ h, hPre⟩ rfl (by rw [List.length_map]; rw [List.length_cons] at hlen; omega) hl.1.1 hrev hW8 k1 hfit)
set_option maxHeartbeats 4000000 in
/-- SOUNDNESS: what the small machine answers, the machine comes to -/
theorem zsnd (l : Launch) {sb c0 : Nat} (Ls : Nat) (xs : Nat → Int32) (D : va_G) (cA : Nat → ClassId) (hsb : sb ≤ c0) : ∀ n : Nat, zSnd l sb c0 Ls xs D cA n := by
  intro n
  induction n with
  | zero => intro d M pc L st h rv h' e0; cases e0
  | succ n IH =>
    intro d M pc L st h rv h' e0 p e R s m args below meth c Q n0 s0 F E hfr hlc hc hs fin
    change zb zfn (zev zcd zfn n) (zcd M pc) d M L st h = some (rv, h') at e0
    unfold zb at e0
    cases hcd : zcd M pc with
    | none => rw [hcd] at e0; cases e0
    | some q =>
      obtain ⟨i, nx⟩ := q
      rw [hcd] at e0
      have ok := zok_all hcd
      dsimp only at e0
      by_cases h40 : i.1 = 40
      · rw [if_pos h40] at e0
        cases d with
        | zero => cases e0
        | succ d' =>
          dsimp only at e0
          split at e0
          · rename_i hcond
            obtain ⟨g1, g2, g3⟩ := hcond
            cases hq : zev zcd zfn n d' i.2.1 0 (zen 0 (st.take i.2.2.1).reverse) [] h with
            | none => rw [hq] at e0; cases e0
            | some y =>
              obtain ⟨r, h1⟩ := y
              rw [hq] at e0
              dsimp only at e0
              have mono2 := zev_n _ _ _ _ _ _ _ _ e0
              have K2 := IH _ _ _ _ _ _ _ _ e0 p e R s m args below meth c Q n0 s0 F E hfr hlc hc hs fin
              obtain ⟨op, a, b, k, tl⟩ := i
              dsimp only at h40 g1 g2 g3 hq K2 e0
              subst h40
              have ok : ∃ kd cr, tl = [kd, cr] ∧ zk_call M pc nx a b k.toNat kd cr := ok
              obtain ⟨kd, cr, rfl, ok1⟩ := ok
              have hst : st = ((st.take b).reverse).reverse ++ st.drop b := by rw [List.reverse_reverse, List.take_append_drop]
              rw [hst]
              have hrcv : ¬ kd = 0 → ∃ o r', (st.take b).reverse = .inr (some o) :: r' ∧ h.1 o = some (.inl cr) := by
                intro ht
                unfold zcb at g3
                split at g3
                · rename_i he; exact absurd (List.cons.inj he).1 ht
                · rename_i he
                  obtain ⟨-, he2⟩ := List.cons.inj he
                  obtain ⟨rfl, -⟩ := List.cons.inj he2
                  split at g3
                  · rename_i o r' he
                    exact ⟨o, r', he, of_decide_eq_true g3⟩
                  · cases g3
                · cases g3
              refine zcall IH F E ok1 (by simp; omega) g2 hfr hlc (fun hk => ?_) (fun hk => ?_) hq ⟨Nat.le_trans mono2.1 hc, Nat.le_trans mono2.2 hs⟩ K2
              · exact hrcv (fun q => by subst q; cases hk)
              · obtain ⟨o, r', w1, -⟩ := hrcv hk
                exact ⟨o, r', w1⟩
          · cases e0
      · rw [if_neg h40] at e0
        by_cases h41 : i.1 = 41
        · rw [if_pos h41] at e0
          cases d with
          | zero => cases e0
          | succ d' =>
            dsimp only at e0
            split at e0
            · rename_i o r
              split at e0
              · rename_i hr8
                have K2 := IH _ _ _ _ _ _ _ _ e0 p e R s m args below meth c Q n0 s0 F E hfr hlc hc hs fin
                obtain ⟨op, a, b, k, tl⟩ := i
                dsimp only at h41
                subst h41
                have ok : Cond.methodLink (zow M) k.toNat Lib.objectInit ∈ zWS ∧ decode (zbc M) pc = .ok (.invokespecial k.toNat, 3) ∧ nx = pc + 3 := ok
                obtain ⟨k1, k2, rfl⟩ := ok
                intro H locs cells slots ls hR hl hlo hn hss
                obtain ⟨hx, hb, hml, hown, hts, hct⟩ := F
                refine W.objInit hx hb hown (hts _ k1) (hts _ zobj.1) (hts _ zobj.2) rfl (by rw [hml]; exact hl.1.1) rfl k2 (by omega) ?_ (K2 H locs cells slots ls hR hl hlo hn hss)
                have h8 := lv_room (m := m) (pc := pc) (ls := ls) (rest := ((Sum.inr (some o) : ZV) :: r).map (zTv sb c0)) (st := r.map (zTv sb c0)) (by rw [zTv_sum]; exact hr8)
                omega
              · cases e0
            · cases e0
        · rw [if_neg h41] at e0
          by_cases h50 : i.1 = 50
          · rw [if_pos h50] at e0
            split at e0
            · cases e0
              exact fin i nx pc L ok (Or.inl ⟨h50, rfl⟩)
            · cases e0
          · rw [if_neg h50] at e0
            by_cases h51 : i.1 = 51
            · rw [if_pos h51] at e0
              split at e0
              · split at e0
                · rename_i x hx
                  cases e0
                  exact fin i nx pc L ok (Or.inr (Or.inl ⟨h51, x, rfl, hx⟩))
                · cases e0
              · cases e0
            · rw [if_neg h51] at e0
              by_cases h52 : i.1 = 52
              · rw [if_pos h52] at e0
                split at e0
                · rename_i x
                  cases e0
                  exact fin i nx pc L ok (Or.inr (Or.inr ⟨h52, x, rfl⟩))
                · cases e0
              · rw [if_neg h52] at e0
                cases hz : zst zfn i nx L st h with
                | none => rw [hz] at e0; cases e0
                | some y =>
                  rw [hz] at e0
                  dsimp only at e0
                  have mono2 := zev_n _ _ _ _ _ _ _ _ e0
                  exact zstep hsb F E ok ⟨h40, h41, h50, h51, h52⟩ hz ⟨Nat.le_trans mono2.1 hc, Nat.le_trans mono2.2 hs⟩ (IH _ _ _ _ _ _ _ _ e0 p e R s m args below meth c Q n0 s0 F E hfr hlc hc hs fin)
