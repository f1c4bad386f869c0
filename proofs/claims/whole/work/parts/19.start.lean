theorem zinst_0 : Cond.instantiable (zC 0).1 (zfn 0) ∈ zWS := zw_t 9 rfl rfl
theorem zinst_1 : Cond.instantiable (zC 1).1 (zfn 1) ∈ zWS := zw_t 43 rfl rfl
theorem zinst_2 : Cond.instantiable (zC 2).1 (zfn 2) ∈ zWS := zw_t 26 rfl rfl
theorem zinst_3 : Cond.instantiable (zC 3).1 (zfn 3) ∈ zWS := zw_t 20 rfl rfl
theorem zinst_4 : Cond.instantiable (zC 4).1 (zfn 4) ∈ zWS := zw_t 199 rfl rfl
theorem zinst_5 : Cond.instantiable (zC 5).1 (zfn 5) ∈ zWS := zw_t 126 rfl rfl
set_option maxRecDepth 20000 in
theorem zinst_6 : Cond.instantiable (zC 6).1 (zfn 6) ∈ zWS := zw_t 433 rfl rfl
theorem zinst {ci : Nat} (h : ci < zcl.length) : Cond.instantiable (zC ci).1 (zfn ci) ∈ zWS := by
  match ci, h with
  | 0, _ => exact zinst_0
  | 1, _ => exact zinst_1
  | 2, _ => exact zinst_2
  | 3, _ => exact zinst_3
  | 4, _ => exact zinst_4
  | 5, _ => exact zinst_5
  | 6, _ => exact zinst_6
  | n + 7, h => exact absurd h (by show ¬ n + 7 < 7; omega)
theorem znw_in : ∀ w ∈ zNW.map (fun q => Cond.fieldLinkNest q.1 q.2.1 q.2.2.1 q.2.2.2.1 q.2.2.2.2.1 q.2.2.2.2.2), w ∈ tables_1 := zmem_p [50, 57, 59, 61, 63, 65, 67, 136, 139, 141, 143, 145, 147, 149, 151, 153, 155, 205, 207, 209, 211, 213, 214] (by decide +kernel)
theorem zenv_of {s : State} {args : Array Value} (hts : ∀ w ∈ lw_tbl, w.before args s = true) : ∃ (D : va_G) (cA : Nat → ClassId), zEnv D cA s := by
  have htz : ∀ w ∈ zWS, w.before args s = true := fun w hw => hts w (zWS_tbl w hw)
  have htb : ∀ w ∈ tables_1, w.before args s = true := fun w hw => hts w (List.mem_append_right _ hw)
  have hD : ∀ ci : Nat, ∃ q : ClassId × (Nat → Nat), ci < zcl.length → u_Kn s (zC ci).1 (zC ci).2.1 (zC ci).2.2 q.1 q.2 := by
    intro ci
    by_cases h : ci < zcl.length
    · obtain ⟨-, -, hin, -, -⟩ := zcl_ok h
      obtain ⟨cC, iS, hk⟩ := u_known (T := (zC ci).2.1) (N := (zC ci).2.2) htz hin (htz _ (zinst h))
      exact ⟨(cC, iS), fun _ => hk⟩
    · exact ⟨(0, fun _ => 0), fun q => absurd q h⟩
  have hA : ∀ t : Nat, ∃ c : ClassId, t < zty.length → ArrOfT s c (zty.getD t .int) ∧ va_RA s c (zty.getD t .int) := by
    intro t
    by_cases h : t < zty.length
    · have h5 : t < 5 := h
      rcases (show t = 0 ∨ t = 1 ∨ t = 2 ∨ t = 3 ∨ t = 4 by omega) with rfl | rfl | rfl | rfl | rfl
      · obtain ⟨c, k, comp, h1, h2, h3⟩ := Cond.arrayClass_spec (htb (.arrayClass .int) (List.mem_of_getElem? (i := 41) rfl))
        exact ⟨c, fun _ => ⟨fun n z => ⟨fun k h => (by cases h), k, h2, comp, h3⟩, h1⟩⟩
      · obtain ⟨c, k, comp, h1, h2, h3⟩ := Cond.arrayClass_spec (htb (.arrayClass .boolean) (List.mem_of_getElem? (i := 118) rfl))
        exact ⟨c, fun _ => ⟨fun n z => ⟨fun k h => (by cases h), k, h2, comp, h3⟩, h1⟩⟩
      · obtain ⟨comp, c, k, h1, h2, h3, h4, h5⟩ := Cond.arrayOver_spec (htb (.arrayOver (.object "FourWayKernel$Task")) (List.mem_of_getElem? (i := 17) rfl))
        exact ⟨c, fun _ => ⟨fun n z => ⟨fun k h => (by cases h), k, h3, comp, h4⟩, k, comp, h3, h4, h1, h5⟩⟩
      · obtain ⟨comp, c, k, h1, h2, h3, h4, h5⟩ := Cond.arrayOver_spec (htb (.arrayOver (.object "FourWayKernel$Processor")) (List.mem_of_getElem? (i := 19) rfl))
        exact ⟨c, fun _ => ⟨fun n z => ⟨fun k h => (by cases h), k, h3, comp, h4⟩, k, comp, h3, h4, h1, h5⟩⟩
      · obtain ⟨comp, c, k, h1, h2, h3, h4, h5⟩ := Cond.arrayOver_spec (htb (.arrayOver (.object "FourWayKernel$Order")) (List.mem_of_getElem? (i := 132) rfl))
        exact ⟨c, fun _ => ⟨fun n z => ⟨fun k h => (by cases h), k, h3, comp, h4⟩, k, comp, h3, h4, h1, h5⟩⟩
    · exact ⟨0, fun q => absurd q h⟩
  refine ⟨(fun ci => (Classical.choose (hD ci)).1, fun ci => (Classical.choose (hD ci)).2), fun t => Classical.choose (hA t), ⟨fun ci q hq => ?_, fun t q hq => ?_⟩, fun q hq => ?_, fun C hC => ?_⟩
  · have hlt : ci < zcl.length := (List.getElem?_eq_some_iff.mp hq).1
    have he : q = zC ci := Option.some.inj (hq.symm.trans (zcl_ok hlt).1)
    subst he
    exact Classical.choose_spec (hD ci) hlt
  · have hlt : t < zty.length := by
      have := (List.getElem?_eq_some_iff.mp hq).1
      simpa [zTys] using this
    rw [zTys_get hlt] at hq
    cases hq
    exact Classical.choose_spec (hA t) hlt
  · exact va_Nw.of rfl (htb _ (znw_in _ (List.mem_map.mpr ⟨q, hq, rfl⟩)))
  · have hC : C = "FourWayKernel$Task" ∨ C = "FourWayKernel$Processor" ∨ C = "FourWayKernel$Order" := by simpa [zAO] using hC
    rcases hC with rfl | rfl | rfl
    · exact va_AO.of (htb _ (List.mem_of_getElem? (i := 17) rfl))
    · exact va_AO.of (htb _ (List.mem_of_getElem? (i := 19) rfl))
    · exact va_AO.of (htb _ (List.mem_of_getElem? (i := 132) rfl))
def z0 (L : Nat) (xs : Nat → Int32) : ZH := (fun a => if a = 0 then some (.inr (9, L)) else none, fun a => if a = 0 then xs else fun _ => 0, fun _ _ => none, 1, 0)
/-! THE CLAIM OUT OF ONE WALK OF THE LAW'S BODY. Your part is whole_start (and what it stands on); all else here is the same for every law, but numbers. -/
def R_law : String := "FourWayKernelLaw"
def lw_P (b : Addr) (xs : List Int32) (args : Array Value) (s : State) : Prop := args = #[.ref b] ∧ s.IntsAt b xs ∧ xs.length ≤ 2560 ∧ (Jvm.Cond.and given_1 narrow_1).before args s = true
def lw_Q (_ : Array Value) (s : State) (o : Outcome) (t : State) : Prop := o = .returned (some (.int 1)) ∧ Framed s o t [] 600000 7302250
def lw_Z (below : List Frame) (a : Array Value) (s : State) : State → Prop := fun t => ∃ o, t.status = .running ∧ Ended t below o ∧ lw_Q a s o t
/-- the law's own end, with 1 on the stack, nothing written that was there before, its room as the claim has it -/
theorem lw_ret {p : Program} {l : Launch} {e : Env} {s : State} {m : MethodId} {below : List Frame} {meth : Method} {c : Code} {b : Nat} (hx : p.tables.exec = Jvm.exec) (hb : c.code = code) (hr : meth.sig.returnType = ret) (hlocks : meth.locks = false) {pc : Nat} {H : Heap} {ls : Array Slot} (hdg : decode code pc = .ok (.ireturn, 1)) : W p l e room_1 s m #[Value.ref b] below meth c H [] 600000 7302250 (lw_Z below #[Value.ref b] s) (F0 m pc ls [.int 1]) := by
  intro T hT X
  obtain ⟨fs, hret, hrun, hended, hW, hframe⟩ := X.leave (v := some (.int 1)) (hlocks := hlocks) (fun h => by rw [hr] at h; cases h)
  have hmeth' : T.vm.method? m = some meth := X.method'
  refine ⟨T.setFrames fs, ?_, .returned (some (.int 1)), hrun, hended, rfl, ⟨_, rfl⟩, hW, hframe⟩
  jvm_step X.here [X.here.top, hx, hb, hdg, hmeth', hr, ret, narrow_b1]
  (try refine ⟨rfl, ?_⟩); (try refine ⟨rfl, ?_⟩)
  first | (intro acts; rw [hret _ acts rfl rfl rfl]) | rw [hret _ _ rfl rfl rfl]
  exact Steps.refl _
/-- what holds at the law's entry: the machine, the code, the tables' words (any of lw_tbl by 'hts w (by decide +kernel)'), the script of L ints xs at the cell b, what the Statement gives of the start (any of its parts by flat_of_before) -/
def lw_At (p : Program) (s : State) (m : MethodId) (meth : Method) (c : Code) (b L : Nat) (xs : Nat → Int32) : Prop :=
  p.tables.exec = Jvm.exec ∧ c.code = code ∧ meth.sig.returnType = ret ∧ c.maxLocals = 4 ∧ s.vm.findClass R_law = some m.cls ∧ (∀ w ∈ lw_tbl, w.before #[Value.ref b] s = true) ∧ va_X b L xs s s.heap ∧ b < s.heap.size ∧ meth.locks = false ∧ (Jvm.Cond.and given_1 narrow_1).before #[Value.ref b] s = true
set_option maxHeartbeats 4000000 in
/-- the walk of the law's body, out of the small machine's run of it -/
theorem whole_of (hrun : ∀ (L : Nat) (xs : Nat → Int32), L ≤ 2560 → zT 7 109 0 [(0, .inr (some 0))] [] (z0 L xs) (fun r h' => r = some (.inl 1) ∧ h'.2.2.2.1 ≤ 600001 ∧ h'.2.2.2.2 ≤ 7302250)) {p : Program} {e : Env} {s : State} {m : MethodId} {below : List Frame} {meth : Method} {c : Code} (l : Launch) {b L : Nat} {xs : Nat → Int32} (hL : L ≤ 2560) (C0 : lw_At p s m meth c b L xs) : W p l e room_1 s m #[Value.ref b] below meth c s.heap [] 0 0 (lw_Z below #[Value.ref b] s) (entryFrame m ([Value.ref b] : List Value).toArray 4) := by
  obtain ⟨hx, hb, hr, hml, hown, hts, hX, hbl, hlocks, hgv⟩ := C0
  obtain ⟨D, cA, hE⟩ := zenv_of hts
  obtain ⟨n, r, h', e0, hr1, hn1, hs1⟩ := hrun L xs hL
  subst hr1
  have hl := lv_entry ([Value.ref b]) (n := 4) (Nat.le_of_ble_eq_true rfl)
  rw [lg_entry_eq]
  refine zsnd l (sb := b) (c0 := s.heap.size - 1) L xs D cA (by omega) n 7 109 0 [(0, .inr (some 0))] [] (z0 L xs) (some (.inl 1)) h' e0 p e room_1 s m _ below meth c _ 1 0 ⟨hx, hb, hml, hown, fun w hw => hts w (zWS_tbl w hw), fun h => absurd h (by decide)⟩ hE (by decide) (by decide) hn1 (by show h'.2.2.2.2 ≤ 0 + 7302250; omega) ?_ s.heap [] 0 0 _ ⟨fun a h1 h2 => ?_, ?_, Nat.le_refl 1, fun a ha => ?_, rfl, rfl, hX⟩ ⟨hl, by simp⟩ (fun q hq => by cases hq) rfl rfl
  · intro i nx pc L' hok hret H locs cells slots ls hR hl' hlo hn hs
    rcases hret with ⟨h5, h6⟩ | ⟨h5, x, h6, hx6⟩ | ⟨h5, x, h6⟩
    · cases h6
    · obtain ⟨op, a, b', k, tl⟩ := i
      dsimp only at h5; subst h5
      have hok : decode (zbc 109) pc = .ok (.ireturn, 1) ∧ (if b' = 0 then zrt 109 = some .int else zrt 109 = some .boolean) := hok
      refine va_forget (fun q hq => by have := hlo q hq; omega) (W.widen (k := 600000) (n := 7302250) (by omega) (by omega) (lw_ret hx hb hr hlocks hok.1))
    · cases h6
  · have h2 : a < 1 := h2
    omega
  · show s.heap.size = s.heap.size - 1 + 1
    omega
  · have ha : 1 ≤ a := ha
    exact if_neg (by omega)
