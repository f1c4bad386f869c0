def zk_il (short : Fin 4 → Instr) (long : Nat → Instr) (M pc nx a b : Nat) : Prop := if b = 0 then (∃ f : Fin 4, f.val = a ∧ decode (zbc M) pc = .ok (short f, 1) ∧ nx = pc + 1) else decode (zbc M) pc = .ok (long a, 2) ∧ nx = pc + 2
def zk_sw (M pc dt : Nat) (lo : Int) (tl : List Nat) : Prop := ∃ (dflt hi : Int) (offs : Array Int) (len : Nat), decode (zbc M) pc = .ok (.tableswitch dflt lo hi offs, len) ∧ (pc : Int) + dflt = (dt : Int) ∧ hi - lo + 1 = (tl.length : Int) ∧ offs.toList.map (fun o => (pc : Int) + o) = tl.map (fun (t : Nat) => (t : Int))
def zk_get (M pc nx ci k idx nest : Nat) (rf : Bool) : Prop := ci < zcl.length ∧ k < zfn ci ∧ zrf ci k = rf ∧ zfl M idx ci k nest ∧ decode (zbc M) pc = .ok (.getfield idx, 3) ∧ nx = pc + 3
def zk_put (M pc nx ci k idx nest : Nat) (rf : Bool) : Prop := ci < zcl.length ∧ k < zfn ci ∧ zrf ci k = rf ∧ zfl M idx ci k nest ∧ (((zC ci).2.1 k).2.2.2 = true → nest = 0 ∧ zct M = true ∧ ((zC ci).2.1 k).1 = zow M) ∧ decode (zbc M) pc = .ok (.putfield idx, 3) ∧ nx = pc + 3
def zk_call (M pc nx N b idx kind cr : Nat) : Prop := nx = pc + 3 ∧ b ≤ zmx N ∧ Cond.methodLink (zow M) idx (zmn N) ∈ zWS ∧ zmok N ∧
  (if kind = 0 then decode (zbc M) pc = .ok (.invokestatic idx, 3) ∧ Cond.static (zmn N) ∈ zWS ∧ (parseMethodDescriptor (zmn N).desc).map (fun d => d.parameters.length) = some b
   else if kind = 1 then decode (zbc M) pc = .ok (.invokevirtual idx, 3) ∧ Cond.instanceMethod (zmn N) ∈ zWS ∧ Cond.selects (zmn N).cls (zmn N) (zmn N) ∈ zWS ∧ (zC cr).1 = (zmn N).cls ∧ cr < zcl.length ∧ 1 ≤ b ∧ (parseMethodDescriptor (zmn N).desc).map (fun d => d.parameters.length) = some (b - 1)
   else decode (zbc M) pc = .ok (.invokespecial idx, 3) ∧ Cond.instanceMethod (zmn N) ∈ zWS ∧ (zmn N).name = "<init>" ∧ zrt N = none ∧ 1 ≤ b ∧ (parseMethodDescriptor (zmn N).desc).map (fun d => d.parameters.length) = some (b - 1))
/-- what the machine's code and tables say of an instruction of the small machine -/
def zok (M pc : Nat) (i : ZI) (nx : Nat) : Prop :=
  if i.1 = 0 then zk_const M pc nx i.2.2.1 i.2.2.2.1
  else if i.1 = 1 then zk_il .iload_n .iload M pc nx i.2.1 i.2.2.1
  else if i.1 = 2 then zk_il .aload_n .aload M pc nx i.2.1 i.2.2.1
  else if i.1 = 3 then i.2.1 < zmx M ∧ zk_il .istore_n .istore M pc nx i.2.1 i.2.2.1
  else if i.1 = 4 then i.2.1 < zmx M ∧ zk_il .astore_n .astore M pc nx i.2.1 i.2.2.1
  else if i.1 = 5 then i.2.1 < zmx M ∧ decode (zbc M) pc = .ok (.iinc i.2.1 i.2.2.2.1, 3) ∧ nx = pc + 3
  else if i.1 = 6 then decode (zbc M) pc = .ok (zarI i.2.2.1, 1) ∧ nx = pc + 1
  else if i.1 = 7 then decode (zbc M) pc = .ok (.dup, 1) ∧ nx = pc + 1
  else if i.1 = 8 then decode (zbc M) pc = .ok (.dup2, 1) ∧ nx = pc + 1
  else if i.1 = 9 then decode (zbc M) pc = .ok (.dup_x1, 1) ∧ nx = pc + 1
  else if i.1 = 10 then decode (zbc M) pc = .ok (.pop, 1) ∧ nx = pc + 1
  else if i.1 = 11 then i.2.2.1 < 6 ∧ decode (zbc M) pc = .ok (.if_icmp (zcpC i.2.2.1) ((i.2.1 : Int) - pc), 3) ∧ nx = pc + 3
  else if i.1 = 12 then i.2.2.1 < 6 ∧ decode (zbc M) pc = .ok (.ifCond (zcpC i.2.2.1) ((i.2.1 : Int) - pc), 3) ∧ nx = pc + 3
  else if i.1 = 13 then decode (zbc M) pc = .ok (.goto ((i.2.1 : Int) - pc), 3)
  else if i.1 = 14 then decode (zbc M) pc = .ok (.ifnull ((i.2.1 : Int) - pc), 3) ∧ nx = pc + 3
  else if i.1 = 15 then decode (zbc M) pc = .ok (.ifnonnull ((i.2.1 : Int) - pc), 3) ∧ nx = pc + 3
  else if i.1 = 16 then zk_sw M pc i.2.1 i.2.2.2.1 i.2.2.2.2
  else if i.1 = 17 then decode (zbc M) pc = .ok (.aconst_null, 1) ∧ nx = pc + 1
  else if i.1 = 20 then zk_get M pc nx i.2.1 i.2.2.1 i.2.2.2.1.toNat (i.2.2.2.2.headD 0) false
  else if i.1 = 21 then zk_get M pc nx i.2.1 i.2.2.1 i.2.2.2.1.toNat (i.2.2.2.2.headD 0) true
  else if i.1 = 22 then zk_put M pc nx i.2.1 i.2.2.1 i.2.2.2.1.toNat (i.2.2.2.2.headD 0) false
  else if i.1 = 23 then zk_put M pc nx i.2.1 i.2.2.1 i.2.2.2.1.toNat (i.2.2.2.2.headD 0) true
  else if i.1 = 24 then decode (zbc M) pc = .ok (.iaload, 1) ∧ nx = pc + 1
  else if i.1 = 25 then decode (zbc M) pc = .ok (.iastore, 1) ∧ nx = pc + 1
  else if i.1 = 26 then decode (zbc M) pc = .ok (.baload, 1) ∧ nx = pc + 1
  else if i.1 = 27 then decode (zbc M) pc = .ok (.bastore, 1) ∧ nx = pc + 1
  else if i.1 = 28 then ¬ i.2.1 < 2 ∧ i.2.1 < zty.length ∧ decode (zbc M) pc = .ok (.aaload, 1) ∧ nx = pc + 1
  else if i.1 = 29 then ¬ i.2.1 < 2 ∧ i.2.1 < zty.length ∧ i.2.2.1 < zcl.length ∧ zty.getD i.2.1 .int = .object (zC i.2.2.1).1 ∧ decode (zbc M) pc = .ok (.aastore, 1) ∧ nx = pc + 1
  else if i.1 = 30 then decode (zbc M) pc = .ok (.arraylength, 1) ∧ nx = pc + 1
  else if i.1 = 31 then i.2.1 < zcl.length ∧ (Cond.classLink (zow M) i.2.2.2.1.toNat (zC i.2.1).1 ∈ zWS ∧ Cond.instantiable (zC i.2.1).1 (zfn i.2.1) ∈ zWS ∧ Cond.initialized (zC i.2.1).1 ∈ zWS) ∧ decode (zbc M) pc = .ok (.new i.2.2.2.1.toNat, 3) ∧ nx = pc + 3
  else if i.1 = 32 then (if i.2.1 < 2 then (∃ ty : ArrayType, newarray.typeOf ty = zty.getD i.2.1 .int ∧ Cond.arrayClass (newarray.typeOf ty) ∈ zWS ∧ decode (zbc M) pc = .ok (.newarray ty, 2) ∧ nx = pc + 2) else i.2.1 < zty.length ∧ zty.getD i.2.1 .int = .object (zC i.2.2.1).1 ∧ (zC i.2.2.1).1 ∈ zAO ∧ Cond.classLink (zow M) i.2.2.2.1.toNat (zC i.2.2.1).1 ∈ zWS ∧ decode (zbc M) pc = .ok (.anewarray i.2.2.2.1.toNat, 3) ∧ nx = pc + 3)
  else if i.1 = 40 then ∃ kd cr, i.2.2.2.2 = [kd, cr] ∧ zk_call M pc nx i.2.1 i.2.2.1 i.2.2.2.1.toNat kd cr
  else if i.1 = 41 then Cond.methodLink (zow M) i.2.2.2.1.toNat Lib.objectInit ∈ zWS ∧ decode (zbc M) pc = .ok (.invokespecial i.2.2.2.1.toNat, 3) ∧ nx = pc + 3
  else if i.1 = 50 then decode (zbc M) pc = .ok (.return_, 1) ∧ zrt M = none
  else if i.1 = 51 then decode (zbc M) pc = .ok (.ireturn, 1) ∧ (if i.2.2.1 = 0 then zrt M = some .int else zrt M = some .boolean)
  else if i.1 = 52 then decode (zbc M) pc = .ok (.areturn, 1) ∧ ∃ C, zrt M = some (.object C)
  else False
theorem zk_il2 {short : Fin 4 → Instr} {long : Nat → Instr} {M pc nx a b : Nat} (ok : zk_il short long M pc nx a b) : (b = 0 → ∃ f : Fin 4, f.val = a ∧ decode (zbc M) pc = .ok (short f, 1) ∧ nx = pc + 1) ∧ (¬ b = 0 → decode (zbc M) pc = .ok (long a, 2) ∧ nx = pc + 2) := by
  unfold zk_il at ok
  exact ⟨fun hb => by rw [if_pos hb] at ok; exact ok, fun hb => by rw [if_neg hb] at ok; exact ok⟩
section ZS
variable {p : Program} {l : Launch} {e : Env} {R : Room} {s : State} {m : MethodId} {args : Array Value} {below : List Frame} {meth : Method} {c : Code} {Q : State → Prop}
variable {sb c0 Ls n0 s0 M pc nx : Nat} {xs : Nat → Int32} {D : va_G} {cA : Nat → ClassId} {L : ZL} {st r : List ZV} {h : ZH}
theorem zs_sw (F : zFix p s m args meth c M) {dt : Nat} {lo : Int} {tl : List Nat} {x : Int32} (ok : zk_sw M pc dt lo tl) {q : Nat × ZL × List ZV × ZH} (hz : (if x.toInt < lo then some (dt, L, r, h) else match tl[(x.toInt - lo).toNat]? with | some t => some (t, L, r, h) | none => some (dt, L, r, h)) = some q) (k : zGo p l e R s m args below meth c Q sb c0 Ls n0 s0 xs D cA M q.1 q.2.1 q.2.2.1 q.2.2.2) : zGo p l e R s m args below meth c Q sb c0 Ls n0 s0 xs D cA M pc L (.inl x :: r) h := by
  intro H locs cells slots ls hR hl hlo hn hs
  obtain ⟨dflt, hi, offs, len, h2, hd, hh, ho⟩ := ok
  have hlen : offs.size = tl.length := by
    have := congrArg List.length ho
    simpa using this
  by_cases hx : x.toInt < lo
  · rw [if_pos hx] at hz; cases hz
    exact lv_tableOut F.1 F.2.1 h2 (Or.inl hx) hd (k H locs cells slots ls hR hl hlo hn hs)
  · rw [if_neg hx] at hz
    cases ht : tl[(x.toInt - lo).toNat]? with
    | none =>
      rw [ht] at hz; cases hz
      have h3 : tl.length ≤ (x.toInt - lo).toNat := by simpa using ht
      exact lv_tableOut F.1 F.2.1 h2 (Or.inr (by omega)) hd (k H locs cells slots ls hR hl hlo hn hs)
    | some t =>
      rw [ht] at hz; cases hz
      have h3 : (x.toInt - lo).toNat < tl.length := (List.getElem?_eq_some_iff.mp ht).1
      have h4 : (offs.toList.map (fun o => (pc : Int) + o))[(x.toInt - lo).toNat]? = some (t : Int) := by rw [ho, List.getElem?_map, ht]; rfl
      rw [List.getElem?_map] at h4
      cases h5 : offs.toList[(x.toInt - lo).toNat]? with
      | none => rw [h5] at h4; cases h4
      | some o =>
        rw [h5] at h4
        have h6 : (pc : Int) + o = (t : Int) := Option.some.inj h4
        exact lv_tableIn F.1 F.2.1 h2 hx (by omega) (by rw [← Array.getElem?_toList]; exact h5) h6 (k H locs cells slots ls hR hl hlo hn hs)
set_option maxHeartbeats 4000000 in
theorem zstep (hsb : sb ≤ c0) (F : zFix p s m args meth c M) (E : zEnv D cA s) {i : ZI} (ok : zok M pc i nx) (hno : i.1 ≠ 40 ∧ i.1 ≠ 41 ∧ i.1 ≠ 50 ∧ i.1 ≠ 51 ∧ i.1 ≠ 52) {q : Nat × ZL × List ZV × ZH} (hz : zst zfn i nx L st h = some q) (hrm : q.2.2.2.2.2.2.1 ≤ n0 + R.cells ∧ q.2.2.2.2.2.2.2 ≤ s0 + R.slots) (kg : zGo p l e R s m args below meth c Q sb c0 Ls n0 s0 xs D cA M q.1 q.2.1 q.2.2.1 q.2.2.2) : zGo p l e R s m args below meth c Q sb c0 Ls n0 s0 xs D cA M pc L st h := by
  obtain ⟨op, a, b, n, tl⟩ := i
  unfold zst at hz
  unfold zok at ok
  dsimp only at hz ok hno
  by_cases h0 : op = 0
  · subst h0
    rw [if_pos rfl] at hz ok
    cases hz
    exact zs_const F ok kg
  rw [if_neg h0] at hz ok
  by_cases h1 : op = 1
  · subst h1
    rw [if_pos rfl] at hz ok
    split at hz
    · rename_i x hg
      cases hz
      exact zs_iload F (zk_il2 ok) hg kg
    · cases hz
  rw [if_neg h1] at hz ok
  by_cases h2 : op = 2
  · subst h2
    rw [if_pos rfl] at hz ok
    split at hz
    · rename_i x hg
      cases hz
      exact zs_aload F (zk_il2 ok) hg kg
    · cases hz
  rw [if_neg h2] at hz ok
  by_cases h3 : op = 3
  · subst h3
    rw [if_pos rfl] at hz ok
    rcases st with _ | ⟨v | v, r⟩
    · cases hz
    · cases hz
      exact zs_istore F ok.1 (zk_il2 ok.2) kg
    · cases hz
  rw [if_neg h3] at hz ok
  by_cases h4 : op = 4
  · subst h4
    rw [if_pos rfl] at hz ok
    rcases st with _ | ⟨v | v, r⟩
    · cases hz
    · cases hz
    · cases hz
      exact zs_astore F ok.1 (zk_il2 ok.2) kg
  rw [if_neg h4] at hz ok
  by_cases h5 : op = 5
  · subst h5
    rw [if_pos rfl] at hz ok
    split at hz
    · rename_i x hg
      cases hz
      exact zs_iinc F ok.1 ok.2 hg kg
    · cases hz
  rw [if_neg h5] at hz ok
  by_cases h6 : op = 6
  · subst h6
    rw [if_pos rfl] at hz ok
    rcases st with _ | ⟨y | y, _ | ⟨x | x, r⟩⟩
    · cases hz
    · cases hz
    · dsimp only at hz
      split at hz
      · rename_i v hv
        cases hz
        exact zs_ar F hv ok kg
      · cases hz
    · cases hz
    · cases hz
    · cases hz
    · cases hz
  rw [if_neg h6] at hz ok
  by_cases h7 : op = 7
  · subst h7
    rw [if_pos rfl] at hz ok
    rcases st with _ | ⟨v, r⟩
    · cases hz
    · cases hz
      exact zs_dup F ok kg
  rw [if_neg h7] at hz ok
  by_cases h8 : op = 8
  · subst h8
    rw [if_pos rfl] at hz ok
    rcases st with _ | ⟨v, _ | ⟨w, r⟩⟩
    · cases hz
    · cases hz
    · cases hz
      exact zs_dup2 F ok kg
  rw [if_neg h8] at hz ok
  by_cases h9 : op = 9
  · subst h9
    rw [if_pos rfl] at hz ok
    rcases st with _ | ⟨v, _ | ⟨w, r⟩⟩
    · cases hz
    · cases hz
    · cases hz
      exact zs_dupx1 F ok kg
  rw [if_neg h9] at hz ok
  by_cases h10 : op = 10
  · subst h10
    rw [if_pos rfl] at hz ok
    rcases st with _ | ⟨v, r⟩
    · cases hz
    · cases hz
      exact zs_pop F ok kg
  rw [if_neg h10] at hz ok
  by_cases h11 : op = 11
  · subst h11
    rw [if_pos rfl] at hz ok
    rcases st with _ | ⟨y | y, _ | ⟨x | x, r⟩⟩
    · cases hz
    · cases hz
    · cases hz
      exact zs_icmp F ok.1 ok.2 kg
    · cases hz
    · cases hz
    · cases hz
    · cases hz
  rw [if_neg h11] at hz ok
  by_cases h12 : op = 12
  · subst h12
    rw [if_pos rfl] at hz ok
    rcases st with _ | ⟨x | x, r⟩
    · cases hz
    · cases hz
      exact zs_if F ok.1 ok.2 kg
    · cases hz
  rw [if_neg h12] at hz ok
  by_cases h13 : op = 13
  · subst h13
    rw [if_pos rfl] at hz ok
    cases hz
    exact zs_goto F ok kg
  rw [if_neg h13] at hz ok
  by_cases h14 : op = 14
  · subst h14
    rw [if_pos rfl] at hz ok
    rcases st with _ | ⟨x | _ | x, r⟩
    · cases hz
    · cases hz
    · cases hz
      exact zs_ifnull F ok (fun _ => kg) (fun _ q => by cases q)
    · cases hz
      exact zs_ifnull F ok (fun q => by cases q) (fun _ _ => kg)
  rw [if_neg h14] at hz ok
  by_cases h15 : op = 15
  · subst h15
    rw [if_pos rfl] at hz ok
    rcases st with _ | ⟨x | _ | x, r⟩
    · cases hz
    · cases hz
    · cases hz
      exact zs_ifnonnull F ok (fun _ => kg) (fun _ q => by cases q)
    · cases hz
      exact zs_ifnonnull F ok (fun q => by cases q) (fun _ _ => kg)
  rw [if_neg h15] at hz ok
  by_cases h16 : op = 16
  · subst h16
    rw [if_pos rfl] at hz ok
    rcases st with _ | ⟨x | x, r⟩
    · cases hz
    · exact zs_sw F ok hz kg
    · cases hz
  rw [if_neg h16] at hz ok
  by_cases h17 : op = 17
  · subst h17
    rw [if_pos rfl] at hz ok
    cases hz
    exact zs_null F ok kg
  rw [if_neg h17] at hz ok
  by_cases h20 : op = 20
  · subst h20
    rw [if_pos rfl] at hz ok
    obtain ⟨k1, k2, k3, k4, k5⟩ := ok
    rcases st with _ | ⟨x | _ | o, r⟩
    · cases hz
    · cases hz
    · cases hz
    · dsimp only at hz
      split at hz
      · rename_i hk
        cases hz
        exact zs_getv F E k1 k2 hk k4 k5 (by rw [k3]; rfl) kg
      · cases hz
  rw [if_neg h20] at hz ok
  by_cases h21 : op = 21
  · subst h21
    rw [if_pos rfl] at hz ok
    obtain ⟨k1, k2, k3, k4, k5⟩ := ok
    rcases st with _ | ⟨x | _ | o, r⟩
    · cases hz
    · cases hz
    · cases hz
    · dsimp only at hz
      split at hz
      · rename_i hk
        cases hz
        exact zs_getv F E k1 k2 hk k4 k5 (by rw [k3]; rfl) kg
      · cases hz
  rw [if_neg h21] at hz ok
  by_cases h22 : op = 22
  · subst h22
    rw [if_pos rfl] at hz ok
    obtain ⟨k1, k2, k3, k4, k5, k6⟩ := ok
    rcases st with _ | ⟨x | x, _ | ⟨y | _ | o, r⟩⟩
    · cases hz
    · cases hz
    · cases hz
    · cases hz
    · dsimp only at hz
      split at hz
      · rename_i hk
        cases hz
        exact zs_puti hsb F E k1 k2 (zrf_int k1 k2 k3) k3 hk k4 k5 k6 kg
      · cases hz
    · cases hz
    · cases hz
    · cases hz
    · cases hz
  rw [if_neg h22] at hz ok
  by_cases h23 : op = 23
  · subst h23
    rw [if_pos rfl] at hz ok
    obtain ⟨k1, k2, k3, k4, k5, k6⟩ := ok
    rcases st with _ | ⟨x | x, _ | ⟨y | _ | o, r⟩⟩
    · cases hz
    · cases hz
    · cases hz
    · cases hz
    · cases hz
    · cases hz
    · cases hz
    · cases hz
    · dsimp only at hz
      split at hz
      · rename_i hk
        cases hz
        exact zs_putr hsb F E k1 k2 k3 hk k4 k5 k6 kg
      · cases hz
  rw [if_neg h23] at hz ok
  by_cases h24 : op = 24
  · subst h24
    rw [if_pos rfl] at hz ok
    rcases st with _ | ⟨j | j, _ | ⟨y | _ | o, r⟩⟩
    · cases hz
    · cases hz
    · cases hz
    · cases hz
    · dsimp only at hz
      split at hz
      · rename_i t n hk
        split at hz
        · rename_i hc
          cases hz
          exact zs_iald F E hk hc.1 hc.2 ok kg
        · cases hz
      · cases hz
    · cases hz
    · cases hz
    · cases hz
    · cases hz
  rw [if_neg h24] at hz ok
  by_cases h25 : op = 25
  · subst h25
    rw [if_pos rfl] at hz ok
    rcases st with _ | ⟨x | x, _ | ⟨j | j, _ | ⟨y | _ | o, r⟩⟩⟩
    · cases hz
    · cases hz
    · cases hz
    · cases hz
    · cases hz
    · dsimp only at hz
      split at hz
      · rename_i t n hk
        split at hz
        · rename_i hc
          cases hz
          obtain ⟨rfl, hc2⟩ := hc
          exact zs_iast hsb F E hk hc2 ok kg
        · cases hz
      · cases hz
    · cases hz
    · cases hz
    · cases hz
    · cases hz
    · cases hz
    · cases hz
    · cases hz
    · cases hz
    · cases hz
    · cases hz
    · cases hz
    · cases hz
    · cases hz
  rw [if_neg h25] at hz ok
  by_cases h26 : op = 26
  · subst h26
    rw [if_pos rfl] at hz ok
    rcases st with _ | ⟨j | j, _ | ⟨y | _ | o, r⟩⟩
    · cases hz
    · cases hz
    · cases hz
    · cases hz
    · dsimp only at hz
      split at hz
      · rename_i t n hk
        split at hz
        · rename_i hc
          cases hz
          obtain ⟨rfl, hc2⟩ := hc
          exact zs_zald F E hk hc2 ok kg
        · cases hz
      · cases hz
    · cases hz
    · cases hz
    · cases hz
    · cases hz
  rw [if_neg h26] at hz ok
  by_cases h27 : op = 27
  · subst h27
    rw [if_pos rfl] at hz ok
    rcases st with _ | ⟨x | x, _ | ⟨j | j, _ | ⟨y | _ | o, r⟩⟩⟩
    · cases hz
    · cases hz
    · cases hz
    · cases hz
    · cases hz
    · dsimp only at hz
      split at hz
      · rename_i t n hk
        split at hz
        · rename_i hc
          cases hz
          obtain ⟨rfl, hc2, hc3⟩ := hc
          exact zs_zast hsb F E hk hc2 hc3 ok kg
        · cases hz
      · cases hz
    · cases hz
    · cases hz
    · cases hz
    · cases hz
    · cases hz
    · cases hz
    · cases hz
    · cases hz
    · cases hz
    · cases hz
    · cases hz
    · cases hz
    · cases hz
  rw [if_neg h27] at hz ok
  by_cases h28 : op = 28
  · subst h28
    rw [if_pos rfl] at hz ok
    rcases st with _ | ⟨j | j, _ | ⟨y | _ | o, r⟩⟩
    · cases hz
    · cases hz
    · cases hz
    · cases hz
    · dsimp only at hz
      split at hz
      · rename_i t n hk
        split at hz
        · rename_i hc
          cases hz
          obtain ⟨rfl, hc2⟩ := hc
          exact zs_aald F E hk ok.1 ok.2.1 hc2 ok.2.2 kg
        · cases hz
      · cases hz
    · cases hz
    · cases hz
    · cases hz
    · cases hz
  rw [if_neg h28] at hz ok
  by_cases h29 : op = 29
  · subst h29
    rw [if_pos rfl] at hz ok
    rcases st with _ | ⟨x | _ | x, _ | ⟨j | j, _ | ⟨y | _ | o, r⟩⟩⟩
    all_goals first | (cases hz; done) | (dsimp only at hz; split at hz)
    all_goals first | (cases hz; done) | (rename_i t n hk; split at hz)
    all_goals first | (cases hz; done) | (rename_i hc; cases hz; obtain ⟨rfl, hc2, hc3⟩ := hc; exact zs_aast hsb F E hk ok.1 ok.2.1 ok.2.2.1 ok.2.2.2.1 hc3 hc2 ok.2.2.2.2 kg)
  rw [if_neg h29] at hz ok
  by_cases h30 : op = 30
  · subst h30
    rw [if_pos rfl] at hz ok
    rcases st with _ | ⟨x | _ | o, r⟩
    · cases hz
    · cases hz
    · cases hz
    · dsimp only at hz
      split at hz
      · rename_i t n hk
        split at hz
        · rename_i hc
          cases hz
          exact zs_alen F E hk hc ok kg
        · cases hz
      · cases hz
  rw [if_neg h30] at hz ok
  by_cases h31 : op = 31
  · subst h31
    rw [if_pos rfl] at hz ok
    cases hz
    exact zs_new hsb F E ok.1 ok.2.1 ok.2.2 hrm kg
  rw [if_neg h31] at hz ok
  by_cases h32 : op = 32
  · subst h32
    rw [if_pos rfl] at hz ok
    rcases st with _ | ⟨x | x, r⟩
    · cases hz
    · dsimp only at hz
      split at hz
      · rename_i hc
        cases hz
        by_cases ha : a < 2
        · rw [if_pos ha] at ok
          obtain ⟨ty, k1, k2, k3⟩ := ok
          exact zs_newa hsb F E ha k1 k2 hc.1 hc.2 k3 hrm kg
        · rw [if_neg ha] at ok
          obtain ⟨k1, k2, k3, k4, k5⟩ := ok
          exact zs_anew hsb F E ha k1 k2 k3 k4 hc.1 hc.2 k5 hrm kg
      · cases hz
    · cases hz
  rw [if_neg h32] at hz
  cases hz
end ZS
