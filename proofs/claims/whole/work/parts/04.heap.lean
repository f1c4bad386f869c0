/-! The instructions that read and write the heap. -/
theorem zAd_pos {sb c0 a : Nat} (h : a ≠ 0) : zAd sb c0 a = c0 + a := if_neg h
theorem zCel_o {sb c0 a ci : Nat} {cA : Nat → ClassId} {h : ZH} (hk : h.1 a = some (.inl ci)) : zCel sb c0 cA h a = .inr (ci, zFs sb c0 h a ci) := by simp [zCel, hk]
theorem zCel_i {sb c0 a t n : Nat} {cA : Nat → ClassId} {h : ZH} (hk : h.1 a = some (.inr (t, n))) (ht : t < 2) : zCel sb c0 cA h a = .inl (cA t, n, .inl (h.2.1 a)) := by simp [zCel, hk, ht]
theorem zCel_r {sb c0 a t n : Nat} {cA : Nat → ClassId} {h : ZH} (hk : h.1 a = some (.inr (t, n))) (ht : ¬ t < 2) : zCel sb c0 cA h a = .inl (cA t, n, .inr (.inr (.inr (.inr (fun j => (h.2.2.1 a j).map (zAd sb c0)))))) := by simp [zCel, hk, ht]
theorem zFs_get {sb c0 a ci k : Nat} {h : ZH} (hk : k < zfn ci) : (zFs sb c0 h a ci)[k]? = some (if zrf ci k = true then va_rf ((h.2.2.1 a k).map (zAd sb c0)) else .int (h.2.1 a k)) := by
  simp [zFs, hk]
theorem zFs_len {sb c0 a ci : Nat} {h : ZH} : (zFs sb c0 h a ci).length = zfn ci := by simp [zFs]
theorem zFs_set {sb c0 a ci k : Nat} {h h' : ZH} {v : Value} (hk : k < zfn ci) (hv : (if zrf ci k = true then va_rf ((h'.2.2.1 a k).map (zAd sb c0)) else .int (h'.2.1 a k)) = v) (hI : ∀ j, j ≠ k → h'.2.1 a j = h.2.1 a j) (hP : ∀ j, j ≠ k → h'.2.2.1 a j = h.2.2.1 a j) : (zFs sb c0 h a ci).set k v = zFs sb c0 h' a ci := by
  apply List.ext_getElem?
  intro j
  rw [List.getElem?_set, zFs_len]
  by_cases hj : j < zfn ci
  · rw [zFs_get hj, zFs_get hj]
    by_cases he : k = j
    · subst he
      rw [if_pos rfl, if_pos hk, hv]
    · rw [if_neg he, hI j (fun q => he q.symm), hP j (fun q => he q.symm)]
  · have h1 : (zFs sb c0 h a ci)[j]? = none := List.getElem?_eq_none (by rw [zFs_len]; omega)
    have h2 : (zFs sb c0 h' a ci)[j]? = none := List.getElem?_eq_none (by rw [zFs_len]; omega)
    rw [if_neg (by omega), h1, h2]
/-- one cell is written -/
theorem zRel_upd {sb c0 Ls o : Nat} {xs : Nat → Int32} {D : va_G} {cA : Nat → ClassId} {U : State} {h h' : ZH} {H H1 : Heap} (hsb : sb ≤ c0) (hR : zRel sb c0 Ls xs D cA U h H) (ho : 1 ≤ o) (hK : h'.1 = h.1) (hn : h'.2.2.2.1 = h.2.2.2.1) (hx : h'.2.1 0 = h.2.1 0) (hc : ∀ a, a ≠ o → zCel sb c0 cA h' a = zCel sb c0 cA h a) (hat : va_at D zcl (c0 + o, zCel sb c0 cA h' o) H1) (hz : H1.size = H.size) (hq : ∀ q : Nat, q ≠ c0 + o → H1[q]? = H[q]?) : zRel sb c0 Ls xs D cA U h' H1 := by
  obtain ⟨r1, r2, r3, r4, r5, r6, r7⟩ := hR
  refine ⟨fun a h1 h2 => ?_, by rw [hz, hn]; exact r2, by rw [hn]; exact r3, fun a ha => by rw [hK]; exact r4 a (by rw [← hn]; exact ha), by rw [hK]; exact r5, by rw [hx]; exact r6, r7.kept (hq sb (by omega))⟩
  by_cases he : a = o
  · subst he; exact hat
  · rw [hc a he]
    exact (r1 a h1 (by rw [← hn]; exact h2)).kept (hq _ (by show c0 + a ≠ c0 + o; omega))
/-- one cell is new -/
theorem zRel_new {sb c0 Ls : Nat} {xs : Nat → Int32} {D : va_G} {cA : Nat → ClassId} {U : State} {h h' : ZH} {H H1 : Heap} (hsb : sb ≤ c0) (hR : zRel sb c0 Ls xs D cA U h H) (hn : h'.2.2.2.1 = h.2.2.2.1 + 1) (hK : ∀ a, a ≠ h.2.2.2.1 → h'.1 a = h.1 a) (hI : ∀ a, a ≠ h.2.2.2.1 → h'.2.1 a = h.2.1 a) (hP : ∀ a, a ≠ h.2.2.2.1 → h'.2.2.1 a = h.2.2.1 a) (hat : va_at D zcl (H.size, zCel sb c0 cA h' h.2.2.2.1) H1) (hz : H1.size = H.size + 1) (hq : ∀ q : Nat, q < H.size → H1[q]? = H[q]?) : zRel sb c0 Ls xs D cA U h' H1 := by
  obtain ⟨r1, r2, r3, r4, r5, r6, r7⟩ := hR
  have hc : ∀ a, a ≠ h.2.2.2.1 → zCel sb c0 cA h' a = zCel sb c0 cA h a := fun a ha => by
    unfold zCel zFs
    rw [hK a ha, hI a ha, hP a ha]
  refine ⟨fun a h1 h2 => ?_, by rw [hz, hn, r2]; omega, by omega, fun a ha => ?_, by rw [hK 0 (by omega)]; exact r5, by rw [hI 0 (by omega)]; exact r6, r7.kept (hq sb (by omega))⟩
  · by_cases he : a = h.2.2.2.1
    · rw [he, ← r2]; exact hat
    · rw [hc a he]
      exact (r1 a h1 (by omega)).kept (hq _ (by show c0 + a < H.size; omega))
  · rw [hK a (by omega)]; exact r4 a (by omega)
theorem zRel_in {sb c0 Ls o ci : Nat} {xs : Nat → Int32} {D : va_G} {cA : Nat → ClassId} {U : State} {h : ZH} {H : Heap} (hR : zRel sb c0 Ls xs D cA U h H) (hk : h.1 o = some (.inl ci)) : 1 ≤ o ∧ o < h.2.2.2.1 := by
  obtain ⟨r1, r2, r3, r4, r5, r6, r7⟩ := hR
  constructor
  · rcases Nat.eq_zero_or_pos o with h0 | h0
    · subst h0; rw [r5] at hk; cases hk
    · exact h0
  · rcases Nat.lt_or_ge o h.2.2.2.1 with h0 | h0
    · exact h0
    · rw [r4 o h0] at hk; cases hk
theorem zRel_ia {sb c0 Ls o t n : Nat} {xs : Nat → Int32} {D : va_G} {cA : Nat → ClassId} {U : State} {h : ZH} {H : Heap} (hR : zRel sb c0 Ls xs D cA U h H) (hk : h.1 o = some (.inr (t, n))) (ht : t ≠ 9) : 1 ≤ o ∧ o < h.2.2.2.1 := by
  obtain ⟨r1, r2, r3, r4, r5, r6, r7⟩ := hR
  constructor
  · rcases Nat.eq_zero_or_pos o with h0 | h0
    · subst h0; rw [r5] at hk; cases hk; exact absurd rfl ht
    · exact h0
  · rcases Nat.lt_or_ge o h.2.2.2.1 with h0 | h0
    · exact h0
    · rw [r4 o h0] at hk; cases hk
theorem zP1 {D : va_G} {cl : List vw_C} {q : Nat × va_E} {H : Heap} (h : va_at D cl q H) : va_P D cl [q] H := fun k x hk => by
  have hz : k < 1 := (List.getElem?_eq_some_iff.mp hk).1
  rw [show k = 0 by omega] at hk
  cases hk
  exact h
/-- a field's link: its own class's word, or a nest mate's -/
def zfl (M idx ci k nest : Nat) : Prop := (nest = 0 ∧ Cond.fieldLink (zow M) idx ((zC ci).2.1 k).1 ((zC ci).2.1 k).2.1 ((zC ci).2.1 k).2.2.1 ∈ zWS) ∨ (nest = 1 ∧ (zow M, idx, ((zC ci).2.1 k).1, ((zC ci).2.1 k).2.1, ((zC ci).2.1 k).2.2.1, zhost) ∈ zNW)
section ZS
variable {p : Program} {l : Launch} {e : Env} {R : Room} {s : State} {m : MethodId} {args : Array Value} {below : List Frame} {meth : Method} {c : Code} {Q : State → Prop}
variable {sb c0 Ls n0 s0 M pc nx : Nat} {xs : Nat → Int32} {D : va_G} {cA : Nat → ClassId} {L : ZL} {st r : List ZV} {h : ZH}
theorem zs_getv (F : zFix p s m args meth c M) (E : zEnv D cA s) {o ci k idx nest : Nat} (hci : ci < zcl.length) (hkf : k < zfn ci) (hk : h.1 o = some (.inl ci)) (hf : zfl M idx ci k nest) (ok : decode (zbc M) pc = .ok (.getfield idx, 3) ∧ nx = pc + 3) {v : ZV} (hv : zTv sb c0 v = if zrf ci k = true then va_rf ((h.2.2.1 o k).map (zAd sb c0)) else .int (h.2.1 o k)) (kg : zGo p l e R s m args below meth c Q sb c0 Ls n0 s0 xs D cA M nx L (v :: r) h) : zGo p l e R s m args below meth c Q sb c0 Ls n0 s0 xs D cA M pc L (.inr (some o) :: r) h := by
  intro H locs cells slots ls hR hl hlo hn hs
  obtain ⟨hx, hb, hml, hown, hts, hct⟩ := F
  obtain ⟨h2, rfl⟩ := ok
  obtain ⟨o1, o2⟩ := zRel_in hR hk
  obtain ⟨hc, hN, hin, -, -⟩ := zcl_ok hci
  have hat := hR.1 o o1 o2
  rw [zCel_o hk] at hat
  have kk := kg H locs cells slots ls hR hl hlo hn hs
  have hvv : (zFs sb c0 h o ci)[k]? = some (zTv sb c0 v) := by rw [zFs_get hkf, hv]
  show W p l e R s m args below meth c H locs cells slots Q (F0 m pc ls (.ref (zAd sb c0 o) :: r.map (zTv sb c0)))
  rw [zAd_pos (by omega)]
  rcases hf with ⟨-, hf⟩ | ⟨-, hf⟩
  · exact va_get (D := D) (ci := ci) (C := (zC ci).1) (T := (zC ci).2.1) (N := (zC ci).2.2) hx hb hts hin hown E.1 (zP1 hat) 0 rfl hc k (by rw [hN]; exact hkf) (hts _ hf) (fun _ h9 => h9) hvv h2 kk
  · exact va_getN (D := D) (ci := ci) (C := (zC ci).1) (T := (zC ci).2.1) (N := (zC ci).2.2) hx hb hts hin hown E.1 (zP1 hat) 0 rfl hc k (by rw [hN]; exact hkf) (va_Nw.use rfl (E.2.1 _ hf)) (fun _ h9 => h9) hvv h2 kk
/-- putfield at a cell: plain, a final field in its constructor, a nest mate's -/
theorem zr_put (F : zFix p s m args meth c M) (E : zEnv D cA s) {H : Heap} {locs : List Loc} {cells slots : Nat} {ls : Array Slot} {rest : List Value} {a ci k idx nest : Nat} {fs : List Value} {v : Value} (hci : ci < zcl.length) (hkf : k < zfn ci) (hf : zfl M idx ci k nest) (hfin : ((zC ci).2.1 k).2.2.2 = true → nest = 0 ∧ zct M = true ∧ ((zC ci).2.1 k).1 = zow M) (hat : va_at D zcl (a, .inr (ci, fs)) H) (hn : narrow (zft ci k) v = v) (hfit : fits (zft ci k) v = true) (hl : k < fs.length) (hdg : decode (zbc M) pc = .ok (.putfield idx, 3))
    (kk : ∀ (H1 : Heap) (i : Nat), va_at D zcl (a, .inr (ci, fs.set k v)) H1 → H1.size = H.size → (∀ q : Nat, q ≠ a → H1[q]? = H[q]?) → W p l e R s m args below meth c H1 (locs ++ [⟨a, i⟩]) cells slots Q (F0 m (pc + 3) ls rest)) : W p l e R s m args below meth c H locs cells slots Q (F0 m pc ls (v :: .ref a :: rest)) := by
  obtain ⟨hx, hb, hml, hown, hts, hct⟩ := F
  obtain ⟨hc, hN, hin, hty, hnm⟩ := zcl_ok hci
  have hk : k < (zC ci).2.2 := by rw [hN]; exact hkf
  have hap := va_apart (own := zow M) (C := (zC ci).1) (T := (zC ci).2.1) (N := (zC ci).2.2) hts hin (zft ci) hty hnm E.1 hc
  obtain ⟨r', h1, cell, q1, q2, q3, q4⟩ := hat
  have hr : r' = zC ci := Option.some.inj (h1.symm.trans hc)
  subst hr
  obtain ⟨hS, hfc, kC, hkC, hkind⟩ := E.1.1 ci _ hc
  obtain ⟨cf, kf, fi, f, hi, hsl⟩ := hS k hk
  have hst := (u_facts hfc hkC (u_lays hts hin hk) hi).1
  have hlay := hts _ (hin _ (u_in_lay hk))
  unfold u_lay at hlay
  by_cases hfi : ((zC ci).2.1 k).2.2.2 = true
  · obtain ⟨rfl, hctm, hdecl⟩ := hfin hfi
    rw [if_pos hfi] at hlay
    have hlk : Cond.fieldLink (zow M) idx ((zC ci).2.1 k).1 ((zC ci).2.1 k).2.1 ((zC ci).2.1 k).2.2.1 ∈ zWS := by
      rcases hf with ⟨-, q⟩ | ⟨q, -⟩
      · exact q
      · cases q
    have hcf : m.cls = cf := by
      obtain ⟨_, _, c', _, _, _, -, -, hf', -, -, -, hown2, -⟩ := Cond.laysFinal_spec hlay
      have e1 : c' = cf := by have := hi.symm.trans hf'; simp at this; exact this.1.symm
      rw [hdecl] at hown2
      rw [← e1]; exact Option.some.inj (hown.symm.trans hown2)
    have h6 := u_fits hfc hkC hkind (Or.inr hlay) hi (hty k hk) hn hfit
    refine W.putFinK hx hb hown (hts _ hlk) hi hst hcf (hct hctm) (by rw [q2]; exact h6) q1 q3 (by rw [hsl]; exact k2_hasslot (q4 k hk)) rfl rfl hdg fun H' e1 e2 e3 => ?_
    rw [hsl] at e1 ⊢
    exact kk H' _ ⟨_, hc, t_OB.to (V := updV (vp_V fs) k v) ⟨_, e1, q2, q3, t_set q4 hap hk v⟩ (fun j _ => vp_updV_set hl v j)⟩ e2 e3
  · rw [if_neg hfi] at hlay
    have h6 := u_store hfc hkC hkind hlay hi (hty k hk) hn hfit
    rcases hf with ⟨-, hf⟩ | ⟨-, hf⟩
    · refine W.putK hx hb (f := f) ⟨hown, hts _ hf, ⟨_, _, _, hi⟩, hst⟩ (by rw [q2]; exact h6) q1 q3 (by rw [hsl]; exact k2_hasslot (q4 k hk)) rfl rfl hdg fun H' e1 e2 e3 => ?_
      rw [hsl] at e1 ⊢
      exact kk H' _ ⟨_, hc, t_OB.to (V := updV (vp_V fs) k v) ⟨_, e1, q2, q3, t_set q4 hap hk v⟩ (fun j _ => vp_updV_set hl v j)⟩ e2 e3
    · refine va_WputK hx hb (f := f) hown (va_Nw.use rfl (E.2.1 _ hf)) hi hst (by rw [q2]; exact h6) q1 q3 (by rw [hsl]; exact k2_hasslot (q4 k hk)) rfl rfl hdg fun H' e1 e2 e3 => ?_
      rw [hsl] at e1 ⊢
      exact kk H' _ ⟨_, hc, t_OB.to (V := updV (vp_V fs) k v) ⟨_, e1, q2, q3, t_set q4 hap hk v⟩ (fun j _ => vp_updV_set hl v j)⟩ e2 e3
theorem zs_puti (hsb : sb ≤ c0) (F : zFix p s m args meth c M) (E : zEnv D cA s) {o ci k idx nest : Nat} {x : Int32} (hci : ci < zcl.length) (hkf : k < zfn ci) (hty : zft ci k = .int) (hrf : zrf ci k = false) (hk : h.1 o = some (.inl ci)) (hf : zfl M idx ci k nest) (hfin : ((zC ci).2.1 k).2.2.2 = true → nest = 0 ∧ zct M = true ∧ ((zC ci).2.1 k).1 = zow M) (ok : decode (zbc M) pc = .ok (.putfield idx, 3) ∧ nx = pc + 3) (kg : zGo p l e R s m args below meth c Q sb c0 Ls n0 s0 xs D cA M nx L r (h.1, zU h.2.1 o k x, h.2.2)) : zGo p l e R s m args below meth c Q sb c0 Ls n0 s0 xs D cA M pc L (.inl x :: .inr (some o) :: r) h := by
  intro H locs cells slots ls hR hl hlo hn hs
  obtain ⟨h2, rfl⟩ := ok
  obtain ⟨o1, o2⟩ := zRel_in hR hk
  have hat := hR.1 o o1 o2
  rw [zCel_o hk] at hat
  show W p l e R s m args below meth c H locs cells slots Q (F0 m pc ls (.int x :: .ref (zAd sb c0 o) :: r.map (zTv sb c0)))
  rw [zAd_pos (by omega)]
  refine zr_put F E hci hkf hf hfin hat (by rw [hty]; rfl) (by rw [hty]; rfl) (by rw [zFs_len]; exact hkf) h2 (fun H1 i g1 g2 g3 => ?_)
  have hset : (zFs sb c0 h o ci).set k (.int x) = zFs sb c0 (h.1, zU h.2.1 o k x, h.2.2) o ci := zFs_set hkf (by rw [hrf]; simp [zU]) (fun j hj => zU_k _ _ _ hj) (fun _ _ => rfl)
  rw [hset] at g1
  refine kg H1 _ cells slots ls (zRel_upd hsb hR o1 rfl rfl (zU_ab _ _ _ (by omega)) (fun a ha => ?_) (by rw [zCel_o (h := (h.1, zU h.2.1 o k x, h.2.2)) hk]; exact g1) g2 g3) hl (fun q hq => ?_) hn hs
  · unfold zCel zFs
    simp only [zU_ab _ _ _ ha]
  · rcases List.mem_append.mp hq with hq | hq
    · exact hlo q hq
    · rw [List.mem_singleton.mp hq]; show c0 < c0 + o; omega
theorem zs_putr (hsb : sb ≤ c0) (F : zFix p s m args meth c M) (E : zEnv D cA s) {o ci k idx nest : Nat} {x : Option Nat} (hci : ci < zcl.length) (hkf : k < zfn ci) (hrf : zrf ci k = true) (hk : h.1 o = some (.inl ci)) (hf : zfl M idx ci k nest) (hfin : ((zC ci).2.1 k).2.2.2 = true → nest = 0 ∧ zct M = true ∧ ((zC ci).2.1 k).1 = zow M) (ok : decode (zbc M) pc = .ok (.putfield idx, 3) ∧ nx = pc + 3) (kg : zGo p l e R s m args below meth c Q sb c0 Ls n0 s0 xs D cA M nx L r (h.1, h.2.1, zU h.2.2.1 o k x, h.2.2.2)) : zGo p l e R s m args below meth c Q sb c0 Ls n0 s0 xs D cA M pc L (.inr x :: .inr (some o) :: r) h := by
  intro H locs cells slots ls hR hl hlo hn hs
  obtain ⟨h2, rfl⟩ := ok
  obtain ⟨o1, o2⟩ := zRel_in hR hk
  have hat := hR.1 o o1 o2
  rw [zCel_o hk] at hat
  show W p l e R s m args below meth c H locs cells slots Q (F0 m pc ls (va_rf (x.map (zAd sb c0)) :: .ref (zAd sb c0 o) :: r.map (zTv sb c0)))
  rw [zAd_pos (a := o) (by omega)]
  refine zr_put F E hci hkf hf hfin hat (zrf_nar hrf _) (zrf_fits hrf _) (by rw [zFs_len]; exact hkf) h2 (fun H1 i g1 g2 g3 => ?_)
  have hset : (zFs sb c0 h o ci).set k (va_rf (x.map (zAd sb c0))) = zFs sb c0 (h.1, h.2.1, zU h.2.2.1 o k x, h.2.2.2) o ci := zFs_set hkf (by rw [hrf]; simp [zU]) (fun _ _ => rfl) (fun j hj => zU_k _ _ _ hj)
  rw [hset] at g1
  refine kg H1 _ cells slots ls (zRel_upd hsb hR o1 rfl rfl rfl (fun a ha => ?_) (by rw [zCel_o (h := (h.1, h.2.1, zU h.2.2.1 o k x, h.2.2.2)) hk]; exact g1) g2 g3) hl (fun q hq => ?_) hn hs
  · unfold zCel zFs
    simp only [zU_ab _ _ _ ha]
  · rcases List.mem_append.mp hq with hq | hq
    · exact hlo q hq
    · rw [List.mem_singleton.mp hq]; show c0 < c0 + o; omega
end ZS
theorem zTys_get {cA : Nat → ClassId} {t : Nat} (h : t < zty.length) : (zTys cA)[t]? = some (cA t, zty.getD t .int) := by
  simp [zTys, h]
theorem zin_of {j : Int32} {n : Nat} (h : zin j n = true) : ¬ (j < 0 ∨ n ≤ j.toNatClampNeg) := of_decide_eq_true h
section ZS
variable {p : Program} {l : Launch} {e : Env} {R : Room} {s : State} {m : MethodId} {args : Array Value} {below : List Frame} {meth : Method} {c : Code} {Q : State → Prop}
variable {sb c0 Ls n0 s0 M pc nx : Nat} {xs : Nat → Int32} {D : va_G} {cA : Nat → ClassId} {L : ZL} {st r : List ZV} {h : ZH}
theorem zs_iald (F : zFix p s m args meth c M) (E : zEnv D cA s) {o t n : Nat} {j : Int32} (hk : h.1 o = some (.inr (t, n))) (ht : t = 0 ∨ (t = 9 ∧ o = 0)) (hj : zin j n = true) (ok : decode (zbc M) pc = .ok (.iaload, 1) ∧ nx = pc + 1) (kg : zGo p l e R s m args below meth c Q sb c0 Ls n0 s0 xs D cA M nx L (.inl (h.2.1 o j.toNatClampNeg) :: r) h) : zGo p l e R s m args below meth c Q sb c0 Ls n0 s0 xs D cA M pc L (.inl j :: .inr (some o) :: r) h := by
  intro H locs cells slots ls hR hl hlo hn hs
  obtain ⟨h2, rfl⟩ := ok
  have kk := kg H locs cells slots ls hR hl hlo hn hs
  have hin := zin_of hj
  have hlt : j.toNatClampNeg < n := Nat.not_le.mp fun q => hin (Or.inr q)
  show W p l e R s m args below meth c H locs cells slots Q (F0 m pc ls (.int j :: .ref (zAd sb c0 o) :: r.map (zTv sb c0)))
  by_cases h9 : t = 9
  · subst h9
    have ho : o = 0 := by
      rcases ht with q | q
      · cases q
      · exact q.2
    subst ho
    obtain ⟨r1, r2, r3, r4, r5, r6, r7⟩ := hR
    have hL : n = Ls := by rw [r5] at hk; cases hk; rfl
    subst hL
    obtain ⟨scr, g1, g2, g3, g4, g5⟩ := r7
    rw [r6] at kk
    exact W.iald (v := .int (xs j.toNatClampNeg)) F.1 F.2.1 (a := sb) g1 g2 g3 (by rw [g4]; exact hin) (g5 _ hlt) rfl rfl h2 kk
  · have h0 : t = 0 := by omega
    subst h0
    obtain ⟨o1, o2⟩ := zRel_ia hR hk (by decide)
    have hat := hR.1 o o1 o2
    rw [zCel_i hk (by decide)] at hat
    rw [zAd_pos (by omega)]
    exact va_iald F.1 F.2.1 E.1 (zP1 hat) 0 0 rfl (zTys_get (by decide)) hin h2 kk
theorem zs_zald (F : zFix p s m args meth c M) (E : zEnv D cA s) {o n : Nat} {j : Int32} (hk : h.1 o = some (.inr (1, n))) (hj : zin j n = true) (ok : decode (zbc M) pc = .ok (.baload, 1) ∧ nx = pc + 1) (kg : zGo p l e R s m args below meth c Q sb c0 Ls n0 s0 xs D cA M nx L (.inl (h.2.1 o j.toNatClampNeg) :: r) h) : zGo p l e R s m args below meth c Q sb c0 Ls n0 s0 xs D cA M pc L (.inl j :: .inr (some o) :: r) h := by
  intro H locs cells slots ls hR hl hlo hn hs
  obtain ⟨h2, rfl⟩ := ok
  have kk := kg H locs cells slots ls hR hl hlo hn hs
  have hin := zin_of hj
  show W p l e R s m args below meth c H locs cells slots Q (F0 m pc ls (.int j :: .ref (zAd sb c0 o) :: r.map (zTv sb c0)))
  obtain ⟨o1, o2⟩ := zRel_ia hR hk (by decide)
  have hat := hR.1 o o1 o2
  rw [zCel_i hk (by decide)] at hat
  rw [zAd_pos (by omega)]
  exact va_zald F.1 F.2.1 E.1 (zP1 hat) 0 1 rfl (zTys_get (by decide)) hin h2 kk
theorem zs_aald (F : zFix p s m args meth c M) (E : zEnv D cA s) {o t n : Nat} {j : Int32} (hk : h.1 o = some (.inr (t, n))) (ht2 : ¬ t < 2) (ht : t < zty.length) (hj : zin j n = true) (ok : decode (zbc M) pc = .ok (.aaload, 1) ∧ nx = pc + 1) (kg : zGo p l e R s m args below meth c Q sb c0 Ls n0 s0 xs D cA M nx L (.inr (h.2.2.1 o j.toNatClampNeg) :: r) h) : zGo p l e R s m args below meth c Q sb c0 Ls n0 s0 xs D cA M pc L (.inl j :: .inr (some o) :: r) h := by
  intro H locs cells slots ls hR hl hlo hn hs
  obtain ⟨h2, rfl⟩ := ok
  have kk := kg H locs cells slots ls hR hl hlo hn hs
  have hin := zin_of hj
  show W p l e R s m args below meth c H locs cells slots Q (F0 m pc ls (.int j :: .ref (zAd sb c0 o) :: r.map (zTv sb c0)))
  obtain ⟨o1, o2⟩ := zRel_ia hR hk (fun q => by subst q; exact absurd ht (by decide))
  have hat := hR.1 o o1 o2
  rw [zCel_r hk ht2] at hat
  rw [zAd_pos (by omega)]
  obtain ⟨C, hC⟩ := zty_obj t ht2 ht
  exact va_aldq (C := C) F.1 F.2.1 E.1 (zP1 hat) 0 t rfl (by rw [zTys_get ht, hC]) hin h2 kk
theorem zs_alen (F : zFix p s m args meth c M) (E : zEnv D cA s) {o t n : Nat} (hk : h.1 o = some (.inr (t, n))) (ht : t < zty.length ∨ (t = 9 ∧ o = 0)) (ok : decode (zbc M) pc = .ok (.arraylength, 1) ∧ nx = pc + 1) (kg : zGo p l e R s m args below meth c Q sb c0 Ls n0 s0 xs D cA M nx L (.inl (Int32.ofNat n) :: r) h) : zGo p l e R s m args below meth c Q sb c0 Ls n0 s0 xs D cA M pc L (.inr (some o) :: r) h := by
  intro H locs cells slots ls hR hl hlo hn hs
  obtain ⟨h2, rfl⟩ := ok
  have kk := kg H locs cells slots ls hR hl hlo hn hs
  show W p l e R s m args below meth c H locs cells slots Q (F0 m pc ls (.ref (zAd sb c0 o) :: r.map (zTv sb c0)))
  by_cases h9 : t = 9
  · subst h9
    have ho : o = 0 := by
      rcases ht with q | q
      · exact absurd q (by decide)
      · exact q.2
    subst ho
    obtain ⟨r1, r2, r3, r4, r5, r6, r7⟩ := hR
    have hL : n = Ls := by rw [r5] at hk; cases hk; rfl
    subst hL
    obtain ⟨scr, g1, g2, g3, g4, g5⟩ := r7
    exact W.alen (n := Int32.ofNat n) F.1 F.2.1 (a := sb) g1 g2 (by rw [g4] <;> rfl) rfl rfl h2 kk
  · have ht' : t < zty.length := by omega
    obtain ⟨o1, o2⟩ := zRel_ia hR hk h9
    have hat := hR.1 o o1 o2
    rw [zAd_pos (by omega)]
    by_cases h2' : t < 2
    · rw [zCel_i hk h2'] at hat
      exact va_alen F.1 F.2.1 E.1 (zP1 hat) 0 t rfl (zTys_get ht') rfl h2 kk
    · rw [zCel_r hk h2'] at hat
      exact va_alen F.1 F.2.1 E.1 (zP1 hat) 0 t rfl (zTys_get ht') rfl h2 kk
theorem zs_iast (hsb : sb ≤ c0) (F : zFix p s m args meth c M) (E : zEnv D cA s) {o n : Nat} {j x : Int32} (hk : h.1 o = some (.inr (0, n))) (hj : zin j n = true) (ok : decode (zbc M) pc = .ok (.iastore, 1) ∧ nx = pc + 1) (kg : zGo p l e R s m args below meth c Q sb c0 Ls n0 s0 xs D cA M nx L r (h.1, zU h.2.1 o j.toNatClampNeg x, h.2.2)) : zGo p l e R s m args below meth c Q sb c0 Ls n0 s0 xs D cA M pc L (.inl x :: .inl j :: .inr (some o) :: r) h := by
  intro H locs cells slots ls hR hl hlo hn hs
  obtain ⟨h2, rfl⟩ := ok
  have hin := zin_of hj
  obtain ⟨o1, o2⟩ := zRel_ia hR hk (by decide)
  have hat := hR.1 o o1 o2
  rw [zCel_i hk (by decide)] at hat
  show W p l e R s m args below meth c H locs cells slots Q (F0 m pc ls (.int x :: .int j :: .ref (zAd sb c0 o) :: r.map (zTv sb c0)))
  rw [zAd_pos (by omega)]
  refine W.iast F.1 F.2.1 hat ((E.1.2 0 _ (zTys_get (by decide))).1 n (fun j => .int (h.2.1 o j))) (fun q => by cases q) (by show ¬ (j < 0 ∨ (arrV _ _ _).slots.size ≤ _); rw [arrV_size]; exact hin) rfl rfl h2 fun H1 e1 g2 g3 => ?_
  refine kg H1 _ cells slots ls (zRel_upd hsb hR o1 rfl rfl (zU_ab _ _ _ (by omega)) (fun a ha => ?_) ?_ g2 g3) hl (fun q hq => ?_) hn hs
  · unfold zCel zFs
    simp only [zU_ab _ _ _ ha]
  · rw [zCel_i (h := (h.1, zU h.2.1 o j.toNatClampNeg x, h.2.2)) hk (by decide)]
    show H1[c0 + o]? = some (vp_cell _ _)
    rw [e1, vp_cell_i, vp_cell_i, arrV_store]
    congr 2
    funext q
    by_cases hq : q = j.toNatClampNeg
    · subst hq
      simp [updV, zU]
    · simp [updV, zU, hq]
  · rcases List.mem_append.mp hq with hq | hq
    · exact hlo q hq
    · rw [List.mem_singleton.mp hq]; show c0 < c0 + o; omega
theorem zs_zast (hsb : sb ≤ c0) (F : zFix p s m args meth c M) (E : zEnv D cA s) {o n : Nat} {j x : Int32} (hk : h.1 o = some (.inr (1, n))) (hj : zin j n = true) (hx1 : x = 0 ∨ x = 1) (ok : decode (zbc M) pc = .ok (.bastore, 1) ∧ nx = pc + 1) (kg : zGo p l e R s m args below meth c Q sb c0 Ls n0 s0 xs D cA M nx L r (h.1, zU h.2.1 o j.toNatClampNeg x, h.2.2)) : zGo p l e R s m args below meth c Q sb c0 Ls n0 s0 xs D cA M pc L (.inl x :: .inl j :: .inr (some o) :: r) h := by
  intro H locs cells slots ls hR hl hlo hn hs
  obtain ⟨h2, rfl⟩ := ok
  have hin := zin_of hj
  obtain ⟨o1, o2⟩ := zRel_ia hR hk (by decide)
  have hat := hR.1 o o1 o2
  rw [zCel_i hk (by decide)] at hat
  show W p l e R s m args below meth c H locs cells slots Q (F0 m pc ls (.int x :: .int j :: .ref (zAd sb c0 o) :: r.map (zTv sb c0)))
  rw [zAd_pos (by omega)]
  refine W.zast F.1 F.2.1 hat ((E.1.2 1 _ (zTys_get (by decide))).1 n (fun j => .int (h.2.1 o j))) (fun q => by cases q) (by show ¬ (j < 0 ∨ (arrV _ _ _).slots.size ≤ _); rw [arrV_size]; exact hin) rfl rfl h2 fun H1 e1 g2 g3 => ?_
  refine kg H1 _ cells slots ls (zRel_upd hsb hR o1 rfl rfl (zU_ab _ _ _ (by omega)) (fun a ha => ?_) ?_ g2 g3) hl (fun q hq => ?_) hn hs
  · unfold zCel zFs
    simp only [zU_ab _ _ _ ha]
  · rw [zCel_i (h := (h.1, zU h.2.1 o j.toNatClampNeg x, h.2.2)) hk (by decide)]
    show H1[c0 + o]? = some (vp_cell _ _)
    have hnx : narrow .boolean (.int x) = .int x := by rcases hx1 with rfl | rfl <;> decide +kernel
    rw [e1, vp_cell_i, vp_cell_i, arrV_store, hnx]
    congr 2
    funext q
    by_cases hq : q = j.toNatClampNeg
    · subst hq
      simp [updV, zU]
    · simp [updV, zU, hq]
  · rcases List.mem_append.mp hq with hq | hq
    · exact hlo q hq
    · rw [List.mem_singleton.mp hq]; show c0 < c0 + o; omega
theorem zs_aast (hsb : sb ≤ c0) (F : zFix p s m args meth c M) (E : zEnv D cA s) {o t n v ci : Nat} {j : Int32} (hk : h.1 o = some (.inr (t, n))) (ht2 : ¬ t < 2) (ht : t < zty.length) (hci : ci < zcl.length) (htc : zty.getD t .int = .object (zC ci).1) (hv : h.1 v = some (.inl ci)) (hj : zin j n = true) (ok : decode (zbc M) pc = .ok (.aastore, 1) ∧ nx = pc + 1) (kg : zGo p l e R s m args below meth c Q sb c0 Ls n0 s0 xs D cA M nx L r ((h.1, h.2.1, zU h.2.2.1 o j.toNatClampNeg (some v), h.2.2.2))) : zGo p l e R s m args below meth c Q sb c0 Ls n0 s0 xs D cA M pc L (.inr (some v) :: .inl j :: .inr (some o) :: r) h := by
  intro H locs cells slots ls hR hl hlo hn hs
  obtain ⟨h2, rfl⟩ := ok
  have hin := zin_of hj
  have hlt : j.toNatClampNeg < n := Nat.not_le.mp fun q => hin (Or.inr q)
  have hj0 : ¬ j < 0 := fun q => hin (Or.inl q)
  obtain ⟨o1, o2⟩ := zRel_ia hR hk (fun q => by subst q; exact absurd ht (by decide))
  obtain ⟨v1, v2⟩ := zRel_in hR hv
  have hat := hR.1 o o1 o2
  rw [zCel_r hk ht2] at hat
  have hav := hR.1 v v1 v2
  rw [zCel_o hv] at hav
  show W p l e R s m args below meth c H locs cells slots Q (F0 m pc ls (.ref (zAd sb c0 v) :: .int j :: .ref (zAd sb c0 o) :: r.map (zTv sb c0)))
  rw [zAd_pos (a := o) (by omega), zAd_pos (a := v) (by omega)]
  obtain ⟨hc, -⟩ := zcl_ok hci
  obtain ⟨r', hr', cellV, g1, g2, g3, -⟩ := hav
  have hcls := (E.1.1 ci _ hc).2
  have hT := E.1.2 t _ (zTys_get ht)
  rw [htc] at hT
  obtain ⟨kA, comp, k1, k2, k3, -⟩ := hT.2
  have hcomp : comp = D.1 ci := Option.some.inj (k3.symm.trans hcls.1)
  subst hcomp
  obtain ⟨kC, hkC, -⟩ := hcls.2
  refine W.aast F.1 F.2.1 hat (fun q h => by cases h) (fun h => by cases h) k1 k2 rfl hkC ⟨hj0, by show _ < (arrV _ _ _).slots.size; rw [arrV_size]; exact hlt⟩ g1 (fun q h => by rw [g3] at h; cases h) (by rw [g2]; exact hkC) (by rw [g2]; exact va_assign hcls) rfl rfl h2 fun H1 e1 z1 oq => ?_
  refine kg H1 _ cells slots ls (zRel_upd hsb hR o1 rfl rfl rfl (fun a ha => ?_) ?_ z1 oq) hl (fun q hq => ?_) hn hs
  · unfold zCel zFs
    simp only [zU_ab _ _ _ ha]
  · rw [zCel_r (h := (h.1, h.2.1, zU h.2.2.1 o j.toNatClampNeg (some v), h.2.2.2)) hk ht2]
    show H1[c0 + o]? = some (vp_cell _ _)
    rw [e1, vp_cell_q, vp_cell_q, arrV_store]
    congr 2
    funext q
    by_cases hq : q = j.toNatClampNeg
    · subst hq
      simp [updV, zU, va_rf, zAd_pos (sb := sb) (c0 := c0) (a := v) (by omega)]
    · simp [updV, zU, hq]
  · rcases List.mem_append.mp hq with hq | hq
    · exact hlo q hq
    · rw [List.mem_singleton.mp hq]; show c0 < c0 + o; omega
theorem zs_new (hsb : sb ≤ c0) (F : zFix p s m args meth c M) (E : zEnv D cA s) {ci idx : Nat} (hci : ci < zcl.length) (hw : Cond.classLink (zow M) idx (zC ci).1 ∈ zWS ∧ Cond.instantiable (zC ci).1 (zfn ci) ∈ zWS ∧ Cond.initialized (zC ci).1 ∈ zWS) (ok : decode (zbc M) pc = .ok (.new idx, 3) ∧ nx = pc + 3) (hrm : h.2.2.2.1 + 1 ≤ n0 + R.cells ∧ h.2.2.2.2 + zfn ci ≤ s0 + R.slots)
    (kg : zGo p l e R s m args below meth c Q sb c0 Ls n0 s0 xs D cA M nx L (.inr (some h.2.2.2.1) :: st) ((va_up h.1 h.2.2.2.1 (some (.inl ci)), va_up h.2.1 h.2.2.2.1 (fun _ => 0), va_up h.2.2.1 h.2.2.2.1 (fun _ => none), h.2.2.2.1 + 1, h.2.2.2.2 + zfn ci))) : zGo p l e R s m args below meth c Q sb c0 Ls n0 s0 xs D cA M pc L st h := by
  intro H locs cells slots ls hR hl hlo hn hs
  obtain ⟨hx, hb, hml, hown, hts, hct⟩ := F
  obtain ⟨h2, rfl⟩ := ok
  obtain ⟨hc, hN, hin, hty, hnm⟩ := zcl_ok hci
  have hKn := E.1.1 ci _ hc
  have hsz := hR.2.1
  have hn1 := hR.2.2.1
  refine W.newcK hx hb hown (hts _ hw.1) (hts _ hw.2.1) (hts _ hw.2.2) rfl h2 (by omega) (by omega) hKn.2.1 rfl fun H1 kC hkC e1 z1 o1 => ?_
  have kk := kg H1 locs (cells + 1) (slots + zfn ci) ls (zRel_new hsb hR rfl (fun a ha => va_up_ne _ _ ha) (fun a ha => va_up_ne _ _ ha) (fun a ha => va_up_ne _ _ ha) ?_ z1 o1) hl hlo (by show h.2.2.2.1 + 1 = _; omega) (by show h.2.2.2.2 + zfn ci = _; omega)
  · have he : zTv sb c0 (.inr (some h.2.2.2.1)) = .ref H.size := by
      show Value.ref (zAd sb c0 h.2.2.2.1) = .ref H.size
      rw [zAd_pos (by omega), hsz]
    rw [List.map_cons, he] at kk
    exact kk
  · rw [zCel_o (ci := ci) (va_up_self _ _ _)]
    refine ⟨_, hc, (u_born (zft ci) hts hin hKn hkC e1 hty).to (fun j hj => ?_)⟩
    rw [hN] at hj
    show defaultValue (zft ci j) = (zFs _ _ _ _ _).getD j .null
    rw [List.getD_eq_getElem?_getD, zFs_get hj]
    simp only [va_up_self, Option.map_none, Option.getD_some]
    exact zft_def hci hj
theorem zs_newa (hsb : sb ≤ c0) (F : zFix p s m args meth c M) (E : zEnv D cA s) {t : Nat} {x : Int32} {ty : ArrayType} (ht : t < 2) (hty : newarray.typeOf ty = zty.getD t .int) (hw : Cond.arrayClass (newarray.typeOf ty) ∈ zWS) (hx0 : ¬ x < 0) (hx1 : x.toNatClampNeg ≤ 1000) (ok : decode (zbc M) pc = .ok (.newarray ty, 2) ∧ nx = pc + 2) (hrm : h.2.2.2.1 + 1 ≤ n0 + R.cells ∧ h.2.2.2.2 + x.toNatClampNeg ≤ s0 + R.slots)
    (kg : zGo p l e R s m args below meth c Q sb c0 Ls n0 s0 xs D cA M nx L (.inr (some h.2.2.2.1) :: r) ((va_up h.1 h.2.2.2.1 (some (.inr (t, x.toNatClampNeg))), va_up h.2.1 h.2.2.2.1 (fun _ => 0), va_up h.2.2.1 h.2.2.2.1 (fun _ => none), h.2.2.2.1 + 1, h.2.2.2.2 + x.toNatClampNeg))) : zGo p l e R s m args below meth c Q sb c0 Ls n0 s0 xs D cA M pc L (.inl x :: r) h := by
  intro H locs cells slots ls hR hl hlo hn hs
  obtain ⟨hx, hb, hml, hown, hts, hct⟩ := F
  obtain ⟨h2, rfl⟩ := ok
  have hsz := hR.2.1
  have hn1 := hR.2.2.1
  have hT := E.1.2 t _ (zTys_get (Nat.lt_of_lt_of_le ht (by decide)))
  refine va_newaK hx hb (hts _ hw) rfl h2 rfl hx0 rfl (zbytes hx1 ty) (by omega) (by omega) rfl fun H1 cA' e1 z1 o1 hAr hNm => ?_
  have hcA : cA' = cA t := by
    rw [hty] at hNm
    exact Option.some.inj (hNm.symm.trans (zRA_prim ht hT.2))
  subst hcA
  have kk := kg H1 locs (cells + 1) (slots + x.toNatClampNeg) ls (zRel_new hsb hR rfl (fun a ha => va_up_ne _ _ ha) (fun a ha => va_up_ne _ _ ha) (fun a ha => va_up_ne _ _ ha) ?_ z1 o1) hl hlo (by show h.2.2.2.1 + 1 = _; omega) (by show h.2.2.2.2 + x.toNatClampNeg = _; omega)
  · have he : zTv sb c0 (.inr (some h.2.2.2.1)) = .ref H.size := by
      show Value.ref (zAd sb c0 h.2.2.2.1) = .ref H.size
      rw [zAd_pos (by omega), hsz]
    rw [List.map_cons, he] at kk
    exact kk
  · rw [zCel_i (t := t) (n := x.toNatClampNeg) (va_up_self _ _ _) ht]
    show H1[H.size]? = some (vp_cell _ _)
    rw [e1, vp_cell_i, hty, zdef_prim ht]
    simp only [va_up_self]
theorem zs_anew (hsb : sb ≤ c0) (F : zFix p s m args meth c M) (E : zEnv D cA s) {t ci idx : Nat} {x : Int32} (ht2 : ¬ t < 2) (ht : t < zty.length) (htc : zty.getD t .int = .object (zC ci).1) (hao : (zC ci).1 ∈ zAO) (hw : Cond.classLink (zow M) idx (zC ci).1 ∈ zWS) (hx0 : ¬ x < 0) (hx1 : x.toNatClampNeg ≤ 1000) (ok : decode (zbc M) pc = .ok (.anewarray idx, 3) ∧ nx = pc + 3) (hrm : h.2.2.2.1 + 1 ≤ n0 + R.cells ∧ h.2.2.2.2 + x.toNatClampNeg ≤ s0 + R.slots)
    (kg : zGo p l e R s m args below meth c Q sb c0 Ls n0 s0 xs D cA M nx L (.inr (some h.2.2.2.1) :: r) ((va_up h.1 h.2.2.2.1 (some (.inr (t, x.toNatClampNeg))), va_up h.2.1 h.2.2.2.1 (fun _ => 0), va_up h.2.2.1 h.2.2.2.1 (fun _ => none), h.2.2.2.1 + 1, h.2.2.2.2 + x.toNatClampNeg))) : zGo p l e R s m args below meth c Q sb c0 Ls n0 s0 xs D cA M pc L (.inl x :: r) h := by
  intro H locs cells slots ls hR hl hlo hn hs
  obtain ⟨hx, hb, hml, hown, hts, hct⟩ := F
  obtain ⟨h2, rfl⟩ := ok
  have hsz := hR.2.1
  have hn1 := hR.2.2.1
  have hT := E.1.2 t _ (zTys_get ht)
  rw [htc] at hT
  obtain ⟨kA', comp', q1, q2, q3, q4⟩ := hT.2
  refine W.anew hx hb hown (hts _ hw) (va_AO.use (E.2.2 _ hao)) rfl h2 rfl hx0 (by omega) (by omega) (by omega) fun cA' kA comp f1 f2 f3 f4 => ?_
  have hcA : cA' = cA t := Option.some.inj (f1.symm.trans q4)
  subst hcA
  generalize hH1 : H.push ({ cls := cA t, slots := Array.replicate x.toNatClampNeg .null, vm := .none } : Cell) = H1
  have z1 : H1.size = H.size + 1 := by rw [← hH1, Array.size_push]
  have e1 : H1[H.size]? = some (arrV (cA t) x.toNatClampNeg (fun _ => .null)) := by rw [← hH1, Array.getElem?_push_size, ← arrV_new]
  have o1 : ∀ q : Nat, q < H.size → H1[q]? = H[q]? := fun q hq => by rw [← hH1, Array.getElem?_push, if_neg (Nat.ne_of_lt hq)]
  have kk := kg H1 locs (cells + 1) (slots + x.toNatClampNeg) ls (zRel_new hsb hR rfl (fun a ha => va_up_ne _ _ ha) (fun a ha => va_up_ne _ _ ha) (fun a ha => va_up_ne _ _ ha) ?_ z1 o1) hl hlo (by show h.2.2.2.1 + 1 = _; omega) (by show h.2.2.2.2 + x.toNatClampNeg = _; omega)
  · have he : zTv sb c0 (.inr (some h.2.2.2.1)) = .ref H.size := by
      show Value.ref (zAd sb c0 h.2.2.2.1) = .ref H.size
      rw [zAd_pos (by omega), hsz]
    rw [List.map_cons, he] at kk
    exact kk
  · rw [zCel_r (t := t) (n := x.toNatClampNeg) (va_up_self _ _ _) ht2]
    show H1[H.size]? = some (vp_cell _ _)
    rw [e1, vp_cell_q]
    simp only [va_up_self, Option.map_none]
    rfl
end ZS
