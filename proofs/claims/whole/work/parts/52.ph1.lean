/-! One phase of the running thread, on both sides. -/
def AG (Y X : Mem) : Prop := ∀ a, 49 ≤ a → a ≤ 78 → Y a = X a
def FRm (Y' Y : Mem) : Prop := ∀ c, c < 49 ∨ 78 < c → Y' c = Y c
def CFR (J' J : Mem) : Prop := ∀ c, c = 0 ∨ 49 ≤ c → c ≤ 78 → J' c = J c
theorem AG_U {Y X : Mem} {a k : Nat} {x y : Int} (h : AG Y X) (hx : x = y) : AG (zU Y a k x) (zU X a k y) := by
  subst hx
  intro b h1 h2
  funext j
  by_cases e : b = a
  · subst e
    by_cases ej : j = k
    · subst ej; rw [zU_s, zU_s]
    · rw [zU_k _ _ _ ej, zU_k _ _ _ ej, h b h1 h2]
  · rw [zU_ne e, zU_ne e, h b h1 h2]
theorem AG_fill {Y X : Mem} {b i m : Nat} (h : AG Y X) : AG (zfill Y b i m) (zfill X b i m) := by
  intro c h1 h2
  funext j
  unfold zfill
  rw [h c h1 h2]
theorem FR_r (Y : Mem) : FRm Y Y := fun _ _ => rfl
theorem FR_U {Z Y : Mem} {a k : Nat} {x : Int} (h : FRm Z Y) (h1 : 49 ≤ a) (h2 : a ≤ 78) : FRm (zU Z a k x) Y := fun c hc => by rw [zU_ab _ _ _ (by omega)]; exact h c hc
theorem FR_fill {Z Y : Mem} {b i m : Nat} (h : FRm Z Y) (h1 : 49 ≤ b) (h2 : b ≤ 78) : FRm (zfill Z b i m) Y := fun c hc => by rw [zfill_ab (by omega)]; exact h c hc
theorem CF_r (J : Mem) : CFR J J := fun _ _ _ => rfl
theorem CF_U {Z J : Mem} {a k : Nat} {x : Int} (h : CFR Z J) (h1 : (a ≠ 0 ∧ a < 49) ∨ 78 < a) : CFR (zU Z a k x) J := fun c hc hc2 => by rw [zU_ab _ _ _ (by omega)]; exact h c hc hc2
theorem CF_t {Z Y J : Mem} (h : CFR Z Y) (h2 : CFR Y J) : CFR Z J := fun c a b => by rw [h c a b, h2 c a b]
/-- rows of threads that are not there yet -/
def KP (nT : Nat) (X' X : Mem) : Prop := (∀ u, nT ≤ u → X' 51 u = X 51 u) ∧ (∀ u, nT ≤ u → X' 59 u = X 59 u) ∧ (∀ u, nT ≤ u → X' 63 u = X 63 u)
theorem KP_r {nT : Nat} (X : Mem) : KP nT X X := ⟨fun _ _ => rfl, fun _ _ => rfl, fun _ _ => rfl⟩
theorem KP_t {nT : Nat} {Z Y X : Mem} (h : KP nT Z Y) (h2 : KP nT Y X) : KP nT Z X := ⟨fun u a => by rw [h.1 u a, h2.1 u a], fun u a => by rw [h.2.1 u a, h2.2.1 u a], fun u a => by rw [h.2.2 u a, h2.2.2 u a]⟩
theorem zU_kp {Z : Mem} {a b k u nT : Nat} {x : Int} (h : b = a → k < nT) (hu : nT ≤ u) : zU Z a k x b u = Z b u := by
  by_cases e : b = a
  · subst e; exact zU_k _ _ _ (by have := h rfl; omega)
  · exact zU_ne e
theorem KP_U {nT : Nat} {Z X : Mem} {a k : Nat} {x : Int} (h : KP nT Z X) (h1 : a = 51 ∨ a = 59 ∨ a = 63 → k < nT) : KP nT (zU Z a k x) X := ⟨fun u hu => by rw [zU_kp (fun e => h1 (Or.inl e.symm)) hu]; exact h.1 u hu, fun u hu => by rw [zU_kp (fun e => h1 (Or.inr (Or.inl e.symm))) hu]; exact h.2.1 u hu, fun u hu => by rw [zU_kp (fun e => h1 (Or.inr (Or.inr e.symm))) hu]; exact h.2.2 u hu⟩
theorem KP_x {nT : Nat} {Z X : Mem} (h : ∀ b, b = 51 ∨ b = 59 ∨ b = 63 → Z b = X b) : KP nT Z X := ⟨fun u _ => by rw [h 51 (by omega)], fun u _ => by rw [h 59 (by omega)], fun u _ => by rw [h 63 (by omega)]⟩
theorem KP_fill {nT : Nat} {Z X : Mem} {b i m : Nat} (h : KP nT Z X) (h1 : b ≠ 51 ∧ b ≠ 59 ∧ b ≠ 63) : KP nT (zfill Z b i m) X := KP_t (KP_x (fun c hc => zfill_ab (by omega))) h
def CX (K : Nat → Option ZK) (P : Nat → Nat → Option Nat) (n B nT : Nat) (ta : Nat → Nat) (oa : Nat → Nat → Nat) (t p : Nat) (J X : Mem) : Prop := SH K P n nT ta oa X ∧ RR B nT ta oa J X ∧ t < nT ∧ X 58 t = 2 ∧ p < 4 ∧ X 57 t = p ∧ B < 100000
def PH0 (K : Nat → Option ZK) (P : Nat → Nat → Option Nat) (n w B nT : Nat) (ta : Nat → Nat) (oa : Nat → Nat → Nat) (t p dn : Nat) (J X : Mem) : Prop := ∃ J' X', RR (B + 1) nT ta oa J' X' ∧ X' 50 = X 50 ∧ CFR J' J ∧ KP nT X' X ∧ (∀ (d : Nat) (Q : Option ZV → ZH → Prop), Q (some (.inl (zi 0))) (K, zm J', P, n, w) → zT (d + 3) 30 0 [(0, .inr (some 1)), (1, .inr (some (ta t))), (2, .inr (some (oa t dn))), (3, .inr (some (4 + 10 * p)))] [] (K, zm J, P, n, w) Q)
  ∧ ∀ Y, AG Y X → RG Y → ∃ Y', AG Y' X' ∧ FRm Y' Y ∧ ∀ (d : Nat) (Q : Option ZV → ZH → Prop), Q (some (.inl (zi 0))) (K, zm Y', P, n, w) → zT (d + 2) (actM (X 60 t)) 0 [(0, .inr (some 49)), (1, .inl (zi p)), (2, .inl (zi t)), (3, .inl (zi ((10 * t + dn : Nat) : Int)))] [] (K, zm Y, P, n, w) Q
def PH1 (K : Nat → Option ZK) (P : Nat → Nat → Option Nat) (n w B nT : Nat) (ta : Nat → Nat) (oa : Nat → Nat → Nat) (t p dn : Nat) (J X : Mem) : Prop := ∃ J' X' v, RF (B + 1) nT t ta oa J' X' ∧ J' (ta t) 9 = v ∧ (∀ b, ¬ (b = 49 ∨ b = 71) → X' b = X b) ∧ X' 49 0 = X 49 0 ∧ CFR J' J ∧ (∀ (d : Nat) (Q : Option ZV → ZH → Prop), Q (some (.inl (zi 1))) (K, zm J', P, n, w) → zT (d + 3) 30 0 [(0, .inr (some 1)), (1, .inr (some (ta t))), (2, .inr (some (oa t dn))), (3, .inr (some (4 + 10 * p)))] [] (K, zm J, P, n, w) Q)
  ∧ ∀ Y, AG Y X → RG Y → ∃ Y', AG Y' (zU X' 56 (10 * t + dn) v) ∧ FRm Y' Y ∧ ∀ (d : Nat) (Q : Option ZV → ZH → Prop), Q (some (.inl (zi 1))) (K, zm Y', P, n, w) → zT (d + 2) (actM (X 60 t)) 0 [(0, .inr (some 49)), (1, .inl (zi p)), (2, .inl (zi t)), (3, .inl (zi ((10 * t + dn : Nat) : Int)))] [] (K, zm Y, P, n, w) Q
theorem RF_mono {B B' nT t : Nat} {ta : Nat → Nat} {oa : Nat → Nat → Nat} {J X : Mem} (hR : RF B nT t ta oa J X) (h : B ≤ B') : RF B' nT t ta oa J X := by
  obtain ⟨rS, rW, rT, rE, rN, rO, rH, rC, rQ, rP, rD, rK, rF, rR, rM, rA, rL, rB, ⟨u1, u2, u3, u4, u5⟩, rZ⟩ := hR
  exact ⟨rS, rW, rT, rE, rN, rO, rH, rC, rQ, rP, rD, rK, rF, rR, rM, rA, rL, rB, ⟨u1, by omega, u3, by omega, by omega⟩, rZ⟩
section PA
variable {B nT n w t p : Nat} {ta : Nat → Nat} {oa : Nat → Nat → Nat} {J X : Mem} {K : Nat → Option ZK} {P : Nat → Nat → Option Nat}
theorem CX_f (h : CX K P n B nT ta oa t p J X) {dn : Nat} (h51 : X 51 t = dn) : (t < 8 ∧ dn < 10 ∧ (dn : Int) < X 50 t ∧ oi X t = 10 * t + dn) ∧ OR J X (oa t dn) (10 * t + dn) ∧ TH J X (ta t) t (10 * t + dn) ∧ (ztask K P (ta t) ∧ K (ta t) = some (.inl 5) ∧ 79 ≤ ta t ∧ P (ta t + 1) dn = some (oa t dn) ∧ K (oa t dn) = some (.inl 4) ∧ 79 ≤ oa t dn ∧ oa t dn ≠ ta t) ∧ krn K P ∧ K 1 = some (.inl 0) ∧ prc K P (4 + 10 * p) ∧ msh K P ∧ RG J ∧ RG X := by
  obtain ⟨hs, hR, ht, h58, hp, h57, hB⟩ := h
  obtain ⟨⟨f1, f2, f3⟩, f4, f5, f6, f7⟩ := RR_t hR ht h58
  have rZ := hR.2.2.2.2.2.2.2.2.2.2.2.2.2.2.2.2.2.2.2
  obtain ⟨s1, s2, s3, s4, s5, s6, s7, s8, s9⟩ := hs
  have hoi : oi X t = 10 * t + dn := by unfold oi; rw [h51]; omega
  rw [hoi] at f4 f5
  rw [h51, Int.toNat_natCast] at f4
  obtain ⟨o1, o2, o3, o4⟩ := s7 t ht dn (by omega)
  have o5 := s8 t ht dn (by omega) t ht
  obtain ⟨c1, c2, c3, c4⟩ := s5 t ht
  exact ⟨⟨by omega, by omega, by omega, hoi⟩, f4, f5, ⟨c2, c2.1, c3, o1, o2, o3, by omega⟩, s1, s1.1, s1.2.2.2.2.2.2.2.2.2.2.2.2.2.2 p hp, s2, rZ.1, rZ.2⟩
/-- no mail is t's where its phase is not 11 or 12 -/
theorem CX_nm (h : CX K P n B nT ta oa t p J X) (h60 : ¬ (X 60 t = 11 ∨ X 60 t = 12)) : (∀ q : Nat, q < 4 → X 77 q = 1 → X 78 q = t → False) ∧ X 63 t = 0 := by
  obtain ⟨hs, hR, ht, h58, hp, h57, hB⟩ := h
  obtain ⟨hF, hT⟩ := RF_of hR ht
  have hL := hT.2.2.2.2
  have rA := hR.2.2.2.2.2.2.2.2.2.2.2.2.2.2.2.1 t ht
  have h1 : ∀ q : Nat, q < 4 → X 77 q = 1 → X 78 q = t → False := fun q hq a b => h60 (hL q hq a b).2.1
  refine ⟨h1, ?_⟩
  have : cnF (oal X t) 4 = cnF (fun _ => False) 4 := cnF_congr (fun i hi => ⟨fun h => h1 i hi h.1 h.2, fun h => h.elim⟩)
  have h0 : ∀ k, cnF (fun _ => False) k = 0 := fun k => by
    induction k with
    | zero => rfl
    | succ k ih => have := cnF_f (al := fun _ => False) (k := k) (fun h => h); omega
  rw [rA.2, this, h0 4]; rfl
set_option maxHeartbeats 1000000 in
theorem ph_5 {dn : Nat} (h : CX K P n B nT ta oa t p J X) (h51 : X 51 t = dn) (h60 : X 60 t = 5) : PH0 K P n w B nT ta oa t p dn J X ∨ PH1 K P n w B nT ta oa t p dn J X := by
  obtain ⟨⟨c1, c2, c3, c4⟩, hOR, hTH, ⟨zt, kt, t79, po, ko, o79, oto⟩, hk, k1, py, hm, rJ, rX⟩ := CX_f h h51
  obtain ⟨hs, hR, ht, h58, hp, h57, hB⟩ := h
  obtain ⟨g1, g2⟩ := TH_kd hTH hOR.2.1 hOR.2.2.1
  have hk1 : X 52 (10 * t + dn) ≤ 1 := by omega
  obtain ⟨r1, r2, r3, r4, r5, r6, r7⟩ := hOR.2.2.2.2.1 (by omega)
  obtain ⟨f, hf⟩ : ∃ f : Nat, X 53 (10 * t + dn) = f := ⟨(X 53 (10 * t + dn)).toNat, by omega⟩
  have hE := hR.2.2.2.1 (f / 4) (by omega)
  have hjp : J (ta t) 5 = 5 := by omega
  have hact : actM (X 60 t) = 90 := by unfold actM; rw [if_pos (by omega)]
  by_cases c : X 70 (f / 4) = 0
  · right
    refine ⟨zU J (ta t) 9 (-2), X, -2, ?_, zU_s _ _ _ _, fun _ _ => rfl, rfl, CF_U (CF_r J) (by omega), fun d Q hQ => ?_, fun Y hY rY => ⟨zU Y 56 (10 * t + dn) (-2), AG_U hY rfl, FR_U (FR_r Y) (by omega) (by omega), fun d Q hQ => ?_⟩⟩
    · refine RF_mono (RF_loc hs (RF_of hR ht).1 ht (fun c h => zU_ab _ _ _ h) (fun k _ _ _ h => zU_k _ _ _ h) (fun _ _ => rfl) (fun _ _ _ => rfl) ⟨RG_U rJ (by omega) (by omega), rX⟩ ⟨rfl, fun _ _ => rfl⟩) (by omega)
    · refine s_mp5 (d := d + 2) k1 kt hjp (Or.inr rfl) (fun Q' hQ' => s_top (f := f) hk kt ko rJ (by omega) (by omega) (fun _ => hQ') (fun q => absurd (by rw [hE.1]; exact c) q)) hQ
    · rw [hact]
      exact m_access5 (d := d + 1) (f := f) hm rY hp c1 (by omega) (by rw [hY 53 (by decide) (by decide)]; exact hf) (by omega) (by rw [hY 60 (by decide) (by decide)]; exact h60) (by rw [hY 70 (by decide) (by decide)]; exact c) hQ
  · left
    refine ⟨zU J (ta t) 5 6, zU X 60 t 6, ?_, zU_ab _ _ _ (by decide), CF_U (CF_r J) (by omega), KP_U (KP_r X) (by omega), fun d Q hQ => ?_, fun Y hY rY => ⟨zU Y 60 t 6, AG_U hY rfl, FR_U (FR_r Y) (by omega) (by omega), fun d Q hQ => ?_⟩⟩
    · refine RR_mono (L_acc hs hR ht h58 (by rw [c4]; exact hk1) (by omega) (by omega) (fun _ => ?_)) (by omega)
      rw [c4]; exact TH_d5 hTH (Or.inl h60)
    · refine s_mp5 (d := d + 2) k1 kt hjp (Or.inl rfl) (fun Q' hQ' => s_top (f := f) hk kt ko rJ (by omega) (by omega) (fun q => absurd (by rw [← hE.1]; exact q) c) (fun _ => hQ')) hQ
    · rw [hact]
      exact m_access6 (d := d + 1) (f := f) hm rY hp c1 (by omega) (by rw [hY 53 (by decide) (by decide)]; exact hf) (by omega) (by rw [hY 60 (by decide) (by decide)]; exact h60) (by rw [hY 70 (by decide) (by decide)]; exact c) hQ
set_option maxHeartbeats 1000000 in
theorem ph_7 {dn : Nat} (h : CX K P n B nT ta oa t p J X) (h51 : X 51 t = dn) (h60 : X 60 t = 7) : PH0 K P n w B nT ta oa t p dn J X := by
  obtain ⟨⟨c1, c2, c3, c4⟩, hOR, hTH, ⟨zt, kt, t79, po, ko, o79, oto⟩, hk, k1, py, hm, rJ, rX⟩ := CX_f h h51
  obtain ⟨hs, hR, ht, h58, hp, h57, hB⟩ := h
  have hjp : J (ta t) 5 = 7 := by have := hTH.1; omega
  have hact : actM (X 60 t) = 94 := by unfold actM; rw [if_neg (by omega), if_pos (by omega)]
  refine ⟨_, _, L_7 hB hs hR ht h58 h60, ?_, CF_U (CF_U (CF_U (CF_r J) (by omega)) (by omega)) (by omega), KP_U (KP_U (KP_U (KP_r X) (by omega)) (by omega)) (by omega), fun d Q hQ => ?_, fun Y hY rY => ⟨zU (zU (zU Y 61 t (Y 49 20)) 49 20 (Y 49 20 + 1)) 60 t 8, AG_U (AG_U (AG_U hY (by rw [hY 49 (by decide) (by decide)])) (by rw [hY 49 (by decide) (by decide)])) rfl, FR_U (FR_U (FR_U (FR_r Y) (by omega) (by omega)) (by omega) (by omega)) (by omega) (by omega), fun d Q hQ => ?_⟩⟩
  · rw [zU_ab _ _ _ (by decide), zU_ab _ _ _ (by decide), zU_ab _ _ _ (by decide)]
  · exact s_mp7 (d := d + 2) k1 kt hjp (fun Q' hQ' => s_draw hk kt t79 hQ') hQ
  · rw [hact]
    exact m_change7 (d := d + 1) hm c1 (by rw [hY 60 (by decide) (by decide)]; exact h60) hQ
set_option maxHeartbeats 1000000 in
theorem ph_8 {dn : Nat} (h : CX K P n B nT ta oa t p J X) (h51 : X 51 t = dn) (h60 : X 60 t = 8) : PH0 K P n w B nT ta oa t p dn J X := by
  obtain ⟨⟨c1, c2, c3, c4⟩, hOR, hTH, ⟨zt, kt, t79, po, ko, o79, oto⟩, hk, k1, py, hm, rJ, rX⟩ := CX_f h h51
  obtain ⟨hs, hR, ht, h58, hp, h57, hB⟩ := h
  have hjp : J (ta t) 5 = 8 := by have := hTH.1; omega
  have b1 := (TH_d8 hTH (by omega) (by omega)).1
  have rS := hR.1
  have hs8 : J 1 8 = X 49 21 := rS.2.2.2.1
  have ho0 := hOR.1
  have hact : actM (X 60 t) = 94 := by unfold actM; rw [if_neg (by omega), if_pos (by omega)]
  by_cases c : X 49 21 = X 61 t
  · refine ⟨zU J (ta t) 5 (if X 52 (10 * t + dn) = 2 then 9 else 10), zU X 60 t (if X 52 (10 * t + dn) = 2 then 9 else 10), RR_mono (L_8 hs hR ht h58 h60 c (by rw [c4])) (by omega), zU_ab _ _ _ (by decide), CF_U (CF_r J) (by omega), KP_U (KP_r X) (by omega), fun d Q hQ => ?_, fun Y hY rY => ⟨zU Y 60 t (if X 52 (10 * t + dn) = 2 then 9 else 10), AG_U hY rfl, FR_U (FR_r Y) (by omega) (by omega), fun d Q hQ => ?_⟩⟩
    · exact s_mp8 (d := d + 2) k1 kt hjp (fun Q' hQ' => s_wait hk kt ko rJ (fun _ => by rw [ho0]; exact hQ') (fun q => absurd (by rw [hs8, b1]; exact c) q)) hQ
    · rw [hact]
      exact m_change8a (d := d + 1) hm rY c1 (by omega) (by rw [hY 60 (by decide) (by decide)]; exact h60) (by rw [hY 49 (by decide) (by decide), hY 61 (by decide) (by decide)]; exact c) (by rw [hY 52 (by decide) (by decide)]; exact hQ)
  · refine ⟨J, X, RR_mono hR (by omega), rfl, CF_r J, KP_r X, fun d Q hQ => ?_, fun Y hY rY => ⟨Y, hY, FR_r Y, fun d Q hQ => ?_⟩⟩
    · exact s_mp8 (d := d + 2) k1 kt hjp (fun Q' hQ' => s_wait hk kt ko rJ (fun q => absurd (by rw [← hs8, ← b1]; exact q) c) (fun _ => hQ')) hQ
    · rw [hact]
      exact m_change8b (d := d + 1) hm rY c1 (by rw [hY 60 (by decide) (by decide)]; exact h60) (by rw [hY 49 (by decide) (by decide), hY 61 (by decide) (by decide)]; exact c) hQ
set_option maxHeartbeats 1000000 in
theorem ph_12 {dn : Nat} (h : CX K P n B nT ta oa t p J X) (h51 : X 51 t = dn) (h60 : X 60 t = 12) : PH0 K P n w B nT ta oa t p dn J X := by
  obtain ⟨⟨c1, c2, c3, c4⟩, hOR, hTH, ⟨zt, kt, t79, po, ko, o79, oto⟩, hk, k1, py, hm, rJ, rX⟩ := CX_f h h51
  obtain ⟨hs, hR, ht, h58, hp, h57, hB⟩ := h
  have hjp : J (ta t) 5 = 12 := by have := hTH.1; omega
  have h8 := (hR.2.2.2.2.2.2.2.2.2.2.2.2.2.2.2.1 t ht).1
  have ho0 := hOR.1
  have hact : actM (X 60 t) = 97 := by unfold actM; rw [if_neg (by omega), if_neg (by omega)]
  by_cases c : X 63 t = 0
  · refine ⟨_, _, RR_mono (L_12b (x := if X 52 (10 * t + dn) = 3 then 13 else 14) hs hR ht h58 h60 c (by rw [c4])) (by omega), ?_, CF_U (CF_r J) (by omega), KP_U (KP_U (KP_r X) (by omega)) (by omega), fun d Q hQ => ?_, fun Y hY rY => ⟨zU (zU Y 62 t 0) 60 t (if X 52 (10 * t + dn) = 3 then 13 else 14), AG_U (AG_U hY rfl) rfl, FR_U (FR_U (FR_r Y) (by omega) (by omega)) (by omega) (by omega), fun d Q hQ => ?_⟩⟩
    · rw [zU_ab _ _ _ (by decide), zU_ab _ _ _ (by decide)]
    · exact s_mp12 (d := d + 2) k1 kt hjp (fun Q' hQ' => s_await kt ko rJ (fun _ => by rw [ho0]; exact hQ') (fun q => absurd (by rw [h8]; exact c) q)) hQ
    · rw [hact]
      exact m_shoot12 (d := d + 1) hm rY c1 (by omega) (by rw [hY 60 (by decide) (by decide)]; exact h60) (fun q => absurd (by rw [hY 63 (by decide) (by decide)]; exact c) q) (fun _ => by rw [hY 52 (by decide) (by decide)]; exact hQ)
  · refine ⟨J, zU X 62 t 0, RR_mono (L_12a hs hR ht h58 h60) (by omega), zU_ab _ _ _ (by decide), CF_r J, KP_U (KP_r X) (by omega), fun d Q hQ => ?_, fun Y hY rY => ⟨zU Y 62 t 0, AG_U hY rfl, FR_U (FR_r Y) (by omega) (by omega), fun d Q hQ => ?_⟩⟩
    · exact s_mp12 (d := d + 2) k1 kt hjp (fun Q' hQ' => s_await kt ko rJ (fun q => absurd (by rw [← h8]; exact q) c) (fun _ => hQ')) hQ
    · rw [hact]
      exact m_shoot12 (d := d + 1) hm rY c1 (by omega) (by rw [hY 60 (by decide) (by decide)]; exact h60) (fun _ => hQ) (fun q => absurd (by rw [← hY 63 (by decide) (by decide)]; exact q) c)
set_option maxHeartbeats 1000000 in
theorem ph_14 {dn : Nat} (h : CX K P n B nT ta oa t p J X) (h51 : X 51 t = dn) (h60 : X 60 t = 14) : PH1 K P n w B nT ta oa t p dn J X := by
  obtain ⟨⟨c1, c2, c3, c4⟩, hOR, hTH, ⟨zt, kt, t79, po, ko, o79, oto⟩, hk, k1, py, hm, rJ, rX⟩ := CX_f h h51
  obtain ⟨hs, hR, ht, h58, hp, h57, hB⟩ := h
  have hjp : J (ta t) 5 = 14 := by have := hTH.1; omega
  obtain ⟨d1, d2, d3⟩ := TH_d14 hTH h60
  obtain ⟨hF, hT⟩ := RF_of hR ht
  have hact : actM (X 60 t) = 97 := by unfold actM; rw [if_neg (by omega), if_neg (by omega)]
  refine ⟨_, _, (if X 65 t = 0 then X 64 t else -3), RF_mono (S_serve hs hF hT ht hB h58 (by omega) (by omega)) (by omega), ?_, fun b h => zU_ab _ _ _ (by omega), zU_k _ _ _ (by decide), CF_U (CF_r J) (by omega), fun d Q hQ => ?_, fun Y hY rY => ⟨zU (zU Y 49 21 (Y 49 21 + 1)) 56 (10 * t + dn) (if X 65 t = 0 then X 64 t else -3), AG_U (AG_U hY (by rw [hY 49 (by decide) (by decide)])) rfl, FR_U (FR_U (FR_r Y) (by omega) (by omega)) (by omega) (by omega), fun d Q hQ => ?_⟩⟩
  · rw [zU_ne (by omega)]; exact d1
  · exact s_mp14 (d := d + 2) k1 kt hjp hQ
  · rw [hact]
    exact m_shoot14 (d := d + 1) hm rY c1 (by omega) (by rw [hY 60 (by decide) (by decide)]; exact h60) (by rw [hY 65 (by decide) (by decide), hY 64 (by decide) (by decide)]; exact hQ)
set_option maxHeartbeats 1000000 in
theorem ph_15 {dn : Nat} (h : CX K P n B nT ta oa t p J X) (h51 : X 51 t = dn) (h60 : X 60 t = 15) : PH1 K P n w B nT ta oa t p dn J X := by
  obtain ⟨⟨c1, c2, c3, c4⟩, hOR, hTH, ⟨zt, kt, t79, po, ko, o79, oto⟩, hk, k1, py, hm, rJ, rX⟩ := CX_f h h51
  obtain ⟨hs, hR, ht, h58, hp, h57, hB⟩ := h
  have hjp : J (ta t) 5 = 15 := by have := hTH.1; omega
  have hact : actM (X 60 t) = 97 := by unfold actM; rw [if_neg (by omega), if_neg (by omega)]
  refine ⟨J, X, 0, RF_mono (RF_of hR ht).1 (by omega), TH_d15 hTH h60, fun _ _ => rfl, rfl, CF_r J, fun d Q hQ => ?_, fun Y hY rY => ⟨zU Y 56 (10 * t + dn) 0, AG_U hY rfl, FR_U (FR_r Y) (by omega) (by omega), fun d Q hQ => ?_⟩⟩
  · exact s_mp15 (d := d + 2) k1 kt hjp hQ
  · rw [hact]
    exact m_shoot15 (d := d + 1) hm c1 (by omega) (by rw [hY 60 (by decide) (by decide)]; exact h60) hQ
end PA
