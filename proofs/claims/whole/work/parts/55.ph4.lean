/-! CHANGE. -/
theorem mxF_ag {Y X : Mem} {p : Int} (h : AG Y X) : ∀ k, mxF Y p k = mxF X p k := by
  intro k
  induction k with
  | zero => rfl
  | succ k ih => unfold mxF; rw [ih, h 75 (by decide) (by decide), h 76 (by decide) (by decide)]
theorem mnF_ag {Y X : Mem} {p : Int} (h : AG Y X) : ∀ k, mnF Y p k = mnF X p k := by
  intro k
  induction k with
  | zero => rfl
  | succ k ih => unfold mnF; rw [ih, h 75 (by decide) (by decide), h 76 (by decide) (by decide)]
theorem ffF_ag {Y X : Mem} {p : Int} (h : AG Y X) : ffF Y p = ffF X p := by unfold ffF; rw [mxF_ag h, mnF_ag h]
theorem AG_mp {Y X : Mem} {x pg : Nat} {v : Int} (h : AG Y X) : AG (mpJ Y x pg v) (mpJ X x pg v) := by
  unfold mpJ
  exact AG_U (AG_U (AG_U (AG_U (AG_U h rfl) rfl) rfl) rfl) rfl
theorem FR_mp {Y : Mem} {x pg : Nat} {v : Int} : FRm (mpJ Y x pg v) Y := by
  unfold mpJ
  exact FR_U (FR_U (FR_U (FR_U (FR_U (FR_r Y) (by omega) (by omega)) (by omega) (by omega)) (by omega) (by omega)) (by omega) (by omega)) (by omega) (by omega)
section PD
variable {B nT n w t p : Nat} {ta : Nat → Nat} {oa : Nat → Nat → Nat} {J X : Mem} {K : Nat → Option ZK} {P : Nat → Nat → Option Nat}
set_option maxHeartbeats 1000000 in
theorem ch_RR {dn m pr hc : Nat} {ph : Int} {J1 X1 J2 X2 : Mem} (h : CX K P n B nT ta oa t p J X) (h51 : X 51 t = dn) (h60 : X 60 t = 10) (h54 : X 54 (10 * t + dn) = m) (h62 : X 62 t = pr) (hhc : hc ≤ pr + 1) (hF1 : RF B nT t ta oa J1 X1) (hJt : J1 (ta t) = J (ta t)) (hX1 : ∀ b, (49 ≤ b ∧ b ≤ 65) ∨ b = 77 ∨ b = 78 → X1 b = X b) (h67 : X1 67 t = if X 52 (10 * t + dn) = 3 then (hc : Int) else 0) (hrm : X 52 (10 * t + dn) = 2 → (m : Int) - (pr + 1) ≤ J1 (4 + 10 * p + 4) 1 + J1 44 1)
    (hJ2 : ∀ c, c ≠ ta t → J2 c = J1 c) (hJ2t : ∀ k, k ≠ 5 → k ≠ 6 → k ≠ 9 → J2 (ta t) k = J (ta t) k) (j5 : J2 (ta t) 5 = ph) (j6 : ph = 14 ∨ J2 (ta t) 6 = X2 62 t) (j9 : J2 (ta t) 9 = hc) (hX2 : ∀ b, ¬ (b = 60 ∨ b = 62 ∨ b = 64) → X2 b = X1 b) (hX2u : ∀ b u, u ≠ t → X2 b u = X1 b u) (x60 : X2 60 t = ph) (x64 : X2 64 t = hc) (hZ : gZ J2 X2)
    (hph : (ph = 10 ∧ X2 62 t = pr + 1 ∧ pr + 1 < m) ∨ (ph = 11 ∧ X2 62 t = 0 ∧ ¬ X 52 (10 * t + dn) = 2 ∧ 0 < hc) ∨ (ph = 14 ∧ (X 52 (10 * t + dn) = 2 ∨ hc = 0))) : RR B nT ta oa J2 X2 := by
  obtain ⟨⟨c1, c2, c3, c4⟩, hOR, hTH, ⟨zt, kt, t79, po, ko, o79, oto⟩, hk, k1, py, hm, rJ, rX⟩ := CX_f h h51
  have hnm := (CX_nm h (by omega)).1
  obtain ⟨hs, hR, ht, h58, hp, h57, hB⟩ := h
  obtain ⟨hF, hT⟩ := RF_of hR ht
  obtain ⟨g1, g2⟩ := TH_kd hTH hOR.2.1 hOR.2.2.1
  obtain ⟨r1, r2, r3, r4, r5, r6, r7⟩ := hOR.2.2.2.2.1 (by omega)
  obtain ⟨d1, d2, d3, d4, d5, d6, d7, d8⟩ := TH_d10 hTH h60
  obtain ⟨b1, b2, b3⟩ := TH_d8 hTH (by omega) (by omega)
  have b4 := TH_d9 hTH (by omega) (by omega)
  have hTD := hT.2.2.1 (by omega) (by omega) (by omega)
  have hs1 : SH K P n nT ta oa X1 := SH_c hs (hX1 50 (by omega))
  have hX : ∀ b, (49 ≤ b ∧ b ≤ 65) ∨ b = 77 ∨ b = 78 → ¬ (b = 60 ∨ b = 62 ∨ b = 64) → X2 b = X b := fun b h h' => by rw [hX2 b h', hX1 b h]
  have hoi : oi X2 t = 10 * t + dn := by rw [oi_c (by rw [hX 51 (by omega) (by omega)]), c4]
  have hoi1 : oi X1 t = 10 * t + dn := by rw [oi_c (by rw [hX1 51 (by omega)]), c4]
  have hkb1 : kb X1 t = 0 := by unfold kb; rw [hX1 60 (by omega), if_neg (by omega)]
  have hkb2 : kb X2 t = 0 := by unfold kb; rw [x60, if_neg (by omega)]
  have h672 : X2 67 t = X1 67 t := by rw [hX2 67 (by omega)]
  have hkc : kc X2 t = kc X1 t ∧ ∀ j : Nat, (j : Int) < kc X1 t → kf X2 t j = kf X1 t j := by
    refine ⟨?_, fun j _ => by unfold kf; rw [hkb1, hkb2, hX2 66 (by omega)]⟩
    by_cases c : X 52 (10 * t + dn) = 3
    · rw [if_pos c] at h67
      rw [kc_1 (X := X1) (by rw [hX1 58 (by omega)]; omega) (by rw [hoi1, hX1 52 (by omega)]; exact c) (by rw [hX1 60 (by omega)]; omega) (by rw [hX1 60 (by omega)]; omega), hkb1, h67]
      rcases hph with q | q | q
      · rw [kc_1 (by rw [hX 58 (by omega) (by omega)]; omega) (by rw [hoi, hX 52 (by omega) (by omega)]; exact c) (by omega) (by omega), hkb2, h672, h67]
      · rw [kc_1 (by rw [hX 58 (by omega) (by omega)]; omega) (by rw [hoi, hX 52 (by omega) (by omega)]; exact c) (by omega) (by omega), hkb2, h672, h67]
      · rw [kc_0 (Or.inr (Or.inr (by omega)))]; omega
    · rw [kc_0 (Or.inl (by rw [hoi, hX 52 (by omega) (by omega)]; exact c)), kc_0 (Or.inl (by rw [hoi1, hX1 52 (by omega)]; exact c))]
  have hph2 : ph = 10 ∨ ph = 11 ∨ ph = 14 := by omega
  refine RR_of (RF_loc hs1 hF1 ht hJ2 (fun k h1 h2 h3 h4 => by rw [hJ2t k h1 h2 h4, hJt]) (fun b h => hX2 b (by omega)) hX2u hZ hkc) ht ⟨⟨⟨fun a => ?_, fun a => ?_⟩, fun a => ?_⟩, fun _ => ?_, fun _ _ _ => ?_, fun _ a b => ?_, fun i hi a b => ?_⟩
  · rw [hX 58 (by omega) (by omega)] at a; omega
  · rw [hX 51 (by omega) (by omega), hX 50 (by omega) (by omega)] at a; omega
  · rw [hX 58 (by omega) (by omega)] at a; omega
  · rw [hoi]
    have q7 : J2 (ta t) 7 = X2 61 t := by rw [hJ2t 7 (by decide) (by decide) (by decide), hX 61 (by omega) (by omega)]; exact b1
    have q1 : X2 61 t = X2 49 21 := by rw [hX 61 (by omega) (by omega), hX 49 (by omega) (by omega)]; exact b4
    have q3 : X2 61 t < X2 49 20 := by rw [hX 61 (by omega) (by omega), hX 49 (by omega) (by omega)]; exact b3
    have e52 : X2 52 = X 52 := hX 52 (by omega) (by omega)
    have e58 : X2 58 = X 58 := hX 58 (by omega) (by omega)
    have e54 : X2 54 = X 54 := hX 54 (by omega) (by omega)
    have e65 : X2 65 = X 65 := hX 65 (by omega) (by omega)
    rcases hph with q | q | q
    · exact TH_mk10 (by rw [j5, x60]) (by omega) (by rw [e58]; omega) (by rw [e52]; omega) (by rw [e52]; omega) q7 q1 q3 (j6.resolve_left (by omega)) (by omega) (by rw [e54]; omega) (by rw [j9, x64]) (by omega) (by omega) (by rw [e65]; exact d7) (by rw [h672, h67, e52, x64])
    · exact TH_mk11 (by rw [j5, x60]) (by omega) (by rw [e58]; omega) (by rw [e52]; omega) (by rw [e52]; omega) q7 q1 q3 (fun _ => ⟨j6.resolve_left (by omega), by omega, by omega⟩) (by rw [j9, x64]) (by omega) (by omega) (by rw [e65]; exact d7) (fun a => by rw [e52] at a; rw [h672, h67, x64, if_pos a])
    · exact TH_mk14 (by rw [j5, x60]) (by omega) (by rw [e58]; omega) (by rw [e52]; omega) (by rw [e52]; omega) q7 q1 q3 (by rw [e65, if_pos d7, j9, x64]) (by omega) (by omega)
  · intro u hu hut a b c
    rw [hX 58 (by omega) (by omega)] at a
    rw [hX2u 60 u hut, hX1 60 (by omega)] at b c
    rw [hX 61 (by omega) (by omega)]
    exact hTD u hu hut a b c
  · rw [hoi, hX 52 (by omega) (by omega)] at b
    have := hrm b
    rw [hoi, hX 54 (by omega) (by omega), hX 57 (by omega) (by omega), h57, Int.toNat_natCast, hJ2 (4 + 10 * p + 4) (by omega), hJ2 44 (by omega)]
    omega
  · rw [hX 77 (by omega) (by omega)] at a
    rw [hX 78 (by omega) (by omega)] at b
    exact (hnm i hi a b).elim
set_option maxHeartbeats 2000000 in
theorem ph10_end {dn f m pr hi c : Nat} {J1 X1 : Mem} (h : CX K P n B nT ta oa t p J X) (h51 : X 51 t = dn) (h60 : X 60 t = 10) (h53 : X 53 (10 * t + dn) = f) (h54 : X 54 (10 * t + dn) = m) (h62 : X 62 t = pr) (h64 : X 64 t = hi) (hc : c ≤ 1) (hF1 : RF B nT t ta oa J1 X1) (hJt : J1 (ta t) = J (ta t)) (hJo : J1 (oa t dn) = J (oa t dn)) (hCF : CFR J1 J) (hX1 : ∀ b, (49 ≤ b ∧ b ≤ 65) ∨ b = 77 ∨ b = 78 → X1 b = X b) (h67 : X1 67 t = if X 52 (10 * t + dn) = 3 then ((hi + c : Nat) : Int) else 0) (hrm : X 52 (10 * t + dn) = 2 → (m : Int) - (pr + 1) ≤ J1 (4 + 10 * p + 4) 1 + J1 44 1)
    (hC : ∀ (d : Nat) (Q : Option ZV → ZH → Prop), zT (d + 2) 38 63 [(0, .inr (some 1)), (1, .inr (some (ta t))), (2, .inr (some (oa t dn))), (3, .inr (some (4 + 10 * p))), (4, .inl (zi ((f : Int) + (pr : Int)))), (5, .inl (zi (c : Int)))] [] (K, zm J1, P, n, w) Q → zT (d + 2) 38 0 [(0, .inr (some 1)), (1, .inr (some (ta t))), (2, .inr (some (oa t dn))), (3, .inr (some (4 + 10 * p)))] [] (K, zm J, P, n, w) Q)
    (hM : ∀ Y, AG Y X → RG Y → ∃ Y1, AG Y1 X1 ∧ FRm Y1 Y ∧ ∀ (d : Nat) (Q' : Option ZV → ZH → Prop), Q' (some (.inl (zi (c : Int)))) (K, zm Y1, P, n, w) → zT (d + 1) 96 0 [(0, .inr (some 49)), (1, .inl (zi p)), (2, .inl (zi t)), (3, .inl (zi ((10 * t + dn : Nat) : Int))), (4, .inl (zi ((f : Int) + (pr : Int))))] [] (K, zm Y, P, n, w) Q') : PH0 K P n w B nT ta oa t p dn J X := by
  have h0 := h
  obtain ⟨⟨c1, c2, c3, c4⟩, hOR, hTH, ⟨zt, kt, t79, po, ko, o79, oto⟩, hk, k1, py, hm, rJ, rX⟩ := CX_f h h51
  obtain ⟨hs, hR, ht, h58, hp, h57, hB⟩ := h
  obtain ⟨g1, g2⟩ := TH_kd hTH hOR.2.1 hOR.2.2.1
  obtain ⟨r1, r2, r3, r4, r5, r6, r7⟩ := hOR.2.2.2.2.1 (by omega)
  obtain ⟨d1, d2, d3, d4, d5, d6, d7, d8⟩ := TH_d10 hTH h60
  have ho0 := hOR.1
  have hjp : J (ta t) 5 = 10 := by have := hTH.1; omega
  have hact : actM (X 60 t) = 94 := by unfold actM; rw [if_neg (by omega), if_pos (by omega)]
  have rZ := hF1.2.2.2.2.2.2.2.2.2.2.2.2.2.2.2.2.2.2.2
  have j16 : J1 (ta t) 6 = pr := by rw [hJt]; omega
  have j19 : J1 (ta t) 9 = hi := by rw [hJt]; omega
  have hJ3 : (∀ a, a ≠ ta t → chC J1 (ta t) c a = J1 a) ∧ (∀ k, k ≠ 6 → k ≠ 9 → chC J1 (ta t) c (ta t) k = J (ta t) k) ∧ chC J1 (ta t) c (ta t) 6 = pr + 1 ∧ chC J1 (ta t) c (ta t) 9 = ((hi + c : Nat) : Int) ∧ RG (chC J1 (ta t) c) ∧ CFR (chC J1 (ta t) c) J := by
    unfold chC
    rw [j16, j19]
    by_cases e : (c : Int) = 1
    · rw [if_pos e]
      refine ⟨fun a h => by rw [zU_ab _ _ _ h, zU_ab _ _ _ h], fun k h1 h2 => by rw [zU_k _ _ _ h1, zU_k _ _ _ h2, hJt], zU_s _ _ _ _, by rw [zU_k _ _ _ (by decide), zU_s]; omega, RG_U (RG_U rZ.1 (by omega) (by omega)) (by omega) (by omega), CF_U (CF_U hCF (by omega)) (by omega)⟩
    · rw [if_neg e]
      refine ⟨fun a h => by rw [zU_ab _ _ _ h], fun k h1 h2 => by rw [zU_k _ _ _ h1, hJt], zU_s _ _ _ _, by rw [zU_k _ _ _ (by decide), j19]; omega, RG_U rZ.1 (by omega) (by omega), CF_U hCF (by omega)⟩
  obtain ⟨y1, y2, y3, y4, y5, y6⟩ := hJ3
  have hcc : (c : Int) = 0 ∨ (c : Int) = 1 := by omega
  have hKP : KP nT X1 X := KP_x (fun b hb => hX1 b (by omega))
  have hgo : ∀ (J2 X2 : Mem) (G : Mem → Mem), RR B nT ta oa J2 X2 → X2 50 = X 50 → CFR J2 J → KP nT X2 X → (∀ Y1, AG Y1 X1 → AG (G Y1) X2) → (∀ Y1, FRm (G Y1) Y1)
      → (∀ (d : Nat) (Q : Option ZV → ZH → Prop), Q none (K, zm J2, P, n, w) → zT (d + 2) 38 63 [(0, .inr (some 1)), (1, .inr (some (ta t))), (2, .inr (some (oa t dn))), (3, .inr (some (4 + 10 * p))), (4, .inl (zi ((f : Int) + (pr : Int)))), (5, .inl (zi (c : Int)))] [] (K, zm J1, P, n, w) Q)
      → (∀ (d : Nat) (Q : Option ZV → ZH → Prop) (Y Y1 : Mem), AG Y X → RG Y → AG Y1 X1 → (∀ Q' : Option ZV → ZH → Prop, Q' (some (.inl (zi (c : Int)))) (K, zm Y1, P, n, w) → zT (d + 1) 96 0 [(0, .inr (some 49)), (1, .inl (zi p)), (2, .inl (zi t)), (3, .inl (zi ((10 * t + dn : Nat) : Int))), (4, .inl (zi ((f : Int) + (pr : Int))))] [] (K, zm Y, P, n, w) Q') → Q (some (.inl (zi 0))) (K, zm (G Y1), P, n, w) → zT (d + 2) 94 0 [(0, .inr (some 49)), (1, .inl (zi p)), (2, .inl (zi t)), (3, .inl (zi ((10 * t + dn : Nat) : Int)))] [] (K, zm Y, P, n, w) Q)
      → PH0 K P n w B nT ta oa t p dn J X := fun J2 X2 G a1 a2 a3 aK a4 a5 a6 a7 => by
    refine ⟨J2, X2, RR_mono a1 (by omega), a2, a3, aK, fun d Q hQ => ?_, fun Y hY rY => ?_⟩
    · exact s_mp10 (d := d + 2) k1 kt hjp (fun Q' hQ' => hC d Q' (a6 d Q' hQ')) hQ
    · obtain ⟨Y1, b1, b2, b3⟩ := hM Y hY rY
      refine ⟨G Y1, a4 Y1 b1, fun c hc => by rw [a5 Y1 c hc, b2 c hc], fun d Q hQ => ?_⟩
      rw [hact]
      exact a7 d Q Y Y1 hY rY b1 (b3 d) hQ
  have hm10 : ∀ (d : Nat) (Q : Option ZV → ZH → Prop) (Y Y1 : Mem), AG Y X → RG Y → AG Y1 X1 → (∀ Q' : Option ZV → ZH → Prop, Q' (some (.inl (zi (c : Int)))) (K, zm Y1, P, n, w) → zT (d + 1) 96 0 [(0, .inr (some 49)), (1, .inl (zi p)), (2, .inl (zi t)), (3, .inl (zi ((10 * t + dn : Nat) : Int))), (4, .inl (zi ((f : Int) + (pr : Int))))] [] (K, zm Y, P, n, w) Q')
      → (¬ (pr : Int) + 1 = m → Q (some (.inl (zi 0))) (K, zm (zU (zU Y1 64 t ((hi : Int) + c)) 62 t (pr + 1)), P, n, w))
      → ((pr : Int) + 1 = m → ¬ X 52 (10 * t + dn) = 2 → 0 < (hi : Int) + c → Q (some (.inl (zi 0))) (K, zm (zU (zU (zU (zU Y1 64 t ((hi : Int) + c)) 62 t (pr + 1)) 62 t 0) 60 t 11), P, n, w))
      → ((pr : Int) + 1 = m → (X 52 (10 * t + dn) = 2 ∨ (hi : Int) + c ≤ 0) → Q (some (.inl (zi 0))) (K, zm (zU (zU (zU (zU Y1 64 t ((hi : Int) + c)) 62 t (pr + 1)) 62 t 0) 60 t 14), P, n, w))
      → zT (d + 2) 94 0 [(0, .inr (some 49)), (1, .inl (zi p)), (2, .inl (zi t)), (3, .inl (zi ((10 * t + dn : Nat) : Int)))] [] (K, zm Y, P, n, w) Q := fun d Q Y Y1 hY rY hY1 a0 a1 a2 a3 => by
    have e52 : Y 52 = X 52 := hY 52 (by decide) (by decide)
    exact m_change10 (d := d) (J1 := Y1) (pr := pr) (hi := hi) (c := c) (f := f) (m := m) hm rY hp c1 (by omega) (by rw [hY 53 (by decide) (by decide)]; exact h53) (by rw [hY 54 (by decide) (by decide)]; exact h54) (by omega) (by rw [hY 60 (by decide) (by decide)]; exact h60) (by rw [hY 62 (by decide) (by decide)]; exact h62) (by omega) (by omega) (by rw [hY 64 (by decide) (by decide)]; exact h64) (by omega) (by omega) hcc a0 (by rw [hY1 62 (by decide) (by decide), hX1 62 (by omega)]; exact h62) (by rw [hY1 54 (by decide) (by decide), hX1 54 (by omega)]; exact h54) (by rw [hY1 52 (by decide) (by decide), hX1 52 (by omega), e52]) a1 (by rw [e52]; exact a2) (by rw [e52]; exact a3)
  have hce : ∀ (d : Nat) (Q : Option ZV → ZH → Prop), ((pr : Int) + 1 < m → Q none (K, zm (chC J1 (ta t) c), P, n, w)) → (¬ (pr : Int) + 1 < m → ¬ X 52 (10 * t + dn) = 2 → 0 < (hi : Int) + c → Q none (K, zm (zU (zU (chC J1 (ta t) c) (ta t) 5 11) (ta t) 6 0), P, n, w)) → (¬ (pr : Int) + 1 < m → (X 52 (10 * t + dn) = 2 ∨ (hi : Int) + c ≤ 0) → Q none (K, zm (zU (zU (chC J1 (ta t) c) (ta t) 5 14) (ta t) 6 0), P, n, w)) → zT (d + 2) 38 63 [(0, .inr (some 1)), (1, .inr (some (ta t))), (2, .inr (some (oa t dn))), (3, .inr (some (4 + 10 * p))), (4, .inl (zi ((f : Int) + (pr : Int)))), (5, .inl (zi (c : Int)))] [] (K, zm J1, P, n, w) Q := fun d Q a1 a2 a3 =>
    s_changeE (d := d + 1) (c := c) (tn := pr) (oc := hi) (g := m) kt ko rZ.1 oto hcc j16 (by omega) (by omega) j19 (by omega) (by omega) (by rw [hJo]; omega) (by omega) (by omega) a1 (by rw [hJo, ho0]; exact a2) (by rw [hJo, ho0]; exact a3)
  have e64 : ∀ Z : Mem, (zU (zU Z 64 t ((hi : Int) + c)) 62 t (pr + 1)) 64 t = ((hi + c : Nat) : Int) := fun Z => by rw [zU_ne (by decide), zU_s]; omega
  by_cases e1 : (pr : Int) + 1 < m
  · refine hgo (chC J1 (ta t) c) (zU (zU X1 64 t ((hi : Int) + c)) 62 t (pr + 1)) (fun Z => zU (zU Z 64 t ((hi : Int) + c)) 62 t (pr + 1)) ?_ ?_ y6 (KP_U (KP_U hKP (by omega)) (by omega)) (fun Y1 q => AG_U (AG_U q rfl) rfl) (fun Y1 => FR_U (FR_U (FR_r Y1) (by omega) (by omega)) (by omega) (by omega)) (fun d Q hQ => ?_) (fun d Q Y Y1 q1 q2 q3 q4 hQ => ?_)
    · refine ch_RR (m := m) (pr := pr) (hc := hi + c) (ph := 10) h0 h51 h60 h54 h62 (by omega) hF1 hJt hX1 h67 hrm y1 (fun k _ a b => y2 k a b) ?_ (Or.inr ?_) y4 (fun b h => by rw [zU_ab _ _ _ (by omega), zU_ab _ _ _ (by omega)]) (fun b u h => by rw [zU_u h, zU_u h]) ?_ (e64 X1) ⟨y5, RG_U (RG_U rZ.2 (by omega) (by omega)) (by omega) (by omega)⟩ (Or.inl ⟨rfl, zU_s _ _ _ _, by omega⟩)
      · rw [y2 5 (by decide) (by decide)]; exact hjp
      · rw [zU_s]; exact y3
      · rw [zU_ne (by decide), zU_ne (by decide), hX1 60 (by omega)]; exact h60
    · rw [zU_ab _ _ _ (by decide), zU_ab _ _ _ (by decide)]; exact hX1 50 (by omega)
    · exact hce d Q (fun _ => hQ) (fun q => absurd e1 q) (fun q => absurd e1 q)
    · exact hm10 d Q Y Y1 q1 q2 q3 q4 (fun _ => hQ) (fun q => by omega) (fun q => by omega)
  · by_cases e2 : X 52 (10 * t + dn) = 2 ∨ (hi : Int) + c ≤ 0
    · refine hgo (zU (zU (chC J1 (ta t) c) (ta t) 5 14) (ta t) 6 0) (zU (zU (zU (zU X1 64 t ((hi : Int) + c)) 62 t (pr + 1)) 62 t 0) 60 t 14) (fun Z => zU (zU (zU (zU Z 64 t ((hi : Int) + c)) 62 t (pr + 1)) 62 t 0) 60 t 14) ?_ ?_ (CF_U (CF_U y6 (by omega)) (by omega)) (KP_U (KP_U (KP_U (KP_U hKP (by omega)) (by omega)) (by omega)) (by omega)) (fun Y1 q => AG_U (AG_U (AG_U (AG_U q rfl) rfl) rfl) rfl) (fun Y1 => FR_U (FR_U (FR_U (FR_U (FR_r Y1) (by omega) (by omega)) (by omega) (by omega)) (by omega) (by omega)) (by omega) (by omega)) (fun d Q hQ => ?_) (fun d Q Y Y1 q1 q2 q3 q4 hQ => ?_)
      · refine ch_RR (m := m) (pr := pr) (hc := hi + c) (ph := 14) h0 h51 h60 h54 h62 (by omega) hF1 hJt hX1 h67 hrm (fun a h => by rw [zU_ab _ _ _ h, zU_ab _ _ _ h, y1 a h]) (fun k h5 h6 h9 => by rw [zU_k _ _ _ h6, zU_k _ _ _ h5, y2 k h6 h9]) (by rw [zU_k _ _ _ (by decide), zU_s]) (Or.inl rfl) (by rw [zU_k _ _ _ (by decide), zU_k _ _ _ (by decide)]; exact y4) (fun b h => by rw [zU_ab _ _ _ (by omega), zU_ab _ _ _ (by omega), zU_ab _ _ _ (by omega), zU_ab _ _ _ (by omega)]) (fun b u h => by rw [zU_u h, zU_u h, zU_u h, zU_u h]) (zU_s _ _ _ _) (by rw [zU_ne (by decide), zU_ne (by decide)]; exact e64 X1) ⟨RG_U (RG_U y5 (by omega) (by omega)) (by omega) (by omega), RG_U (RG_U (RG_U (RG_U rZ.2 (by omega) (by omega)) (by omega) (by omega)) (by omega) (by omega)) (by omega) (by omega)⟩ (Or.inr (Or.inr ⟨rfl, by omega⟩))
      · rw [zU_ab _ _ _ (by decide), zU_ab _ _ _ (by decide), zU_ab _ _ _ (by decide), zU_ab _ _ _ (by decide)]; exact hX1 50 (by omega)
      · exact hce d Q (fun q => absurd q e1) (fun _ a b => by omega) (fun _ _ => hQ)
      · exact hm10 d Q Y Y1 q1 q2 q3 q4 (fun q => by omega) (fun _ a b => by omega) (fun _ _ => hQ)
    · refine hgo (zU (zU (chC J1 (ta t) c) (ta t) 5 11) (ta t) 6 0) (zU (zU (zU (zU X1 64 t ((hi : Int) + c)) 62 t (pr + 1)) 62 t 0) 60 t 11) (fun Z => zU (zU (zU (zU Z 64 t ((hi : Int) + c)) 62 t (pr + 1)) 62 t 0) 60 t 11) ?_ ?_ (CF_U (CF_U y6 (by omega)) (by omega)) (KP_U (KP_U (KP_U (KP_U hKP (by omega)) (by omega)) (by omega)) (by omega)) (fun Y1 q => AG_U (AG_U (AG_U (AG_U q rfl) rfl) rfl) rfl) (fun Y1 => FR_U (FR_U (FR_U (FR_U (FR_r Y1) (by omega) (by omega)) (by omega) (by omega)) (by omega) (by omega)) (by omega) (by omega)) (fun d Q hQ => ?_) (fun d Q Y Y1 q1 q2 q3 q4 hQ => ?_)
      · refine ch_RR (m := m) (pr := pr) (hc := hi + c) (ph := 11) h0 h51 h60 h54 h62 (by omega) hF1 hJt hX1 h67 hrm (fun a h => by rw [zU_ab _ _ _ h, zU_ab _ _ _ h, y1 a h]) (fun k h5 h6 h9 => by rw [zU_k _ _ _ h6, zU_k _ _ _ h5, y2 k h6 h9]) (by rw [zU_k _ _ _ (by decide), zU_s]) (Or.inr (by rw [zU_s, zU_ne (by decide), zU_s])) (by rw [zU_k _ _ _ (by decide), zU_k _ _ _ (by decide)]; exact y4) (fun b h => by rw [zU_ab _ _ _ (by omega), zU_ab _ _ _ (by omega), zU_ab _ _ _ (by omega), zU_ab _ _ _ (by omega)]) (fun b u h => by rw [zU_u h, zU_u h, zU_u h, zU_u h]) (zU_s _ _ _ _) (by rw [zU_ne (by decide), zU_ne (by decide)]; exact e64 X1) ⟨RG_U (RG_U y5 (by omega) (by omega)) (by omega) (by omega), RG_U (RG_U (RG_U (RG_U rZ.2 (by omega) (by omega)) (by omega) (by omega)) (by omega) (by omega)) (by omega) (by omega)⟩ (Or.inr (Or.inl ⟨rfl, by rw [zU_ne (by decide), zU_s], fun q => e2 (Or.inl q), by omega⟩))
      · rw [zU_ab _ _ _ (by decide), zU_ab _ _ _ (by decide), zU_ab _ _ _ (by decide), zU_ab _ _ _ (by decide)]; exact hX1 50 (by omega)
      · exact hce d Q (fun q => absurd q e1) (fun _ _ _ => hQ) (fun _ q => absurd q e2)
      · exact hm10 d Q Y Y1 q1 q2 q3 q4 (fun q => by omega) (fun _ _ _ => hQ) (fun _ q => absurd q e2)
set_option maxHeartbeats 2000000 in
theorem ph_10 {dn : Nat} (h : CX K P n B nT ta oa t p J X) (h51 : X 51 t = dn) (h60 : X 60 t = 10) : PH0 K P n w B nT ta oa t p dn J X := by
  have h0 := h
  obtain ⟨⟨c1, c2, c3, c4⟩, hOR, hTH, ⟨zt, kt, t79, po, ko, o79, oto⟩, hk, k1, py, hm, rJ, rX⟩ := CX_f h h51
  obtain ⟨hs, hR, ht, h58, hp, h57, hB⟩ := h
  obtain ⟨hF, hT⟩ := RF_of hR ht
  obtain ⟨g1, g2⟩ := TH_kd hTH hOR.2.1 hOR.2.2.1
  have h552 := hOR.2.2.2.2.2
  obtain ⟨r1, r2, r3, r4, r5, r6, r7⟩ := hOR.2.2.2.2.1 (by omega)
  obtain ⟨d1, d2, d3, d4, d5, d6, d7, d8⟩ := TH_d10 hTH h60
  have ho0 := hOR.1
  obtain ⟨f, hf⟩ : ∃ f : Nat, X 53 (10 * t + dn) = f := ⟨(X 53 (10 * t + dn)).toNat, by omega⟩
  obtain ⟨m, hmm⟩ : ∃ m : Nat, X 54 (10 * t + dn) = m := ⟨(X 54 (10 * t + dn)).toNat, by omega⟩
  obtain ⟨pr, hpr⟩ : ∃ pr : Nat, X 62 t = pr := ⟨(X 62 t).toNat, by omega⟩
  obtain ⟨hi, hhi⟩ : ∃ hi : Nat, X 64 t = hi := ⟨(X 64 t).toNat, by omega⟩
  have hfp : (f : Int) + (pr : Int) = ((f + pr : Nat) : Int) := by omega
  obtain ⟨q1, q2, q3⟩ := hR.2.2.1 (f + pr) (by omega)
  have her : J 47 (f + pr) = -1 ∨ (0 ≤ J 47 (f + pr) ∧ J 47 (f + pr) < 20) := by rw [q3]; split <;> omega
  rw [hhi] at d8
  have ag52 : ∀ {Y : Mem}, AG Y X → Y 52 = X 52 := fun h => h 52 (by decide) (by decide)
  have ag68 : ∀ {Y : Mem}, AG Y X → Y 68 = X 68 := fun h => h 68 (by decide) (by decide)
  have ag69 : ∀ {Y : Mem}, AG Y X → Y 69 = X 69 := fun h => h 69 (by decide) (by decide)
  by_cases k2 : X 52 (10 * t + dn) = 2
  · have rR := hR.2.2.2.2.2.2.2.2.2.2.2.2.2.1
    have rM := hT.2.2.2.1 (by omega) h60 (by rw [c4]; exact k2)
    rw [c4, h57, Int.toNat_natCast, hmm, hpr] at rM
    obtain ⟨a1, a2, a3⟩ := rR.1 p hp
    obtain ⟨a4, a5⟩ := rR.2
    have n2 := SL_len 10 _ a4
    rw [ln_len] at n2
    have n3 := cnF_le (fun f => X 75 f = (4 : Int)) 10
    have hv := h552 k2
    rw [if_neg (by omega)] at d8
    have fin : ∀ (J0 : Mem) (x : Nat), (∀ c, ¬ (c = 4 + 10 * p + 4 ∨ c = 44 ∨ c = 45) → J0 c = J c) → gR J0 (zU X 75 x (-1)) → RG J0 → x < 10 → 0 ≤ X 75 x → ffF X p = x → (m : Int) - (pr + 1) ≤ J0 (4 + 10 * p + 4) 1 + J0 44 1
        → (∀ (d : Nat) (Q' : Option ZV → ZH → Prop), Q' (some (.inl (zi 1))) (K, zm (mpC J0 x (f + pr) (X 55 (10 * t + dn))), P, n, w) → zT (d + 1) 39 0 [(0, .inr (some 1)), (1, .inl (zi ((f : Int) + (pr : Int)))), (2, .inl (zi (X 55 (10 * t + dn)))), (3, .inr (some (4 + 10 * p)))] [] (K, zm J, P, n, w) Q') → PH0 K P n w B nT ta oa t p dn J X := fun J0 x b1 b2 b3 b4 b5 b6 b7 b8 => by
      have hC0 : ∀ c, ¬ (c = 4 + 10 * p + 4 ∨ c = 44 ∨ c = 45 ∨ c = 46 ∨ c = 47 ∨ c = 48) → mpC J0 x (f + pr) (X 55 (10 * t + dn)) c = J c := fun c hc => by
        unfold mpC; rw [zU_ab _ _ _ (by omega), zU_ab _ _ _ (by omega), zU_ab _ _ _ (by omega), b1 c (by omega)]
      have hC1 : ∀ c, c < 46 → mpC J0 x (f + pr) (X 55 (10 * t + dn)) c = J0 c := fun c hc => by
        unfold mpC; rw [zU_ab _ _ _ (by omega), zU_ab _ _ _ (by omega), zU_ab _ _ _ (by omega)]
      have hmX : ∀ b, ¬ (b = 75 ∨ b = 71 ∨ b = 68 ∨ b = 69 ∨ b = 70) → mpJ X x (f + pr) (X 55 (10 * t + dn)) b = X b := fun b hb => by
        unfold mpJ; rw [zU_ab _ _ _ (by omega), zU_ab _ _ _ (by omega), zU_ab _ _ _ (by omega), zU_ab _ _ _ (by omega), zU_ab _ _ _ (by omega)]
      refine ph10_end (f := f) (m := m) (pr := pr) (hi := hi) (c := 1) h0 h51 h60 hf hmm hpr hhi (by omega) (S_map (p := p) (x := x) (pg := f + pr) (v := X 55 (10 * t + dn)) hs hF hT ht (by omega) (by rw [c4]; exact k2) h60 (by omega) hp hv b1 b2 b3 b4 b5) (hC0 _ (by omega)) (hC0 _ (by omega)) (fun c h1 h2 => hC0 c (by omega)) (fun b hb => hmX b (by omega)) ?_ (fun _ => by rw [hC1 _ (by omega), hC1 _ (by omega)]; exact b7) (fun d Q hT => ?_) (fun Y hY rY => ⟨mpJ Y x (f + pr) (X 55 (10 * t + dn)), AG_mp hY, FR_mp, fun d Q' hQ => ?_⟩)
      · rw [hmX 67 (by omega), if_neg (by omega)]; exact d8
      · exact s_change2 (d := d + 1) (c := ((1 : Nat) : Int)) (f := f) (tn := pr) (v := X 55 (10 * t + dn)) k1 kt ko (by omega) (by omega) (by omega) r3 (fun Q' hQ' => b8 d Q' hQ') hT
      · rw [hfp]
        have e55 : Y 55 = X 55 := hY 55 (by decide) (by decide)
        exact m_changed1 (d := d) (x := x) (pg := f + pr) hm rY hp c1 (by omega) (by omega) (by rw [ag52 hY]; exact k2) (by rw [ffF_ag hY]; exact b6) b4 (by rw [e55]; exact hv) (by rw [e55]; exact hQ)
    by_cases cr : 0 < J (4 + 10 * p + 4) 1
    · have hmem := a1.1 (J (4 + 10 * p + 4 + 1) (J (4 + 10 * p + 4) 1 - 1).toNat) (by rw [ln_last cr]; exact List.mem_append_right _ List.mem_cons_self)
      obtain ⟨x, hx⟩ : ∃ x : Nat, J (4 + 10 * p + 4 + 1) (J (4 + 10 * p + 4) 1 - 1).toNat = x := ⟨(J (4 + 10 * p + 4 + 1) (J (4 + 10 * p + 4) 1 - 1).toNat).toNat, by omega⟩
      obtain ⟨w1, w2, w3, w4⟩ := gR_room rR hp cr hx
      refine fin (zU J (4 + 10 * p + 4) 1 (J (4 + 10 * p + 4) 1 - 1)) x (fun c hc => zU_ab _ _ _ (by omega)) w1 (RG_U rJ (by omega) (by omega)) w3 (by omega) w2 (by rw [zU_s, zU_ne (by omega)]; omega) (fun d Q' hQ' => ?_)
      rw [hfp]
      exact s_mapPage (d := d) (pg := f + pr) (fr := x) (v := X 55 (10 * t + dn)) hk py (by omega) (by omega) (by omega) w3 a2 a3 a5 (by omega) (fun _ => hx) (fun q => absurd cr q) (fun _ => hQ') (fun q => absurd cr q)
    · have cp : 0 < J 44 1 := by omega
      have hmem := a4.1 (J 45 0) (by rw [ln_cons cp]; exact List.mem_cons_self)
      obtain ⟨x, hx⟩ : ∃ x : Nat, J 45 0 = x := ⟨(J 45 0).toNat, by omega⟩
      obtain ⟨w1, w2, w3, w4⟩ := gR_pool rR hp cr cp hx
      refine fin (tfJ J 44) x (fun c hc => by funext j; exact tfJ_ne (by omega) (by omega)) w1 (RG_tfJ rJ (by omega)) w3 (by omega) w2 (by rw [tfJ_c, tfJ_ne (by omega) (by omega)]; omega) (fun d Q' hQ' => ?_)
      rw [hfp]
      exact s_mapPage (d := d) (pg := f + pr) (fr := x) (v := X 55 (10 * t + dn)) hk py (by omega) (by omega) (by omega) w3 a2 a3 a5 (by omega) (fun q => absurd q cr) (fun _ => ⟨cp, hx⟩) (fun q => absurd q cr) (fun _ => hQ')
  · by_cases k3 : X 52 (10 * t + dn) = 3
    · rw [if_pos k3] at d8
      have rK := hR.2.2.2.2.2.2.2.2.2.2.2.1 t ht
      have hkt := kc_1 (t := t) (X := X) (by omega) (by rw [c4]; exact k3) (by omega) (by omega)
      have hkb : kb X t = 0 := by unfold kb; rw [if_neg (by omega)]
      have hkn : J (ta t + 2) 1 = hi := by rw [rK.1, hkt, hkb, d8]; omega
      by_cases ce : X 68 (f + pr) < 0
      · rw [if_pos ce] at q3
        refine ph10_end (f := f) (m := m) (pr := pr) (hi := hi) (c := 0) h0 h51 h60 hf hmm hpr hhi (by omega) hF rfl rfl (CF_r J) (fun _ _ => rfl) (by rw [if_pos k3]; exact d8) (fun q => absurd q k2) (fun d Q hT => ?_) (fun Y hY rY => ⟨Y, hY, FR_r Y, fun d Q' hQ => ?_⟩)
        · exact s_change3 (d := d + 1) (c := ((0 : Nat) : Int)) (f := f) (tn := pr) k1 kt ko (by omega) (by omega) (by omega) (fun Q' hQ' => by rw [hfp]; exact s_unmapPage (d := d) (pg := f + pr) (e := J 47 (f + pr)) hk zt t79 (by omega) rfl her (by omega) (fun q => absurd q3 q) (fun _ => hQ') (fun q => absurd q3 q)) hT
        · rw [hfp]
          exact m_changed2 (d := d) (pg := f + pr) hm rY c1 (by omega) (by omega) (by rw [ag52 hY]; exact k2) (Or.inl (by rw [ag68 hY]; exact ce)) hQ
      · rw [if_neg ce] at q3
        have hks : hi < 4 := by omega
        refine ph10_end (f := f) (m := m) (pr := pr) (hi := hi) (c := 1) h0 h51 h60 hf hmm hpr hhi (by omega) (S_unmap (pg := f + pr) (ks := hi) hs hF hT ht (by omega) (by rw [c4]; exact k3) h60 d8 hks (by omega) ce) ?_ ?_ ?_ (fun b hb => by rw [zU_ab _ _ _ (by omega), zU_ab _ _ _ (by omega), zU_ab _ _ _ (by omega)]) ?_ (fun q => absurd q k2) (fun d Q hT => ?_) (fun Y hY rY => ⟨zU (zU (zU Y 66 (4 * t + hi) (X 68 (f + pr))) 67 t (hi + 1)) 68 (f + pr) (-1), AG_U (AG_U (AG_U hY rfl) rfl) rfl, FR_U (FR_U (FR_U (FR_r Y) (by omega) (by omega)) (by omega) (by omega)) (by omega) (by omega), fun d Q' hQ => ?_⟩)
        · funext j; rw [adJ_ne (by omega) (by omega), zU_ne (by omega)]
        · have o5 := hs.2.2.2.2.2.2.2.1 t ht dn c3 t ht
          funext j; rw [adJ_ne (by omega) (by omega), zU_ne (by omega)]
        · exact CF_t (adJ_CF (by omega)) (CF_U (CF_r J) (by omega))
        · rw [if_pos k3, zU_ne (by decide), zU_s]; omega
        · exact s_change3 (d := d + 1) (c := ((1 : Nat) : Int)) (f := f) (tn := pr) k1 kt ko (by omega) (by omega) (by omega) (fun Q' hQ' => by rw [hfp]; exact s_unmapPage (d := d) (pg := f + pr) (e := J 47 (f + pr)) hk zt t79 (by omega) rfl her (by omega) (fun _ => by omega) (fun q => by omega) (fun _ => hQ')) hT
        · rw [hfp]
          exact m_changed4 (d := d) (pg := f + pr) (ks := hi) hm rY c1 (by omega) (by omega) (by rw [ag52 hY]; exact k3) (by rw [ag68 hY]; exact ce) (by rw [hY 67 (by decide) (by decide)]; exact d8) hks (by rw [ag68 hY]; exact hQ)
    · rw [if_neg k3] at d8
      have k4 : X 52 (10 * t + dn) = 4 := by omega
      by_cases ce : X 68 (f + pr) < 0 ∨ X 69 (f + pr) = 0
      · have ce2 : J 47 (f + pr) = -1 ∨ J 47 (f + pr) % 2 = 0 := by
          by_cases c5 : X 68 (f + pr) < 0
          · rw [if_pos c5] at q3; exact Or.inl q3
          · rw [if_neg c5] at q3; have := ce.resolve_left c5; omega
        refine ph10_end (f := f) (m := m) (pr := pr) (hi := hi) (c := 0) h0 h51 h60 hf hmm hpr hhi (by omega) hF rfl rfl (CF_r J) (fun _ _ => rfl) (by rw [if_neg k3]; exact d8) (fun q => absurd q k2) (fun d Q hT => ?_) (fun Y hY rY => ⟨Y, hY, FR_r Y, fun d Q' hQ => ?_⟩)
        · exact s_change4 (d := d + 1) (c := ((0 : Nat) : Int)) (f := f) (tn := pr) k1 kt ko (by omega) (by omega) (by omega) (fun Q' hQ' => by rw [hfp]; exact s_protectPage (d := d) (pg := f + pr) (e := J 47 (f + pr)) hk (by omega) rfl her (fun _ => hQ') (fun a b => absurd ce2 (fun q => q.elim a b))) hT
        · rw [hfp]
          exact m_changed2 (d := d) (pg := f + pr) hm rY c1 (by omega) (by omega) (by rw [ag52 hY]; exact k2) (by rw [ag68 hY, ag52 hY, ag69 hY]; exact ce.imp (fun q => q) (fun q => ⟨k4, q⟩)) hQ
      · have c5 : ¬ X 68 (f + pr) < 0 := fun q => ce (Or.inl q)
        have c6 : ¬ X 69 (f + pr) = 0 := fun q => ce (Or.inr q)
        rw [if_neg c5] at q3
        refine ph10_end (f := f) (m := m) (pr := pr) (hi := hi) (c := 1) h0 h51 h60 hf hmm hpr hhi (by omega) (S_protect (g0 := f + pr) hs hF ht (by omega) c5 c6) (zU_ab _ _ _ (by omega)) (zU_ab _ _ _ (by omega)) (CF_U (CF_r J) (by omega)) (fun b hb => zU_ab _ _ _ (by omega)) (by rw [if_neg k3, zU_ne (by decide)]; exact d8) (fun q => absurd q k2) (fun d Q hT => ?_) (fun Y hY rY => ⟨zU Y 69 (f + pr) 0, AG_U hY rfl, FR_U (FR_r Y) (by omega) (by omega), fun d Q' hQ => ?_⟩)
        · exact s_change4 (d := d + 1) (c := ((1 : Nat) : Int)) (f := f) (tn := pr) k1 kt ko (by omega) (by omega) (by omega) (fun Q' hQ' => by rw [hfp]; exact s_protectPage (d := d) (pg := f + pr) (e := J 47 (f + pr)) hk (by omega) rfl her (fun q => by omega) (fun _ _ => hQ')) hT
        · rw [hfp]
          exact m_changed3 (d := d) (pg := f + pr) hm rY c1 (by omega) (by omega) (by rw [ag52 hY]; exact k4) (by rw [ag68 hY]; exact c5) (by rw [ag69 hY]; exact c6) hQ
end PD
