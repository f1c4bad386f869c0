/-! Frames: a page taken away, a page laid, a frame given back. -/
section SD
variable {B nT n t : Nat} {ta : Nat → Nat} {oa : Nat → Nat → Nat} {J J' X X' : Mem} {K : Nat → Option ZK} {P : Nat → Nat → Option Nat}
set_option maxHeartbeats 1000000 in
theorem S_unmap {pg ks : Nat} (hs : SH K P n nT ta oa X) (hR : RF B nT t ta oa J X) (hT : TT nT t ta J X) (ht : t < nT) (h58 : ¬ X 58 t = 0) (h52 : X 52 (oi X t) = 3) (h60 : X 60 t = 10) (h67 : X 67 t = ks) (hks : ks < 4) (hg : pg < 16) (h68 : ¬ X 68 pg < 0) : RF B nT t ta oa (adJ (zU J 47 pg (-1)) (ta t + 2) (J 47 pg / 2)) (zU (zU (zU X 66 (4 * t + ks) (X 68 pg)) 67 t (ks + 1)) 68 pg (-1)) := by
  have hku := kcU hR hT h58 (by omega) (by omega)
  obtain ⟨rS, rW, rT, rE, rN, rO, rH, rC, rQ, rP, rD, rK, rF, rR, rM, rA, rL, rB, rU, rZ⟩ := hR
  obtain ⟨s1, s2, s3, s4, s5, s6, s7, s8, s9⟩ := hs
  have t79 := (s5 t ht).2.2.1
  obtain ⟨q1, q2, q3⟩ := rT pg hg
  rw [if_neg h68] at q3
  have e47 : J 47 pg / 2 = X 68 pg := by omega
  rw [e47]
  have hkt := kc_1 h58 h52 (by omega) (by omega)
  have hkb : kb X t = 0 := by unfold kb; rw [if_neg (by omega)]
  have k1 := rK t ht
  rw [hkt, hkb, h67] at k1
  have r68 := rZ.2 68 pg
  obtain ⟨f1, f2, f3, f4⟩ := rF
  have hRG : gZ (adJ (zU J 47 pg (-1)) (ta t + 2) (X 68 pg)) (zU (zU (zU X 66 (4 * t + ks) (X 68 pg)) 67 t (ks + 1)) 68 pg (-1)) := ⟨RG_adJ (RG_U rZ.1 (by omega) (by omega)) (by rw [zU_ne (by omega)]; omega) ⟨r68.1, r68.2⟩, RG_U (RG_U (RG_U rZ.2 r68.1 r68.2) (by omega) (by omega)) (by omega) (by omega)⟩
  have hc1 : adJ (zU J 47 pg (-1)) (ta t + 2) (X 68 pg) (ta t + 2) 1 = ks + 1 := by rw [adJ_c, zU_ne (by omega)]; omega
  have hc2 : ∀ j : Nat, j < ks → adJ (zU J 47 pg (-1)) (ta t + 2) (X 68 pg) (ta t + 2 + 1) j = J (ta t + 2 + 1) j := fun j hj => by
    unfold adJ; rw [zU_ne (by omega), zU_k _ _ _ (by rw [zU_ne (by omega)]; omega), zU_ne (by omega)]
  have hc3 : adJ (zU J 47 pg (-1)) (ta t + 2) (X 68 pg) (ta t + 2 + 1) ks = X 68 pg := by
    unfold adJ; rw [zU_ne (by omega), show (zU J 47 pg (-1) (ta t + 2) 1).toNat = ks by rw [zU_ne (by omega)]; omega, zU_s]
  have h47 : ∀ g, adJ (zU J 47 pg (-1)) (ta t + 2) (X 68 pg) 47 g = zU J 47 pg (-1) 47 g := fun g => adJ_ne (by omega) (by omega)
  have hJ : ∀ c, ¬ (c = 47 ∨ c = ta t + 2 ∨ c = ta t + 2 + 1) → adJ (zU J 47 pg (-1)) (ta t + 2) (X 68 pg) c = J c := fun c h => by
    funext j; rw [adJ_ne (by omega) (by omega), zU_ne (by omega)]
  have hX : ∀ b, ¬ (b = 66 ∨ b = 67 ∨ b = 68) → (zU (zU (zU X 66 (4 * t + ks) (X 68 pg)) 67 t (ks + 1)) 68 pg (-1)) b = X b := fun b h => by
    rw [zU_ab _ _ _ (by omega), zU_ab _ _ _ (by omega), zU_ab _ _ _ (by omega)]
  have x68 : (zU (zU (zU X 66 (4 * t + ks) (X 68 pg)) 67 t (ks + 1)) 68 pg (-1)) 68 pg = -1 := zU_s _ _ _ _
  have x68n : ∀ g, g ≠ pg → (zU (zU (zU X 66 (4 * t + ks) (X 68 pg)) 67 t (ks + 1)) 68 pg (-1)) 68 g = X 68 g := fun g h => by rw [zU_k _ _ _ h, zU_ne (by decide), zU_ne (by decide)]
  have x67 : (zU (zU (zU X 66 (4 * t + ks) (X 68 pg)) 67 t (ks + 1)) 68 pg (-1)) 67 t = ks + 1 := by rw [zU_ne (by decide), zU_s]
  have x67n : ∀ u, u ≠ t → (zU (zU (zU X 66 (4 * t + ks) (X 68 pg)) 67 t (ks + 1)) 68 pg (-1)) 67 u = X 67 u := fun u h => by rw [zU_ne (by decide), zU_k _ _ _ h, zU_ne (by decide)]
  have x66 : (zU (zU (zU X 66 (4 * t + ks) (X 68 pg)) 67 t (ks + 1)) 68 pg (-1)) 66 (4 * t + ks) = X 68 pg := by rw [zU_ne (by decide), zU_ne (by decide), zU_s]
  have x66n : ∀ i, i ≠ 4 * t + ks → (zU (zU (zU X 66 (4 * t + ks) (X 68 pg)) 67 t (ks + 1)) 68 pg (-1)) 66 i = X 66 i := fun i h => by rw [zU_ne (by decide), zU_ne (by decide), zU_k _ _ _ h]
  generalize adJ (zU J 47 pg (-1)) (ta t + 2) (X 68 pg) = J' at *
  generalize (zU (zU (zU X 66 (4 * t + ks) (X 68 pg)) 67 t (ks + 1)) 68 pg (-1)) = X' at *
  have hta : ∀ u, u < nT → J' (ta u) = J (ta u) := fun u hu => hJ _ (by
    have := (s5 u hu).2.2.1
    by_cases e : u = t
    · subst e; omega
    · have := s6 u t hu ht e; omega)
  have h9 : ∀ k, k < 100 → X' 49 k = X 49 k := fun k _ => by rw [hX 49 (by decide)]
  have h11 : X 49 11 ≤ X' 49 11 := by rw [h9 11 (by decide)]; exact Int.le_refl _
  have h20 : X 49 20 ≤ X' 49 20 := by rw [h9 20 (by decide)]; exact Int.le_refl _
  have h21 := h9 21 (by decide)
  have hoi : ∀ u, oi X' u = oi X u := fun u => oi_c (by rw [hX 51 (by decide)])
  have hkb' : kb X' t = 0 := by unfold kb; rw [hX 60 (by decide), if_neg (by omega)]
  have hkt' : kc X' t = ks + 1 := by
    rw [kc_1 (by rw [hX 58 (by decide)]; exact h58) (by rw [hoi, hX 52 (by decide)]; exact h52) (by rw [hX 60 (by decide)]; omega) (by rw [hX 60 (by decide)]; omega), hkb', x67]; omega
  have hku' : ∀ u, u < nT → u ≠ t → kc X' u = 0 := fun u hu e => by
    have := hku u hu e
    unfold kc kb at this ⊢
    rw [hoi, hX 58 (by decide), hX 52 (by decide), hX 60 (by decide), hX 62 (by decide), x67n u e]
    exact this
  have hkf : ∀ j : Nat, j < ks → kf X' t j = kf X t j := fun j hj => by
    unfold kf; rw [hkb, hkb', x66n _ (by omega)]
  have hkfs : kf X' t ks = X 68 pg := by
    unfold kf; rw [hkb']; exact x66
  have hfr75 := f2 pg hg (by omega)
  have hkt0 : ∀ j : Nat, j < ks → (j : Int) < kc X t := fun j hj => by rw [hkt, hkb, h67]; omega
  refine ⟨gS_c rS (by rw [hJ 1 (by omega)]) (by rw [hJ 1 (by omega)]) (by rw [hJ 1 (by omega)]) (by rw [hJ 1 (by omega)]) (h9 0 (by omega)) (h9 20 (by omega)) (h9 21 (by omega)) (h9 33 (by omega)), gW_c rW (hJ 46 (by omega)) (hX 71 (by omega)), ?_, gE_c rE (hJ 48 (by omega)) (hX 70 (by omega)), gN_c rN (fun u hu => by rw [hta u hu]; exact ⟨rfl, rfl, rfl⟩) (hX 50 (by omega)) (hX 51 (by omega)), gO_c rO (fun u hu k hk => hJ _ (by have := (s7 u hu k hk).2.2.1; have := s8 u hu k hk t ht; omega)) (hX 50 (by omega)) (hX 51 (by omega)) (hX 52 (by omega)) (hX 53 (by omega)) (hX 54 (by omega)) (hX 55 (by omega)) (hX 56 (by omega)), fH_c rH (fun u hu e => ⟨by rw [hta u hu], by rw [hX 50 (by omega)], by rw [hX 51 (by omega)]⟩) (hX 57 (by omega)) (hX 58 (by omega)), gC_c rC (fun p hp => hJ _ (by omega)) (hX 57 (by omega)) (hX 58 (by omega)), gQ_c rQ (fun p hp => ⟨hJ _ (by omega), hJ _ (by omega)⟩) (hX 57 (by omega)) (hX 58 (by omega)) (hX 59 (by omega)) h11, ?_, fD_c rD (fun b u _ _ _ e => by rw [hX b (by omega)]), ?_, ⟨?_, ?_, ?_, ?_⟩, gR_c rR (fun p hp => ⟨hJ _ (by omega), hJ _ (by omega)⟩) (hJ 44 (by omega)) (hJ 45 (by omega)) (hX 75 (by omega)) (hX 76 (by omega)), fM_c2 rM rH (fun b u _ _ _ _ _ _ _ _ e => by rw [hX b (by omega)]) (hX 52 (by omega)) (hX 54 (by omega)) (fun p hp => by rw [hJ (4 + 10 * p + 4) (by omega), hJ 44 (by omega)]), gA_c rA (fun u hu => by rw [hta u hu]) (hX 63 (by omega)) (hX 77 (by omega)) (hX 78 (by omega)), fL_c rL (fun q hq => by rw [hJ (4 + 10 * q + 6) (by omega), hJ (4 + 10 * q + 6 + 1) (by omega)]; exact ⟨rfl, rfl⟩) (fun b u _ _ _ e => by rw [hX b (by omega)]) (hX 77 (by omega)) (hX 78 (by omega)), gB_c rB (fun p hp => ⟨hJ _ (by omega), hJ _ (by omega), hJ _ (by omega)⟩) (hX 72 (by omega)) (hX 73 (by omega)) (hX 74 (by omega)) h11, gU_c rU (h9 33 (by omega)) (h9 11 (by omega)) (h9 20 (by omega)), hRG⟩
  · intro g hgg
    by_cases e : g = pg
    · subst e
      rw [h47, zU_s, x68, hX 69 (by decide), if_pos (by decide)]
      exact ⟨Or.inl rfl, q2, rfl⟩
    · rw [h47, zU_k _ _ _ e, x68n g e, hX 69 (by decide)]
      exact rT g hgg
  · refine fP_c rP (fun u hu e => by rw [hta u hu]; exact ⟨rfl, rfl, rfl, rfl⟩) (fun b u _ _ _ _ _ _ _ _ _ _ e => ?_) (hX 52 (by omega)) (hX 54 (by omega)) h20 h21 (hX 53 (by omega)) (fun u _ _ _ _ h => by rw [hX 72 (by omega)]; exact h)
    by_cases hb : b = 67
    · subst hb; exact x67n u e
    · rw [hX b (by omega)]
  · intro u hu
    by_cases e : u = t
    · subst e
      rw [hkt', hc1]
      refine ⟨rfl, fun j hj => ?_⟩
      by_cases ej : j = ks
      · subst ej; rw [hc3, hkfs]
      · rw [hc2 j (by omega), hkf j (by omega)]
        have := k1.2 j (by omega)
        exact this
    · have hs6 := s6 u t hu ht e
      have h79 := (s5 u hu).2.2.1
      rw [hku' u hu e, hJ (ta u + 2) (by omega)]
      have := (rK u hu).1
      rw [hku u hu e] at this
      exact ⟨this, fun j hj => by omega⟩
  · rw [hX 75 (by decide), hX 76 (by decide), h9 11 (by decide)]; exact f1
  · intro g hgg h
    by_cases e : g = pg
    · subst e; rw [x68] at h; omega
    · rw [x68n g e] at h ⊢
      rw [hX 75 (by decide)]
      exact f2 g hgg h
  · intro g h hgg hh hne h0
    by_cases e : g = pg
    · subst e; rw [x68] at h0; omega
    · rw [x68n g e] at h0 ⊢
      by_cases e2 : h = pg
      · subst e2; rw [x68]; omega
      · rw [x68n h e2]; exact f3 g h hgg hh hne h0
  · intro u hu j hj
    by_cases e : u = t
    · subst e
      rw [hkt'] at hj
      have hother : ∀ i : Nat, i < ks → kf X u i ≠ X 68 pg := fun i hi => by
        have := (f4 u hu i (hkt0 i hi)).2.2.2.1 pg hg
        omega
      by_cases ej : j = ks
      · subst ej
        rw [hkfs, hX 75 (by decide)]
        refine ⟨by omega, by omega, hfr75, fun g hgg => ?_, fun i hi hij => ?_⟩
        · by_cases eg : g = pg
          · subst eg; rw [x68]; omega
          · rw [x68n g eg]
            exact fun q => f3 pg g hg hgg (fun w => eg w.symm) (by omega) q.symm
        · rw [hkt'] at hi
          rw [hkf i (by omega)]
          exact hother i (by omega)
      · have hj2 : j < ks := by omega
        obtain ⟨g1, g2, g3, g4, g5⟩ := f4 u hu j (hkt0 j hj2)
        rw [hkf j hj2, hX 75 (by decide)]
        refine ⟨g1, g2, g3, fun g hgg => ?_, fun i hi hij => ?_⟩
        · by_cases eg : g = pg
          · subst eg; rw [x68]; omega
          · rw [x68n g eg]; exact g4 g hgg
        · rw [hkt'] at hi
          by_cases ei : i = ks
          · subst ei; rw [hkfs]; exact fun q => hother j hj2 q.symm
          · rw [hkf i (by omega)]; exact g5 i (hkt0 i (by omega)) hij
    · rw [hku' u hu e] at hj; omega
theorem gR_room {p x : Nat} (rR : gR J X) (hp : p < 4) (hc : 0 < J (4 + 10 * p + 4) 1) (hx : J (4 + 10 * p + 4 + 1) (J (4 + 10 * p + 4) 1 - 1).toNat = x) : gR (zU J (4 + 10 * p + 4) 1 (J (4 + 10 * p + 4) 1 - 1)) (zU X 75 x (-1)) ∧ ffF X p = x ∧ x < 10 ∧ X 75 x = p := by
  obtain ⟨r1, r2, r3⟩ := rR
  obtain ⟨a1, a2, a3⟩ := r1 p hp
  have hl := ln_last hc
  rw [hx] at hl
  rw [hl] at a1
  have hm := a1.1 (x : Int) (by simp)
  have hmx := mxF_last a1
  rw [Int.toNat_natCast] at hm
  have e75 : zU X 75 x (-1) 75 x = -1 := zU_s _ _ _ _
  have e75n : ∀ i, i ≠ x → zU X 75 x (-1) 75 i = X 75 i := fun i h => zU_k _ _ _ h
  have e76 : zU X 75 x (-1) 76 = X 76 := zU_ab _ _ _ (by decide)
  refine ⟨⟨fun q hq => ?_, ?_, ?_⟩, ?_, by omega, hm.2.2⟩
  · by_cases e : q = p
    · subst e
      refine ⟨?_, by rw [zU_s]; omega, by rw [zU_s]; omega⟩
      rw [e76]
      refine SL_init a1 (fun i hi => ?_)
      by_cases ei : i = x
      · subst ei; rw [e75]; exact ⟨fun h => by omega, fun h => absurd rfl h.2⟩
      · rw [e75n i ei]; exact ⟨fun h => ⟨h, by omega⟩, fun h => h.1⟩
    · obtain ⟨b1, b2, b3⟩ := r1 q hq
      rw [ln_congr (J := J) (by rw [zU_ne (by omega)]) (zU_ab _ _ _ (by omega)), zU_ne (by omega), e76]
      refine ⟨SL_congr b1 (fun i hi => ?_) (fun _ _ _ => rfl), b2, b3⟩
      by_cases ei : i = x
      · subst ei; rw [e75]; exact ⟨fun h => by omega, fun h => by omega⟩
      · rw [e75n i ei]
  · rw [ln_congr (J := J) (by rw [zU_ne (by omega)]) (zU_ab _ _ _ (by omega)), e76]
    refine SL_congr r2 (fun i hi => ?_) (fun _ _ _ => rfl)
    by_cases ei : i = x
    · subst ei; rw [e75]; exact ⟨fun h => by omega, fun h => by omega⟩
    · rw [e75n i ei]
  · rw [zU_ne (by omega)]; exact r3
  · unfold ffF; rw [hmx, if_pos (by omega)]
theorem gR_pool {p x : Nat} (rR : gR J X) (hp : p < 4) (hc : ¬ 0 < J (4 + 10 * p + 4) 1) (hc2 : 0 < J 44 1) (hx : J 45 0 = x) : gR (tfJ J 44) (zU X 75 x (-1)) ∧ ffF X p = x ∧ x < 10 ∧ X 75 x = 4 := by
  obtain ⟨r1, r2, r3⟩ := rR
  obtain ⟨a1, a2, a3⟩ := r1 p hp
  have hnil : ln J (4 + 10 * p + 4) = [] := ln_nil (by omega)
  rw [hnil] at a1
  have hl := ln_cons hc2
  rw [show (44 : Nat) + 1 = 45 from rfl, hx] at hl
  rw [hl] at r2
  have hm := r2.1 (x : Int) (by simp)
  have hmn := mnF_head r2
  rw [Int.toNat_natCast] at hm
  have e75 : zU X 75 x (-1) 75 x = -1 := zU_s _ _ _ _
  have e75n : ∀ i, i ≠ x → zU X 75 x (-1) 75 i = X 75 i := fun i h => zU_k _ _ _ h
  have e76 : zU X 75 x (-1) 76 = X 76 := zU_ab _ _ _ (by decide)
  refine ⟨⟨fun q hq => ?_, ?_, ?_⟩, ?_, by omega, hm.2.2⟩
  · obtain ⟨b1, b2, b3⟩ := r1 q hq
    rw [ln_congr (J := J) (tfJ_ne (by omega) (by omega)) (by funext j; exact tfJ_ne (by omega) (by omega)), tfJ_ne (by omega) (by omega), e76]
    refine ⟨SL_congr b1 (fun i hi => ?_) (fun _ _ _ => rfl), b2, b3⟩
    by_cases ei : i = x
    · subst ei; rw [e75]; exact ⟨fun h => by omega, fun h => by omega⟩
    · rw [e75n i ei]
  · rw [e76]
    refine SL_tail r2 (fun i hi => ?_)
    by_cases ei : i = x
    · subst ei; rw [e75]; exact ⟨fun h => by omega, fun h => absurd rfl h.2⟩
    · rw [e75n i ei]; exact ⟨fun h => ⟨h, by omega⟩, fun h => h.1⟩
  · rw [tfJ_c]; omega
  · unfold ffF; rw [mxF_nil a1, if_neg (by decide)]; exact hmn
set_option maxHeartbeats 1000000 in
theorem S_map {p x pg : Nat} {v : Int} {J0 : Mem} (hs : SH K P n nT ta oa X) (hR : RF B nT t ta oa J X) (hT : TT nT t ta J X) (ht : t < nT) (h58 : ¬ X 58 t = 0) (h52 : X 52 (oi X t) = 2) (h60 : X 60 t = 10) (hg : pg < 16) (hp : p < 4) (hv : v = 0 ∨ v = 1) (hJ0 : ∀ c, ¬ (c = 4 + 10 * p + 4 ∨ c = 44 ∨ c = 45) → J0 c = J c) (hR0 : gR J0 (zU X 75 x (-1))) (hG0 : RG J0) (hx : x < 10) (hx75 : 0 ≤ X 75 x) : RF B nT t ta oa (mpC J0 x pg v) (mpJ X x pg v) := by
  have hku := kcU hR hT h58 (by omega) (by omega)
  have hlk := lockU hR hT h58 (by omega) (by omega)
  obtain ⟨rS, rW, rT, rE, rN, rO, rH, rC, rQ, rP, rD, rK, rF, rR, rM, rA, rL, rB, rU, rZ⟩ := hR
  obtain ⟨s1, s2, s3, s4, s5, s6, s7, s8, s9⟩ := hs
  have hkt : kc X t = 0 := kc_0 (Or.inl (by omega))
  obtain ⟨f1, f2, f3, f4⟩ := rF
  unfold mpC mpJ
  have hRG : gZ (zU (zU (zU J0 46 x 0) 47 pg (2 * x + v)) 48 (pg / 4) 1) (zU (zU (zU (zU (zU X 75 x (-1)) 71 x 0) 68 pg x) 69 pg v) 70 (pg / 4) 1) := ⟨RG_U (RG_U (RG_U hG0 (by omega) (by omega)) (by omega) (by omega)) (by omega) (by omega), RG_U (RG_U (RG_U (RG_U (RG_U rZ.2 (by omega) (by omega)) (by omega) (by omega)) (by omega) (by omega)) (by omega) (by omega)) (by omega) (by omega)⟩
  have hJ : ∀ c, ¬ (c = 4 + 10 * p + 4 ∨ c = 44 ∨ c = 45 ∨ c = 46 ∨ c = 47 ∨ c = 48) → (zU (zU (zU J0 46 x 0) 47 pg (2 * x + v)) 48 (pg / 4) 1) c = J c := fun c h => by
    rw [zU_ab _ _ _ (by omega), zU_ab _ _ _ (by omega), zU_ab _ _ _ (by omega), hJ0 c (by omega)]
  have hX : ∀ b, ¬ (b = 75 ∨ b = 71 ∨ b = 68 ∨ b = 69 ∨ b = 70) → (zU (zU (zU (zU (zU X 75 x (-1)) 71 x 0) 68 pg x) 69 pg v) 70 (pg / 4) 1) b = X b := fun b h => by
    rw [zU_ab _ _ _ (by omega), zU_ab _ _ _ (by omega), zU_ab _ _ _ (by omega), zU_ab _ _ _ (by omega), zU_ab _ _ _ (by omega)]
  have x75 : (zU (zU (zU (zU (zU X 75 x (-1)) 71 x 0) 68 pg x) 69 pg v) 70 (pg / 4) 1) 75 = zU X 75 x (-1) 75 := by
    rw [zU_ab _ _ _ (by omega), zU_ab _ _ _ (by omega), zU_ab _ _ _ (by omega), zU_ab _ _ _ (by omega)]
  have x71 : (zU (zU (zU (zU (zU X 75 x (-1)) 71 x 0) 68 pg x) 69 pg v) 70 (pg / 4) 1) 71 = zU X 71 x 0 71 := by
    rw [zU_ab _ _ _ (by omega), zU_ab _ _ _ (by omega), zU_ab _ _ _ (by omega)]; funext j; unfold zU; simp
  have x68 : (zU (zU (zU (zU (zU X 75 x (-1)) 71 x 0) 68 pg x) 69 pg v) 70 (pg / 4) 1) 68 = zU X 68 pg x 68 := by
    rw [zU_ab _ _ _ (by omega), zU_ab _ _ _ (by omega)]; funext j; unfold zU; simp
  have x69 : (zU (zU (zU (zU (zU X 75 x (-1)) 71 x 0) 68 pg x) 69 pg v) 70 (pg / 4) 1) 69 = zU X 69 pg v 69 := by
    rw [zU_ab _ _ _ (by omega)]; funext j; unfold zU; simp
  have x70 : (zU (zU (zU (zU (zU X 75 x (-1)) 71 x 0) 68 pg x) 69 pg v) 70 (pg / 4) 1) 70 = zU X 70 (pg / 4) 1 70 := by
    funext j; unfold zU; simp
  have j46 : (zU (zU (zU J0 46 x 0) 47 pg (2 * x + v)) 48 (pg / 4) 1) 46 = zU J 46 x 0 46 := by
    rw [zU_ab _ _ _ (by omega), zU_ab _ _ _ (by omega)]
    have := hJ0 46 (by omega)
    funext j; unfold zU; rw [this]
  have j47 : (zU (zU (zU J0 46 x 0) 47 pg (2 * x + v)) 48 (pg / 4) 1) 47 = zU J 47 pg (2 * x + v) 47 := by
    rw [zU_ab _ _ _ (by omega)]
    have := hJ0 47 (by omega)
    funext j; unfold zU; simp [this]
  have j48 : (zU (zU (zU J0 46 x 0) 47 pg (2 * x + v)) 48 (pg / 4) 1) 48 = zU J 48 (pg / 4) 1 48 := by
    have := hJ0 48 (by omega)
    funext j; unfold zU; simp [this]
  have jr : ∀ c, c < 46 → (zU (zU (zU J0 46 x 0) 47 pg (2 * x + v)) 48 (pg / 4) 1) c = J0 c := fun c h => by
    rw [zU_ab _ _ _ (by omega), zU_ab _ _ _ (by omega), zU_ab _ _ _ (by omega)]
  generalize (zU (zU (zU J0 46 x 0) 47 pg (2 * x + v)) 48 (pg / 4) 1) = J' at *
  generalize (zU (zU (zU (zU (zU X 75 x (-1)) 71 x 0) 68 pg x) 69 pg v) 70 (pg / 4) 1) = X' at *
  have hta : ∀ u, u < nT → J' (ta u) = J (ta u) := fun u hu => hJ _ (by have := (s5 u hu).2.2.1; omega)
  have h9 : ∀ k, k < 100 → X' 49 k = X 49 k := fun k _ => by rw [hX 49 (by decide)]
  have h11 : X 49 11 ≤ X' 49 11 := by rw [h9 11 (by decide)]; exact Int.le_refl _
  have h20 : X 49 20 ≤ X' 49 20 := by rw [h9 20 (by decide)]; exact Int.le_refl _
  have h21 := h9 21 (by decide)
  have hkcf : ∀ u, u < nT → kc X' u = kc X u ∧ ∀ j : Nat, (j : Int) < kc X u → kf X' u j = kf X u j := fun u hu => kcf_c (by rw [hX 58 (by decide)]) (by rw [hX 51 (by decide)]) (hX 52 (by decide)) (by rw [hX 60 (by decide)]) (by rw [hX 62 (by decide)]) (hX 66 (by decide)) (by rw [hX 67 (by decide)])
  refine ⟨gS_c rS (by rw [hJ 1 (by omega)]) (by rw [hJ 1 (by omega)]) (by rw [hJ 1 (by omega)]) (by rw [hJ 1 (by omega)]) (h9 0 (by omega)) (h9 20 (by omega)) (h9 21 (by omega)) (h9 33 (by omega)), ?_, ?_, ?_, gN_c rN (fun u hu => by rw [hta u hu]; exact ⟨rfl, rfl, rfl⟩) (hX 50 (by omega)) (hX 51 (by omega)), gO_c rO (fun u hu k hk => hJ _ (by have := (s7 u hu k hk).2.2.1; have := s8 u hu k hk t ht; omega)) (hX 50 (by omega)) (hX 51 (by omega)) (hX 52 (by omega)) (hX 53 (by omega)) (hX 54 (by omega)) (hX 55 (by omega)) (hX 56 (by omega)), fH_c rH (fun u hu e => ⟨by rw [hta u hu], by rw [hX 50 (by omega)], by rw [hX 51 (by omega)]⟩) (hX 57 (by omega)) (hX 58 (by omega)), gC_c rC (fun p hp => hJ _ (by omega)) (hX 57 (by omega)) (hX 58 (by omega)), gQ_c rQ (fun p hp => ⟨hJ _ (by omega), hJ _ (by omega)⟩) (hX 57 (by omega)) (hX 58 (by omega)) (hX 59 (by omega)) h11, fP_c rP (fun u hu e => by rw [hta u hu]; exact ⟨rfl, rfl, rfl, rfl⟩) (fun b u _ _ _ _ _ _ _ _ _ _ e => by rw [hX b (by omega)]) (hX 52 (by omega)) (hX 54 (by omega)) h20 h21 (hX 53 (by omega)) (fun u _ _ _ _ h => by rw [hX 72 (by omega)]; exact h), fD_c rD (fun b u _ _ _ e => by rw [hX b (by omega)]), gK_c rK (fun u hu => ⟨by rw [hJ (ta u + 2) (by have := (s5 u hu).2.2.1; omega)], hJ (ta u + 2 + 1) (by have := (s5 u hu).2.2.1; omega)⟩) hkcf, ⟨?_, ?_, ?_, ?_⟩, ?_, ?_, gA_c rA (fun u hu => by rw [hta u hu]) (hX 63 (by omega)) (hX 77 (by omega)) (hX 78 (by omega)), fL_c rL (fun q hq => by rw [hJ (4 + 10 * q + 6) (by omega), hJ (4 + 10 * q + 6 + 1) (by omega)]; exact ⟨rfl, rfl⟩) (fun b u _ _ _ e => by rw [hX b (by omega)]) (hX 77 (by omega)) (hX 78 (by omega)), gB_c rB (fun p hp => ⟨hJ _ (by omega), hJ _ (by omega), hJ _ (by omega)⟩) (hX 72 (by omega)) (hX 73 (by omega)) (hX 74 (by omega)) h11, gU_c rU (h9 33 (by omega)) (h9 11 (by omega)) (h9 20 (by omega)), hRG⟩
  · intro f hf
    rw [j46, x71]
    by_cases e : f = x
    · subst e; rw [zU_s, zU_s]
    · rw [zU_k _ _ _ e, zU_k _ _ _ e]; exact rW f hf
  · intro g hgg
    rw [j47, x68, x69]
    by_cases e : g = pg
    · subst e; rw [zU_s, zU_s, zU_s, if_neg (by omega)]; exact ⟨Or.inr ⟨by omega, by omega⟩, hv, rfl⟩
    · rw [zU_k _ _ _ e, zU_k _ _ _ e, zU_k _ _ _ e]; exact rT g hgg
  · intro g hgg
    rw [j48, x70]
    by_cases e : g = pg / 4
    · subst e; rw [zU_s, zU_s]; exact ⟨rfl, Or.inr rfl⟩
    · rw [zU_k _ _ _ e, zU_k _ _ _ e]; exact rE g hgg
  · intro f hf
    rw [x75, hX 76 (by decide), h9 11 (by decide)]
    by_cases e : f = x
    · subst e; rw [zU_s]; exact ⟨by omega, by omega, (f1 f hf).2.2⟩
    · rw [zU_k _ _ _ e]; exact f1 f hf
  · intro g hgg h0
    rw [x68] at h0 ⊢
    rw [x75]
    by_cases e : g = pg
    · subst e; rw [zU_s, Int.toNat_natCast, zU_s]
    · rw [zU_k _ _ _ e] at h0 ⊢
      have := f2 g hgg h0
      by_cases e2 : (X 68 g).toNat = x
      · rw [e2, zU_s]
      · rw [zU_k _ _ _ e2]; exact this
  · intro g h hgg hh hne h0
    rw [x68] at h0 ⊢
    have hno : ∀ g, g < 16 → X 68 g ≠ x := fun g hgg q => by
      have := f2 g hgg (by omega)
      rw [q, Int.toNat_natCast] at this; omega
    by_cases e : g = pg
    · subst e
      rw [zU_s, zU_k _ _ _ (fun q => hne q.symm)]
      exact fun q => hno h hh q.symm
    · rw [zU_k _ _ _ e] at h0 ⊢
      by_cases e2 : h = pg
      · subst e2; rw [zU_s]; exact hno g hgg
      · rw [zU_k _ _ _ e2]; exact f3 g h hgg hh hne h0
  · intro u hu j hj
    rw [(hkcf u hu).1] at hj
    by_cases e : u = t
    · subst e; omega
    · have := hku u hu e; omega
  · refine gR_c hR0 (fun q hq => ⟨jr _ (by omega), jr _ (by omega)⟩) (jr 44 (by omega)) (jr 45 (by omega)) x75 ?_
    rw [hX 76 (by decide), zU_ab _ _ _ (by decide)]
  · exact fM_v (fun u hu hut h5 h6 => by
      rw [hX 58 (by decide)] at h5
      rw [hX 60 (by decide)] at h6
      exact hlk u hu hut h5 (by omega))
end SD
