/-! Leaves by RR_loc. -/
theorem kc_0 {X : Mem} {t : Nat} (h : ¬ X 52 (oi X t) = 3 ∨ X 60 t < 10 ∨ 13 < X 60 t) : kc X t = 0 := by unfold kc; rw [if_neg (by omega)]
theorem kc_1 {X : Mem} {t : Nat} (h0 : ¬ X 58 t = 0) (h : X 52 (oi X t) = 3) (h1 : 10 ≤ X 60 t) (h2 : X 60 t ≤ 13) : kc X t = X 67 t - kb X t := by unfold kc; rw [if_pos ⟨h0, h, h1, h2⟩]
section RN
variable {B nT n t : Nat} {ta : Nat → Nat} {oa : Nat → Nat → Nat} {J X : Mem} {K : Nat → Option ZK} {P : Nat → Nat → Option Nat}
theorem RR_t (hR : RR B nT ta oa J X) (ht : t < nT) (h58 : X 58 t = 2) : (0 ≤ X 51 t ∧ X 51 t < X 50 t ∧ X 50 t ≤ 10) ∧ OR J X (oa t (X 51 t).toNat) (oi X t) ∧ TH J X (ta t) t (oi X t) ∧ (J (ta t) 0 = t ∧ J (ta t) 2 = X 50 t ∧ J (ta t) 3 = X 51 t) ∧ 0 ≤ X 57 t ∧ X 57 t < 4 := by
  obtain ⟨rS, rW, rT, rE, rN, rO, rH, rC, rQ, rP, rD, rK, rF, rR, rM, rA, rL, rB, rU, rZ⟩ := hR
  obtain ⟨n1, n2, n3, n4, n5, n6⟩ := rN t ht
  obtain ⟨h1, h2, h3, h4, h5⟩ := rH t ht
  have hlt : X 51 t < X 50 t := by
    have : ¬ X 51 t = X 50 t := fun q => by have := h4.mpr q; omega
    omega
  refine ⟨⟨n4, hlt, n6⟩, (rO t ht (X 51 t).toNat (by clear h4 h5; omega)).1, rP t ht (by omega), ⟨n1, n2, n3⟩, h2, h3⟩
set_option maxHeartbeats 4000000 in
theorem L_acc {x : Int} (hs : SH K P n nT ta oa X) (hR : RR B nT ta oa J X) (ht : t < nT) (h58 : X 58 t = 2) (hk : X 52 (oi X t) ≤ 1) (hx1 : 4 ≤ x) (hx2 : x ≤ 6) (hn : x = 5 ∨ x = 6 → X 72 (16 * (X 57 t).toNat + (X 53 (oi X t)).toNat) = 0) : RR B nT ta oa (zU J (ta t) 5 x) (zU X 60 t x) := by
  obtain ⟨f1, f2, f3, f4, f5⟩ := RR_t hR ht h58
  have t79 := (hs.2.2.2.2.1 t ht).2.2.1
  have hk0 := f2.2.1
  have hk5 := f2.2.2.1
  obtain ⟨g1, g2⟩ := TH_kd f3 hk0 hk5
  have hXn : ∀ b, b ≠ 60 → zU X 60 t x b = X b := fun b h => zU_ab _ _ _ h
  have hjk : ∀ k, k ≠ 5 → zU J (ta t) 5 x (ta t) k = J (ta t) k := fun k h => zU_k _ _ _ h
  have e60 : zU X 60 t x 60 t = x := zU_s _ _ _ _
  have eoi : oi (zU X 60 t x) t = oi X t := oi_c (by rw [hXn 51 (by decide)])
  have rS := hR.1
  have rU := hR.2.2.2.2.2.2.2.2.2.2.2.2.2.2.2.2.2.2.1
  have rZ := hR.2.2.2.2.2.2.2.2.2.2.2.2.2.2.2.2.2.2.2
  have rL := hR.2.2.2.2.2.2.2.2.2.2.2.2.2.2.2.2.1
  have k1 : kc (zU X 60 t x) t = 0 := kc_0 (Or.inl (by rw [eoi, hXn 52 (by decide)]; omega))
  have k2 : kc X t = 0 := kc_0 (Or.inl (by omega))
  refine RR_loc hs hR ht (by omega) (fun c h1 _ => zU_ab _ _ _ h1) (fun k h1 _ _ _ => hjk k h1) (fun b _ h _ _ _ _ _ => hXn b h) (fun b u _ h => zU_u h) (by rw [hXn 49 (by decide)]) (by rw [hXn 49 (by decide)]) (by rw [hXn 49 (by decide)]; exact Int.le_refl _) ?_ ?_ ⟨RG_U rZ.1 (by omega) (by omega), RG_U rZ.2 (by omega) (by omega)⟩ ?_ ?_ ⟨by rw [k1, k2], fun j hj => by omega⟩ ?_ ?_
  · unfold gS; rw [zU_ab _ _ _ (show (1 : Nat) ≠ ta t by omega), hXn 49 (by decide)]; exact rS
  · unfold gU; rw [hXn 49 (by decide)]; exact rU
  · refine TH_mk4 (by rw [zU_s, e60]) (by rw [e60]; exact hx1) (by rw [e60]; exact hx2) (by rw [hXn 52 (by decide)]; exact hk0) (by rw [hXn 52 (by decide)]; exact hk) (fun q => ?_) (by rw [e60, hXn 72 (by decide), hXn 57 (by decide), hXn 53 (by decide)]; exact hn)
    rw [hXn 58 (by decide)] at q; omega
  · rw [e60]; intro c1 c2; omega
  · rw [e60]; intro c1 c2; omega
  · intro q hq c1 c2
    have := ((rL q hq).2.2 c1).2.2.2.2.1
    rw [c2, Int.toNat_natCast] at this
    omega
set_option maxHeartbeats 4000000 in
theorem L_7 (hB : B < 100000) (hs : SH K P n nT ta oa X) (hR : RR B nT ta oa J X) (ht : t < nT) (h58 : X 58 t = 2) (h60 : X 60 t = 7) : RR (B + 1) nT ta oa (zU (zU (zU J (ta t) 7 (J 1 7)) 1 7 (J 1 7 + 1)) (ta t) 5 8) (zU (zU (zU X 61 t (X 49 20)) 49 20 (X 49 20 + 1)) 60 t 8) := by
  obtain ⟨f1, f2, f3, f4, f5⟩ := RR_t hR ht h58
  have t79 := (hs.2.2.2.2.1 t ht).2.2.1
  have hk0 := f2.2.1
  have hk5 := f2.2.2.1
  obtain ⟨g1, g2⟩ := TH_kd f3 hk0 hk5
  obtain ⟨d1, d2, d3, d4, d5, d6⟩ := TH_d7 f3 (by omega) (by omega)
  have rS := hR.1
  have rU := hR.2.2.2.2.2.2.2.2.2.2.2.2.2.2.2.2.2.2.1
  have rZ := hR.2.2.2.2.2.2.2.2.2.2.2.2.2.2.2.2.2.2.2
  have rL := hR.2.2.2.2.2.2.2.2.2.2.2.2.2.2.2.2.1
  have rP := hR.2.2.2.2.2.2.2.2.2.1
  obtain ⟨q1, q2, q3, q4, q5, q6, q7⟩ := rS
  obtain ⟨u1, u2, u3, u4, u5⟩ := rU
  have hXn : ∀ b, b ≠ 49 → b ≠ 60 → b ≠ 61 → (zU (zU (zU X 61 t (X 49 20)) 49 20 (X 49 20 + 1)) 60 t 8) b = X b := fun b h1 h2 h3 => by rw [zU_ab _ _ _ h2, zU_ab _ _ _ h1, zU_ab _ _ _ h3]
  have e60 : (zU (zU (zU X 61 t (X 49 20)) 49 20 (X 49 20 + 1)) 60 t 8) 60 t = 8 := zU_s _ _ _ _
  have e61 : (zU (zU (zU X 61 t (X 49 20)) 49 20 (X 49 20 + 1)) 60 t 8) 61 t = X 49 20 := by rw [zU_ne (by decide), zU_ne (by decide), zU_s]
  have e20 : (zU (zU (zU X 61 t (X 49 20)) 49 20 (X 49 20 + 1)) 60 t 8) 49 20 = X 49 20 + 1 := by rw [zU_ne (by decide), zU_s]
  have e49 : ∀ k, k ≠ 20 → (zU (zU (zU X 61 t (X 49 20)) 49 20 (X 49 20 + 1)) 60 t 8) 49 k = X 49 k := fun k h => by rw [zU_ne (by decide), zU_k _ _ _ h, zU_ne (by decide)]
  have j1 : ∀ k, k ≠ 7 → (zU (zU (zU J (ta t) 7 (J 1 7)) 1 7 (J 1 7 + 1)) (ta t) 5 8) 1 k = J 1 k := fun k h => by rw [zU_ne (by omega), zU_k _ _ _ h, zU_ne (by omega)]
  have j17 : (zU (zU (zU J (ta t) 7 (J 1 7)) 1 7 (J 1 7 + 1)) (ta t) 5 8) 1 7 = J 1 7 + 1 := by rw [zU_ne (by omega), zU_s]
  have jt : ∀ k, k ≠ 5 → k ≠ 7 → (zU (zU (zU J (ta t) 7 (J 1 7)) 1 7 (J 1 7 + 1)) (ta t) 5 8) (ta t) k = J (ta t) k := fun k h1 h2 => by rw [zU_k _ _ _ h1, zU_ne (by omega), zU_k _ _ _ h2]
  have jt7 : (zU (zU (zU J (ta t) 7 (J 1 7)) 1 7 (J 1 7 + 1)) (ta t) 5 8) (ta t) 7 = J 1 7 := by rw [zU_k _ _ _ (by decide), zU_ne (by omega), zU_s]
  have eoi : oi (zU (zU (zU X 61 t (X 49 20)) 49 20 (X 49 20 + 1)) 60 t 8) t = oi X t := oi_c (by rw [hXn 51 (by decide) (by decide) (by decide)])
  have z20 := rZ.2 49 20
  refine RR_loc hs hR ht (by omega) (fun c h1 h2 => by rw [zU_ab _ _ _ h1, zU_ab _ _ _ h2, zU_ab _ _ _ h1]) (fun k h1 _ h3 _ => jt k h1 h3) (fun b h1 h2 h3 _ _ _ _ => hXn b h1 h2 h3) (fun b u hb h => by rw [zU_u h, zU_ne hb, zU_u h]) (e49 11 (by decide)) (e49 21 (by decide)) (by rw [e20]; omega) ?_ ?_ ⟨RG_U (RG_U (RG_U rZ.1 (rZ.1 1 7).1 (rZ.1 1 7).2) (by omega) (by omega)) (by omega) (by omega), RG_U (RG_U (RG_U rZ.2 (by omega) (by omega)) (by omega) (by omega)) (by omega) (by omega)⟩ ?_ ?_ ⟨by rw [kc_0 (Or.inr (Or.inl (by rw [e60]; omega))), kc_0 (Or.inr (Or.inl (by omega)))], fun j hj => by rw [kc_0 (Or.inr (Or.inl (by omega)))] at hj; omega⟩ ?_ ?_
  · exact ⟨by rw [j1 1 (by decide)]; exact q1, by rw [e49 0 (by decide)]; exact q2, by rw [j17, e20, q3], by rw [j1 8 (by decide), e49 21 (by decide)]; exact q4, by rw [j1 9 (by decide), e49 33 (by decide)]; exact q5, by rw [e49 21 (by decide)]; exact q6, by rw [e49 21 (by decide), e20]; omega⟩
  · exact ⟨by rw [e49 33 (by decide)]; exact u1, by rw [e49 33 (by decide)]; omega, by rw [e49 11 (by decide)]; exact u3, by rw [e49 11 (by decide)]; omega, by rw [e20]; omega⟩
  · have x52 := hXn 52 (by decide) (by decide) (by decide)
    refine TH_mk8 (by rw [zU_s, e60]) e60 (by rw [hXn 58 (by decide) (by decide) (by decide)]; omega) (by rw [x52]; omega) (by rw [x52]; omega) (by rw [jt7, e61, q3]) (by rw [e61, e49 21 (by decide)]; exact q7) (by rw [e61, e20]; omega) (by rw [jt 6 (by decide) (by decide)]; exact d1) (by rw [hXn 62 (by decide) (by decide) (by decide)]; exact d2) (by rw [jt 9 (by decide) (by decide)]; exact d3) (by rw [hXn 64 (by decide) (by decide) (by decide)]; exact d4) (by rw [hXn 65 (by decide) (by decide) (by decide)]; exact d5) (by rw [hXn 67 (by decide) (by decide) (by decide)]; exact d6)
  · intro _ _ u hu hut h5 c3 c4
    rw [e61]
    have := TH_d8 (rP u hu h5) c3 c4
    omega
  · rw [e60]; intro c1 c2; omega
  · intro q hq c1 c2
    have := ((rL q hq).2.2 c1).2.2.2.2.1
    rw [c2, Int.toNat_natCast] at this
    omega
set_option maxHeartbeats 4000000 in
theorem L_8 {x : Int} (hs : SH K P n nT ta oa X) (hR : RR B nT ta oa J X) (ht : t < nT) (h58 : X 58 t = 2) (h60 : X 60 t = 8) (hsv : X 49 21 = X 61 t) (hx : x = (if X 52 (oi X t) = 2 then 9 else 10)) : RR B nT ta oa (zU J (ta t) 5 x) (zU X 60 t x) := by
  obtain ⟨f1, f2, f3, f4, f5⟩ := RR_t hR ht h58
  have t79 := (hs.2.2.2.2.1 t ht).2.2.1
  have hk0 := f2.2.1
  have hk5 := f2.2.2.1
  obtain ⟨g1, g2⟩ := TH_kd f3 hk0 hk5
  obtain ⟨d1, d2, d3, d4, d5, d6⟩ := TH_d7 f3 (by omega) (by omega)
  obtain ⟨b1, b2, b3⟩ := TH_d8 f3 (by omega) (by omega)
  have hx1 : x = 9 ∨ x = 10 := by rw [hx]; split <;> omega
  have hXn : ∀ b, b ≠ 60 → zU X 60 t x b = X b := fun b h => zU_ab _ _ _ h
  have hjk : ∀ k, k ≠ 5 → zU J (ta t) 5 x (ta t) k = J (ta t) k := fun k h => zU_k _ _ _ h
  have e60 : zU X 60 t x 60 t = x := zU_s _ _ _ _
  have eoi : oi (zU X 60 t x) t = oi X t := oi_c (by rw [hXn 51 (by decide)])
  have rS := hR.1
  have rU := hR.2.2.2.2.2.2.2.2.2.2.2.2.2.2.2.2.2.2.1
  have rZ := hR.2.2.2.2.2.2.2.2.2.2.2.2.2.2.2.2.2.2.2
  have rL := hR.2.2.2.2.2.2.2.2.2.2.2.2.2.2.2.2.1
  have rD := hR.2.2.2.2.2.2.2.2.2.2.1
  have k2 : kc X t = 0 := kc_0 (Or.inr (Or.inl (by omega)))
  have k1 : kc (zU X 60 t x) t = 0 := by
    by_cases c : X 52 (oi X t) = 3 ∧ x = 10
    · rw [kc_1 (by rw [hXn 58 (by decide)]; omega) (by rw [eoi, hXn 52 (by decide)]; exact c.1) (by rw [e60]; omega) (by rw [e60]; omega), hXn 67 (by decide)]
      unfold kb; rw [e60, if_neg (by omega)]; omega
    · refine kc_0 ?_
      rw [eoi, hXn 52 (by decide), e60]; omega
  have hrm : x = 10 → ¬ X 52 (oi X t) = 2 := fun q w => by rw [if_pos w] at hx; omega
  have h54 := f2.2.2.2.2.1
  refine RR_loc hs hR ht (by omega) (fun c h1 _ => zU_ab _ _ _ h1) (fun k h1 _ _ _ => hjk k h1) (fun b _ h _ _ _ _ _ => hXn b h) (fun b u _ h => zU_u h) (by rw [hXn 49 (by decide)]) (by rw [hXn 49 (by decide)]) (by rw [hXn 49 (by decide)]; exact Int.le_refl _) ?_ ?_ ⟨RG_U rZ.1 (by omega) (by omega), RG_U rZ.2 (by omega) (by omega)⟩ ?_ ?_ ⟨by rw [k1, k2], fun j hj => by omega⟩ ?_ ?_
  · unfold gS; rw [zU_ab _ _ _ (show (1 : Nat) ≠ ta t by omega), hXn 49 (by decide)]; exact rS
  · unfold gU; rw [hXn 49 (by decide)]; exact rU
  · by_cases c : X 52 (oi X t) = 2
    · have hx9 : x = 9 := by rw [hx, if_pos c]
      refine TH_mk9 (by rw [zU_s, e60]) (by rw [e60]; exact hx9) (by rw [hXn 58 (by decide)]; omega) (by rw [hXn 52 (by decide)]; exact c) (by rw [hjk 7 (by decide), hXn 61 (by decide)]; exact b1) (by rw [hXn 61 (by decide), hXn 49 (by decide)]; exact hsv.symm) (by rw [hXn 61 (by decide), hXn 49 (by decide)]; exact b3) (by rw [hjk 6 (by decide)]; exact d1) (by rw [hXn 62 (by decide)]; exact d2) (by rw [hjk 9 (by decide)]; exact d3) (by rw [hXn 64 (by decide)]; exact d4) (by rw [hXn 65 (by decide)]; exact d5) (by rw [hXn 67 (by decide)]; exact d6)
    · have hx9 : x = 10 := by rw [hx, if_neg c]
      have h54' := h54 (by omega)
      refine TH_mk10 (by rw [zU_s, e60]) (by rw [e60]; exact hx9) (by rw [hXn 58 (by decide)]; omega) (by rw [hXn 52 (by decide)]; omega) (by rw [hXn 52 (by decide)]; omega) (by rw [hjk 7 (by decide), hXn 61 (by decide)]; exact b1) (by rw [hXn 61 (by decide), hXn 49 (by decide)]; exact hsv.symm) (by rw [hXn 61 (by decide), hXn 49 (by decide)]; exact b3) (by rw [hjk 6 (by decide), hXn 62 (by decide), d1, d2]) (by rw [hXn 62 (by decide)]; omega) (by rw [hXn 62 (by decide), hXn 54 (by decide)]; omega) (by rw [hjk 9 (by decide), hXn 64 (by decide), d3, d4]) (by rw [hXn 64 (by decide)]; omega) (by rw [hXn 64 (by decide), hXn 62 (by decide)]; omega) (by rw [hXn 65 (by decide)]; exact d5) (by rw [hXn 67 (by decide), hXn 64 (by decide), d6, d4]; split <;> rfl)
  · rw [hXn 61 (by decide)]
    intro _ _ u hu hut h5 c3 c4
    exact rD t u ht hu (fun q => hut q.symm) (by omega) h5 (by omega) (by omega) c3 c4
  · rw [e60]; intro c1 c2; exact absurd c2 (hrm c1)
  · intro q hq c1 c2
    have := ((rL q hq).2.2 c1).2.2.2.2.1
    rw [c2, Int.toNat_natCast] at this
    omega
end RN
