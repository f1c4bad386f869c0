/-! Leaves by RR_loc: CHECK and AWAIT. -/
theorem RR_mono {B B' nT : Nat} {ta : Nat → Nat} {oa : Nat → Nat → Nat} {J X : Mem} (hR : RR B nT ta oa J X) (h : B ≤ B') : RR B' nT ta oa J X := by
  obtain ⟨rS, rW, rT, rE, rN, rO, rH, rC, rQ, rP, rD, rK, rF, rR, rM, rA, rL, rB, ⟨u1, u2, u3, u4, u5⟩, rZ⟩ := hR
  exact ⟨rS, rW, rT, rE, rN, rO, rH, rC, rQ, rP, rD, rK, rF, rR, rM, rA, rL, rB, ⟨u1, by omega, u3, by omega, by omega⟩, rZ⟩
section RO
variable {B nT n t : Nat} {ta : Nat → Nat} {oa : Nat → Nat → Nat} {J X : Mem} {K : Nat → Option ZK} {P : Nat → Nat → Option Nat}
set_option maxHeartbeats 4000000 in
theorem L_9a (hs : SH K P n nT ta oa X) (hR : RR B nT ta oa J X) (ht : t < nT) (h58 : X 58 t = 2) (h60 : X 60 t = 9) : RR B nT ta oa (zU (zU J (ta t) 9 (-3)) (ta t) 5 14) (zU (zU X 65 t 1) 60 t 14) := by
  obtain ⟨f1, f2, f3, f4, f5⟩ := RR_t hR ht h58
  have t79 := (hs.2.2.2.2.1 t ht).2.2.1
  have hk0 := f2.2.1
  have hk5 := f2.2.2.1
  obtain ⟨g1, g2⟩ := TH_kd f3 hk0 hk5
  obtain ⟨d1, d2, d3, d4, d5, d6⟩ := TH_d7 f3 (by omega) (by omega)
  obtain ⟨b1, b2, b3⟩ := TH_d8 f3 (by omega) (by omega)
  have b4 := TH_d9 f3 (by omega) (by omega)
  have k2' := (TH_q f3).2 h60
  have hXn : ∀ b, b ≠ 60 → b ≠ 65 → (zU (zU X 65 t 1) 60 t 14) b = X b := fun b h h2 => by rw [zU_ab _ _ _ h, zU_ab _ _ _ h2]
  have hjk : ∀ k, k ≠ 5 → k ≠ 9 → (zU (zU J (ta t) 9 (-3)) (ta t) 5 14) (ta t) k = J (ta t) k := fun k h h2 => by rw [zU_k _ _ _ h, zU_k _ _ _ h2]
  have e60 : (zU (zU X 65 t 1) 60 t 14) 60 t = 14 := zU_s _ _ _ _
  have e65 : (zU (zU X 65 t 1) 60 t 14) 65 t = 1 := by rw [zU_ne (by decide), zU_s]
  have j9 : (zU (zU J (ta t) 9 (-3)) (ta t) 5 14) (ta t) 9 = -3 := by rw [zU_k _ _ _ (by decide), zU_s]
  have rS := hR.1
  have rU := hR.2.2.2.2.2.2.2.2.2.2.2.2.2.2.2.2.2.2.1
  have rZ := hR.2.2.2.2.2.2.2.2.2.2.2.2.2.2.2.2.2.2.2
  have rL := hR.2.2.2.2.2.2.2.2.2.2.2.2.2.2.2.2.1
  have rD := hR.2.2.2.2.2.2.2.2.2.2.1
  have x52 := hXn 52 (by decide) (by decide)
  refine RR_loc hs hR ht (by omega) (fun c h1 _ => by rw [zU_ab _ _ _ h1, zU_ab _ _ _ h1]) (fun k h1 _ _ h4 => hjk k h1 h4) (fun b _ h _ _ _ h6 _ => hXn b h h6) (fun b u _ h => by rw [zU_u h, zU_u h]) (by rw [hXn 49 (by decide) (by decide)]) (by rw [hXn 49 (by decide) (by decide)]) (by rw [hXn 49 (by decide) (by decide)]; exact Int.le_refl _) ?_ ?_ ⟨RG_U (RG_U rZ.1 (by omega) (by omega)) (by omega) (by omega), RG_U (RG_U rZ.2 (by omega) (by omega)) (by omega) (by omega)⟩ ?_ ?_ ⟨by rw [kc_0 (Or.inr (Or.inr (by rw [e60]; omega))), kc_0 (Or.inr (Or.inl (by omega)))], fun j hj => by rw [kc_0 (Or.inr (Or.inl (by omega)))] at hj; omega⟩ ?_ ?_
  · unfold gS; rw [zU_ab _ _ _ (show (1 : Nat) ≠ ta t by omega), zU_ab _ _ _ (show (1 : Nat) ≠ ta t by omega), hXn 49 (by decide) (by decide)]; exact rS
  · unfold gU; rw [hXn 49 (by decide) (by decide)]; exact rU
  · refine TH_mk14 (by rw [zU_s, e60]) e60 (by rw [hXn 58 (by decide) (by decide)]; omega) (by rw [x52]; omega) (by rw [x52]; omega) (by rw [hjk 7 (by decide) (by decide), hXn 61 (by decide) (by decide)]; exact b1) (by rw [hXn 61 (by decide) (by decide), hXn 49 (by decide) (by decide)]; exact b4) (by rw [hXn 61 (by decide) (by decide), hXn 49 (by decide) (by decide)]; exact b3) (by rw [j9, e65, if_neg (by decide)]) (by rw [hXn 64 (by decide) (by decide)]; omega) (by rw [hXn 64 (by decide) (by decide)]; omega)
  · rw [hXn 61 (by decide) (by decide)]
    intro _ _ u hu hut h5 c3 c4
    exact rD t u ht hu (fun q => hut q.symm) (by omega) h5 (by omega) (by omega) c3 c4
  · rw [e60]; intro c1 c2; omega
  · intro q hq c1 c2
    have := ((rL q hq).2.2 c1).2.2.2.2.1
    rw [c2, Int.toNat_natCast] at this
    omega
set_option maxHeartbeats 4000000 in
theorem L_9b (hs : SH K P n nT ta oa X) (hR : RR B nT ta oa J X) (ht : t < nT) (h58 : X 58 t = 2) (h60 : X 60 t = 9) (hrm : X 54 (oi X t) ≤ J (4 + 10 * (X 57 t).toNat + 4) 1 + J 44 1) : RR B nT ta oa (zU J (ta t) 5 10) (zU (zU X 65 t 0) 60 t 10) := by
  obtain ⟨f1, f2, f3, f4, f5⟩ := RR_t hR ht h58
  have t79 := (hs.2.2.2.2.1 t ht).2.2.1
  have hk0 := f2.2.1
  have hk5 := f2.2.2.1
  obtain ⟨g1, g2⟩ := TH_kd f3 hk0 hk5
  obtain ⟨d1, d2, d3, d4, d5, d6⟩ := TH_d7 f3 (by omega) (by omega)
  obtain ⟨b1, b2, b3⟩ := TH_d8 f3 (by omega) (by omega)
  have b4 := TH_d9 f3 (by omega) (by omega)
  have k2' := (TH_q f3).2 h60
  have h54 := f2.2.2.2.2.1 (by omega)
  have hXn : ∀ b, b ≠ 60 → b ≠ 65 → (zU (zU X 65 t 0) 60 t 10) b = X b := fun b h h2 => by rw [zU_ab _ _ _ h, zU_ab _ _ _ h2]
  have hjk : ∀ k, k ≠ 5 → (zU J (ta t) 5 10) (ta t) k = J (ta t) k := fun k h => zU_k _ _ _ h
  have e60 : (zU (zU X 65 t 0) 60 t 10) 60 t = 10 := zU_s _ _ _ _
  have e65 : (zU (zU X 65 t 0) 60 t 10) 65 t = 0 := by rw [zU_ne (by decide), zU_s]
  have rS := hR.1
  have rU := hR.2.2.2.2.2.2.2.2.2.2.2.2.2.2.2.2.2.2.1
  have rZ := hR.2.2.2.2.2.2.2.2.2.2.2.2.2.2.2.2.2.2.2
  have rL := hR.2.2.2.2.2.2.2.2.2.2.2.2.2.2.2.2.1
  have rD := hR.2.2.2.2.2.2.2.2.2.2.1
  have x52 := hXn 52 (by decide) (by decide)
  have eoi : oi (zU (zU X 65 t 0) 60 t 10) t = oi X t := oi_c (by rw [hXn 51 (by decide) (by decide)])
  refine RR_loc hs hR ht (by omega) (fun c h1 _ => zU_ab _ _ _ h1) (fun k h1 _ _ _ => hjk k h1) (fun b _ h _ _ _ h6 _ => hXn b h h6) (fun b u _ h => by rw [zU_u h, zU_u h]) (by rw [hXn 49 (by decide) (by decide)]) (by rw [hXn 49 (by decide) (by decide)]) (by rw [hXn 49 (by decide) (by decide)]; exact Int.le_refl _) ?_ ?_ ⟨RG_U rZ.1 (by omega) (by omega), RG_U (RG_U rZ.2 (by omega) (by omega)) (by omega) (by omega)⟩ ?_ ?_ ⟨by rw [kc_0 (Or.inl (by rw [eoi, x52]; omega)), kc_0 (Or.inr (Or.inl (by omega)))], fun j hj => by rw [kc_0 (Or.inr (Or.inl (by omega)))] at hj; omega⟩ ?_ ?_
  · unfold gS; rw [zU_ab _ _ _ (show (1 : Nat) ≠ ta t by omega), hXn 49 (by decide) (by decide)]; exact rS
  · unfold gU; rw [hXn 49 (by decide) (by decide)]; exact rU
  · refine TH_mk10 (by rw [zU_s, e60]) e60 (by rw [hXn 58 (by decide) (by decide)]; omega) (by rw [x52]; omega) (by rw [x52]; omega) (by rw [hjk 7 (by decide), hXn 61 (by decide) (by decide)]; exact b1) (by rw [hXn 61 (by decide) (by decide), hXn 49 (by decide) (by decide)]; exact b4) (by rw [hXn 61 (by decide) (by decide), hXn 49 (by decide) (by decide)]; exact b3) (by rw [hjk 6 (by decide), hXn 62 (by decide) (by decide), d1, d2]) (by rw [hXn 62 (by decide) (by decide)]; omega) (by rw [hXn 62 (by decide) (by decide), hXn 54 (by decide) (by decide)]; omega) (by rw [hjk 9 (by decide), hXn 64 (by decide) (by decide), d3, d4]) (by rw [hXn 64 (by decide) (by decide)]; omega) (by rw [hXn 64 (by decide) (by decide), hXn 62 (by decide) (by decide)]; omega) e65 (by rw [hXn 67 (by decide) (by decide), hXn 64 (by decide) (by decide), d6, d4]; split <;> rfl)
  · rw [hXn 61 (by decide) (by decide)]
    intro _ _ u hu hut h5 c3 c4
    exact rD t u ht hu (fun q => hut q.symm) (by omega) h5 (by omega) (by omega) c3 c4
  · intro c1 c2
    rw [hXn 62 (by decide) (by decide)]; omega
  · intro q hq c1 c2
    have := ((rL q hq).2.2 c1).2.2.2.2.1
    rw [c2, Int.toNat_natCast] at this
    omega
set_option maxHeartbeats 4000000 in
theorem L_12a (hs : SH K P n nT ta oa X) (hR : RR B nT ta oa J X) (ht : t < nT) (h58 : X 58 t = 2) (h60 : X 60 t = 12) : RR B nT ta oa J (zU X 62 t 0) := by
  obtain ⟨f1, f2, f3, f4, f5⟩ := RR_t hR ht h58
  have hk0 := f2.2.1
  have hk5 := f2.2.2.1
  obtain ⟨g1, g2⟩ := TH_kd f3 hk0 hk5
  obtain ⟨b1, b2, b3⟩ := TH_d8 f3 (by omega) (by omega)
  have b4 := TH_d9 f3 (by omega) (by omega)
  obtain ⟨⟨d1, d2, d3, d4, d5⟩, d6⟩ := TH_d1113 f3 (by omega) (by omega)
  have hXn : ∀ b, b ≠ 62 → (zU X 62 t 0) b = X b := fun b h => zU_ab _ _ _ h
  have rS := hR.1
  have rU := hR.2.2.2.2.2.2.2.2.2.2.2.2.2.2.2.2.2.2.1
  have rZ := hR.2.2.2.2.2.2.2.2.2.2.2.2.2.2.2.2.2.2.2
  have rL := hR.2.2.2.2.2.2.2.2.2.2.2.2.2.2.2.2.1
  have rD := hR.2.2.2.2.2.2.2.2.2.2.1
  have eoi : oi (zU X 62 t 0) t = oi X t := oi_c (by rw [hXn 51 (by decide)])
  have ekb : kb (zU X 62 t 0) t = kb X t := by unfold kb; rw [hXn 60 (by decide), if_neg (by omega), if_neg (by omega)]
  refine RR_loc hs hR ht (by omega) (fun c _ _ => rfl) (fun k _ _ _ _ => rfl) (fun b _ _ _ h _ _ _ => hXn b h) (fun b u _ h => zU_u h) (by rw [hXn 49 (by decide)]) (by rw [hXn 49 (by decide)]) (by rw [hXn 49 (by decide)]; exact Int.le_refl _) ?_ ?_ ⟨rZ.1, RG_U rZ.2 (by omega) (by omega)⟩ ?_ ?_ ⟨?_, fun j hj => ?_⟩ ?_ ?_
  · unfold gS; rw [hXn 49 (by decide)]; exact rS
  · unfold gU; rw [hXn 49 (by decide)]; exact rU
  · refine TH_mk11 (by rw [hXn 60 (by decide)]; exact g1) (by rw [hXn 60 (by decide)]; exact Or.inr h60) (by rw [hXn 58 (by decide)]; omega) (by rw [hXn 52 (by decide)]; omega) (by rw [hXn 52 (by decide)]; omega) (by rw [hXn 61 (by decide)]; exact b1) (by rw [hXn 61 (by decide), hXn 49 (by decide)]; exact b4) (by rw [hXn 61 (by decide), hXn 49 (by decide)]; exact b3) (by rw [hXn 60 (by decide)]; intro q; omega) (by rw [hXn 64 (by decide)]; exact d1) (by rw [hXn 64 (by decide)]; exact d2) (by rw [hXn 64 (by decide)]; exact d3) (by rw [hXn 65 (by decide)]; exact d4) (by rw [hXn 52 (by decide), hXn 67 (by decide), hXn 64 (by decide)]; exact d5)
  · rw [hXn 60 (by decide), hXn 61 (by decide)]
    intro _ _ u hu hut h5 c3 c4
    exact rD t u ht hu (fun q => hut q.symm) (by omega) h5 (by omega) (by omega) c3 c4
  · unfold kc; rw [ekb, eoi, hXn 52 (by decide), hXn 58 (by decide), hXn 60 (by decide), hXn 67 (by decide)]
  · unfold kf; rw [ekb, hXn 66 (by decide)]
  · rw [hXn 60 (by decide)]; intro c1 c2; omega
  · intro q hq c1 c2
    rw [hXn 60 (by decide)]
    exact ⟨Or.inr h60, fun w => by omega⟩
set_option maxHeartbeats 4000000 in
theorem L_12b {x : Int} (hs : SH K P n nT ta oa X) (hR : RR B nT ta oa J X) (ht : t < nT) (h58 : X 58 t = 2) (h60 : X 60 t = 12) (h63 : X 63 t = 0) (hx : x = (if X 52 (oi X t) = 3 then 13 else 14)) : RR B nT ta oa (zU J (ta t) 5 x) (zU (zU X 62 t 0) 60 t x) := by
  obtain ⟨f1, f2, f3, f4, f5⟩ := RR_t hR ht h58
  have t79 := (hs.2.2.2.2.1 t ht).2.2.1
  have hk0 := f2.2.1
  have hk5 := f2.2.2.1
  obtain ⟨g1, g2⟩ := TH_kd f3 hk0 hk5
  obtain ⟨b1, b2, b3⟩ := TH_d8 f3 (by omega) (by omega)
  have b4 := TH_d9 f3 (by omega) (by omega)
  obtain ⟨⟨d1, d2, d3, d4, d5⟩, d6⟩ := TH_d1113 f3 (by omega) (by omega)
  have hx1 : x = 13 ∨ x = 14 := by rw [hx]; split <;> omega
  have hXn : ∀ b, b ≠ 60 → b ≠ 62 → (zU (zU X 62 t 0) 60 t x) b = X b := fun b h h2 => by rw [zU_ab _ _ _ h, zU_ab _ _ _ h2]
  have hjk : ∀ k, k ≠ 5 → zU J (ta t) 5 x (ta t) k = J (ta t) k := fun k h => zU_k _ _ _ h
  have e60 : (zU (zU X 62 t 0) 60 t x) 60 t = x := zU_s _ _ _ _
  have e62 : (zU (zU X 62 t 0) 60 t x) 62 t = 0 := by rw [zU_ne (by decide), zU_s]
  have rS := hR.1
  have rU := hR.2.2.2.2.2.2.2.2.2.2.2.2.2.2.2.2.2.2.1
  have rZ := hR.2.2.2.2.2.2.2.2.2.2.2.2.2.2.2.2.2.2.2
  have rL := hR.2.2.2.2.2.2.2.2.2.2.2.2.2.2.2.2.1
  have rA := hR.2.2.2.2.2.2.2.2.2.2.2.2.2.2.2.1
  have rD := hR.2.2.2.2.2.2.2.2.2.2.1
  have eoi : oi (zU (zU X 62 t 0) 60 t x) t = oi X t := oi_c (by rw [hXn 51 (by decide) (by decide)])
  have x52 := hXn 52 (by decide) (by decide)
  have kb1 : kb (zU (zU X 62 t 0) 60 t x) t = 0 := by unfold kb; rw [e60, e62]; split <;> rfl
  have kb2 : kb X t = 0 := by unfold kb; rw [if_neg (by omega)]
  have hkc : kc (zU (zU X 62 t 0) 60 t x) t = kc X t := by
    by_cases c : X 52 (oi X t) = 3
    · have : x = 13 := by rw [hx, if_pos c]
      rw [kc_1 (by rw [hXn 58 (by decide) (by decide)]; omega) (by rw [eoi, x52]; exact c) (by rw [e60]; omega) (by rw [e60]; omega), kc_1 (by omega) c (by omega) (by omega), kb1, kb2, hXn 67 (by decide) (by decide)]
    · rw [kc_0 (Or.inl (by rw [eoi, x52]; exact c)), kc_0 (Or.inl c)]
  have hno : ∀ q, q < 4 → ¬ oal X t q := oal_0 4 (by have := (rA t ht).2; omega)
  refine RR_loc hs hR ht (by omega) (fun c h1 _ => zU_ab _ _ _ h1) (fun k h1 _ _ _ => hjk k h1) (fun b _ h _ h4 _ _ _ => hXn b h h4) (fun b u _ h => by rw [zU_u h, zU_u h]) (by rw [hXn 49 (by decide) (by decide)]) (by rw [hXn 49 (by decide) (by decide)]) (by rw [hXn 49 (by decide) (by decide)]; exact Int.le_refl _) ?_ ?_ ⟨RG_U rZ.1 (by omega) (by omega), RG_U (RG_U rZ.2 (by omega) (by omega)) (by omega) (by omega)⟩ ?_ ?_ ⟨hkc, fun j hj => ?_⟩ ?_ ?_
  · unfold gS; rw [zU_ab _ _ _ (show (1 : Nat) ≠ ta t by omega), hXn 49 (by decide) (by decide)]; exact rS
  · unfold gU; rw [hXn 49 (by decide) (by decide)]; exact rU
  · by_cases c : X 52 (oi X t) = 3
    · have hx9 : x = 13 := by rw [hx, if_pos c]
      have d7 := d5 c
      refine TH_mk13 (by rw [zU_s, e60]) (by rw [e60]; exact hx9) (by rw [hXn 58 (by decide) (by decide)]; omega) (by rw [x52]; exact c) (by rw [hjk 7 (by decide), hXn 61 (by decide) (by decide)]; exact b1) (by rw [hXn 61 (by decide) (by decide), hXn 49 (by decide) (by decide)]; exact b4) (by rw [hXn 61 (by decide) (by decide), hXn 49 (by decide) (by decide)]; exact b3) (by rw [e62]; exact Int.le_refl _) (by rw [e62, hXn 67 (by decide) (by decide)]; omega) (by rw [hjk 9 (by decide), hXn 64 (by decide) (by decide)]; exact d1) (by rw [hXn 64 (by decide) (by decide)]; exact d2) (by rw [hXn 64 (by decide) (by decide)]; exact d3) (by rw [hXn 65 (by decide) (by decide)]; exact d4) (by rw [hXn 67 (by decide) (by decide), hXn 64 (by decide) (by decide)]; exact d7)
    · have hx9 : x = 14 := by rw [hx, if_neg c]
      refine TH_mk14 (by rw [zU_s, e60]) (by rw [e60]; exact hx9) (by rw [hXn 58 (by decide) (by decide)]; omega) (by rw [x52]; omega) (by rw [x52]; omega) (by rw [hjk 7 (by decide), hXn 61 (by decide) (by decide)]; exact b1) (by rw [hXn 61 (by decide) (by decide), hXn 49 (by decide) (by decide)]; exact b4) (by rw [hXn 61 (by decide) (by decide), hXn 49 (by decide) (by decide)]; exact b3) (by rw [hjk 9 (by decide), hXn 65 (by decide) (by decide), hXn 64 (by decide) (by decide), d4, if_pos rfl]; exact d1) (by rw [hXn 64 (by decide) (by decide)]; omega) (by rw [hXn 64 (by decide) (by decide)]; exact d3)
  · rw [hXn 61 (by decide) (by decide)]
    intro _ _ u hu hut h5 c3 c4
    exact rD t u ht hu (fun q => hut q.symm) (by omega) h5 (by omega) (by omega) c3 c4
  · unfold kf; rw [kb1, kb2, hXn 66 (by decide) (by decide)]
  · rw [e60]; intro c1 c2; omega
  · intro q hq c1 c2
    exact absurd ⟨c1, c2⟩ (hno q hq)
end RO
