/-! Finishing and taking, as steps of the whole relation. -/
theorem zfp_c {k : Int} (h0 : 0 ≤ k) (h5 : k ≤ 5) : (k = 5 ∧ zfp k = 15) ∨ (k ≤ 1 ∧ zfp k = 4) ∨ (2 ≤ k ∧ k ≤ 4 ∧ zfp k = 7) := by
  unfold zfp
  by_cases c : k = 5
  · rw [if_pos c]; exact Or.inl ⟨c, rfl⟩
  · by_cases c2 : k ≤ 1
    · rw [if_neg c, if_pos (by omega)]; exact Or.inr (Or.inl ⟨c2, rfl⟩)
    · rw [if_neg c, if_neg (by omega)]; exact Or.inr (Or.inr ⟨by omega, by omega, rfl⟩)
theorem TH_new {J X : Mem} {a t i : Nat} (h5 : J a 5 = X 60 t) (h60 : X 60 t = zfp (X 52 i)) (k0 : 0 ≤ X 52 i) (k5 : X 52 i ≤ 5) (z1 : J a 6 = 0) (z2 : X 62 t = 0) (z3 : J a 9 = 0) (z4 : X 64 t = 0) (z5 : X 65 t = 0) (z6 : X 67 t = 0) : TH J X a t i := by
  rcases zfp_c k0 k5 with ⟨c1, c2⟩ | ⟨c1, c2⟩ | ⟨c1, c3, c2⟩
  · exact TH_mk15 h5 (by omega) c1 z3
  · exact TH_mk4 h5 (by omega) (by omega) k0 c1 (fun _ => by omega) (fun h => by omega)
  · exact TH_mk7 h5 (by omega) c1 c3 z1 z2 z3 z4 z5 z6
theorem TT_new {nT t : Nat} {ta : Nat → Nat} {J X : Mem} (h58 : ¬ X 58 t = 0) (h51 : X 51 t < X 50 t) (h5 : J (ta t) 5 = X 60 t) (h60 : X 60 t = zfp (X 52 (oi X t))) (k0 : 0 ≤ X 52 (oi X t)) (k5 : X 52 (oi X t) ≤ 5) (z1 : J (ta t) 6 = 0) (z2 : X 62 t = 0) (z3 : J (ta t) 9 = 0) (z4 : X 64 t = 0) (z5 : X 65 t = 0) (z6 : X 67 t = 0) (hnm : ∀ q : Nat, q < 4 → X 77 q = 1 → X 78 q = t → False) : TT nT t ta J X := by
  have hz := zfp_c k0 k5
  refine ⟨⟨⟨fun h => absurd h h58, fun h => by omega⟩, fun h => absurd h h58⟩, fun _ => TH_new h5 h60 k0 k5 z1 z2 z3 z4 z5 z6, fun _ a b => by omega, fun _ a => by omega, fun q hq a b => (hnm q hq a b).elim⟩
section SH2
variable {B nT n t : Nat} {ta : Nat → Nat} {oa : Nat → Nat → Nat} {J J' X X' : Mem} {K : Nat → Option ZK} {P : Nat → Nat → Option Nat}
theorem SH_c (hs : SH K P n nT ta oa X) (h : X' 50 = X 50) : SH K P n nT ta oa X' := by
  unfold SH; rw [h]; exact hs
/-- the next order begins -/
theorem S_begin {x : Int} (hs : SH K P n nT ta oa X) (hR : RF B nT t ta oa J X) (ht : t < nT) (h63 : X 63 t = 0) (hph : X 60 t < 10 ∨ 13 < X 60 t) (hx : x < 10 ∨ x = 15) (hx0 : 0 ≤ x) : RF B nT t ta oa (zU (zU (zU J (ta t) 9 0) (ta t) 5 x) (ta t) 6 0) (beJ X t x) ∧ ((zU (zU (zU J (ta t) 9 0) (ta t) 5 x) (ta t) 6 0) (ta t) 5 = x ∧ (zU (zU (zU J (ta t) 9 0) (ta t) 5 x) (ta t) 6 0) (ta t) 6 = 0 ∧ (zU (zU (zU J (ta t) 9 0) (ta t) 5 x) (ta t) 6 0) (ta t) 9 = 0) ∧ beJ X t x 60 t = x ∧ beJ X t x 62 t = 0 ∧ beJ X t x 64 t = 0 ∧ beJ X t x 65 t = 0 ∧ beJ X t x 67 t = 0 ∧ ∀ b, ¬ (b = 60 ∨ b = 61 ∨ b = 62 ∨ b = 64 ∨ b = 65 ∨ b = 67) → beJ X t x b = X b := by
  have rZ := hR.2.2.2.2.2.2.2.2.2.2.2.2.2.2.2.2.2.2.2
  have e60 : beJ X t x 60 t = x := by unfold beJ; rw [zU_ne (by decide), zU_ne (by decide), zU_ne (by decide), zU_ne (by decide), zU_ne (by decide), zU_s]
  have e62 : beJ X t x 62 t = 0 := by unfold beJ; rw [zU_ne (by decide), zU_ne (by decide), zU_ne (by decide), zU_ne (by decide), zU_s]
  have e64 : beJ X t x 64 t = 0 := by unfold beJ; rw [zU_ne (by decide), zU_ne (by decide), zU_s]
  have e67 : beJ X t x 67 t = 0 := by unfold beJ; rw [zU_ne (by decide), zU_s]
  have e65 : beJ X t x 65 t = 0 := by unfold beJ; rw [zU_s]
  have hXb : ∀ b, ¬ (b = 60 ∨ b = 61 ∨ b = 62 ∨ b = 64 ∨ b = 65 ∨ b = 67) → beJ X t x b = X b := fun b h => by
    unfold beJ
    rw [zU_ab _ _ _ (by omega), zU_ab _ _ _ (by omega), zU_ab _ _ _ (by omega)]
    by_cases e : b = 63
    · subst e
      funext k
      by_cases ek : k = t
      · subst ek; rw [zU_s, h63]
      · rw [zU_k _ _ _ ek, zU_ne (by decide), zU_ne (by decide)]
    · rw [zU_ab _ _ _ e, zU_ab _ _ _ (by omega), zU_ab _ _ _ (by omega)]
  have hXu : ∀ b u, u ≠ t → beJ X t x b u = X b u := fun b u h => by
    unfold beJ; rw [zU_u h, zU_u h, zU_u h, zU_u h, zU_u h, zU_u h]
  have hRX : RG (beJ X t x) := RG_U (RG_U (RG_U (RG_U (RG_U (RG_U rZ.2 (by omega) (by omega)) (by omega) (by omega)) (by omega) (by omega)) (by omega) (by omega)) (by omega) (by omega)) (by omega) (by omega)
  have k1 : kc (beJ X t x) t = 0 := kc_0 (by rw [e60]; omega)
  have k2 : kc X t = 0 := kc_0 (by omega)
  refine ⟨RF_loc hs hR ht (fun c h => by rw [zU_ab _ _ _ h, zU_ab _ _ _ h, zU_ab _ _ _ h]) (fun k h1 h2 h3 h4 => by rw [zU_k _ _ _ h2, zU_k _ _ _ h1, zU_k _ _ _ h4]) hXb hXu ⟨RG_U (RG_U (RG_U rZ.1 (by omega) (by omega)) (by omega) (by omega)) (by omega) (by omega), hRX⟩ ⟨by rw [k1, k2], fun j hj => by omega⟩, ⟨?_, ?_, ?_⟩, e60, e62, e64, e65, e67, hXb⟩
  · rw [zU_k _ _ _ (by decide), zU_s]
  · rw [zU_s]
  · rw [zU_k _ _ _ (by decide), zU_k _ _ _ (by decide), zU_s]
set_option maxHeartbeats 1000000 in
/-- what is common to the three ways in which an order ends -/
theorem L_fin {dn p q : Nat} {v : Int} (hs : SH K P n nT ta oa X) (hR : RF B nT t ta oa J X) (ht : t < nT) (hB : B < 100000) (h58 : X 58 t = 2) (hp : p < 4) (h57 : X 57 t = p) (hq : q < 4) (h51 : X 51 t = dn) (hdn : (dn : Int) < X 50 t) (hv : J (ta t) 9 = v) (hph : X 60 t < 10 ∨ 13 < X 60 t) (h63 : X 63 t = 0) (hnm : ∀ q : Nat, q < 4 → X 77 q = 1 → X 78 q = t → False) (hql : J (4 + 10 * q + 8) 1 ≤ 8) :
    ((dn : Int) + 1 < X 50 t → (0 ≤ X 52 (10 * t + (dn + 1)) ∧ X 52 (10 * t + (dn + 1)) ≤ 5 ∧ J (oa t (dn + 1)) 0 = X 52 (10 * t + (dn + 1))) ∧ RR B nT ta oa (fbJ J (ta t) (oa t dn) (zfp (X 52 (10 * t + (dn + 1))))) (beJ (zU (zU X 56 (10 * t + dn) v) 51 t (dn + 1)) t (zfp (X 52 (10 * t + (dn + 1)))))
      ∧ RR (B + 1) nT ta oa (adJ (fhJ (fbJ J (ta t) (oa t dn) (zfp (X 52 (10 * t + (dn + 1))))) (ta t) (4 + 10 * p) q) (4 + 10 * q + 8) t) (beJ (awJ (zU (zU X 56 (10 * t + dn) v) 51 t (dn + 1)) t q 1) t (zfp (X 52 (10 * t + (dn + 1))))))
    ∧ (¬ (dn : Int) + 1 < X 50 t → RR (B + 1) nT ta oa (fhJ (fnJ J (ta t) (oa t dn)) (ta t) (4 + 10 * p) q) (awJ (zU (zU X 56 (10 * t + dn) v) 51 t (dn + 1)) t q 0)) := by
  have hF := S_fin hs hR ht h51 hdn hv hph
  have t79 := (hs.2.2.2.2.1 t ht).2.2.1
  have o79 := (hs.2.2.2.2.2.2.1 t ht dn hdn).2.2.1
  have oto := hs.2.2.2.2.2.2.2.1 t ht dn hdn t ht
  have hX1 : ∀ b, ¬ (b = 56 ∨ b = 51) → zU (zU X 56 (10 * t + dn) v) 51 t (dn + 1) b = X b := fun b h => by rw [zU_ab _ _ _ (by omega), zU_ab _ _ _ (by omega)]
  have x51 : zU (zU X 56 (10 * t + dn) v) 51 t (dn + 1) 51 t = dn + 1 := zU_s _ _ _ _
  have hq1 : fnJ J (ta t) (oa t dn) (4 + 10 * q + 8) 1 ≤ 8 := by unfold fnJ; rw [zU_ne (by omega), zU_ne (by omega)]; exact hql
  have hR0 := hR
  obtain ⟨rS, rW, rT, rE, rN, rO, rH, rC, rQ, rP, rD, rK, rF, rR, rM, rA, rL, rB, rU, rZ⟩ := hR
  generalize hX' : zU (zU X 56 (10 * t + dn) v) 51 t (dn + 1) = X1 at *
  have hs1 : SH K P n nT ta oa X1 := SH_c hs (hX1 50 (by omega))
  have hoi : oi X1 t = 10 * t + (dn + 1) := by unfold oi; rw [x51]; omega
  refine ⟨fun c1 => ?_, fun c1 => ?_⟩
  · have hOR := (rO t ht (dn + 1) (by omega)).1
    have k0 := hOR.2.1
    have k5 := hOR.2.2.1
    have hz := zfp_c k0 k5
    obtain ⟨b1, ⟨b2, b3, b4⟩, b5, b6, b7, b8, b9, b10⟩ := S_begin (x := zfp (X 52 (10 * t + (dn + 1)))) hs1 hF ht (by rw [hX1 63 (by omega)]; exact h63) (by rw [hX1 60 (by omega)]; exact hph) (by omega) (by omega)
    have eJ : zU (zU (zU (fnJ J (ta t) (oa t dn)) (ta t) 9 0) (ta t) 5 (zfp (X 52 (10 * t + (dn + 1))))) (ta t) 6 0 = fbJ J (ta t) (oa t dn) (zfp (X 52 (10 * t + (dn + 1)))) := rfl
    rw [eJ] at b1 b2 b3 b4
    have hoi2 : oi (beJ X1 t (zfp (X 52 (10 * t + (dn + 1))))) t = 10 * t + (dn + 1) := by rw [oi_c (by rw [b10 51 (by omega)]), hoi]
    refine ⟨⟨k0, k5, hOR.1⟩, RR_of b1 ht ?_, ?_⟩
    · refine TT_new ?_ ?_ (by rw [b2, b5]) ?_ ?_ ?_ b3 b6 b4 b7 b8 b9 ?_
      · rw [b10 58 (by omega), hX1 58 (by omega)]; omega
      · rw [b10 51 (by omega), b10 50 (by omega), hX1 50 (by omega), x51]; omega
      · rw [b5, hoi2, b10 52 (by omega), hX1 52 (by omega)]
      · rw [hoi2, b10 52 (by omega), hX1 52 (by omega)]; exact k0
      · rw [hoi2, b10 52 (by omega), hX1 52 (by omega)]; exact k5
      · rw [b10 77 (by omega), b10 78 (by omega), hX1 77 (by omega), hX1 78 (by omega)]; exact hnm
    · rw [be_aw]
      have hs2 : SH K P n nT ta oa (beJ X1 t (zfp (X 52 (10 * t + (dn + 1))))) := SH_c hs1 (b10 50 (by omega))
      have hA := S_away1 (p := p) (q := q) hs2 b1 ht hB (by rw [b10 58 (by omega), hX1 58 (by omega)]; exact h58) hp (by rw [b10 57 (by omega), hX1 57 (by omega)]; exact h57) hq (by rw [b5]; omega) (by unfold fbJ; rw [zU_ne (by omega), zU_ne (by omega), zU_ne (by omega)]; exact hq1)
      refine RR_of hA ht ?_
      generalize hY : beJ X1 t (zfp (X 52 (10 * t + (dn + 1)))) = Y at *
      generalize hZ : fbJ J (ta t) (oa t dn) (zfp (X 52 (10 * t + (dn + 1)))) = Z at *
      have hYb : ∀ b, ¬ (b = 57 ∨ b = 58 ∨ b = 49 ∨ b = 59) → awJ Y t q 1 b = Y b := fun b h => by
        unfold awJ; rw [zU_ab _ _ _ (by omega), zU_ab _ _ _ (by omega), zU_ab _ _ _ (by omega), zU_ab _ _ _ (by omega)]
      have y58 : awJ Y t q 1 58 t = 1 := by unfold awJ; rw [zU_ne (by decide), zU_ne (by decide), zU_s]
      have hZt : ∀ k, k ≠ 4 → adJ (fhJ Z (ta t) (4 + 10 * p) q) (4 + 10 * q + 8) t (ta t) k = Z (ta t) k := fun k h => by
        rw [adJ_ne (by omega) (by omega)]; unfold fhJ; rw [zU_k _ _ _ h, zU_ne (by omega)]
      have hoi3 : oi (awJ Y t q 1) t = 10 * t + (dn + 1) := by rw [oi_c (by rw [hYb 51 (by omega)]), hoi2]
      refine TT_new ?_ ?_ ?_ ?_ ?_ ?_ ?_ ?_ ?_ ?_ ?_ ?_ ?_
      · rw [y58]; omega
      · rw [hYb 51 (by omega), hYb 50 (by omega), b10 51 (by omega), b10 50 (by omega), hX1 50 (by omega), x51]; omega
      · rw [hZt 5 (by decide), hYb 60 (by omega), b2, b5]
      · rw [hYb 60 (by omega), b5, hoi3, hYb 52 (by omega), b10 52 (by omega), hX1 52 (by omega)]
      · rw [hoi3, hYb 52 (by omega), b10 52 (by omega), hX1 52 (by omega)]; exact k0
      · rw [hoi3, hYb 52 (by omega), b10 52 (by omega), hX1 52 (by omega)]; exact k5
      · rw [hZt 6 (by decide)]; exact b3
      · rw [hYb 62 (by omega)]; exact b6
      · rw [hZt 9 (by decide)]; exact b4
      · rw [hYb 64 (by omega)]; exact b7
      · rw [hYb 65 (by omega)]; exact b8
      · rw [hYb 67 (by omega)]; exact b9
      · rw [hYb 77 (by omega), hYb 78 (by omega), b10 77 (by omega), b10 78 (by omega), hX1 77 (by omega), hX1 78 (by omega)]; exact hnm
  · have hn5 := rN t ht
    have hA := S_away0 (p := p) (q := q) hs1 hF ht hB (by rw [hX1 58 (by omega)]; exact h58) hp (by rw [hX1 57 (by omega)]; exact h57) hq (by rw [hX1 60 (by omega)]; exact hph) hq1
    refine RR_of hA ht ?_
    have hYb : ∀ b, ¬ (b = 57 ∨ b = 58 ∨ b = 49 ∨ b = 59) → awJ X1 t q 0 b = X1 b := fun b h => by
      unfold awJ; rw [zU_ab _ _ _ (by omega), zU_ab _ _ _ (by omega), zU_ab _ _ _ (by omega), zU_ab _ _ _ (by omega)]
    have y58 : awJ X1 t q 0 58 t = 0 := by unfold awJ; rw [zU_ne (by decide), zU_ne (by decide), zU_s]
    have y57 : awJ X1 t q 0 57 t = q := by unfold awJ; rw [zU_ne (by decide), zU_ne (by decide), zU_ne (by decide), zU_s]
    have j4 : fhJ (fnJ J (ta t) (oa t dn)) (ta t) (4 + 10 * p) q (ta t) 4 = q := by unfold fhJ; rw [zU_s]
    refine ⟨⟨⟨fun _ => ?_, fun _ => y58⟩, fun _ => by rw [j4, y57]⟩, fun h => absurd y58 h, fun h => absurd y58 h, fun h => absurd y58 h, fun i hi a b => ?_⟩
    · rw [hYb 51 (by omega), hYb 50 (by omega), x51, hX1 50 (by omega)]; omega
    · rw [hYb 77 (by omega), hX1 77 (by omega)] at a
      rw [hYb 78 (by omega), hX1 78 (by omega)] at b
      exact (hnm i hi a b).elim
set_option maxHeartbeats 1000000 in
theorem L_take {p b : Nat} {J0 : Mem} (hs : SH K P n nT ta oa X) (hR0 : RR B nT ta oa J X) (ht : t < nT) (h58 : X 58 t = 1) (hp : p < 4) (hb : b < 4) (h5 : J (4 + 10 * p) 5 = -1) (hJ0 : ∀ c, ¬ (c = 4 + 10 * b + 8 ∨ c = 4 + 10 * b + 8 + 1) → J0 c = J c) (hG0 : RG J0) (hl : SL (ln J0 (4 + 10 * b + 8)) nT (fun i => qal X b i ∧ (i : Int) ≠ t) (X 59)) (hl0 : 0 ≤ J0 (4 + 10 * b + 8) 1) (h57 : X 57 t = b) : RR B nT ta oa (zU J0 (4 + 10 * p) 5 t) (zU (zU X 58 t 2) 57 t p) := by
  obtain ⟨hR, hT⟩ := RF_of hR0 ht
  obtain ⟨T1, T2, T3, T4, T5⟩ := hT
  have hTH := T2 (by omega)
  have h60 := (TH_q hTH).1 h58
  obtain ⟨rS, rW, rT, rE, rN, rO, rH, rC, rQ, rP, rD, rK, rF, rR, rM, rA, rL, rB, rU, rZ⟩ := hR
  have hN := rN t ht
  have hlt : X 51 t < X 50 t := by
    have : ¬ X 51 t = X 50 t := fun q => by have := T1.1.mpr q; omega
    clear T1; omega
  have hOR := (rO t ht (X 51 t).toNat (by clear T1; omega)).1
  have hoi0 : 10 * t + (X 51 t).toNat = oi X t := rfl
  rw [hoi0] at hOR
  have hz := zfp_c hOR.2.1 hOR.2.2.1
  obtain ⟨s1, s2, s3, s4, s5, s6, s7, s8, s9⟩ := hs
  have t79 := (s5 t ht).2.2.1
  have hRG : gZ (zU J0 (4 + 10 * p) 5 t) (zU (zU X 58 t 2) 57 t p) := ⟨RG_U hG0 (by omega) (by omega), RG_U (RG_U rZ.2 (by omega) (by omega)) (by omega) (by omega)⟩
  have hJ : ∀ c, ¬ (c = 4 + 10 * p ∨ c = 4 + 10 * b + 8 ∨ c = 4 + 10 * b + 8 + 1) → zU J0 (4 + 10 * p) 5 t c = J c := fun c h => by rw [zU_ab _ _ _ (by omega), hJ0 c (by omega)]
  have jb1 : zU J0 (4 + 10 * p) 5 t (4 + 10 * b + 8) = J0 (4 + 10 * b + 8) := zU_ab _ _ _ (by omega)
  have jb2 : zU J0 (4 + 10 * p) 5 t (4 + 10 * b + 8 + 1) = J0 (4 + 10 * b + 8 + 1) := zU_ab _ _ _ (by omega)
  have jp5 : zU J0 (4 + 10 * p) 5 t (4 + 10 * p) 5 = t := zU_s _ _ _ _
  have jpk : ∀ k, k ≠ 5 → zU J0 (4 + 10 * p) 5 t (4 + 10 * p) k = J (4 + 10 * p) k := fun k h => by rw [zU_k _ _ _ h, hJ0 _ (by omega)]
  have hX : ∀ b, ¬ (b = 57 ∨ b = 58) → (zU (zU X 58 t 2) 57 t p) b = X b := fun b h => by rw [zU_ab _ _ _ (by omega), zU_ab _ _ _ (by omega)]
  have hXu : ∀ b u, u ≠ t → (zU (zU X 58 t 2) 57 t p) b u = X b u := fun b u h => by rw [zU_u h, zU_u h]
  have x57 : (zU (zU X 58 t 2) 57 t p) 57 t = p := zU_s _ _ _ _
  have x58 : (zU (zU X 58 t 2) 57 t p) 58 t = 2 := by rw [zU_ne (by decide), zU_s]
  generalize (zU (zU X 58 t 2) 57 t p) = X' at *
  generalize zU J0 (4 + 10 * p) 5 t = J' at *
  have hta : ∀ u, u < nT → J' (ta u) = J (ta u) := fun u hu => hJ _ (by have := (s5 u hu).2.2.1; omega)
  have h9 : ∀ k, k < 100 → X' 49 k = X 49 k := fun k _ => by rw [hX 49 (by decide)]
  have h11 : X 49 11 ≤ X' 49 11 := by rw [h9 11 (by decide)]; exact Int.le_refl _
  have h20 : X 49 20 ≤ X' 49 20 := by rw [h9 20 (by decide)]; exact Int.le_refl _
  have h21 := h9 21 (by decide)
  have hkt : kc X t = 0 := kc_0 (by omega)
  have hkt' : kc X' t = 0 := kc_0 (by rw [hX 60 (by decide)]; omega)
  have hkcf : ∀ u, u < nT → kc X' u = kc X u ∧ ∀ j : Nat, (j : Int) < kc X u → kf X' u j = kf X u j := fun u hu => by
    by_cases e : u = t
    · subst e; exact ⟨by rw [hkt, hkt'], fun j hj => by omega⟩
    · exact kcf_c (hXu 58 u e) (by rw [hX 51 (by decide)]) (hX 52 (by decide)) (by rw [hX 60 (by decide)]) (by rw [hX 62 (by decide)]) (hX 66 (by decide)) (by rw [hX 67 (by decide)])
  have hoi : oi X' t = oi X t := oi_c (by rw [hX 51 (by decide)])
  refine RR_of (t := t) ⟨gS_c rS (by rw [hJ 1 (by omega)]) (by rw [hJ 1 (by omega)]) (by rw [hJ 1 (by omega)]) (by rw [hJ 1 (by omega)]) (h9 0 (by omega)) (h9 20 (by omega)) (h9 21 (by omega)) (h9 33 (by omega)), gW_c rW (hJ 46 (by omega)) (hX 71 (by omega)), gT_c rT (hJ 47 (by omega)) (hX 68 (by omega)) (hX 69 (by omega)), gE_c rE (hJ 48 (by omega)) (hX 70 (by omega)), gN_c rN (fun u hu => by rw [hta u hu]; exact ⟨rfl, rfl, rfl⟩) (hX 50 (by omega)) (hX 51 (by omega)), gO_c rO (fun u hu k hk => hJ _ (by have := (s7 u hu k hk).2.2.1; have := s8 u hu k hk t ht; omega)) (hX 50 (by omega)) (hX 51 (by omega)) (hX 52 (by omega)) (hX 53 (by omega)) (hX 54 (by omega)) (hX 55 (by omega)) (hX 56 (by omega)), ?_, ?_, ?_, ?_, ?_, gK_c rK (fun u hu => ⟨by rw [hJ (ta u + 2) (by have := (s5 u hu).2.2.1; omega)], hJ (ta u + 2 + 1) (by have := (s5 u hu).2.2.1; omega)⟩) hkcf, gF_c rF (hX 68 (by omega)) (hX 75 (by omega)) (hX 76 (by omega)) h11 hkcf, gR_c rR (fun p hp => ⟨hJ _ (by omega), hJ _ (by omega)⟩) (hJ 44 (by omega)) (hJ 45 (by omega)) (hX 75 (by omega)) (hX 76 (by omega)), ?_, gA_c rA (fun u hu => by rw [hta u hu]) (hX 63 (by omega)) (hX 77 (by omega)) (hX 78 (by omega)), ?_, gB_c rB (fun p hp => ⟨hJ _ (by omega), hJ _ (by omega), hJ _ (by omega)⟩) (hX 72 (by omega)) (hX 73 (by omega)) (hX 74 (by omega)) h11, gU_c rU (h9 33 (by omega)) (h9 11 (by omega)) (h9 20 (by omega)), hRG⟩ ht ⟨⟨⟨fun h => by omega, fun h => ?_⟩, fun h => by omega⟩, fun _ => ?_, fun _ a c => ?_, fun _ a => ?_, fun q hq a c => ?_⟩
  · intro u hu
    obtain ⟨a, b, c, d⟩ := rH u hu
    by_cases e : u = t
    · subst e; rw [x57, x58]; exact ⟨Or.inr (Or.inr rfl), by omega, by omega, fun h => absurd rfl h⟩
    · rw [hXu 57 u e, hXu 58 u e, hta u hu, hX 50 (by decide), hX 51 (by decide)]
      exact ⟨a, b, c, d⟩
  · intro i hi
    obtain ⟨c1, c2, c3, c4⟩ := rC i hi
    by_cases e : i = p
    · subst e
      rw [jpk 0 (by decide), jp5]
      refine ⟨c1, by omega, by omega, fun u hu => ?_⟩
      by_cases eu : u = t
      · subst eu; rw [x58, x57]; exact ⟨fun _ => rfl, fun _ => ⟨rfl, rfl⟩⟩
      · rw [hXu 58 u eu, hXu 57 u eu]
        exact ⟨fun h => by have := (c4 u hu).mp h; omega, fun h => by omega⟩
    · rw [hJ _ (by omega)]
      refine ⟨c1, c2, c3, fun u hu => ?_⟩
      by_cases eu : u = t
      · subst eu; rw [x58, x57]
        exact ⟨fun h => by have := h.2; omega, fun h => by have := ((c4 u hu).mpr h).1; omega⟩
      · rw [hXu 58 u eu, hXu 57 u eu]; exact c4 u hu
  · refine ⟨fun i hi => ?_, fun u hu => by rw [hX 59 (by decide), h9 11 (by decide)]; exact rQ.2 u hu⟩
    by_cases e : i = b
    · subst e
      rw [ln_congr (J := J0) (by rw [jb1]) jb2, jb1, hX 59 (by decide)]
      refine ⟨SL_congr hl (fun u hu => ?_) (fun _ _ _ => rfl), hl0⟩
      unfold qal
      by_cases eu : u = t
      · subst eu; rw [x58]; exact ⟨fun h => by have := h.1; omega, fun h => absurd rfl h.2⟩
      · rw [hXu 58 u eu, hXu 57 u eu]; exact ⟨fun h => ⟨h, by omega⟩, fun h => h.1⟩
    · obtain ⟨b1, b2⟩ := rQ.1 i hi
      rw [ln_congr (J := J) (by rw [hJ _ (by omega)]) (hJ _ (by omega)), hJ _ (by omega), hX 59 (by decide)]
      refine ⟨SL_congr b1 (fun u hu => ?_) (fun _ _ _ => rfl), b2⟩
      unfold qal
      by_cases eu : u = t
      · subst eu; rw [x58]; exact ⟨fun h => by have := h.1; omega, fun h => by have := h.2; omega⟩
      · rw [hXu 58 u eu, hXu 57 u eu]
  · exact fP_c rP (fun u hu e => by rw [hta u hu]; exact ⟨rfl, rfl, rfl, rfl⟩) (fun b u _ _ _ _ _ _ _ _ _ _ e => hXu b u e) (hX 52 (by omega)) (hX 54 (by omega)) h20 h21 (hX 53 (by omega)) (fun u _ _ _ _ h => by rw [hX 72 (by omega)]; exact h)
  · exact fD_c rD (fun b u _ _ _ e => hXu b u e)
  · exact fM_c2 rM rH (fun b u _ _ _ _ _ _ _ _ e => hXu b u e) (hX 52 (by omega)) (hX 54 (by omega)) (fun p hp => by rw [hJ (4 + 10 * p + 4) (by omega), hJ 44 (by omega)])
  · exact fL_c rL (fun q hq => by rw [hJ (4 + 10 * q + 6) (by omega), hJ (4 + 10 * q + 6 + 1) (by omega)]; exact ⟨rfl, rfl⟩) (fun b u _ _ _ e => hXu b u e) (hX 77 (by omega)) (hX 78 (by omega))
  · rw [hX 51 (by decide), hX 50 (by decide)] at h; omega
  · rw [hoi]
    obtain ⟨a1, a2, a3, a4, a5, a6, a7, a8, a9, a10, a11, a12, a13, a14, a15, a16, a17, a18⟩ := hTH
    unfold TH
    rw [hta t ht, hX 60 (by decide), hX 52 (by decide), hX 54 (by decide), hX 61 (by decide), hX 62 (by decide), hX 64 (by decide), hX 65 (by decide), hX 67 (by decide), hX 49 (by decide)]
    exact ⟨a1, fun h => by omega, a3, a4, a5, a6, a7, a8, a9, a10, a11, a12, a13, a14, a15, a16, a17, fun h => by clear a2 a3 a4 a5 a6 a7 a8 a9 a10 a11 a12 a13 a14 a15 a16 a17 a18; omega⟩
  · rw [hX 60 (by decide)] at a c; omega
  · rw [hX 60 (by decide)] at a; omega
  · rw [hX 77 (by decide)] at a
    rw [hX 78 (by decide)] at c
    have := (T5 q hq a c).2.1
    omega
end SH2
