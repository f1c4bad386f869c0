/-! Leaves that change the thread's own progress alone. -/
section RL
variable {B nT n t : Nat} {ta : Nat → Nat} {oa : Nat → Nat → Nat} {J J' X X' : Mem} {K : Nat → Option ZK} {P : Nat → Nat → Option Nat}
theorem oi_c (h : X' 51 t = X 51 t) : oi X' t = oi X t := by unfold oi; rw [h]
theorem kcf_c (x58 : X' 58 t = X 58 t) (x51 : X' 51 t = X 51 t) (x52 : X' 52 = X 52) (x60 : X' 60 t = X 60 t) (x62 : X' 62 t = X 62 t) (x66 : X' 66 = X 66) (x67 : X' 67 t = X 67 t) : kc X' t = kc X t ∧ ∀ j : Nat, (j : Int) < kc X t → kf X' t j = kf X t j := by
  have e : kb X' t = kb X t := by unfold kb; rw [x60, x62]
  refine ⟨?_, fun j _ => ?_⟩
  · unfold kc; rw [e, oi_c x51, x52, x58, x60, x67]
  · unfold kf; rw [e, x66]
set_option maxHeartbeats 4000000 in
theorem RR_loc {B' : Nat} (hs : SH K P n nT ta oa X) (hR : RR B nT ta oa J X) (ht : t < nT) (h58 : ¬ X 58 t = 0) (hJ : ∀ c, c ≠ ta t → c ≠ 1 → J' c = J c) (hJt : ∀ k, k ≠ 5 → k ≠ 6 → k ≠ 7 → k ≠ 9 → J' (ta t) k = J (ta t) k)
    (hX : ∀ b, b ≠ 49 → b ≠ 60 → b ≠ 61 → b ≠ 62 → b ≠ 64 → b ≠ 65 → b ≠ 67 → X' b = X b) (hXu : ∀ b u, b ≠ 49 → u ≠ t → X' b u = X b u) (h11 : X' 49 11 = X 49 11) (h21 : X' 49 21 = X 49 21) (h20 : X 49 20 ≤ X' 49 20)
    (hS : gS nT J' X') (hU : gU B' X') (hZ : gZ J' X') (hTH : TH J' X' (ta t) t (oi X t))
    (hD : 8 ≤ X' 60 t → X' 60 t ≤ 14 → ∀ u, u < nT → u ≠ t → ¬ X 58 u = 0 → 8 ≤ X 60 u → X 60 u ≤ 14 → X' 61 t ≠ X 61 u)
    (hkc : kc X' t = kc X t ∧ ∀ j : Nat, (j : Int) < kc X t → kf X' t j = kf X t j)
    (hM : X' 60 t = 10 → X 52 (oi X t) = 2 → X 54 (oi X t) - X' 62 t ≤ J (4 + 10 * (X 57 t).toNat + 4) 1 + J 44 1)
    (hL : ∀ q : Nat, q < 4 → X 77 q = 1 → X 78 q = t → (X' 60 t = 11 ∨ X' 60 t = 12) ∧ (X' 60 t = 11 → (q : Int) < X' 62 t)) : RR B' nT ta oa J' X' := by
  obtain ⟨rS, rW, rT, rE, rN, rO, rH, rC, rQ, rP, rD, rK, rF, rR, rM, rA, rL, rB, rU, rZ⟩ := hR
  obtain ⟨s1, s2, s3, s4, s5, s6, s7, s8, s9⟩ := hs
  have t79 := (s5 t ht).2.2.1
  have x50 : X' 50 = X 50 := hX 50 (by decide) (by decide) (by decide) (by decide) (by decide) (by decide) (by decide)
  have x51 : X' 51 = X 51 := hX 51 (by decide) (by decide) (by decide) (by decide) (by decide) (by decide) (by decide)
  have x52 : X' 52 = X 52 := hX 52 (by decide) (by decide) (by decide) (by decide) (by decide) (by decide) (by decide)
  have x53 : X' 53 = X 53 := hX 53 (by decide) (by decide) (by decide) (by decide) (by decide) (by decide) (by decide)
  have x54 : X' 54 = X 54 := hX 54 (by decide) (by decide) (by decide) (by decide) (by decide) (by decide) (by decide)
  have x55 : X' 55 = X 55 := hX 55 (by decide) (by decide) (by decide) (by decide) (by decide) (by decide) (by decide)
  have x56 : X' 56 = X 56 := hX 56 (by decide) (by decide) (by decide) (by decide) (by decide) (by decide) (by decide)
  have x57 : X' 57 = X 57 := hX 57 (by decide) (by decide) (by decide) (by decide) (by decide) (by decide) (by decide)
  have x58 : X' 58 = X 58 := hX 58 (by decide) (by decide) (by decide) (by decide) (by decide) (by decide) (by decide)
  have x59 : X' 59 = X 59 := hX 59 (by decide) (by decide) (by decide) (by decide) (by decide) (by decide) (by decide)
  have x63 : X' 63 = X 63 := hX 63 (by decide) (by decide) (by decide) (by decide) (by decide) (by decide) (by decide)
  have x66 : X' 66 = X 66 := hX 66 (by decide) (by decide) (by decide) (by decide) (by decide) (by decide) (by decide)
  have x68 : X' 68 = X 68 := hX 68 (by decide) (by decide) (by decide) (by decide) (by decide) (by decide) (by decide)
  have x69 : X' 69 = X 69 := hX 69 (by decide) (by decide) (by decide) (by decide) (by decide) (by decide) (by decide)
  have x70 : X' 70 = X 70 := hX 70 (by decide) (by decide) (by decide) (by decide) (by decide) (by decide) (by decide)
  have x71 : X' 71 = X 71 := hX 71 (by decide) (by decide) (by decide) (by decide) (by decide) (by decide) (by decide)
  have x72 : X' 72 = X 72 := hX 72 (by decide) (by decide) (by decide) (by decide) (by decide) (by decide) (by decide)
  have x73 : X' 73 = X 73 := hX 73 (by decide) (by decide) (by decide) (by decide) (by decide) (by decide) (by decide)
  have x74 : X' 74 = X 74 := hX 74 (by decide) (by decide) (by decide) (by decide) (by decide) (by decide) (by decide)
  have x75 : X' 75 = X 75 := hX 75 (by decide) (by decide) (by decide) (by decide) (by decide) (by decide) (by decide)
  have x76 : X' 76 = X 76 := hX 76 (by decide) (by decide) (by decide) (by decide) (by decide) (by decide) (by decide)
  have x77 : X' 77 = X 77 := hX 77 (by decide) (by decide) (by decide) (by decide) (by decide) (by decide) (by decide)
  have x78 : X' 78 = X 78 := hX 78 (by decide) (by decide) (by decide) (by decide) (by decide) (by decide) (by decide)
  have hta : ∀ u, u < nT → ∀ k, k ≠ 5 → k ≠ 6 → k ≠ 7 → k ≠ 9 → J' (ta u) k = J (ta u) k := fun u hu k k1 k2 k3 k4 => by
    by_cases e : u = t
    · subst e; exact hJt k k1 k2 k3 k4
    · have := s6 u t hu ht e
      have := (s5 u hu).2.2.1
      rw [hJ _ (by omega) (by omega)]
  have hkcf : ∀ u, u < nT → kc X' u = kc X u ∧ ∀ j : Nat, (j : Int) < kc X u → kf X' u j = kf X u j := fun u hu => by
    by_cases e : u = t
    · subst e; exact hkc
    · exact kcf_c (by rw [x58]) (by rw [x51]) x52 (hXu 60 u (by decide) e) (hXu 62 u (by decide) e) x66 (hXu 67 u (by decide) e)
  refine ⟨hS, gW_c rW (hJ 46 (by omega) (by omega)) x71, gT_c rT (hJ 47 (by omega) (by omega)) x68 x69, gE_c rE (hJ 48 (by omega) (by omega)) x70, gN_c rN (fun u hu => ⟨hta u hu 0 (by decide) (by decide) (by decide) (by decide), hta u hu 2 (by decide) (by decide) (by decide) (by decide), hta u hu 3 (by decide) (by decide) (by decide) (by decide)⟩) x50 x51, gO_c rO (fun u hu k hk => hJ _ (by have := s8 u hu k hk t ht; omega) (by have := (s7 u hu k hk).2.2.1; omega)) x50 x51 x52 x53 x54 x55 x56, gH_c rH (fun u hu => hta u hu 4 (by decide) (by decide) (by decide) (by decide)) x50 x51 x57 x58, gC_c rC (fun p hp => hJ _ (by omega) (by omega)) x57 x58, gQ_c rQ (fun p hp => ⟨hJ _ (by omega) (by omega), hJ _ (by omega) (by omega)⟩) x57 x58 x59 (by omega), ?_, ?_, ?_, ?_, gR_c rR (fun p hp => ⟨hJ _ (by omega) (by omega), hJ _ (by omega) (by omega)⟩) (hJ 44 (by omega) (by omega)) (hJ 45 (by omega) (by omega)) x75 x76, ?_, gA_c rA (fun u hu => hta u hu 8 (by decide) (by decide) (by decide) (by decide)) x63 x77 x78, ?_, gB_c rB (fun p hp => ⟨hJ _ (by omega) (by omega), hJ _ (by omega) (by omega), hJ _ (by omega) (by omega)⟩) x72 x73 x74 (by omega), hU, hZ⟩
  · intro u hu h5
    rw [x58] at h5
    rw [oi_c (by rw [x51])]
    by_cases e : u = t
    · subst e; exact hTH
    · have := s6 u t hu ht e
      have := (s5 u hu).2.2.1
      have hj := hJ (ta u) (by omega) (by omega)
      exact TH_c (rP u hu h5) (by rw [hj]) (by rw [hj]) (by rw [hj]) (by rw [hj]) h20 h21 (by rw [x52]) (by rw [x54]) (by rw [x58]) (hXu 60 u (by decide) e) (hXu 61 u (by decide) e) (hXu 62 u (by decide) e) (hXu 64 u (by decide) e) (hXu 65 u (by decide) e) (hXu 67 u (by decide) e) (by rw [x72, x57, x53]; exact fun _ h => h)
  · intro u v hu hv huv h5 h6 c1 c2 c3 c4
    rw [x58] at h5 h6
    by_cases e : u = t
    · subst e
      have ev : v ≠ u := fun q => huv q.symm
      rw [hXu 60 v (by decide) ev] at c3 c4
      rw [hXu 61 v (by decide) ev]
      exact hD c1 c2 v hv ev h6 c3 c4
    · rw [hXu 60 u (by decide) e] at c1 c2
      rw [hXu 61 u (by decide) e]
      by_cases e2 : v = t
      · subst e2
        exact fun q => hD c3 c4 u hu e h5 c1 c2 q.symm
      · rw [hXu 60 v (by decide) e2] at c3 c4
        rw [hXu 61 v (by decide) e2]
        exact rD u v hu hv huv h5 h6 c1 c2 c3 c4
  · refine gK_c rK (fun u hu => ?_) hkcf
    have b1 : ta u + 2 ≠ ta t := by
      by_cases e : u = t
      · subst e; omega
      · have := s6 u t hu ht e; omega
    have b2 : ta u + 2 + 1 ≠ ta t := by
      by_cases e : u = t
      · subst e; omega
      · have := s6 u t hu ht e; omega
    rw [hJ _ b1 (by omega), hJ _ b2 (by omega)]
    exact ⟨rfl, rfl⟩
  · obtain ⟨f1, f2, f3, f4⟩ := rF
    refine ⟨by rw [x75, x76, h11]; exact f1, by rw [x68, x75]; exact f2, by rw [x68]; exact f3, fun u hu j hj => ?_⟩
    obtain ⟨k1, k2⟩ := hkcf u hu
    rw [k1] at hj
    rw [k2 j hj, x75, x68]
    obtain ⟨g1, g2, g3, g4, g5⟩ := f4 u hu j hj
    refine ⟨g1, g2, g3, g4, fun i hi hij => ?_⟩
    rw [k1] at hi
    rw [k2 i hi]
    exact g5 i hi hij
  · intro u hu h5 h6 h7
    rw [x58] at h5
    rw [oi_c (by rw [x51]), x52] at h7
    rw [oi_c (by rw [x51]), x54, x57, hJ 44 (by omega) (by omega)]
    have h57 := rH u hu
    rw [hJ (4 + 10 * (X 57 u).toNat + 4) (by omega) (by omega)]
    by_cases e : u = t
    · subst e; exact hM h6 h7
    · rw [hXu 60 u (by decide) e] at h6
      rw [hXu 62 u (by decide) e]
      exact rM u hu h5 h6 h7
  · intro q hq
    obtain ⟨c1, c2, c3⟩ := rL q hq
    rw [hJ (4 + 10 * q + 6) (by omega) (by omega), hJ (4 + 10 * q + 6 + 1) (by omega) (by omega), x77, x78, x58]
    refine ⟨c1, c2, fun c => ?_⟩
    obtain ⟨d1, d2, d3, d4, d5, d6⟩ := c3 c
    by_cases e : (X 78 q).toNat = t
    · have := hL q hq c (by omega)
      rw [e]
      rw [e] at d4
      exact ⟨d1, d2, d3, d4, this.1, this.2⟩
    · rw [hXu 60 _ (by decide) e, hXu 62 _ (by decide) e]
      exact ⟨d1, d2, d3, d4, d5, d6⟩
end RL
