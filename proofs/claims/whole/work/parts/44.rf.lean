/-! The relation with thread t's own progress left out (RF), and what is left out (TT). -/
def fH (nT t : Nat) (ta : Nat → Nat) (J X : Mem) : Prop := ∀ u, u < nT → (X 58 u = 0 ∨ X 58 u = 1 ∨ X 58 u = 2) ∧ 0 ≤ X 57 u ∧ X 57 u < 4 ∧ (u ≠ t → (X 58 u = 0 ↔ X 51 u = X 50 u) ∧ (X 58 u = 0 → J (ta u) 4 = X 57 u))
def fP (nT t : Nat) (ta : Nat → Nat) (J X : Mem) : Prop := ∀ u, u < nT → u ≠ t → ¬ X 58 u = 0 → TH J X (ta u) u (oi X u)
def fD (nT t : Nat) (X : Mem) : Prop := ∀ u v, u < nT → v < nT → u ≠ t → v ≠ t → u ≠ v → ¬ X 58 u = 0 → ¬ X 58 v = 0 → 8 ≤ X 60 u → X 60 u ≤ 14 → 8 ≤ X 60 v → X 60 v ≤ 14 → X 61 u ≠ X 61 v
def fM (nT t : Nat) (J X : Mem) : Prop := ∀ u, u < nT → u ≠ t → ¬ X 58 u = 0 → X 60 u = 10 → X 52 (oi X u) = 2 → X 54 (oi X u) - X 62 u ≤ J (4 + 10 * (X 57 u).toNat + 4) 1 + J 44 1
def fL (nT t : Nat) (J X : Mem) : Prop := ∀ q, q < 4 → J (4 + 10 * q + 6) 1 = X 77 q ∧ (X 77 q = 0 ∨ X 77 q = 1) ∧ (X 77 q = 1 → J (4 + 10 * q + 6 + 1) 0 = X 78 q ∧ 0 ≤ X 78 q ∧ X 78 q < nT ∧ ((X 78 q).toNat ≠ t → ¬ X 58 (X 78 q).toNat = 0 ∧ (X 60 (X 78 q).toNat = 11 ∨ X 60 (X 78 q).toNat = 12) ∧ (X 60 (X 78 q).toNat = 11 → (q : Int) < X 62 (X 78 q).toNat)))
def RF (B nT t : Nat) (ta : Nat → Nat) (oa : Nat → Nat → Nat) (J X : Mem) : Prop := gS nT J X ∧ gW J X ∧ gT J X ∧ gE J X ∧ gN nT ta J X ∧ gO nT oa J X ∧ fH nT t ta J X ∧ gC nT J X ∧ gQ nT J X ∧ fP nT t ta J X ∧ fD nT t X ∧ gK nT ta J X ∧ gF nT X ∧ gR J X ∧ fM nT t J X ∧ gA nT ta J X ∧ fL nT t J X ∧ gB J X ∧ gU B X ∧ gZ J X
def tD (nT t : Nat) (X : Mem) : Prop := ∀ u, u < nT → u ≠ t → ¬ X 58 u = 0 → 8 ≤ X 60 u → X 60 u ≤ 14 → X 61 t ≠ X 61 u
def tL (t : Nat) (X : Mem) : Prop := ∀ q : Nat, q < 4 → X 77 q = 1 → X 78 q = t → ¬ X 58 t = 0 ∧ (X 60 t = 11 ∨ X 60 t = 12) ∧ (X 60 t = 11 → (q : Int) < X 62 t)
def TT (nT t : Nat) (ta : Nat → Nat) (J X : Mem) : Prop := ((X 58 t = 0 ↔ X 51 t = X 50 t) ∧ (X 58 t = 0 → J (ta t) 4 = X 57 t)) ∧ (¬ X 58 t = 0 → TH J X (ta t) t (oi X t)) ∧ (¬ X 58 t = 0 → 8 ≤ X 60 t → X 60 t ≤ 14 → tD nT t X) ∧ (¬ X 58 t = 0 → X 60 t = 10 → X 52 (oi X t) = 2 → X 54 (oi X t) - X 62 t ≤ J (4 + 10 * (X 57 t).toNat + 4) 1 + J 44 1) ∧ tL t X
section RQ
variable {B nT n t : Nat} {ta : Nat → Nat} {oa : Nat → Nat → Nat} {J J' X X' : Mem} {K : Nat → Option ZK} {P : Nat → Nat → Option Nat}
theorem RF_of (hR : RR B nT ta oa J X) (ht : t < nT) : RF B nT t ta oa J X ∧ TT nT t ta J X := by
  obtain ⟨rS, rW, rT, rE, rN, rO, rH, rC, rQ, rP, rD, rK, rF, rR, rM, rA, rL, rB, rU, rZ⟩ := hR
  refine ⟨⟨rS, rW, rT, rE, rN, rO, fun u hu => ?_, rC, rQ, fun u hu _ h => rP u hu h, fun u v hu hv _ _ huv => rD u v hu hv huv, rK, rF, rR, fun u hu _ => rM u hu, rA, fun q hq => ?_, rB, rU, rZ⟩, ?_, rP t ht, fun h5 h1 h2 u hu hut => fun a b c => rD t u ht hu (fun e => hut e.symm) h5 a h1 h2 b c, rM t ht, fun q hq c1 c2 => ?_⟩
  · obtain ⟨a, b, c, d, e⟩ := rH u hu
    exact ⟨a, b, c, fun _ => ⟨d, e⟩⟩
  · obtain ⟨a, b, c⟩ := rL q hq
    refine ⟨a, b, fun w => ?_⟩
    obtain ⟨d1, d2, d3, d4, d5, d6⟩ := c w
    exact ⟨d1, d2, d3, fun _ => ⟨d4, d5, d6⟩⟩
  · obtain ⟨a, b, c, d, e⟩ := rH t ht
    exact ⟨d, e⟩
  · obtain ⟨d1, d2, d3, d4, d5, d6⟩ := (rL q hq).2.2 c1
    rw [c2, Int.toNat_natCast] at d4 d5 d6
    exact ⟨d4, d5, d6⟩
theorem RR_of (hF : RF B nT t ta oa J X) (ht : t < nT) (hT : TT nT t ta J X) : RR B nT ta oa J X := by
  obtain ⟨rS, rW, rT, rE, rN, rO, rH, rC, rQ, rP, rD, rK, rF, rR, rM, rA, rL, rB, rU, rZ⟩ := hF
  obtain ⟨⟨t1, t2⟩, t3, t4, t5, t6⟩ := hT
  refine ⟨rS, rW, rT, rE, rN, rO, fun u hu => ?_, rC, rQ, fun u hu h => ?_, fun u v hu hv huv h5 h6 a b c d => ?_, rK, rF, rR, fun u hu h5 h6 h7 => ?_, rA, fun q hq => ?_, rB, rU, rZ⟩
  · obtain ⟨a, b, c, d⟩ := rH u hu
    by_cases e : u = t
    · subst e; exact ⟨a, b, c, t1, t2⟩
    · exact ⟨a, b, c, (d e).1, (d e).2⟩
  · by_cases e : u = t
    · subst e; exact t3 h
    · exact rP u hu e h
  · by_cases e : u = t
    · subst e; exact t4 h5 a b v hv (fun q => huv q.symm) h6 c d
    · by_cases e2 : v = t
      · subst e2; exact fun q => t4 h6 c d u hu e h5 a b q.symm
      · exact rD u v hu hv e e2 huv h5 h6 a b c d
  · by_cases e : u = t
    · subst e; exact t5 h5 h6 h7
    · exact rM u hu e h5 h6 h7
  · obtain ⟨a, b, c⟩ := rL q hq
    refine ⟨a, b, fun w => ?_⟩
    obtain ⟨d1, d2, d3, d4⟩ := c w
    by_cases e : (X 78 q).toNat = t
    · have := t6 q hq w (by omega)
      rw [e]; exact ⟨d1, d2, d3, this⟩
    · exact ⟨d1, d2, d3, d4 e⟩
theorem fH_c (h : fH nT t ta J X) (h1 : ∀ u, u < nT → u ≠ t → J' (ta u) 4 = J (ta u) 4 ∧ X' 50 u = X 50 u ∧ X' 51 u = X 51 u) (x57 : X' 57 = X 57) (x58 : X' 58 = X 58) : fH nT t ta J' X' := by
  intro u hu
  rw [x57, x58]
  obtain ⟨a, b, c, d⟩ := h u hu
  refine ⟨a, b, c, fun e => ?_⟩
  obtain ⟨e1, e2, e3⟩ := h1 u hu e
  rw [e1, e2, e3]; exact d e
theorem fP_c (h : fP nT t ta J X) (hJ : ∀ u, u < nT → u ≠ t → J' (ta u) 5 = J (ta u) 5 ∧ J' (ta u) 6 = J (ta u) 6 ∧ J' (ta u) 7 = J (ta u) 7 ∧ J' (ta u) 9 = J (ta u) 9) (hX : ∀ b u, 51 ≤ b → b ≤ 67 → b ≠ 56 → b ≠ 66 → b ≠ 52 → b ≠ 53 → b ≠ 54 → b ≠ 55 → b ≠ 59 → b ≠ 63 → u ≠ t → X' b u = X b u) (x52 : X' 52 = X 52) (x54 : X' 54 = X 54) (x20 : X 49 20 ≤ X' 49 20) (x21 : X' 49 21 = X 49 21) (x53 : X' 53 = X 53) (x72 : ∀ u, u < nT → u ≠ t → ¬ X 58 u = 0 → (X 60 u = 5 ∨ X 60 u = 6) → X 72 (16 * (X 57 u).toNat + (X 53 (oi X u)).toNat) = 0 → X' 72 (16 * (X 57 u).toNat + (X 53 (oi X u)).toNat) = 0) : fP nT t ta J' X' := by
  intro u hu hut h5
  have g : ∀ b, 51 ≤ b → b ≤ 67 → b ≠ 56 → b ≠ 66 → b ≠ 52 → b ≠ 53 → b ≠ 54 → b ≠ 55 → b ≠ 59 → b ≠ 63 → X' b u = X b u := fun b a1 a2 a3 a4 a5 a6 a7 a8 a9 a10 => hX b u a1 a2 a3 a4 a5 a6 a7 a8 a9 a10 hut
  obtain ⟨j5, j6, j7, j9⟩ := hJ u hu hut
  rw [g 58 (by decide) (by decide) (by decide) (by decide) (by decide) (by decide) (by decide) (by decide) (by decide) (by decide)] at h5
  rw [oi_c (g 51 (by decide) (by decide) (by decide) (by decide) (by decide) (by decide) (by decide) (by decide) (by decide) (by decide))]
  refine TH_c (h u hu hut h5) j5 j6 j7 j9 x20 x21 (by rw [x52]) (by rw [x54]) ?_ ?_ ?_ ?_ ?_ ?_ ?_ (by rw [x53, g 57 (by decide) (by decide) (by decide) (by decide) (by decide) (by decide) (by decide) (by decide) (by decide) (by decide)]; exact fun q => x72 u hu hut h5 q)
  all_goals exact g _ (by decide) (by decide) (by decide) (by decide) (by decide) (by decide) (by decide) (by decide) (by decide) (by decide)
theorem fD_c (h : fD nT t X) (hX : ∀ b u, 58 ≤ b → b ≤ 61 → b ≠ 59 → u ≠ t → X' b u = X b u) : fD nT t X' := by
  intro u v hu hv hut hvt huv
  rw [hX 58 u (by decide) (by decide) (by decide) hut, hX 58 v (by decide) (by decide) (by decide) hvt, hX 60 u (by decide) (by decide) (by decide) hut, hX 60 v (by decide) (by decide) (by decide) hvt, hX 61 u (by decide) (by decide) (by decide) hut, hX 61 v (by decide) (by decide) (by decide) hvt]
  exact h u v hu hv hut hvt huv
theorem fM_c (h : fM nT t J X) (hX : ∀ b u, 51 ≤ b → b ≤ 62 → b ≠ 56 → b ≠ 52 → b ≠ 53 → b ≠ 54 → b ≠ 55 → b ≠ 59 → u ≠ t → X' b u = X b u) (x52 : X' 52 = X 52) (x54 : X' 54 = X 54) (hJ : ∀ p : Nat, J' (4 + 10 * p + 4) 1 + J' 44 1 = J (4 + 10 * p + 4) 1 + J 44 1) : fM nT t J' X' := by
  intro u hu hut
  have g : ∀ b, 51 ≤ b → b ≤ 62 → b ≠ 56 → b ≠ 52 → b ≠ 53 → b ≠ 54 → b ≠ 55 → b ≠ 59 → X' b u = X b u := fun b a1 a2 a3 a4 a5 a6 a7 a8 => hX b u a1 a2 a3 a4 a5 a6 a7 a8 hut
  rw [oi_c (g 51 (by decide) (by decide) (by decide) (by decide) (by decide) (by decide) (by decide) (by decide)), x52, x54, g 57 (by decide) (by decide) (by decide) (by decide) (by decide) (by decide) (by decide) (by decide), g 58 (by decide) (by decide) (by decide) (by decide) (by decide) (by decide) (by decide) (by decide), g 60 (by decide) (by decide) (by decide) (by decide) (by decide) (by decide) (by decide) (by decide), g 62 (by decide) (by decide) (by decide) (by decide) (by decide) (by decide) (by decide) (by decide), hJ]
  exact h u hu hut
theorem fL_c (h : fL nT t J X) (h1 : ∀ q, q < 4 → J' (4 + 10 * q + 6) 1 = J (4 + 10 * q + 6) 1 ∧ J' (4 + 10 * q + 6 + 1) 0 = J (4 + 10 * q + 6 + 1) 0) (hX : ∀ b u, 58 ≤ b → b ≤ 62 → b ≠ 59 → u ≠ t → X' b u = X b u) (x77 : X' 77 = X 77) (x78 : X' 78 = X 78) : fL nT t J' X' := by
  intro q hq
  obtain ⟨a, b⟩ := h1 q hq
  obtain ⟨c1, c2, c3⟩ := h q hq
  rw [a, b, x77, x78]
  refine ⟨c1, c2, fun c => ?_⟩
  obtain ⟨d1, d2, d3, d4⟩ := c3 c
  refine ⟨d1, d2, d3, fun e => ?_⟩
  rw [hX 58 _ (by decide) (by decide) (by decide) e, hX 60 _ (by decide) (by decide) (by decide) e, hX 62 _ (by decide) (by decide) (by decide) e]
  exact d4 e
theorem gF_c (h : gF nT X) (x68 : X' 68 = X 68) (x75 : X' 75 = X 75) (x76 : X' 76 = X 76) (h11 : X 49 11 ≤ X' 49 11) (hk : ∀ u, u < nT → kc X' u = kc X u ∧ ∀ j : Nat, (j : Int) < kc X u → kf X' u j = kf X u j) : gF nT X' := by
  obtain ⟨f1, f2, f3, f4⟩ := h
  refine ⟨fun f hf => ?_, by rw [x68, x75]; exact f2, by rw [x68]; exact f3, fun u hu j hj => ?_⟩
  · have := f1 f hf
    rw [x75, x76]; exact ⟨this.1, this.2.1, by omega⟩
  · obtain ⟨k1, k2⟩ := hk u hu
    rw [k1] at hj
    rw [k2 j hj, x75, x68]
    obtain ⟨g1, g2, g3, g4, g5⟩ := f4 u hu j hj
    refine ⟨g1, g2, g3, g4, fun i hi hij => ?_⟩
    rw [k1] at hi
    rw [k2 i hi]
    exact g5 i hi hij
theorem gU_c (h : gU B X) (x33 : X' 49 33 = X 49 33) (x11 : X' 49 11 = X 49 11) (x20 : X' 49 20 = X 49 20) : gU B X' := by
  unfold gU; rw [x33, x11, x20]; exact h
theorem gS_c (h : gS nT J X) (j1 : J' 1 1 = J 1 1) (j7 : J' 1 7 = J 1 7) (j8 : J' 1 8 = J 1 8) (j9 : J' 1 9 = J 1 9) (x0 : X' 49 0 = X 49 0) (x20 : X' 49 20 = X 49 20) (x21 : X' 49 21 = X 49 21) (x33 : X' 49 33 = X 49 33) : gS nT J' X' := by
  unfold gS; rw [j1, j7, j8, j9, x0, x20, x21, x33]; exact h
/-- only t's own progress changes -/
theorem RF_loc (hs : SH K P n nT ta oa X) (hR : RF B nT t ta oa J X) (ht : t < nT) (hJ : ∀ c, c ≠ ta t → J' c = J c) (hJt : ∀ k, k ≠ 5 → k ≠ 6 → k ≠ 7 → k ≠ 9 → J' (ta t) k = J (ta t) k)
    (hX : ∀ b, ¬ (b = 60 ∨ b = 61 ∨ b = 62 ∨ b = 64 ∨ b = 65 ∨ b = 67) → X' b = X b) (hXu : ∀ b u, u ≠ t → X' b u = X b u) (hZ : gZ J' X')
    (hkc : kc X' t = kc X t ∧ ∀ j : Nat, (j : Int) < kc X t → kf X' t j = kf X t j) : RF B nT t ta oa J' X' := by
  obtain ⟨rS, rW, rT, rE, rN, rO, rH, rC, rQ, rP, rD, rK, rF, rR, rM, rA, rL, rB, rU, rZ⟩ := hR
  obtain ⟨s1, s2, s3, s4, s5, s6, s7, s8, s9⟩ := hs
  have t79 := (s5 t ht).2.2.1
  have hta : ∀ u, u < nT → ∀ k, k ≠ 5 → k ≠ 6 → k ≠ 7 → k ≠ 9 → J' (ta u) k = J (ta u) k := fun u hu k k1 k2 k3 k4 => by
    by_cases e : u = t
    · subst e; exact hJt k k1 k2 k3 k4
    · have := s6 u t hu ht e
      rw [hJ _ (by omega)]
  have htu : ∀ u, u < nT → u ≠ t → J' (ta u) = J (ta u) := fun u hu e => by
    have := s6 u t hu ht e
    exact hJ _ (by omega)
  have htk : ∀ u, u < nT → J' (ta u + 2) = J (ta u + 2) ∧ J' (ta u + 2 + 1) = J (ta u + 2 + 1) := fun u hu => by
    have b1 : ta u + 2 ≠ ta t := by
      by_cases e : u = t
      · subst e; omega
      · have := s6 u t hu ht e; omega
    have b2 : ta u + 2 + 1 ≠ ta t := by
      by_cases e : u = t
      · subst e; omega
      · have := s6 u t hu ht e; omega
    exact ⟨hJ _ b1, hJ _ b2⟩
  have hkcf : ∀ u, u < nT → kc X' u = kc X u ∧ ∀ j : Nat, (j : Int) < kc X u → kf X' u j = kf X u j := fun u hu => by
    by_cases e : u = t
    · subst e; exact hkc
    · exact kcf_c (hXu 58 u e) (hXu 51 u e) (hX 52 (by decide)) (hXu 60 u e) (hXu 62 u e) (hX 66 (by decide)) (hXu 67 u e)
  have x49 := hX 49 (by decide)
  refine ⟨?_, gW_c rW (hJ 46 (by omega)) (hX 71 (by decide)), gT_c rT (hJ 47 (by omega)) (hX 68 (by decide)) (hX 69 (by decide)), gE_c rE (hJ 48 (by omega)) (hX 70 (by decide)), gN_c rN (fun u hu => ⟨hta u hu 0 (by decide) (by decide) (by decide) (by decide), hta u hu 2 (by decide) (by decide) (by decide) (by decide), hta u hu 3 (by decide) (by decide) (by decide) (by decide)⟩) (hX 50 (by decide)) (hX 51 (by decide)), gO_c rO (fun u hu k hk => hJ _ (by have := s8 u hu k hk t ht; omega)) (hX 50 (by decide)) (hX 51 (by decide)) (hX 52 (by decide)) (hX 53 (by decide)) (hX 54 (by decide)) (hX 55 (by decide)) (hX 56 (by decide)), fH_c rH (fun u hu e => ⟨by rw [htu u hu e], hXu 50 u e, hXu 51 u e⟩) (hX 57 (by decide)) (hX 58 (by decide)), gC_c rC (fun p hp => hJ _ (by omega)) (hX 57 (by decide)) (hX 58 (by decide)), gQ_c rQ (fun p hp => ⟨hJ _ (by omega), hJ _ (by omega)⟩) (hX 57 (by decide)) (hX 58 (by decide)) (hX 59 (by decide)) (by rw [x49]; exact Int.le_refl _), fP_c rP (fun u hu e => by rw [htu u hu e]; exact ⟨rfl, rfl, rfl, rfl⟩) (fun b u _ _ _ _ _ _ _ _ _ _ e => hXu b u e) (hX 52 (by decide)) (hX 54 (by decide)) (by rw [x49]; exact Int.le_refl _) (by rw [x49]) (hX 53 (by decide)) (fun u _ _ _ _ h => by rw [hX 72 (by decide)]; exact h), fD_c rD (fun b u _ _ _ e => hXu b u e), gK_c rK (fun u hu => by rw [(htk u hu).1, (htk u hu).2]; exact ⟨rfl, rfl⟩) hkcf, gF_c rF (hX 68 (by decide)) (hX 75 (by decide)) (hX 76 (by decide)) (by rw [x49]; exact Int.le_refl _) hkcf, gR_c rR (fun p hp => ⟨hJ _ (by omega), hJ _ (by omega)⟩) (hJ 44 (by omega)) (hJ 45 (by omega)) (hX 75 (by decide)) (hX 76 (by decide)), ?_, gA_c rA (fun u hu => hta u hu 8 (by decide) (by decide) (by decide) (by decide)) (hX 63 (by decide)) (hX 77 (by decide)) (hX 78 (by decide)), fL_c rL (fun q hq => by rw [hJ _ (by omega), hJ _ (by omega)]; exact ⟨rfl, rfl⟩) (fun b u _ _ _ e => hXu b u e) (hX 77 (by decide)) (hX 78 (by decide)), gB_c rB (fun p hp => ⟨hJ _ (by omega), hJ _ (by omega), hJ _ (by omega)⟩) (hX 72 (by decide)) (hX 73 (by decide)) (hX 74 (by decide)) (by rw [x49]; exact Int.le_refl _), by unfold gU; rw [x49]; exact rU, hZ⟩
  · have j1 := hJ 1 (by omega)
    unfold gS; rw [j1, x49]; exact rS
  · intro u hu hut h5 h6 h7
    rw [hXu 58 u hut] at h5
    rw [hXu 60 u hut] at h6
    rw [oi_c (hXu 51 u hut), hX 52 (by decide)] at h7
    have h57 := rH u hu
    rw [oi_c (hXu 51 u hut), hX 54 (by decide), hX 57 (by decide), hXu 62 u hut, hJ 44 (by omega), hJ (4 + 10 * (X 57 u).toNat + 4) (by omega)]
    exact rM u hu hut h5 h6 h7
end RQ
