/-! What changes beside a thread's own progress: words, serving, protection, buffers. -/
theorem zfill_ab {J : Mem} {b i n a : Nat} (h : a ≠ b) : zfill J b i n a = J a := by funext j; exact zfill_ne h
section SA
variable {B nT n t : Nat} {ta : Nat → Nat} {oa : Nat → Nat → Nat} {J J' X X' : Mem} {K : Nat → Option ZK} {P : Nat → Nat → Option Nat}
theorem fM_c2 (h : fM nT t J X) (rH : fH nT t ta J X) (hX : ∀ b u, 51 ≤ b → b ≤ 62 → b ≠ 56 → b ≠ 52 → b ≠ 53 → b ≠ 54 → b ≠ 55 → b ≠ 59 → u ≠ t → X' b u = X b u) (x52 : X' 52 = X 52) (x54 : X' 54 = X 54) (hJ : ∀ p : Nat, p < 4 → J' (4 + 10 * p + 4) 1 + J' 44 1 = J (4 + 10 * p + 4) 1 + J 44 1) : fM nT t J' X' := by
  intro u hu hut
  have g : ∀ b, 51 ≤ b → b ≤ 62 → b ≠ 56 → b ≠ 52 → b ≠ 53 → b ≠ 54 → b ≠ 55 → b ≠ 59 → X' b u = X b u := fun b a1 a2 a3 a4 a5 a6 a7 a8 => hX b u a1 a2 a3 a4 a5 a6 a7 a8 hut
  have h57 := rH u hu
  rw [oi_c (g 51 (by decide) (by decide) (by decide) (by decide) (by decide) (by decide) (by decide) (by decide)), x52, x54, g 57 (by decide) (by decide) (by decide) (by decide) (by decide) (by decide) (by decide) (by decide), g 58 (by decide) (by decide) (by decide) (by decide) (by decide) (by decide) (by decide) (by decide), g 60 (by decide) (by decide) (by decide) (by decide) (by decide) (by decide) (by decide) (by decide), g 62 (by decide) (by decide) (by decide) (by decide) (by decide) (by decide) (by decide) (by decide), hJ _ (by omega)]
  exact h u hu hut
theorem fM_v (h : ∀ u, u < nT → u ≠ t → ¬ X 58 u = 0 → ¬ X 60 u = 10) : fM nT t J X := fun u hu hut h5 h6 => absurd h6 (h u hu hut h5)
theorem S_word {f : Nat} {x : Int} (hs : SH K P n nT ta oa X) (hR : RF B nT t ta oa J X) (ht : t < nT) (hx : zr x) : RF B nT t ta oa (zU J 46 f x) (zU X 71 f x) := by
  obtain ⟨rS, rW, rT, rE, rN, rO, rH, rC, rQ, rP, rD, rK, rF, rR, rM, rA, rL, rB, rU, rZ⟩ := hR
  obtain ⟨s1, s2, s3, s4, s5, s6, s7, s8, s9⟩ := hs
  have hJ : ∀ c, c ≠ 46 → zU J 46 f x c = J c := fun c h => zU_ab _ _ _ h
  have hX : ∀ b, b ≠ 71 → zU X 71 f x b = X b := fun b h => zU_ab _ _ _ h
  have hta : ∀ u, u < nT → zU J 46 f x (ta u) = J (ta u) := fun u hu => hJ _ (by have := (s5 u hu).2.2.1; omega)
  have h9 : ∀ k, k < 100 → zU X 71 f x 49 k = X 49 k := fun k _ => by rw [hX 49 (by decide)]
  have h11 : X 49 11 ≤ zU X 71 f x 49 11 := by rw [h9 11 (by decide)]; exact Int.le_refl _
  have h20 : X 49 20 ≤ zU X 71 f x 49 20 := by rw [h9 20 (by decide)]; exact Int.le_refl _
  have h21 := h9 21 (by decide)
  have hkcf : ∀ u, u < nT → kc (zU X 71 f x) u = kc X u ∧ ∀ j : Nat, (j : Int) < kc X u → kf (zU X 71 f x) u j = kf X u j := fun u hu => kcf_c (by rw [hX 58 (by decide)]) (by rw [hX 51 (by decide)]) (hX 52 (by decide)) (by rw [hX 60 (by decide)]) (by rw [hX 62 (by decide)]) (hX 66 (by decide)) (by rw [hX 67 (by decide)])
  refine ⟨gS_c rS (by rw [hJ 1 (by omega)]) (by rw [hJ 1 (by omega)]) (by rw [hJ 1 (by omega)]) (by rw [hJ 1 (by omega)]) (h9 0 (by omega)) (h9 20 (by omega)) (h9 21 (by omega)) (h9 33 (by omega)), fun g hg => ?_, gT_c rT (hJ 47 (by omega)) (hX 68 (by omega)) (hX 69 (by omega)), gE_c rE (hJ 48 (by omega)) (hX 70 (by omega)), gN_c rN (fun u hu => by rw [hta u hu]; exact ⟨rfl, rfl, rfl⟩) (hX 50 (by omega)) (hX 51 (by omega)), gO_c rO (fun u hu k hk => hJ _ (by have := (s7 u hu k hk).2.2.1; have := s8 u hu k hk t ht; omega)) (hX 50 (by omega)) (hX 51 (by omega)) (hX 52 (by omega)) (hX 53 (by omega)) (hX 54 (by omega)) (hX 55 (by omega)) (hX 56 (by omega)), fH_c rH (fun u hu e => ⟨by rw [hta u hu], by rw [hX 50 (by omega)], by rw [hX 51 (by omega)]⟩) (hX 57 (by omega)) (hX 58 (by omega)), gC_c rC (fun p hp => hJ _ (by omega)) (hX 57 (by omega)) (hX 58 (by omega)), gQ_c rQ (fun p hp => ⟨hJ _ (by omega), hJ _ (by omega)⟩) (hX 57 (by omega)) (hX 58 (by omega)) (hX 59 (by omega)) h11, fP_c rP (fun u hu e => by rw [hta u hu]; exact ⟨rfl, rfl, rfl, rfl⟩) (fun b u _ _ _ _ _ _ _ _ _ _ e => by rw [hX b (by omega)]) (hX 52 (by omega)) (hX 54 (by omega)) h20 h21 (hX 53 (by omega)) (fun u _ _ _ _ h => by rw [hX 72 (by omega)]; exact h), fD_c rD (fun b u _ _ _ e => by rw [hX b (by omega)]), gK_c rK (fun u hu => ⟨by rw [hJ (ta u + 2) (by have := (s5 u hu).2.2.1; omega)], hJ (ta u + 2 + 1) (by have := (s5 u hu).2.2.1; omega)⟩) hkcf, gF_c rF (hX 68 (by omega)) (hX 75 (by omega)) (hX 76 (by omega)) h11 hkcf, gR_c rR (fun p hp => ⟨hJ _ (by omega), hJ _ (by omega)⟩) (hJ 44 (by omega)) (hJ 45 (by omega)) (hX 75 (by omega)) (hX 76 (by omega)), fM_c2 rM rH (fun b u _ _ _ _ _ _ _ _ e => by rw [hX b (by omega)]) (hX 52 (by omega)) (hX 54 (by omega)) (fun p hp => by rw [hJ (4 + 10 * p + 4) (by omega), hJ 44 (by omega)]), gA_c rA (fun u hu => by rw [hta u hu]) (hX 63 (by omega)) (hX 77 (by omega)) (hX 78 (by omega)), fL_c rL (fun q hq => by rw [hJ (4 + 10 * q + 6) (by omega), hJ (4 + 10 * q + 6 + 1) (by omega)]; exact ⟨rfl, rfl⟩) (fun b u _ _ _ e => by rw [hX b (by omega)]) (hX 77 (by omega)) (hX 78 (by omega)), gB_c rB (fun p hp => ⟨hJ _ (by omega), hJ _ (by omega), hJ _ (by omega)⟩) (hX 72 (by omega)) (hX 73 (by omega)) (hX 74 (by omega)) h11, gU_c rU (h9 33 (by omega)) (h9 11 (by omega)) (h9 20 (by omega)), ⟨RG_U rZ.1 hx.1 hx.2, RG_U rZ.2 hx.1 hx.2⟩⟩
  by_cases e : g = f
  · subst e; rw [zU_s, zU_s]
  · rw [zU_k _ _ _ e, zU_k _ _ _ e]; exact rW g hg
theorem S_protect {g0 : Nat} (hs : SH K P n nT ta oa X) (hR : RF B nT t ta oa J X) (ht : t < nT) (hg0 : g0 < 16) (h68 : ¬ X 68 g0 < 0) (h69 : ¬ X 69 g0 = 0) : RF B nT t ta oa (zU J 47 g0 (J 47 g0 - 1)) (zU X 69 g0 0) := by
  obtain ⟨rS, rW, rT, rE, rN, rO, rH, rC, rQ, rP, rD, rK, rF, rR, rM, rA, rL, rB, rU, rZ⟩ := hR
  obtain ⟨s1, s2, s3, s4, s5, s6, s7, s8, s9⟩ := hs
  have hJ : ∀ c, c ≠ 47 → zU J 47 g0 (J 47 g0 - 1) c = J c := fun c h => zU_ab _ _ _ h
  have hX : ∀ b, b ≠ 69 → zU X 69 g0 0 b = X b := fun b h => zU_ab _ _ _ h
  have hta : ∀ u, u < nT → zU J 47 g0 (J 47 g0 - 1) (ta u) = J (ta u) := fun u hu => hJ _ (by have := (s5 u hu).2.2.1; omega)
  have h9 : ∀ k, k < 100 → zU X 69 g0 0 49 k = X 49 k := fun k _ => by rw [hX 49 (by decide)]
  have h11 : X 49 11 ≤ zU X 69 g0 0 49 11 := by rw [h9 11 (by decide)]; exact Int.le_refl _
  have h20 : X 49 20 ≤ zU X 69 g0 0 49 20 := by rw [h9 20 (by decide)]; exact Int.le_refl _
  have h21 := h9 21 (by decide)
  have hkcf : ∀ u, u < nT → kc (zU X 69 g0 0) u = kc X u ∧ ∀ j : Nat, (j : Int) < kc X u → kf (zU X 69 g0 0) u j = kf X u j := fun u hu => kcf_c (by rw [hX 58 (by decide)]) (by rw [hX 51 (by decide)]) (hX 52 (by decide)) (by rw [hX 60 (by decide)]) (by rw [hX 62 (by decide)]) (hX 66 (by decide)) (by rw [hX 67 (by decide)])
  obtain ⟨q1, q2, q3⟩ := rT g0 hg0
  rw [if_neg h68] at q3
  refine ⟨gS_c rS (by rw [hJ 1 (by omega)]) (by rw [hJ 1 (by omega)]) (by rw [hJ 1 (by omega)]) (by rw [hJ 1 (by omega)]) (h9 0 (by omega)) (h9 20 (by omega)) (h9 21 (by omega)) (h9 33 (by omega)), gW_c rW (hJ 46 (by omega)) (hX 71 (by omega)), fun g hg => ?_, gE_c rE (hJ 48 (by omega)) (hX 70 (by omega)), gN_c rN (fun u hu => by rw [hta u hu]; exact ⟨rfl, rfl, rfl⟩) (hX 50 (by omega)) (hX 51 (by omega)), gO_c rO (fun u hu k hk => hJ _ (by have := (s7 u hu k hk).2.2.1; have := s8 u hu k hk t ht; omega)) (hX 50 (by omega)) (hX 51 (by omega)) (hX 52 (by omega)) (hX 53 (by omega)) (hX 54 (by omega)) (hX 55 (by omega)) (hX 56 (by omega)), fH_c rH (fun u hu e => ⟨by rw [hta u hu], by rw [hX 50 (by omega)], by rw [hX 51 (by omega)]⟩) (hX 57 (by omega)) (hX 58 (by omega)), gC_c rC (fun p hp => hJ _ (by omega)) (hX 57 (by omega)) (hX 58 (by omega)), gQ_c rQ (fun p hp => ⟨hJ _ (by omega), hJ _ (by omega)⟩) (hX 57 (by omega)) (hX 58 (by omega)) (hX 59 (by omega)) h11, fP_c rP (fun u hu e => by rw [hta u hu]; exact ⟨rfl, rfl, rfl, rfl⟩) (fun b u _ _ _ _ _ _ _ _ _ _ e => by rw [hX b (by omega)]) (hX 52 (by omega)) (hX 54 (by omega)) h20 h21 (hX 53 (by omega)) (fun u _ _ _ _ h => by rw [hX 72 (by omega)]; exact h), fD_c rD (fun b u _ _ _ e => by rw [hX b (by omega)]), gK_c rK (fun u hu => ⟨by rw [hJ (ta u + 2) (by have := (s5 u hu).2.2.1; omega)], hJ (ta u + 2 + 1) (by have := (s5 u hu).2.2.1; omega)⟩) hkcf, gF_c rF (hX 68 (by omega)) (hX 75 (by omega)) (hX 76 (by omega)) h11 hkcf, gR_c rR (fun p hp => ⟨hJ _ (by omega), hJ _ (by omega)⟩) (hJ 44 (by omega)) (hJ 45 (by omega)) (hX 75 (by omega)) (hX 76 (by omega)), fM_c2 rM rH (fun b u _ _ _ _ _ _ _ _ e => by rw [hX b (by omega)]) (hX 52 (by omega)) (hX 54 (by omega)) (fun p hp => by rw [hJ (4 + 10 * p + 4) (by omega), hJ 44 (by omega)]), gA_c rA (fun u hu => by rw [hta u hu]) (hX 63 (by omega)) (hX 77 (by omega)) (hX 78 (by omega)), fL_c rL (fun q hq => by rw [hJ (4 + 10 * q + 6) (by omega), hJ (4 + 10 * q + 6 + 1) (by omega)]; exact ⟨rfl, rfl⟩) (fun b u _ _ _ e => by rw [hX b (by omega)]) (hX 77 (by omega)) (hX 78 (by omega)), gB_c rB (fun p hp => ⟨hJ _ (by omega), hJ _ (by omega), hJ _ (by omega)⟩) (hX 72 (by omega)) (hX 73 (by omega)) (hX 74 (by omega)) h11, gU_c rU (h9 33 (by omega)) (h9 11 (by omega)) (h9 20 (by omega)), ⟨RG_U rZ.1 (by omega) (by omega), RG_U rZ.2 (by omega) (by omega)⟩⟩
  by_cases e : g = g0
  · subst e
    rw [zU_s, zU_s, zU_ne (by decide), if_neg h68]
    exact ⟨q1, Or.inl rfl, by omega⟩
  · rw [zU_k _ _ _ e, zU_k _ _ _ e, zU_ne (by decide)]; exact rT g hg
/-- serving goes on: t held it -/
theorem S_serve (hs : SH K P n nT ta oa X) (hR : RF B nT t ta oa J X) (hT : TT nT t ta J X) (ht : t < nT) (hB : B < 100000) (h58 : X 58 t = 2) (h1 : 9 ≤ X 60 t) (h2 : X 60 t ≤ 14) : RF B nT t ta oa (zU J 1 8 (J 1 8 + 1)) (zU X 49 21 (X 49 21 + 1)) := by
  obtain ⟨rS, rW, rT, rE, rN, rO, rH, rC, rQ, rP, rD, rK, rF, rR, rM, rA, rL, rB, rU, rZ⟩ := hR
  obtain ⟨s1, s2, s3, s4, s5, s6, s7, s8, s9⟩ := hs
  obtain ⟨t1, t2, t3, t4, t5⟩ := hT
  have b1 := (TH_d8 (t2 (by omega)) (by omega) (by omega)).2
  have b2 := TH_d9 (t2 (by omega)) (by omega) (by omega)
  have b3 := t3 (by omega) (by omega) (by omega)
  have hJ : ∀ c, c ≠ 1 → zU J 1 8 (J 1 8 + 1) c = J c := fun c h => zU_ab _ _ _ h
  have hX : ∀ b, b ≠ 49 → zU X 49 21 (X 49 21 + 1) b = X b := fun b h => zU_ab _ _ _ h
  have hta : ∀ u, u < nT → zU J 1 8 (J 1 8 + 1) (ta u) = J (ta u) := fun u hu => hJ _ (by have := (s5 u hu).2.2.1; omega)
  have h9 : ∀ k, k ≠ 21 → zU X 49 21 (X 49 21 + 1) 49 k = X 49 k := fun k h => zU_k _ _ _ h
  have h11 : X 49 11 ≤ zU X 49 21 (X 49 21 + 1) 49 11 := by rw [h9 11 (by decide)]; exact Int.le_refl _
  have hkcf : ∀ u, u < nT → kc (zU X 49 21 (X 49 21 + 1)) u = kc X u ∧ ∀ j : Nat, (j : Int) < kc X u → kf (zU X 49 21 (X 49 21 + 1)) u j = kf X u j := fun u hu => kcf_c (by rw [hX 58 (by decide)]) (by rw [hX 51 (by decide)]) (hX 52 (by decide)) (by rw [hX 60 (by decide)]) (by rw [hX 62 (by decide)]) (hX 66 (by decide)) (by rw [hX 67 (by decide)])
  obtain ⟨q1, q2, q3, q4, q5, q6, q7⟩ := rS
  obtain ⟨u1, u2, u3, u4, u5⟩ := rU
  refine ⟨⟨?_, ?_, ?_, ?_, ?_, ?_, ?_⟩, gW_c rW (hJ 46 (by omega)) (hX 71 (by omega)), gT_c rT (hJ 47 (by omega)) (hX 68 (by omega)) (hX 69 (by omega)), gE_c rE (hJ 48 (by omega)) (hX 70 (by omega)), gN_c rN (fun u hu => by rw [hta u hu]; exact ⟨rfl, rfl, rfl⟩) (hX 50 (by omega)) (hX 51 (by omega)), gO_c rO (fun u hu k hk => hJ _ (by have := (s7 u hu k hk).2.2.1; have := s8 u hu k hk t ht; omega)) (hX 50 (by omega)) (hX 51 (by omega)) (hX 52 (by omega)) (hX 53 (by omega)) (hX 54 (by omega)) (hX 55 (by omega)) (hX 56 (by omega)), fH_c rH (fun u hu e => ⟨by rw [hta u hu], by rw [hX 50 (by omega)], by rw [hX 51 (by omega)]⟩) (hX 57 (by omega)) (hX 58 (by omega)), gC_c rC (fun p hp => hJ _ (by omega)) (hX 57 (by omega)) (hX 58 (by omega)), gQ_c rQ (fun p hp => ⟨hJ _ (by omega), hJ _ (by omega)⟩) (hX 57 (by omega)) (hX 58 (by omega)) (hX 59 (by omega)) h11, ?_, fD_c rD (fun b u _ _ _ e => by rw [hX b (by omega)]), gK_c rK (fun u hu => ⟨by rw [hJ (ta u + 2) (by have := (s5 u hu).2.2.1; omega)], hJ (ta u + 2 + 1) (by have := (s5 u hu).2.2.1; omega)⟩) hkcf, gF_c rF (hX 68 (by omega)) (hX 75 (by omega)) (hX 76 (by omega)) h11 hkcf, gR_c rR (fun p hp => ⟨hJ _ (by omega), hJ _ (by omega)⟩) (hJ 44 (by omega)) (hJ 45 (by omega)) (hX 75 (by omega)) (hX 76 (by omega)), fM_c2 rM rH (fun b u _ _ _ _ _ _ _ _ e => by rw [hX b (by omega)]) (hX 52 (by omega)) (hX 54 (by omega)) (fun p hp => by rw [hJ (4 + 10 * p + 4) (by omega), hJ 44 (by omega)]), gA_c rA (fun u hu => by rw [hta u hu]) (hX 63 (by omega)) (hX 77 (by omega)) (hX 78 (by omega)), fL_c rL (fun q hq => by rw [hJ (4 + 10 * q + 6) (by omega), hJ (4 + 10 * q + 6 + 1) (by omega)]; exact ⟨rfl, rfl⟩) (fun b u _ _ _ e => by rw [hX b (by omega)]) (hX 77 (by omega)) (hX 78 (by omega)), gB_c rB (fun p hp => ⟨hJ _ (by omega), hJ _ (by omega), hJ _ (by omega)⟩) (hX 72 (by omega)) (hX 73 (by omega)) (hX 74 (by omega)) h11, ⟨?_, ?_, ?_, ?_, ?_⟩, ⟨RG_U rZ.1 (by omega) (by omega), RG_U rZ.2 (by omega) (by omega)⟩⟩
  · rw [zU_k _ _ _ (by decide)]; exact q1
  · rw [h9 0 (by decide)]; exact q2
  · rw [zU_k _ _ _ (by decide), h9 20 (by decide)]; exact q3
  · rw [zU_s, zU_s, q4]
  · rw [zU_k _ _ _ (by decide), h9 33 (by decide)]; exact q5
  · rw [zU_s]; omega
  · rw [zU_s, h9 20 (by decide)]; omega
  · intro u hu hut h5
    rw [hX 58 (by decide)] at h5
    rw [oi_c (X := X) (by rw [hX 51 (by decide)])]
    have h := rP u hu hut h5
    have b4 := b3 u hu hut h5
    obtain ⟨a1, a2, a3, a4, a5, a6, a7, a8, a9, a10, a11, a12, a13, a14, a15, a16, a17, a18⟩ := h
    unfold TH
    rw [hta u hu, hX 58 (by decide), hX 60 (by decide), hX 52 (by decide), hX 54 (by decide), hX 61 (by decide), hX 62 (by decide), hX 64 (by decide), hX 65 (by decide), hX 67 (by decide), hX 72 (by decide), hX 57 (by decide), hX 53 (by decide), zU_s, h9 20 (by decide)]
    refine ⟨a1, a2, a3, a4, a5, a6, a7, a8, fun c1 c2 => ?_, fun c1 c2 => ?_, a11, a12, a13, a14, a15, a16, a17, a18⟩
    · have e1 := a9 c1 c2
      have e2 := b4 c1 c2
      exact ⟨e1.1, by omega, e1.2.2⟩
    · have e1 := a10 c1 c2
      have e2 := b4 (by omega) c2
      omega
  · rw [h9 33 (by decide)]; exact u1
  · rw [h9 33 (by decide)]; exact u2
  · rw [h9 11 (by decide)]; exact u3
  · rw [h9 11 (by decide)]; exact u4
  · rw [h9 20 (by decide)]; exact u5
/-- one processor's buffer -/
theorem gB_p {p : Nat} (h : gB J X) (hb : SL (bp J' (4 + 10 * p + 1)) 16 (kal X' (16 * p)) (fun g => X' 72 (16 * p + g)) ∧ be J' (4 + 10 * p + 1) (ke X' p) ∧ 0 ≤ J' (4 + 10 * p + 1) 2 ∧ J' (4 + 10 * p + 1) 2 ≤ 3 ∧ ∀ g, g < 16 → 0 ≤ X' 72 (16 * p + g) ∧ X' 72 (16 * p + g) ≤ X' 49 11 ∧ (0 < X' 72 (16 * p + g) → 0 ≤ X' 73 (16 * p + g) ∧ X' 73 (16 * p + g) < 10 ∧ (X' 74 (16 * p + g) = 0 ∨ X' 74 (16 * p + g) = 1)))
    (hJ : ∀ q, q < 4 → q ≠ p → J' (4 + 10 * q + 1) = J (4 + 10 * q + 1) ∧ J' (4 + 10 * q + 1 + 1) = J (4 + 10 * q + 1 + 1) ∧ J' (4 + 10 * q + 1 + 2) = J (4 + 10 * q + 1 + 2)) (hX : ∀ q, q < 4 → q ≠ p → ∀ g, g < 16 → X' 72 (16 * q + g) = X 72 (16 * q + g) ∧ X' 73 (16 * q + g) = X 73 (16 * q + g) ∧ X' 74 (16 * q + g) = X 74 (16 * q + g)) (hc : X 49 11 ≤ X' 49 11) : gB J' X' := by
  intro q hq
  by_cases e : q = p
  · subst e; exact hb
  · obtain ⟨a, b, c⟩ := hJ q hq e
    obtain ⟨b1, b2, b3, b4, b5⟩ := h q hq
    have hx := hX q hq e
    have ebp : bp J' (4 + 10 * q + 1) = bp J (4 + 10 * q + 1) := by unfold bp; rw [a, b]
    rw [ebp]
    refine ⟨SL_congr b1 (fun i hi => by unfold kal; rw [(hx i hi).1]) (fun i hi _ => (hx i hi).1), ?_, by rw [a]; exact b3, by rw [a]; exact b4, fun g hg => ?_⟩
    · intro i hi
      rw [a] at hi
      rw [b, c, b2 i hi]
      have hm : J (4 + 10 * q + 1 + 1) i ∈ bp J (4 + 10 * q + 1) := by
        unfold bp
        exact List.mem_map.mpr ⟨i, List.mem_range.mpr hi, rfl⟩
      have hr := b1.1 _ hm
      have hx2 := hx (J (4 + 10 * q + 1 + 1) i).toNat (by omega)
      unfold ke; rw [hx2.2.1, hx2.2.2]
    · obtain ⟨e1, e2, e3⟩ := hx g hg
      rw [e1, e2, e3]
      obtain ⟨c1, c2, c3⟩ := b5 g hg
      exact ⟨c1, by omega, c3⟩
theorem gB_drop {p f m : Nat} (rB : gB J X) (hp : p < 4) (hf : f + m ≤ 16) : gB (drJ J (4 + 10 * p + 1) f m) (zfill X 72 (16 * p + f) m) := by
  obtain ⟨b1, b2, b3, b4, b5⟩ := rB p hp
  have hX : ∀ b, b ≠ 72 → zfill X 72 (16 * p + f) m b = X b := fun b h => zfill_ab h
  have h9 : zfill X 72 (16 * p + f) m 49 = X 49 := hX 49 (by decide)
  have e72 : ∀ q g, zfill X 72 (16 * p + f) m 72 (16 * q + g) = if 16 * p + f ≤ 16 * q + g ∧ 16 * q + g < 16 * p + f + m then 0 else X 72 (16 * q + g) := fun q g => by
    unfold zfill
    by_cases c : 16 * p + f ≤ 16 * q + g ∧ 16 * q + g < 16 * p + f + m
    · rw [if_pos c, if_pos ⟨rfl, c⟩]
    · rw [if_neg c, if_neg (fun h => c h.2)]
  refine gB_p (p := p) rB ⟨?_, ?_, ?_, ?_, ?_⟩ (fun q hq e => ⟨?_, ?_, ?_⟩) (fun q hq e g hg => ⟨?_, by rw [hX 73 (by decide)], by rw [hX 74 (by decide)]⟩) (by rw [h9]; exact Int.le_refl _)
  · rw [drJ_b]
    refine SL_congr (SL_filter (al' := fun i => kal X (16 * p) i ∧ ¬ (f ≤ i ∧ i < f + m)) _ b1 (fun i hi => ?_)) (fun i hi => ?_) (fun i hi h => ?_)
    · simp only [decide_eq_true_eq]
      constructor
      · intro h; exact ⟨h.1, by omega⟩
      · intro h; exact ⟨h.1, by omega⟩
    · unfold kal
      rw [e72]
      by_cases c : f ≤ i ∧ i < f + m
      · rw [if_pos (by omega)]
        constructor
        · intro h; omega
        · intro h; exact absurd c h.2
      · rw [if_neg (by omega)]
        exact ⟨fun h => ⟨h, c⟩, fun h => h.1⟩
    · show zfill X 72 (16 * p + f) m 72 (16 * p + i) = _
      rw [e72, if_neg (by omega)]
  · have : ke (zfill X 72 (16 * p + f) m) p = ke X p := by funext g; unfold ke; rw [hX 73 (by decide), hX 74 (by decide)]
    rw [this]; exact drJ_e b2
  · exact (drJ_c b3).1
  · have := (drJ_c (f := f) (g := m) b3).2.1; omega
  · intro g hg
    obtain ⟨c1, c2, c3⟩ := b5 g hg
    rw [e72, h9, hX 73 (by decide), hX 74 (by decide)]
    split
    · exact ⟨by omega, by omega, by omega⟩
    · exact ⟨c1, c2, c3⟩
  · funext j; exact drJ_ne (by omega) (by omega) (by omega)
  · funext j; exact drJ_ne (by omega) (by omega) (by omega)
  · funext j; exact drJ_ne (by omega) (by omega) (by omega)
  · rw [e72, if_neg (by omega)]
end SA
