/-! New threads and new orders: the relation. -/
theorem krn_c {K K' : Nat → Option ZK} {P P' : Nat → Nat → Option Nat} (hK : ∀ a, a < 79 → K' a = K a) (hP : ∀ a, a < 79 → P' a = P a) (hk : krn K P) : krn K' P' := by
  have hl : ∀ a c, a + 1 < 79 → zline K P a c → zline K' P' a c := fun a c ha z => ⟨by rw [hK a (by omega)]; exact z.1, by rw [hP a (by omega)]; exact z.2.1, by rw [hK (a + 1) ha]; exact z.2.2.1, z.2.2.2⟩
  obtain ⟨k1, p10, k2, p12, k3, p13, l44, p14, k46, p15, k47, p16, k48, p3, pp⟩ := hk
  refine ⟨by rw [hK (1) (by omega)]; exact k1, by rw [hP (1) (by omega)]; exact p10, by rw [hK (2) (by omega)]; exact k2, by rw [hP (1) (by omega)]; exact p12, by rw [hK (3) (by omega)]; exact k3, by rw [hP (1) (by omega)]; exact p13, hl 44 10 (by omega) l44, by rw [hP (1) (by omega)]; exact p14, by rw [hK (46) (by omega)]; exact k46, by rw [hP (1) (by omega)]; exact p15, by rw [hK (47) (by omega)]; exact k47, by rw [hP (1) (by omega)]; exact p16, by rw [hK (48) (by omega)]; exact k48, fun p hp => by rw [hP 3 (by omega)]; exact p3 p hp, fun p hp => ?_⟩
  obtain ⟨ky, py1, py2, py3, py4, ⟨b1, b2, b3, b4, b5⟩, l2, l3, l4⟩ := pp p hp
  exact ⟨by rw [hK (4 + 10 * p) (by omega)]; exact ky, by rw [hP (4 + 10 * p) (by omega)]; exact py1, by rw [hP (4 + 10 * p) (by omega)]; exact py2, by rw [hP (4 + 10 * p) (by omega)]; exact py3, by rw [hP (4 + 10 * p) (by omega)]; exact py4, ⟨by rw [hK (4 + 10 * p + 1) (by omega)]; exact b1, by rw [hP (4 + 10 * p + 1) (by omega)]; exact b2, by rw [hK (4 + 10 * p + 1 + 1) (by omega)]; exact b3, by rw [hP (4 + 10 * p + 1) (by omega)]; exact b4, by rw [hK (4 + 10 * p + 1 + 2) (by omega)]; exact b5⟩, hl _ _ (by omega) l2, hl _ _ (by omega) l3, hl _ _ (by omega) l4⟩
theorem msh_c {K K' : Nat → Option ZK} {P P' : Nat → Nat → Option Nat} (hK : ∀ a, a < 79 → K' a = K a) (hP : ∀ a, a < 79 → P' a = P a) (hm : msh K P) : msh K' P' := by
  obtain ⟨msk49, msp1, msk50, msp2, msk51, msp3, msk52, msp4, msk53, msp5, msk54, msp6, msk55, msp7, msk56, msp8, msk57, msp9, msk58, msp10, msk59, msp12, msk60, msp13, msk61, msp14, msk62, msp15, msk63, msp16, msk64, msp17, msk65, msp18, msk66, msp19, msk67, msp22, msk68, msp23, msk69, msp24, msk70, msp25, msk71, msp26, msk72, msp27, msk73, msp28, msk74, msp29, msk75, msp30, msk76, msp31, msk77, msp32, msk78⟩ := hm
  exact ⟨by rw [hK 49 (by omega)]; exact msk49, by rw [hP 49 (by omega)]; exact msp1, by rw [hK 50 (by omega)]; exact msk50, by rw [hP 49 (by omega)]; exact msp2, by rw [hK 51 (by omega)]; exact msk51, by rw [hP 49 (by omega)]; exact msp3, by rw [hK 52 (by omega)]; exact msk52, by rw [hP 49 (by omega)]; exact msp4, by rw [hK 53 (by omega)]; exact msk53, by rw [hP 49 (by omega)]; exact msp5, by rw [hK 54 (by omega)]; exact msk54, by rw [hP 49 (by omega)]; exact msp6, by rw [hK 55 (by omega)]; exact msk55, by rw [hP 49 (by omega)]; exact msp7, by rw [hK 56 (by omega)]; exact msk56, by rw [hP 49 (by omega)]; exact msp8, by rw [hK 57 (by omega)]; exact msk57, by rw [hP 49 (by omega)]; exact msp9, by rw [hK 58 (by omega)]; exact msk58, by rw [hP 49 (by omega)]; exact msp10, by rw [hK 59 (by omega)]; exact msk59, by rw [hP 49 (by omega)]; exact msp12, by rw [hK 60 (by omega)]; exact msk60, by rw [hP 49 (by omega)]; exact msp13, by rw [hK 61 (by omega)]; exact msk61, by rw [hP 49 (by omega)]; exact msp14, by rw [hK 62 (by omega)]; exact msk62, by rw [hP 49 (by omega)]; exact msp15, by rw [hK 63 (by omega)]; exact msk63, by rw [hP 49 (by omega)]; exact msp16, by rw [hK 64 (by omega)]; exact msk64, by rw [hP 49 (by omega)]; exact msp17, by rw [hK 65 (by omega)]; exact msk65, by rw [hP 49 (by omega)]; exact msp18, by rw [hK 66 (by omega)]; exact msk66, by rw [hP 49 (by omega)]; exact msp19, by rw [hK 67 (by omega)]; exact msk67, by rw [hP 49 (by omega)]; exact msp22, by rw [hK 68 (by omega)]; exact msk68, by rw [hP 49 (by omega)]; exact msp23, by rw [hK 69 (by omega)]; exact msk69, by rw [hP 49 (by omega)]; exact msp24, by rw [hK 70 (by omega)]; exact msk70, by rw [hP 49 (by omega)]; exact msp25, by rw [hK 71 (by omega)]; exact msk71, by rw [hP 49 (by omega)]; exact msp26, by rw [hK 72 (by omega)]; exact msk72, by rw [hP 49 (by omega)]; exact msp27, by rw [hK 73 (by omega)]; exact msk73, by rw [hP 49 (by omega)]; exact msp28, by rw [hK 74 (by omega)]; exact msk74, by rw [hP 49 (by omega)]; exact msp29, by rw [hK 75 (by omega)]; exact msk75, by rw [hP 49 (by omega)]; exact msp30, by rw [hK 76 (by omega)]; exact msk76, by rw [hP 49 (by omega)]; exact msp31, by rw [hK 77 (by omega)]; exact msk77, by rw [hP 49 (by omega)]; exact msp32, by rw [hK 78 (by omega)]; exact msk78⟩
theorem ztask_c {K K' : Nat → Option ZK} {P P' : Nat → Nat → Option Nat} {t : Nat} (hK : ∀ a, t ≤ a → a < t + 4 → K' a = K a) (h1 : P' t = P t) (h2 : P' (t + 2) = P (t + 2)) (z : ztask K P t) : ztask K' P' t := by
  obtain ⟨z1, z2, z3, z4, z5, z6, z7, z8⟩ := z
  exact ⟨by rw [hK t (by omega) (by omega)]; exact z1, by rw [h1]; exact z2, by rw [hK (t + 1) (by omega) (by omega)]; exact z3, by rw [h1]; exact z4, by rw [hK (t + 2) (by omega) (by omega)]; exact z5, by rw [h2]; exact z6, by rw [hK (t + 2 + 1) (by omega) (by omega)]; exact z7, z8⟩
theorem kc_58 {X : Mem} {t : Nat} (h : X 58 t = 0) : kc X t = 0 := by unfold kc; rw [if_neg (fun q => q.1 h)]
theorem kcf_p {X X' : Mem} {t : Nat} (x58 : X' 58 t = X 58 t) (x51 : X' 51 t = X 51 t) (x52 : X' 52 (oi X t) = X 52 (oi X t)) (x60 : X' 60 t = X 60 t) (x62 : X' 62 t = X 62 t) (x66 : X' 66 = X 66) (x67 : X' 67 t = X 67 t) : kc X' t = kc X t ∧ ∀ j : Nat, (j : Int) < kc X t → kf X' t j = kf X t j := by
  have hb : kb X' t = kb X t := by unfold kb; rw [x60, x62]
  refine ⟨?_, fun j _ => ?_⟩
  · unfold kc; rw [hb, x58, oi_c x51, x52, x60, x67]
  · unfold kf; rw [hb, x66]
section NA
variable {B nT n w t : Nat} {ta : Nat → Nat} {oa : Nat → Nat → Nat} {J X : Mem} {K : Nat → Option ZK} {P : Nat → Nat → Option Nat}
set_option maxHeartbeats 2000000 in
theorem S_app {c : Nat} {J' X' : Mem} {oa' : Nat → Nat → Nat} (hs : SH K P n nT ta oa X) (hR : RF B nT t ta oa J X) (ht : t < nT) (hc : X 50 t = c) (hc10 : c < 10) (h58 : X 58 t = 0 ∨ X 51 t < c)
    (hJ : ∀ a, ¬ (a = n ∨ a = ta t) → J' a = J a) (j2 : J' (ta t) 2 = c + 1) (jk : ∀ k, k ≠ 2 → J' (ta t) k = J (ta t) k)
    (hX : ∀ b, ¬ (b = 50 ∨ b = 52 ∨ b = 53 ∨ b = 54 ∨ b = 55) → X' b = X b) (hXi : ∀ b i, b ≠ 50 → i ≠ 10 * t + c → X' b i = X b i) (x50 : X' 50 t = c + 1) (x50u : ∀ u, u ≠ t → X' 50 u = X 50 u)
    (hO : OR J' X' n (10 * t + c)) (ho1 : oa' t c = n) (ho2 : ∀ u k, ¬ (u = t ∧ k = c) → oa' u k = oa u k) (hZ : gZ J' X') : RF B nT t ta oa' J' X' := by
  obtain ⟨rS, rW, rT, rE, rN, rO, rH, rC, rQ, rP, rD, rK, rF, rR, rM, rA, rL, rB, rU, rZ⟩ := hR
  obtain ⟨s1, s2, s3, s4, s5, s6, s7, s8, s9⟩ := hs
  have t79 := (s5 t ht).2.2.1
  have tn : ∀ u, u < nT → 79 ≤ ta u ∧ ta u + 4 ≤ n := fun u hu => ⟨(s5 u hu).2.2.1, (s5 u hu).2.2.2⟩
  have h9 : ∀ k, 0 ≤ k → X' 49 k = X 49 k := fun k _ => by rw [hX 49 (by omega)]
  have h11 : X 49 11 ≤ X' 49 11 := by rw [h9 11 (by omega)]; exact Int.le_refl _
  have h20 : X 49 20 ≤ X' 49 20 := by rw [h9 20 (by omega)]; exact Int.le_refl _
  have h21 := h9 21 (by omega)
  have htu : ∀ u, u < nT → u ≠ t → J' (ta u) = J (ta u) := fun u hu e => hJ _ (by have := s6 u t hu ht e; have := tn u hu; omega)
  have hta : ∀ u, u < nT → ∀ k, k ≠ 2 → J' (ta u) k = J (ta u) k := fun u hu k hk => by
    by_cases e : u = t
    · subst e; exact jk k hk
    · rw [htu u hu e]
  have hN0 := rN t ht
  have hdu : ∀ u, u < nT → u ≠ t → ¬ X 58 u = 0 → oi X u ≠ 10 * t + c := fun u hu e h => by
    obtain ⟨w1, w2, w3, w4⟩ := rH u hu
    have w5 := (w4 e).1
    obtain ⟨n1, n2, n3, n4, n5, n6⟩ := rN u hu
    have : ¬ X 51 u = X 50 u := fun q => h (w5.mpr q)
    clear w5 w4
    unfold oi; omega
  have hkcf : ∀ u, u < nT → kc X' u = kc X u ∧ ∀ j : Nat, (j : Int) < kc X u → kf X' u j = kf X u j := fun u hu => by
    by_cases c0 : X 58 u = 0
    · rw [kc_58 c0, kc_58 (by rw [hX 58 (by omega)]; exact c0)]
      exact ⟨rfl, fun j hj => by omega⟩
    · have hne : oi X u ≠ 10 * t + c := by
        by_cases e : u = t
        · subst e
          have := h58.resolve_left c0
          unfold oi; omega
        · exact hdu u hu e c0
      exact kcf_p (by rw [hX 58 (by omega)]) (by rw [hX 51 (by omega)]) (hXi 52 _ (by decide) hne) (by rw [hX 60 (by omega)]) (by rw [hX 62 (by omega)]) (hX 66 (by omega)) (by rw [hX 67 (by omega)])
  refine ⟨gS_c rS (by rw [hJ 1 (by omega)]) (by rw [hJ 1 (by omega)]) (by rw [hJ 1 (by omega)]) (by rw [hJ 1 (by omega)]) (h9 0 (by omega)) (h9 20 (by omega)) (h9 21 (by omega)) (h9 33 (by omega)), gW_c rW (hJ 46 (by omega)) (hX 71 (by omega)), gT_c rT (hJ 47 (by omega)) (hX 68 (by omega)) (hX 69 (by omega)), gE_c rE (hJ 48 (by omega)) (hX 70 (by omega)), ?_, ?_, ?_, gC_c rC (fun p hp => hJ _ (by omega)) (hX 57 (by omega)) (hX 58 (by omega)), gQ_c rQ (fun p hp => ⟨hJ _ (by omega), hJ _ (by omega)⟩) (hX 57 (by omega)) (hX 58 (by omega)) (hX 59 (by omega)) h11, ?_, ?_, ?_, gF_c rF (hX 68 (by omega)) (hX 75 (by omega)) (hX 76 (by omega)) h11 hkcf, gR_c rR (fun p hp => ⟨hJ _ (by omega), hJ _ (by omega)⟩) (hJ 44 (by omega)) (hJ 45 (by omega)) (hX 75 (by omega)) (hX 76 (by omega)), ?_, ?_, ?_, gB_c rB (fun p hp => ⟨hJ _ (by omega), hJ _ (by omega), hJ _ (by omega)⟩) (hX 72 (by omega)) (hX 73 (by omega)) (hX 74 (by omega)) h11, gU_c rU (h9 33 (by omega)) (h9 11 (by omega)) (h9 20 (by omega)), hZ⟩
  · intro u hu
    obtain ⟨n1, n2, n3, n4, n5, n6⟩ := rN u hu
    rw [hta u hu 0 (by decide), hta u hu 3 (by decide), hX 51 (by omega)]
    by_cases e : u = t
    · subst e; rw [j2, x50]; exact ⟨n1, rfl, n3, n4, by omega, by omega⟩
    · rw [htu u hu e, x50u u e]; exact ⟨n1, n2, n3, n4, n5, n6⟩
  · intro u hu k hk
    by_cases e : u = t ∧ k = c
    · obtain ⟨e1, e2⟩ := e
      subst e1; subst e2
      rw [ho1]
      exact ⟨hO, fun q => by rw [hX 51 (by omega)] at q; omega⟩
    · have hk' : (k : Int) < X 50 u := by
        by_cases eu : u = t
        · subst eu; rw [x50] at hk; omega
        · rw [x50u u eu] at hk; exact hk
      have n6 := (rN u hu).2.2.2.2.2
      have hne : 10 * u + k ≠ 10 * t + c := by omega
      have h1 := rO u hu k hk'
      have o4 := (s7 u hu k hk').2.2.2
      have o5 := s8 u hu k hk' t ht
      have hj : J' (oa u k) = J (oa u k) := hJ _ (by omega)
      rw [ho2 u k e]
      unfold OR at h1 ⊢
      rw [hj, hXi 52 _ (by decide) hne, hXi 53 _ (by decide) hne, hXi 54 _ (by decide) hne, hXi 55 _ (by decide) hne, hX 51 (by omega), hX 56 (by omega)]
      exact h1
  · exact fH_c rH (fun u hu e => ⟨hta u hu 4 (by decide), x50u u e, by rw [hX 51 (by omega)]⟩) (hX 57 (by omega)) (hX 58 (by omega))
  · intro u hu e h
    rw [hX 58 (by omega)] at h
    have hne := hdu u hu e h
    have j := htu u hu e
    rw [oi_c (X := X) (by rw [hX 51 (by omega)])]
    exact TH_c (rP u hu e h) (by rw [j]) (by rw [j]) (by rw [j]) (by rw [j]) h20 h21 (hXi 52 _ (by decide) hne) (hXi 54 _ (by decide) hne) (by rw [hX 58 (by omega)]) (by rw [hX 60 (by omega)]) (by rw [hX 61 (by omega)]) (by rw [hX 62 (by omega)]) (by rw [hX 64 (by omega)]) (by rw [hX 65 (by omega)]) (by rw [hX 67 (by omega)]) (fun _ q => by rw [hX 72 (by omega), hX 57 (by omega), hXi 53 _ (by decide) hne]; exact q)
  · exact fD_c rD (fun b u _ _ _ e => by rw [hX b (by omega)])
  · exact gK_c rK (fun u hu => by
      have a1 := tn u hu
      have a2 : ta u + 2 ≠ ta t ∧ ta u + 2 + 1 ≠ ta t := by
        by_cases e : u = t
        · subst e; omega
        · have := s6 u t hu ht e; omega
      exact ⟨by rw [hJ (ta u + 2) (by omega)], hJ (ta u + 2 + 1) (by omega)⟩) hkcf
  · intro u hu e h1 h2 h3
    rw [hX 58 (by omega)] at h1
    have hne := hdu u hu e h1
    rw [hX 60 (by omega)] at h2
    rw [oi_c (X := X) (by rw [hX 51 (by omega)]), hXi 52 _ (by decide) hne] at h3
    have h57 := rH u hu
    rw [oi_c (X := X) (by rw [hX 51 (by omega)]), hXi 54 _ (by decide) hne, hX 62 (by omega), hX 57 (by omega), hJ (4 + 10 * (X 57 u).toNat + 4) (by omega), hJ 44 (by omega)]
    exact rM u hu e h1 h2 h3
  · exact gA_c rA (fun u hu => hta u hu 8 (by decide)) (hX 63 (by omega)) (hX 77 (by omega)) (hX 78 (by omega))
  · exact fL_c rL (fun q hq => by rw [hJ (4 + 10 * q + 6) (by omega), hJ (4 + 10 * q + 6 + 1) (by omega)]; exact ⟨rfl, rfl⟩) (fun b u _ _ _ e => by rw [hX b (by omega)]) (hX 77 (by omega)) (hX 78 (by omega))
/-- where things lie after a new order -/
theorem SH_app {c : Nat} {X' : Mem} {K' : Nat → Option ZK} {P' : Nat → Nat → Option Nat} {oa' : Nat → Nat → Nat} (hs : SH K P n nT ta oa X) (ht : t < nT) (hc : X 50 t = c) (hK : ∀ a, a ≠ n → K' a = K a) (hKn : K' n = some (.inl 4)) (hP : ∀ a, ¬ (a = n ∨ a = ta t + 1) → P' a = P a) (hPt : P' (ta t + 1) c = some n) (hPk : ∀ k, k ≠ c → P' (ta t + 1) k = P (ta t + 1) k) (x50 : X' 50 t = c + 1) (x50u : ∀ u, u ≠ t → X' 50 u = X 50 u) (ho1 : oa' t c = n) (ho2 : ∀ u k, ¬ (u = t ∧ k = c) → oa' u k = oa u k) : SH K' P' (n + 1) nT ta oa' X' := by
  obtain ⟨s1, s2, s3, s4, s5, s6, s7, s8, s9⟩ := hs
  have t79 := (s5 t ht).2.2.1
  have tn : ∀ u, u < nT → 79 ≤ ta u ∧ ta u + 4 ≤ n := fun u hu => ⟨(s5 u hu).2.2.1, (s5 u hu).2.2.2⟩
  have hk : ∀ u (k : Nat), (k : Int) < X' 50 u → ¬ (u = t ∧ k = c) → (k : Int) < X 50 u := fun u k h e => by
    by_cases eu : u = t
    · subst eu; rw [x50] at h; omega
    · rw [x50u u eu] at h; exact h
  have hd : ∀ u, u < nT → ta u ≠ ta t + 1 ∧ ta u + 2 ≠ ta t + 1 := fun u hu => by
    by_cases e : u = t
    · subst e; omega
    · have := s6 u t hu ht e; omega
  refine ⟨krn_c (fun a ha => hK a (by omega)) (fun a ha => hP a (by omega)) s1, msh_c (fun a ha => hK a (by omega)) (fun a ha => hP a (by omega)) s2, s3, by omega, fun u hu => ?_, s6, fun u hu k h => ?_, fun u hu k h v hv => ?_, fun u v hu hv k i h1 h2 hne => ?_⟩
  · obtain ⟨a1, a2, a3, a4⟩ := s5 u hu
    have := tn u hu
    have := hd u hu
    exact ⟨by rw [hP 2 (by omega)]; exact a1, ztask_c (fun a h1 h2 => hK a (by omega)) (hP _ (by omega)) (hP _ (by omega)) a2, a3, by omega⟩
  · by_cases e : u = t ∧ k = c
    · obtain ⟨e1, e2⟩ := e
      subst e1; subst e2
      rw [ho1]; exact ⟨hPt, hKn, by omega, by omega⟩
    · obtain ⟨a1, a2, a3, a4⟩ := s7 u hu k (hk u k h e)
      rw [ho2 u k e]
      refine ⟨?_, by rw [hK _ (by omega)]; exact a2, a3, by omega⟩
      by_cases eu : u = t
      · subst eu
        rw [hPk k (fun q => e ⟨rfl, q⟩)]; exact a1
      · have := s6 u t hu ht eu
        have := tn u hu
        rw [hP _ (by omega)]; exact a1
  · by_cases e : u = t ∧ k = c
    · obtain ⟨e1, e2⟩ := e
      subst e1; subst e2
      rw [ho1]; have := tn v hv; omega
    · rw [ho2 u k e]; exact s8 u hu k (hk u k h e) v hv
  · by_cases e : u = t ∧ k = c
    · obtain ⟨e1, e2⟩ := e
      subst e1; subst e2
      have e' : ¬ (v = u ∧ i = k) := fun q => by omega
      rw [ho1, ho2 v i e']
      have := (s7 v hv i (hk v i h2 e')).2.2.2
      omega
    · by_cases e' : v = t ∧ i = c
      · obtain ⟨e1, e2⟩ := e'
        subst e1; subst e2
        rw [ho1, ho2 u k e]
        have := (s7 u hu k (hk u k h1 e)).2.2.2
        omega
      · rw [ho2 u k e, ho2 v i e']
        exact s9 u v hu hv k i (hk u k h1 e) (hk v i h2 e') hne
set_option maxHeartbeats 2000000 in
/-- a thread without work gets into the queue of its home -/
theorem S_enq {q : Nat} (hs : SH K P n nT ta oa X) (hR : RF B nT t ta oa J X) (ht : t < nT) (hB : B < 100000) (h58 : X 58 t = 0) (hq : q < 4) (h57 : X 57 t = q) (hph : X 60 t < 10 ∨ 13 < X 60 t) (hql : J (4 + 10 * q + 8) 1 ≤ 8) : RF (B + 1) nT t ta oa (adJ J (4 + 10 * q + 8) t) (zU (zU (zU X 58 t 1) 49 11 (X 49 11 + 1)) 59 t (X 49 11 + 1)) := by
  obtain ⟨rS, rW, rT, rE, rN, rO, rH, rC, rQ, rP, rD, rK, rF, rR, rM, rA, rL, rB, rU, rZ⟩ := hR
  obtain ⟨s1, s2, s3, s4, s5, s6, s7, s8, s9⟩ := hs
  have t79 := (s5 t ht).2.2.1
  obtain ⟨u1, u2, u3, u4, u5⟩ := rU
  have hn := s3
  have hRG : gZ (adJ J (4 + 10 * q + 8) t) (zU (zU (zU X 58 t 1) 49 11 (X 49 11 + 1)) 59 t (X 49 11 + 1)) := ⟨RG_adJ rZ.1 (by omega) ⟨by omega, by omega⟩, RG_U (RG_U (RG_U rZ.2 (by omega) (by omega)) (by omega) (by omega)) (by omega) (by omega)⟩
  have hJ : ∀ c, ¬ (c = 4 + 10 * q + 8 ∨ c = 4 + 10 * q + 8 + 1) → (adJ J (4 + 10 * q + 8) t) c = J c := fun c h => by funext j; exact adJ_ne (by omega) (by omega)
  have hlq : ln (adJ J (4 + 10 * q + 8) t) (4 + 10 * q + 8) = ln J (4 + 10 * q + 8) ++ [(t : Int)] := ln_add (rQ.1 q hq).2
  have hcq : (adJ J (4 + 10 * q + 8) t) (4 + 10 * q + 8) 1 = J (4 + 10 * q + 8) 1 + 1 := adJ_c
  have hX : ∀ b, ¬ (b = 58 ∨ b = 49 ∨ b = 59) → (zU (zU (zU X 58 t 1) 49 11 (X 49 11 + 1)) 59 t (X 49 11 + 1)) b = X b := fun b h => by
    rw [zU_ab _ _ _ (by omega), zU_ab _ _ _ (by omega), zU_ab _ _ _ (by omega)]
  have hXu : ∀ b u, b ≠ 49 → u ≠ t → (zU (zU (zU X 58 t 1) 49 11 (X 49 11 + 1)) 59 t (X 49 11 + 1)) b u = X b u := fun b u hb h => by
    rw [zU_u h, zU_ne (by omega), zU_u h]
  have h9 : ∀ k, k ≠ 11 → (zU (zU (zU X 58 t 1) 49 11 (X 49 11 + 1)) 59 t (X 49 11 + 1)) 49 k = X 49 k := fun k h => by
    rw [zU_ne (by decide), zU_k _ _ _ h, zU_ne (by decide)]
  have e11 : (zU (zU (zU X 58 t 1) 49 11 (X 49 11 + 1)) 59 t (X 49 11 + 1)) 49 11 = X 49 11 + 1 := by rw [zU_ne (by decide), zU_s]
  have x57 : (zU (zU (zU X 58 t 1) 49 11 (X 49 11 + 1)) 59 t (X 49 11 + 1)) 57 t = q := by rw [hX 57 (by omega)]; exact h57
  have x58 : (zU (zU (zU X 58 t 1) 49 11 (X 49 11 + 1)) 59 t (X 49 11 + 1)) 58 t = 1 := by rw [zU_ne (by decide), zU_ne (by decide), zU_s]
  have x59 : (zU (zU (zU X 58 t 1) 49 11 (X 49 11 + 1)) 59 t (X 49 11 + 1)) 59 t = X 49 11 + 1 := by rw [zU_s]
  generalize (zU (zU (zU X 58 t 1) 49 11 (X 49 11 + 1)) 59 t (X 49 11 + 1)) = X' at *
  generalize (adJ J (4 + 10 * q + 8) t) = J' at *
  have hta : ∀ u, u < nT → J' (ta u) = J (ta u) := fun u hu => hJ _ (by have := (s5 u hu).2.2.1; omega)
  have h11 : X 49 11 ≤ X' 49 11 := by omega
  have h20 : X 49 20 ≤ X' 49 20 := by rw [h9 20 (by decide)]; exact Int.le_refl _
  have h21 := h9 21 (by decide)
  have hkt : kc X t = 0 := kc_0 (by omega)
  have hkt' : kc X' t = 0 := kc_0 (by rw [hX 60 (by decide)]; omega)
  have hkcf : ∀ u, u < nT → kc X' u = kc X u ∧ ∀ j : Nat, (j : Int) < kc X u → kf X' u j = kf X u j := fun u hu => by
    by_cases e : u = t
    · subst e; exact ⟨by rw [hkt, hkt'], fun j hj => by omega⟩
    · exact kcf_c (hXu 58 u (by decide) e) (by rw [hX 51 (by decide)]) (hX 52 (by decide)) (by rw [hX 60 (by decide)]) (by rw [hX 62 (by decide)]) (hX 66 (by decide)) (by rw [hX 67 (by decide)])
  refine ⟨gS_c rS (by rw [hJ 1 (by omega)]) (by rw [hJ 1 (by omega)]) (by rw [hJ 1 (by omega)]) (by rw [hJ 1 (by omega)]) (h9 0 (by omega)) (h9 20 (by omega)) (h9 21 (by omega)) (h9 33 (by omega)), gW_c rW (hJ 46 (by omega)) (hX 71 (by omega)), gT_c rT (hJ 47 (by omega)) (hX 68 (by omega)) (hX 69 (by omega)), gE_c rE (hJ 48 (by omega)) (hX 70 (by omega)), gN_c rN (fun u hu => by rw [hta u hu]; exact ⟨rfl, rfl, rfl⟩) (hX 50 (by omega)) (hX 51 (by omega)), ?_, ?_, ?_, ?_, ?_, ?_, gK_c rK (fun u hu => ⟨by rw [hJ (ta u + 2) (by have := (s5 u hu).2.2.1; omega)], hJ (ta u + 2 + 1) (by have := (s5 u hu).2.2.1; omega)⟩) hkcf, gF_c rF (hX 68 (by omega)) (hX 75 (by omega)) (hX 76 (by omega)) h11 hkcf, gR_c rR (fun p hp => ⟨hJ _ (by omega), hJ _ (by omega)⟩) (hJ 44 (by omega)) (hJ 45 (by omega)) (hX 75 (by omega)) (hX 76 (by omega)), ?_, gA_c rA (fun u hu => by rw [hta u hu]) (hX 63 (by omega)) (hX 77 (by omega)) (hX 78 (by omega)), ?_, gB_c rB (fun p hp => ⟨hJ _ (by omega), hJ _ (by omega), hJ _ (by omega)⟩) (hX 72 (by omega)) (hX 73 (by omega)) (hX 74 (by omega)) h11, ⟨by rw [h9 33 (by decide)]; exact u1, by rw [h9 33 (by decide)]; omega, by omega, by omega, by rw [h9 20 (by decide)]; omega⟩, hRG⟩
  · exact gO_c rO (fun u hu k hk => hJ _ (by have := (s7 u hu k hk).2.2.1; omega)) (hX 50 (by omega)) (hX 51 (by omega)) (hX 52 (by omega)) (hX 53 (by omega)) (hX 54 (by omega)) (hX 55 (by omega)) (hX 56 (by omega))
  · intro u hu
    obtain ⟨a, b, c, d⟩ := rH u hu
    by_cases e : u = t
    · subst e; rw [x57, x58]; exact ⟨Or.inr (Or.inl rfl), by omega, by omega, fun h => absurd rfl h⟩
    · rw [hXu 57 u (by decide) e, hXu 58 u (by decide) e, hta u hu, hX 50 (by decide), hX 51 (by decide)]
      exact ⟨a, b, c, d⟩
  · intro i hi
    obtain ⟨c1, c2, c3, c4⟩ := rC i hi
    rw [hJ _ (by omega)]
    refine ⟨c1, c2, c3, fun u hu => ?_⟩
    by_cases eu : u = t
    · subst eu; rw [x58]
      exact ⟨fun h => by have := h.1; omega, fun h => by have := ((c4 u hu).mpr h).1; omega⟩
    · rw [hXu 58 u (by decide) eu, hXu 57 u (by decide) eu]; exact c4 u hu
  · refine ⟨fun i hi => ?_, fun u hu => ?_⟩
    · obtain ⟨b1, b2⟩ := rQ.1 i hi
      by_cases e : i = q
      · subst e
        rw [hlq, hcq]
        refine ⟨SL_add b1 ht (fun h => by have := h.1; omega) (fun u hu => ?_) (fun u hu e => hXu 59 u (by decide) e) (fun u hu _ => by rw [x59]; have := rQ.2 u hu; omega), by omega⟩
        unfold qal
        by_cases eu : u = t
        · subst eu; rw [x57, x58]; exact ⟨fun _ => Or.inr rfl, fun _ => ⟨rfl, rfl⟩⟩
        · rw [hXu 58 u (by decide) eu, hXu 57 u (by decide) eu]; exact ⟨fun h => Or.inl h, fun h => h.resolve_right eu⟩
      · rw [ln_congr (J := J) (by rw [hJ _ (by omega)]) (hJ _ (by omega)), hJ _ (by omega)]
        refine ⟨SL_congr b1 (fun u hu => ?_) (fun u hu h => hXu 59 u (by decide) (fun q => by subst q; have := h.1; omega)), b2⟩
        unfold qal
        by_cases eu : u = t
        · subst eu; rw [x57, x58]; exact ⟨fun h => by have := h.2; omega, fun h => by have := h.1; omega⟩
        · rw [hXu 58 u (by decide) eu, hXu 57 u (by decide) eu]
    · by_cases eu : u = t
      · subst eu; rw [x59]; omega
      · rw [hXu 59 u (by decide) eu]; have := rQ.2 u hu; omega
  · exact fP_c rP (fun u hu e => by rw [hta u hu]; exact ⟨rfl, rfl, rfl, rfl⟩) (fun b u _ _ _ _ _ _ _ _ _ _ e => hXu b u (by omega) e) (hX 52 (by omega)) (hX 54 (by omega)) h20 h21 (hX 53 (by omega)) (fun u _ _ _ _ h => by rw [hX 72 (by omega)]; exact h)
  · exact fD_c rD (fun b u _ _ _ e => hXu b u (by omega) e)
  · exact fM_c2 rM rH (fun b u _ _ _ _ _ _ _ _ e => hXu b u (by omega) e) (hX 52 (by omega)) (hX 54 (by omega)) (fun p hp => by rw [hJ (4 + 10 * p + 4) (by omega), hJ 44 (by omega)])
  · exact fL_c rL (fun q hq => by rw [hJ (4 + 10 * q + 6) (by omega), hJ (4 + 10 * q + 6 + 1) (by omega)]; exact ⟨rfl, rfl⟩) (fun b u _ _ _ e => hXu b u (by omega) e) (hX 77 (by omega)) (hX 78 (by omega))
/-- an order begins while its thread still has none -/
theorem S_begin0 {x : Int} (hs : SH K P n nT ta oa X) (hR : RF B nT t ta oa J X) (ht : t < nT) (h63 : X 63 t = 0) (h58 : X 58 t = 0) (hx : x < 10 ∨ x = 15) (hx0 : 0 ≤ x) : RF B nT t ta oa (zU (zU (zU J (ta t) 9 0) (ta t) 5 x) (ta t) 6 0) (beJ X t x) ∧ beJ X t x 60 t = x ∧ beJ X t x 62 t = 0 ∧ beJ X t x 64 t = 0 ∧ beJ X t x 65 t = 0 ∧ beJ X t x 67 t = 0 ∧ ∀ b, ¬ (b = 60 ∨ b = 61 ∨ b = 62 ∨ b = 64 ∨ b = 65 ∨ b = 67) → beJ X t x b = X b := by
  have rZ := hR.2.2.2.2.2.2.2.2.2.2.2.2.2.2.2.2.2.2.2
  have e60 : beJ X t x 60 t = x := by unfold beJ; rw [zU_ne (by decide), zU_ne (by decide), zU_ne (by decide), zU_ne (by decide), zU_ne (by decide), zU_s]
  have e62 : beJ X t x 62 t = 0 := by unfold beJ; rw [zU_ne (by decide), zU_ne (by decide), zU_ne (by decide), zU_ne (by decide), zU_s]
  have e64 : beJ X t x 64 t = 0 := by unfold beJ; rw [zU_ne (by decide), zU_ne (by decide), zU_s]
  have e67 : beJ X t x 67 t = 0 := by unfold beJ; rw [zU_ne (by decide), zU_s]
  have e65 : beJ X t x 65 t = 0 := by unfold beJ; rw [zU_s]
  have hXb : ∀ b, ¬ (b = 60 ∨ b = 61 ∨ b = 62 ∨ b = 64 ∨ b = 65 ∨ b = 67) → beJ X t x b = X b := fun b h => by
    unfold beJ
    rw [zU_ab _ _ _ (by omega), zU_ab _ _ _ (by omega), zU_ab _ _ _ (by omega)]
    by_cases e : b = 63
    · subst e
      funext k
      by_cases ek : k = t
      · subst ek; rw [zU_s, h63]
      · rw [zU_k _ _ _ ek, zU_ne (by decide), zU_ne (by decide)]
    · rw [zU_ab _ _ _ e, zU_ab _ _ _ (by omega), zU_ab _ _ _ (by omega)]
  have hXu : ∀ b u, u ≠ t → beJ X t x b u = X b u := fun b u h => by
    unfold beJ; rw [zU_u h, zU_u h, zU_u h, zU_u h, zU_u h, zU_u h]
  have hRX : RG (beJ X t x) := RG_U (RG_U (RG_U (RG_U (RG_U (RG_U rZ.2 (by omega) (by omega)) (by omega) (by omega)) (by omega) (by omega)) (by omega) (by omega)) (by omega) (by omega)) (by omega) (by omega)
  have k1 : kc (beJ X t x) t = 0 := kc_58 (by rw [hXb 58 (by omega)]; exact h58)
  have k2 : kc X t = 0 := kc_58 h58
  exact ⟨RF_loc hs hR ht (fun c h => by rw [zU_ab _ _ _ h, zU_ab _ _ _ h, zU_ab _ _ _ h]) (fun k h1 h2 h3 h4 => by rw [zU_k _ _ _ h2, zU_k _ _ _ h1, zU_k _ _ _ h4]) hXb hXu ⟨RG_U (RG_U (RG_U rZ.1 (by omega) (by omega)) (by omega) (by omega)) (by omega) (by omega), hRX⟩ ⟨by rw [k1, k2], fun j hj => by omega⟩, e60, e62, e64, e65, e67, hXb⟩
theorem SL_ext {l : List Int} {N : Nat} {al al' : Nat → Prop} {st st' : Nat → Int} (h : SL l N al st) (hn : ¬ al' N) (ha : ∀ i, i < N → (al' i ↔ al i)) (hs : ∀ i, i < N → st' i = st i) : SL l (N + 1) al' st' := by
  obtain ⟨h1, h2, h3⟩ := SL_congr h ha (fun i hi _ => hs i hi)
  refine ⟨fun x hx => ?_, fun i hi hal => ?_, h3⟩
  · have := h1 x hx
    exact ⟨this.1, by omega, this.2.2⟩
  · by_cases e : i = N
    · subst e; exact absurd hal hn
    · exact h2 i (by omega) hal
set_option maxHeartbeats 2000000 in
theorem S_thr {p : Nat} {J' X' : Mem} {ta' : Nat → Nat} (hs : SH K P n nT ta oa X) (hR : RR B nT ta oa J X) (hp : p < 4)
    (hJ : ∀ a, ¬ (a = 1 ∨ (n ≤ a ∧ a < n + 4)) → J' a = J a) (j11 : J' 1 1 = nT + 1) (j1k : ∀ k, k ≠ 1 → J' 1 k = J 1 k) (jn0 : J' n 0 = nT) (jn2 : J' n 2 = 0) (jn3 : J' n 3 = 0) (jn4 : J' n 4 = p) (jn8 : J' n 8 = 0) (jk1 : J' (n + 2) 1 = 0)
    (hX : ∀ b, ¬ (b = 57 ∨ b = 58 ∨ b = 49) → X' b = X b) (hXu : ∀ b u, b ≠ 49 → u ≠ nT → X' b u = X b u) (h9 : ∀ k, k ≠ 0 → X' 49 k = X 49 k) (x490 : X' 49 0 = nT + 1) (x57 : X' 57 nT = p) (x58 : X' 58 nT = 0)
    (z50 : X 50 nT = 0) (z51 : X 51 nT = 0) (z59 : X 59 nT = 0) (z63 : X 63 nT = 0) (ht1 : ta' nT = n) (ht2 : ∀ u, u < nT → ta' u = ta u) (hZ : gZ J' X') : RR B (nT + 1) ta' oa J' X' := by
  obtain ⟨rS, rW, rT, rE, rN, rO, rH, rC, rQ, rP, rD, rK, rF, rR, rM, rA, rL, rB, rU, rZ⟩ := hR
  obtain ⟨s1, s2, s3, s4, s5, s6, s7, s8, s9⟩ := hs
  obtain ⟨g1, g2, g3, g4, g5, g6, g7⟩ := rS
  have tn : ∀ u, u < nT → 79 ≤ ta u ∧ ta u + 4 ≤ n := fun u hu => ⟨(s5 u hu).2.2.1, (s5 u hu).2.2.2⟩
  have hta : ∀ u, u < nT → J' (ta' u) = J (ta u) := fun u hu => by rw [ht2 u hu]; exact hJ _ (by have := tn u hu; omega)
  have h11 : X 49 11 ≤ X' 49 11 := by rw [h9 11 (by omega)]; exact Int.le_refl _
  have hkc0 : kc X' nT = 0 := kc_58 x58
  have hkcf : ∀ u, u < nT → kc X' u = kc X u ∧ ∀ j : Nat, (j : Int) < kc X u → kf X' u j = kf X u j := fun u hu => kcf_p (hXu 58 u (by decide) (by omega)) (by rw [hX 51 (by omega)]) (by rw [hX 52 (by omega)]) (by rw [hX 60 (by omega)]) (by rw [hX 62 (by omega)]) (hX 66 (by omega)) (by rw [hX 67 (by omega)])
  have hoi : ∀ u, oi X' u = oi X u := fun u => oi_c (by rw [hX 51 (by omega)])
  refine ⟨⟨by rw [j11]; omega, by rw [x490]; omega, ?_, ?_, ?_, ?_, ?_⟩, gW_c rW (hJ 46 (by omega)) (hX 71 (by omega)), gT_c rT (hJ 47 (by omega)) (hX 68 (by omega)) (hX 69 (by omega)), gE_c rE (hJ 48 (by omega)) (hX 70 (by omega)), ?_, ?_, ?_, ?_, ?_, ?_, ?_, ?_, ?_, gR_c rR (fun p hp => ⟨hJ _ (by omega), hJ _ (by omega)⟩) (hJ 44 (by omega)) (hJ 45 (by omega)) (hX 75 (by omega)) (hX 76 (by omega)), ?_, ?_, ?_, gB_c rB (fun p hp => ⟨hJ _ (by omega), hJ _ (by omega), hJ _ (by omega)⟩) (hX 72 (by omega)) (hX 73 (by omega)) (hX 74 (by omega)) h11, ?_, hZ⟩
  · rw [j1k 7 (by decide), h9 20 (by decide)]; exact g3
  · rw [j1k 8 (by decide), h9 21 (by decide)]; exact g4
  · rw [j1k 9 (by decide), h9 33 (by decide)]; exact g5
  · rw [h9 21 (by decide)]; exact g6
  · rw [h9 21 (by decide), h9 20 (by decide)]; exact g7
  · intro u hu
    by_cases e : u = nT
    · subst e
      rw [ht1, jn0, jn2, jn3, hX 50 (by omega), hX 51 (by omega), z50, z51]
      exact ⟨rfl, rfl, rfl, by omega, by omega, by omega⟩
    · rw [hta u (by omega), hX 50 (by omega), hX 51 (by omega)]; exact rN u (by omega)
  · intro u hu k hk
    rw [hX 50 (by omega)] at hk
    by_cases e : u = nT
    · subst e; omega
    · have h1 := rO u (by omega) k hk
      obtain ⟨o1, o2, o3, o4⟩ := s7 u (by omega) k hk
      unfold OR at h1 ⊢
      rw [hJ (oa u k) (by omega), hX 51 (by omega), hX 52 (by omega), hX 53 (by omega), hX 54 (by omega), hX 55 (by omega), hX 56 (by omega)]
      exact h1
  · intro u hu
    by_cases e : u = nT
    · subst e
      rw [x57, x58, hX 50 (by omega), hX 51 (by omega), z50, z51, ht1, jn4]
      exact ⟨Or.inl rfl, by omega, by omega, ⟨fun _ => rfl, fun _ => rfl⟩, fun _ => rfl⟩
    · rw [hXu 57 u (by decide) e, hXu 58 u (by decide) e, hX 50 (by omega), hX 51 (by omega), hta u (by omega)]; exact rH u (by omega)
  · intro q hq
    obtain ⟨c1, c2, c3, c4⟩ := rC q hq
    rw [hJ (4 + 10 * q) (by omega)]
    refine ⟨c1, c2, by omega, fun u hu => ?_⟩
    by_cases e : u = nT
    · subst e
      rw [x58]
      exact ⟨fun h => by have := h.1; omega, fun h => by omega⟩
    · rw [hXu 57 u (by decide) e, hXu 58 u (by decide) e]; exact c4 u (by omega)
  · refine ⟨fun q hq => ?_, fun u hu => ?_⟩
    · obtain ⟨b1, b2⟩ := rQ.1 q hq
      rw [ln_congr (J := J) (by rw [hJ (4 + 10 * q + 8) (by omega)]) (hJ (4 + 10 * q + 8 + 1) (by omega)), hJ (4 + 10 * q + 8) (by omega)]
      refine ⟨SL_ext b1 (fun h => by have := h.1; omega) (fun u hu => ?_) (fun u hu => by rw [hX 59 (by omega)]), b2⟩
      unfold qal
      rw [hXu 57 u (by decide) (by omega), hXu 58 u (by decide) (by omega)]
    · rw [hX 59 (by omega)]
      by_cases e : u = nT
      · subst e; have := rU.2.2.1; omega
      · have := rQ.2 u (by omega); omega
  · intro u hu h
    by_cases e : u = nT
    · subst e; exact absurd x58 h
    · rw [hXu 58 u (by decide) e] at h
      have j := hta u (by omega)
      rw [hoi]
      exact TH_c (a := ta' u) (J := fun a => if a = ta' u then J (ta u) else J a) (by have h2 := rP u (by omega) h; unfold TH at h2 ⊢; simp only [if_true]; exact h2) (by simp only [if_true]; rw [j]) (by simp only [if_true]; rw [j]) (by simp only [if_true]; rw [j]) (by simp only [if_true]; rw [j]) (by rw [h9 20 (by omega)]; exact Int.le_refl _) (h9 21 (by omega)) (by rw [hX 52 (by omega)]) (by rw [hX 54 (by omega)]) (hXu 58 u (by decide) e) (by rw [hX 60 (by omega)]) (by rw [hX 61 (by omega)]) (by rw [hX 62 (by omega)]) (by rw [hX 64 (by omega)]) (by rw [hX 65 (by omega)]) (by rw [hX 67 (by omega)]) (fun _ q => by rw [hX 72 (by omega), hXu 57 u (by decide) e, hX 53 (by omega)]; exact q)
  · intro u v hu hv huv h1 h2
    have e1 : u ≠ nT := fun e => by subst e; exact h1 x58
    have e2 : v ≠ nT := fun e => by subst e; exact h2 x58
    rw [hXu 58 u (by decide) e1] at h1
    rw [hXu 58 v (by decide) e2] at h2
    rw [hX 60 (by omega), hX 61 (by omega)]
    exact rD u v (by omega) (by omega) huv h1 h2
  · intro u hu
    by_cases e : u = nT
    · subst e
      rw [ht1, hkc0, jk1]
      exact ⟨rfl, fun j hj => by omega⟩
    · obtain ⟨a1, a2⟩ := hkcf u (by omega)
      have := tn u (by omega)
      rw [ht2 u (by omega), hJ (ta u + 2) (by omega), hJ (ta u + 2 + 1) (by omega), a1]
      exact ⟨(rK u (by omega)).1, fun j hj => by rw [a2 j hj]; exact (rK u (by omega)).2 j hj⟩
  · obtain ⟨f1, f2, f3, f4⟩ := gF_c rF (hX 68 (by omega)) (hX 75 (by omega)) (hX 76 (by omega)) h11 hkcf
    refine ⟨f1, f2, f3, fun u hu => ?_⟩
    by_cases e : u = nT
    · subst e; rw [hkc0]; intro j hj; omega
    · exact f4 u (by omega)
  · intro u hu h
    by_cases e : u = nT
    · subst e; exact absurd x58 h
    · rw [hXu 58 u (by decide) e] at h
      have h57 := rH u (by omega)
      rw [hoi, hX 60 (by omega), hX 52 (by omega), hX 54 (by omega), hX 62 (by omega), hXu 57 u (by decide) e, hJ (4 + 10 * (X 57 u).toNat + 4) (by omega), hJ 44 (by omega)]
      exact rM u (by omega) h
  · intro u hu
    by_cases e : u = nT
    · subst e
      rw [ht1, jn8, hX 63 (by omega), z63]
      refine ⟨rfl, ?_⟩
      have h0 : ∀ k, k ≤ 4 → cnF (oal X' u) k = 0 := fun k => by
        induction k with
        | zero => intro _; rfl
        | succ k ih =>
          intro hk
          have := cnF_f (al := oal X' u) (k := k) (fun h => by
            unfold oal at h
            rw [hX 77 (by omega), hX 78 (by omega)] at h
            have := ((rL k (by omega)).2.2 h.1).2.2.1
            omega)
          have := ih (by omega)
          omega
      rw [h0 4 (by omega)]; rfl
    · have h1 := rA u (by omega)
      unfold oal at h1 ⊢
      rw [hta u (by omega), hX 63 (by omega), hX 77 (by omega), hX 78 (by omega)]; exact h1
  · intro q hq
    obtain ⟨c1, c2, c3⟩ := rL q hq
    rw [hJ (4 + 10 * q + 6) (by omega), hJ (4 + 10 * q + 6 + 1) (by omega), hX 77 (by omega), hX 78 (by omega)]
    refine ⟨c1, c2, fun c => ?_⟩
    obtain ⟨d1, d2, d3, d4, d5, d6⟩ := c3 c
    rw [hXu 58 (X 78 q).toNat (by decide) (by omega), hX 60 (by omega), hX 62 (by omega)]
    exact ⟨d1, d2, by omega, d4, d5, d6⟩
  · exact gU_c rU (h9 33 (by decide)) (h9 11 (by decide)) (h9 20 (by decide))
theorem SH_thr {X' : Mem} {K' : Nat → Option ZK} {P' : Nat → Nat → Option Nat} {ta' : Nat → Nat} (hs : SH K P n nT ta oa X) (h8 : nT < 8) (hK : ∀ a, a < n → K' a = K a) (hP : ∀ a, a < n → a ≠ 2 → P' a = P a) (hP2 : ∀ k, k ≠ nT → P' 2 k = P 2 k) (hPn : P' 2 nT = some n) (hz : ztask K' P' n) (x50 : X' 50 = X 50) (z50 : X 50 nT = 0) (ht1 : ta' nT = n) (ht2 : ∀ u, u < nT → ta' u = ta u) : SH K' P' (n + 4) (nT + 1) ta' oa X' := by
  obtain ⟨s1, s2, s3, s4, s5, s6, s7, s8, s9⟩ := hs
  have tn : ∀ u, u < nT → 79 ≤ ta u ∧ ta u + 4 ≤ n := fun u hu => ⟨(s5 u hu).2.2.1, (s5 u hu).2.2.2⟩
  have h2 : ∀ a, a < 79 → a ≠ 2 → P' a = P a := fun a ha hne => hP a (by omega) hne
  -- the tasks row itself is no part of what krn and msh say
  have hkr : krn K' P' := by
    have : krn K' (fun a => if a = 2 then P 2 else P' a) := krn_c (fun a ha => hK a (by omega)) (fun a ha => by
      by_cases e : a = 2
      · subst e; rw [if_pos rfl]
      · rw [if_neg e]; exact h2 a ha e) s1
    obtain ⟨k1, p10, k2, p12, k3, p13, ⟨l1, l2, l3, l4⟩, p14, k46, p15, k47, p16, k48, p3, pp⟩ := this
    refine ⟨k1, p10, k2, p12, k3, p13, ⟨l1, l2, l3, l4⟩, p14, k46, p15, k47, p16, k48, p3, fun p hp => ?_⟩
    obtain ⟨ky, py1, py2, py3, py4, ⟨b1, b2, b3, b4, b5⟩, ⟨m1, m2, m3, m4⟩, ⟨q1, q2, q3, q4⟩, ⟨r1, r2, r3, r4⟩⟩ := pp p hp
    dsimp only at py1 py2 py3 py4 b2 b4 m2 q2 r2
    rw [if_neg (by omega)] at py1
    rw [if_neg (by omega)] at py2
    rw [if_neg (by omega)] at py3
    rw [if_neg (by omega)] at py4
    rw [if_neg (by omega)] at b2
    rw [if_neg (by omega)] at b4
    rw [if_neg (by omega)] at m2
    rw [if_neg (by omega)] at q2
    rw [if_neg (by omega)] at r2
    exact ⟨ky, py1, py2, py3, py4, ⟨b1, b2, b3, b4, b5⟩, ⟨m1, m2, m3, m4⟩, ⟨q1, q2, q3, q4⟩, ⟨r1, r2, r3, r4⟩⟩
  have hms : msh K' P' := by
    have : msh K' (fun a => if a = 2 then P 2 else P' a) := msh_c (fun a ha => hK a (by omega)) (fun a ha => by
      by_cases e : a = 2
      · subst e; rw [if_pos rfl]
      · rw [if_neg e]; exact h2 a ha e) s2
    exact this
  refine ⟨hkr, hms, by omega, by omega, fun u hu => ?_, fun u v hu hv huv => ?_, fun u hu k h => ?_, fun u hu k h v hv => ?_, fun u v hu hv k i h1 h2 hne => ?_⟩
  · by_cases e : u = nT
    · subst e; rw [ht1]; exact ⟨hPn, hz, by omega, by omega⟩
    · obtain ⟨a1, a2, a3, a4⟩ := s5 u (by omega)
      rw [ht2 u (by omega)]
      exact ⟨by rw [hP2 u e]; exact a1, ztask_c (fun a h1 h2 => hK a (by omega)) (hP _ (by omega) (by omega)) (hP _ (by omega) (by omega)) a2, a3, by omega⟩
  · by_cases e : u = nT
    · subst e; rw [ht1, ht2 v (by omega)]; have := tn v (by omega); omega
    · by_cases e' : v = nT
      · subst e'; rw [ht1, ht2 u (by omega)]; have := tn u (by omega); omega
      · rw [ht2 u (by omega), ht2 v (by omega)]; exact s6 u v (by omega) (by omega) huv
  · rw [x50] at h
    have e : u ≠ nT := fun e => by subst e; omega
    obtain ⟨a1, a2, a3, a4⟩ := s7 u (by omega) k h
    have := tn u (by omega)
    rw [ht2 u (by omega)]
    exact ⟨by rw [hP _ (by omega) (by omega)]; exact a1, by rw [hK _ (by omega)]; exact a2, a3, by omega⟩
  · rw [x50] at h
    have e : u ≠ nT := fun e => by subst e; omega
    obtain ⟨a1, a2, a3, a4⟩ := s7 u (by omega) k h
    by_cases e' : v = nT
    · subst e'; rw [ht1]; omega
    · rw [ht2 v (by omega)]; exact s8 u (by omega) k h v (by omega)
  · rw [x50] at h1 h2
    have e1 : u ≠ nT := fun e => by subst e; omega
    have e2 : v ≠ nT := fun e => by subst e; omega
    exact s9 u v (by omega) (by omega) k i h1 h2 hne
end NA
