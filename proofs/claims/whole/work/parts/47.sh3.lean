/-! Mail, and pages taken away. -/
theorem cnF_add1 {al al' : Nat → Prop} {t : Nat} : ∀ N, (∀ i, i < N → (al' i ↔ (al i ∨ i = t))) → ¬ al t → (t < N → ((cnF al' N : Nat) : Int) = cnF al N + 1) ∧ (N ≤ t → cnF al' N = cnF al N) := by
  intro N
  induction N with
  | zero => intro _ _; exact ⟨fun h => by omega, fun _ => rfl⟩
  | succ k ih =>
    intro h hn
    obtain ⟨i1, i2⟩ := ih (fun i hi => h i (by omega)) hn
    have hk := h k (by omega)
    refine ⟨fun hlt => ?_, fun hle => ?_⟩
    · by_cases e : k = t
      · subst e
        rw [cnF_t (hk.mpr (Or.inr rfl)), cnF_f hn, i2 (by omega)]; omega
      · by_cases a : al k
        · rw [cnF_t (hk.mpr (Or.inl a)), cnF_t a, i1 (by omega)]
        · rw [cnF_f (fun q => (hk.mp q).elim a e), cnF_f a, i1 (by omega)]; omega
    · have e : k ≠ t := by omega
      have := i2 (by omega)
      by_cases a : al k
      · have h1 := cnF_t (hk.mpr (Or.inl a))
        have h2 := cnF_t a
        omega
      · have h1 := cnF_f (al := al') (k := k) (fun q => (hk.mp q).elim a e)
        have h2 := cnF_f a
        omega
section SC
variable {B nT n t : Nat} {ta : Nat → Nat} {oa : Nat → Nat → Nat} {J J' X X' : Mem} {K : Nat → Option ZK} {P : Nat → Nat → Option Nat}
/-- who holds the lock holds it alone -/
theorem lockU (hR : RF B nT t ta oa J X) (hT : TT nT t ta J X) (h5 : ¬ X 58 t = 0) (h1 : 9 ≤ X 60 t) (h2 : X 60 t ≤ 14) : ∀ u, u < nT → u ≠ t → ¬ X 58 u = 0 → ¬ (9 ≤ X 60 u ∧ X 60 u ≤ 14) := by
  obtain ⟨rS, rW, rT, rE, rN, rO, rH, rC, rQ, rP, rD, rK, rF, rR, rM, rA, rL, rB, rU, rZ⟩ := hR
  obtain ⟨t1, t2, t3, t4, t5⟩ := hT
  intro u hu hut hu5 c
  have b2 := TH_d9 (t2 h5) (by omega) (by omega)
  have b3 := t3 h5 (by omega) (by omega) u hu hut hu5 (by omega) (by omega)
  have b4 := TH_d9 (rP u hu hut hu5) c.1 c.2
  omega
theorem kcU (hR : RF B nT t ta oa J X) (hT : TT nT t ta J X) (h5 : ¬ X 58 t = 0) (h1 : 9 ≤ X 60 t) (h2 : X 60 t ≤ 14) : ∀ u, u < nT → u ≠ t → kc X u = 0 := by
  intro u hu hut
  by_cases e : X 58 u = 0
  · unfold kc; rw [if_neg (fun q => q.1 e)]
  · have := lockU hR hT h5 h1 h2 u hu hut e
    exact kc_0 (by omega)
set_option maxHeartbeats 1000000 in
theorem S_mail {q : Nat} (hs : SH K P n nT ta oa X) (hR : RF B nT t ta oa J X) (ht : t < nT) (hq : q < 4) (h77 : X 77 q = 0) (h63 : X 63 t ≤ 4) : RF B nT t ta oa (zU (adJ J (4 + 10 * q + 6) t) (ta t) 8 (J (ta t) 8 + 1)) (zU (zU (zU X 77 q 1) 78 q t) 63 t (X 63 t + 1)) := by
  obtain ⟨rS, rW, rT, rE, rN, rO, rH, rC, rQ, rP, rD, rK, rF, rR, rM, rA, rL, rB, rU, rZ⟩ := hR
  obtain ⟨s1, s2, s3, s4, s5, s6, s7, s8, s9⟩ := hs
  have t79 := (s5 t ht).2.2.1
  have a1 := rA t ht
  have r63 := rZ.2 63 t
  have l1 := rL q hq
  generalize hJ' : zU (adJ J (4 + 10 * q + 6) t) (ta t) 8 (J (ta t) 8 + 1) = J'
  generalize hX' : zU (zU (zU X 77 q 1) 78 q t) 63 t (X 63 t + 1) = X'
  have hJ : ∀ c, ¬ (c = 4 + 10 * q + 6 ∨ c = 4 + 10 * q + 6 + 1 ∨ c = ta t) → J' c = J c := fun c h => by
    rw [← hJ', zU_ab _ _ _ (by omega)]; funext j; exact adJ_ne (by omega) (by omega)
  have hX : ∀ b, ¬ (b = 63 ∨ b = 77 ∨ b = 78) → X' b = X b := fun b h => by
    rw [← hX', zU_ab _ _ _ (by omega), zU_ab _ _ _ (by omega), zU_ab _ _ _ (by omega)]
  have hta : ∀ u, u < nT → ∀ k, k ≠ 8 → J' (ta u) k = J (ta u) k := fun u hu k hk => by
    by_cases e : u = t
    · subst e; rw [← hJ', zU_k _ _ _ hk, adJ_ne (by omega) (by omega)]
    · have := s6 u t hu ht e
      have := (s5 u hu).2.2.1
      rw [hJ _ (by omega)]
  have hj8 : J' (ta t) 8 = J (ta t) 8 + 1 := by rw [← hJ', zU_s]
  have hm1 : J' (4 + 10 * q + 6) 1 = 1 := by rw [← hJ', zU_ne (by omega), adJ_c]; omega
  have hm0 : J' (4 + 10 * q + 6 + 1) 0 = t := by
    rw [← hJ', zU_ne (by omega)]
    unfold adJ
    rw [zU_ne (by omega), show (J (4 + 10 * q + 6) 1).toNat = 0 by omega, zU_s]
  have x77 : X' 77 q = 1 := by rw [← hX', zU_ne (by decide), zU_ne (by decide), zU_s]
  have x78 : X' 78 q = t := by rw [← hX', zU_ne (by decide), zU_s]
  have x77n : ∀ i, i ≠ q → X' 77 i = X 77 i := fun i h => by rw [← hX', zU_ne (by decide), zU_ne (by decide), zU_k _ _ _ h]
  have x78n : ∀ i, i ≠ q → X' 78 i = X 78 i := fun i h => by rw [← hX', zU_ne (by decide), zU_k _ _ _ h, zU_ne (by decide)]
  have x63 : X' 63 t = X 63 t + 1 := by rw [← hX', zU_s]
  have x63n : ∀ i, i ≠ t → X' 63 i = X 63 i := fun i h => by rw [← hX', zU_k _ _ _ h, zU_ne (by decide), zU_ne (by decide)]
  have h9 : ∀ k, k < 100 → X' 49 k = X 49 k := fun k _ => by rw [hX 49 (by decide)]
  have h11 : X 49 11 ≤ X' 49 11 := by rw [h9 11 (by decide)]; exact Int.le_refl _
  have h20 : X 49 20 ≤ X' 49 20 := by rw [h9 20 (by decide)]; exact Int.le_refl _
  have h21 := h9 21 (by decide)
  have hkcf : ∀ u, u < nT → kc X' u = kc X u ∧ ∀ j : Nat, (j : Int) < kc X u → kf X' u j = kf X u j := fun u hu => kcf_c (by rw [hX 58 (by decide)]) (by rw [hX 51 (by decide)]) (hX 52 (by decide)) (by rw [hX 60 (by decide)]) (by rw [hX 62 (by decide)]) (hX 66 (by decide)) (by rw [hX 67 (by decide)])
  have hk2 : ∀ u, u < nT → ¬ (ta u + 2 = ta t ∨ ta u + 2 + 1 = ta t) ∧ 79 ≤ ta u := fun u hu => by
    have := (s5 u hu).2.2.1
    by_cases e : u = t
    · subst e; omega
    · have := s6 u t hu ht e; omega
  have hRG : gZ J' X' := by
    rw [← hJ', ← hX']
    exact ⟨RG_U (RG_adJ rZ.1 (by omega) ⟨by omega, by omega⟩) (by omega) (by omega), RG_U (RG_U (RG_U rZ.2 (by omega) (by omega)) (by omega) (by omega)) (by omega) (by omega)⟩
  clear hJ' hX'
  refine ⟨gS_c rS (by rw [hJ 1 (by omega)]) (by rw [hJ 1 (by omega)]) (by rw [hJ 1 (by omega)]) (by rw [hJ 1 (by omega)]) (h9 0 (by omega)) (h9 20 (by omega)) (h9 21 (by omega)) (h9 33 (by omega)), gW_c rW (hJ 46 (by omega)) (hX 71 (by omega)), gT_c rT (hJ 47 (by omega)) (hX 68 (by omega)) (hX 69 (by omega)), gE_c rE (hJ 48 (by omega)) (hX 70 (by omega)), ?_, gO_c rO (fun u hu k hk => hJ _ (by have := (s7 u hu k hk).2.2.1; have := s8 u hu k hk t ht; omega)) (hX 50 (by omega)) (hX 51 (by omega)) (hX 52 (by omega)) (hX 53 (by omega)) (hX 54 (by omega)) (hX 55 (by omega)) (hX 56 (by omega)), ?_, gC_c rC (fun p hp => hJ _ (by omega)) (hX 57 (by omega)) (hX 58 (by omega)), gQ_c rQ (fun p hp => ⟨hJ _ (by omega), hJ _ (by omega)⟩) (hX 57 (by omega)) (hX 58 (by omega)) (hX 59 (by omega)) h11, ?_, fD_c rD (fun b u _ _ _ e => by rw [hX b (by omega)]), ?_, gF_c rF (hX 68 (by omega)) (hX 75 (by omega)) (hX 76 (by omega)) h11 hkcf, gR_c rR (fun p hp => ⟨hJ _ (by omega), hJ _ (by omega)⟩) (hJ 44 (by omega)) (hJ 45 (by omega)) (hX 75 (by omega)) (hX 76 (by omega)), fM_c2 rM rH (fun b u _ _ _ _ _ _ _ _ e => by rw [hX b (by omega)]) (hX 52 (by omega)) (hX 54 (by omega)) (fun p hp => by rw [hJ (4 + 10 * p + 4) (by omega), hJ 44 (by omega)]), ?_, ?_, gB_c rB (fun p hp => ⟨hJ _ (by omega), hJ _ (by omega), hJ _ (by omega)⟩) (hX 72 (by omega)) (hX 73 (by omega)) (hX 74 (by omega)) h11, gU_c rU (h9 33 (by omega)) (h9 11 (by omega)) (h9 20 (by omega)), hRG⟩
  · exact gN_c rN (fun u hu => ⟨hta u hu 0 (by decide), hta u hu 2 (by decide), hta u hu 3 (by decide)⟩) (hX 50 (by omega)) (hX 51 (by omega))
  · exact fH_c rH (fun u hu e => ⟨hta u hu 4 (by decide), by rw [hX 50 (by omega)], by rw [hX 51 (by omega)]⟩) (hX 57 (by omega)) (hX 58 (by omega))
  · exact fP_c rP (fun u hu e => ⟨hta u hu 5 (by decide), hta u hu 6 (by decide), hta u hu 7 (by decide), hta u hu 9 (by decide)⟩) (fun b u _ _ _ _ _ _ _ _ _ _ e => by rw [hX b (by omega)]) (hX 52 (by omega)) (hX 54 (by omega)) h20 h21 (hX 53 (by omega)) (fun u _ _ _ _ h => by rw [hX 72 (by omega)]; exact h)
  · exact gK_c rK (fun u hu => ⟨by rw [hJ (ta u + 2) (by have := hk2 u hu; omega)], hJ (ta u + 2 + 1) (by have := hk2 u hu; omega)⟩) hkcf
  · intro u hu
    by_cases e : u = t
    · subst e
      rw [hj8, x63]
      have := (cnF_add1 (al := oal X u) (al' := oal X' u) (t := q) 4 (fun i hi => by
        unfold oal
        by_cases ei : i = q
        · subst ei; rw [x77, x78]; exact ⟨fun _ => Or.inr rfl, fun _ => ⟨rfl, rfl⟩⟩
        · rw [x77n i ei, x78n i ei]; exact ⟨fun h => Or.inl h, fun h => h.resolve_right ei⟩) (fun h => by have := h.1; omega)).1 hq
      rw [this]
      exact ⟨by omega, by omega⟩
    · have ec : cnF (oal X' u) 4 = cnF (oal X u) 4 := cnF_congr (fun i hi => by
        unfold oal
        by_cases ei : i = q
        · subst ei; rw [x77, x78, h77]
          exact ⟨fun h => by have := h.2; omega, fun h => by have := h.1; omega⟩
        · rw [x77n i ei, x78n i ei])
      have := s6 u t hu ht e
      have := (s5 u hu).2.2.1
      rw [hJ _ (by omega), x63n u e, ec]
      exact rA u hu
  · intro i hi
    by_cases e : i = q
    · subst e
      rw [hm1, hm0, x77, x78]
      exact ⟨rfl, Or.inr rfl, fun _ => ⟨rfl, by omega, by omega, fun h => absurd (Int.toNat_natCast t) h⟩⟩
    · rw [hJ (4 + 10 * i + 6) (by omega), hJ (4 + 10 * i + 6 + 1) (by omega), x77n i e, x78n i e, hX 58 (by omega), hX 60 (by omega), hX 62 (by omega)]
      exact rL i hi
set_option maxHeartbeats 1000000 in
theorem S_ans {p f m : Nat} (hs : SH K P n nT ta oa X) (hR : RF B nT t ta oa J X) (ht : t < nT) (hp : p < 4) (hf : f + m ≤ 16) (h77 : X 77 p = 1) (h78 : X 78 p = t) : RF B nT t ta oa (zU (drJ (tfJ J (4 + 10 * p + 6)) (4 + 10 * p + 1) f m) (ta t) 8 (drJ (tfJ J (4 + 10 * p + 6)) (4 + 10 * p + 1) f m (ta t) 8 - 1)) (zU (zfill (zU X 77 p 0) 72 (16 * p + f) m) 63 t (X 63 t - 1)) := by
  obtain ⟨rS, rW, rT, rE, rN, rO, rH, rC, rQ, rP, rD, rK, rF, rR, rM, rA, rL, rB, rU, rZ⟩ := hR
  obtain ⟨s1, s2, s3, s4, s5, s6, s7, s8, s9⟩ := hs
  have t79 := (s5 t ht).2.2.1
  have a1 := rA t ht
  have r63 := rZ.2 63 t
  have l1 := rL p hp
  have hB0 : gB (tfJ J (4 + 10 * p + 6)) (zU X 77 p 0) := by
    refine gB_c rB (fun q hq => ⟨?_, ?_, ?_⟩) (zU_ab _ _ _ (by decide)) (zU_ab _ _ _ (by decide)) (zU_ab _ _ _ (by decide)) (by rw [zU_ne (by decide)]; exact Int.le_refl _)
    · funext j; exact tfJ_ne (by omega) (by omega)
    · funext j; exact tfJ_ne (by omega) (by omega)
    · funext j; exact tfJ_ne (by omega) (by omega)
  have hB1 := gB_drop (p := p) (f := f) (m := m) hB0 hp hf
  have hRJ : RG (drJ (tfJ J (4 + 10 * p + 6)) (4 + 10 * p + 1) f m) := RG_drJ (RG_tfJ rZ.1 (by omega)) (hB0 p hp).2.2.2.1
  have hRX : RG (zfill (zU X 77 p 0) 72 (16 * p + f) m) := RG_zfill (RG_U rZ.2 (by omega) (by omega))
  have hdr : ∀ c, ¬ (c = 4 + 10 * p + 6 ∨ c = 4 + 10 * p + 6 + 1 ∨ c = 4 + 10 * p + 1 ∨ c = 4 + 10 * p + 2 ∨ c = 4 + 10 * p + 3) → drJ (tfJ J (4 + 10 * p + 6)) (4 + 10 * p + 1) f m c = J c := fun c h => by
    funext j; rw [drJ_ne (by omega) (by omega) (by omega), tfJ_ne (by omega) (by omega)]
  have hdm : drJ (tfJ J (4 + 10 * p + 6)) (4 + 10 * p + 1) f m (4 + 10 * p + 6) 1 = 0 := by
    rw [drJ_ne (by omega) (by omega) (by omega), tfJ_c]; omega
  have hz : ∀ b, b ≠ 72 → b ≠ 77 → zfill (zU X 77 p 0) 72 (16 * p + f) m b = X b := fun b h h2 => by rw [zfill_ab h, zU_ab _ _ _ h2]
  have hz72 : ∀ i, X 72 i = 0 → zfill (zU X 77 p 0) 72 (16 * p + f) m 72 i = 0 := fun i h => by
    unfold zfill
    split
    · rfl
    · rw [zU_ne (by decide)]; exact h
  have hz77 : ∀ i, zfill (zU X 77 p 0) 72 (16 * p + f) m 77 i = zU X 77 p 0 77 i := fun i => zfill_ne (by decide)
  generalize drJ (tfJ J (4 + 10 * p + 6)) (4 + 10 * p + 1) f m = J1 at *
  generalize zfill (zU X 77 p 0) 72 (16 * p + f) m = X1 at *
  have e8 : J1 (ta t) 8 = J (ta t) 8 := by rw [hdr _ (by omega)]
  rw [e8]
  have hB2 : gB (zU J1 (ta t) 8 (J (ta t) 8 - 1)) (zU X1 63 t (X 63 t - 1)) := gB_c hB1 (fun q hq => ⟨zU_ab _ _ _ (by omega), zU_ab _ _ _ (by omega), zU_ab _ _ _ (by omega)⟩) (zU_ab _ _ _ (by decide)) (zU_ab _ _ _ (by decide)) (zU_ab _ _ _ (by decide)) (by rw [zU_ne (by decide)]; exact Int.le_refl _)
  have hcn := cnF_le (oal X t) 4
  have hRG : gZ (zU J1 (ta t) 8 (J (ta t) 8 - 1)) (zU X1 63 t (X 63 t - 1)) := ⟨RG_U hRJ (by omega) (by omega), RG_U hRX (by omega) (by omega)⟩
  have hm1 : zU J1 (ta t) 8 (J (ta t) 8 - 1) (4 + 10 * p + 6) 1 = 0 := by rw [zU_ne (by omega)]; exact hdm
  have hJ : ∀ c, ¬ (c = 4 + 10 * p + 6 ∨ c = 4 + 10 * p + 6 + 1 ∨ c = 4 + 10 * p + 1 ∨ c = 4 + 10 * p + 2 ∨ c = 4 + 10 * p + 3 ∨ c = ta t) → zU J1 (ta t) 8 (J (ta t) 8 - 1) c = J c := fun c h => by rw [zU_ab _ _ _ (by omega), hdr c (by omega)]
  have hX : ∀ b, ¬ (b = 63 ∨ b = 77 ∨ b = 72) → zU X1 63 t (X 63 t - 1) b = X b := fun b h => by rw [zU_ab _ _ _ (by omega), hz b (by omega) (by omega)]
  have hta : ∀ u, u < nT → ∀ k, k ≠ 8 → zU J1 (ta t) 8 (J (ta t) 8 - 1) (ta u) k = J (ta u) k := fun u hu k hk => by
    by_cases e : u = t
    · subst e; rw [zU_k _ _ _ hk, hdr _ (by omega)]
    · have := s6 u t hu ht e
      have := (s5 u hu).2.2.1
      rw [hJ _ (by omega)]
  have hj8 : zU J1 (ta t) 8 (J (ta t) 8 - 1) (ta t) 8 = J (ta t) 8 - 1 := zU_s _ _ _ _
  have x77 : zU X1 63 t (X 63 t - 1) 77 p = 0 := by rw [zU_ne (by decide), hz77, zU_s]
  have x77n : ∀ i, i ≠ p → zU X1 63 t (X 63 t - 1) 77 i = X 77 i := fun i h => by rw [zU_ne (by decide), hz77, zU_k _ _ _ h]
  have x63 : zU X1 63 t (X 63 t - 1) 63 t = X 63 t - 1 := zU_s _ _ _ _
  have x63n : ∀ i, i ≠ t → zU X1 63 t (X 63 t - 1) 63 i = X 63 i := fun i h => by rw [zU_k _ _ _ h, hz 63 (by decide) (by decide)]
  have x72 : ∀ i, X 72 i = 0 → zU X1 63 t (X 63 t - 1) 72 i = 0 := fun i h => by rw [zU_ne (by decide)]; exact hz72 i h
  generalize zU J1 (ta t) 8 (J (ta t) 8 - 1) = J' at *
  generalize zU X1 63 t (X 63 t - 1) = X' at *
  have h9 : ∀ k, k < 100 → X' 49 k = X 49 k := fun k _ => by rw [hX 49 (by decide)]
  have h11 : X 49 11 ≤ X' 49 11 := by rw [h9 11 (by decide)]; exact Int.le_refl _
  have h20 : X 49 20 ≤ X' 49 20 := by rw [h9 20 (by decide)]; exact Int.le_refl _
  have h21 := h9 21 (by decide)
  have hkcf : ∀ u, u < nT → kc X' u = kc X u ∧ ∀ j : Nat, (j : Int) < kc X u → kf X' u j = kf X u j := fun u hu => kcf_c (by rw [hX 58 (by decide)]) (by rw [hX 51 (by decide)]) (hX 52 (by decide)) (by rw [hX 60 (by decide)]) (by rw [hX 62 (by decide)]) (hX 66 (by decide)) (by rw [hX 67 (by decide)])
  have hk2 : ∀ u, u < nT → ¬ (ta u + 2 = ta t ∨ ta u + 2 + 1 = ta t) ∧ 79 ≤ ta u := fun u hu => by
    have := (s5 u hu).2.2.1
    by_cases e : u = t
    · subst e; omega
    · have := s6 u t hu ht e; omega
  refine ⟨gS_c rS (by rw [hJ 1 (by omega)]) (by rw [hJ 1 (by omega)]) (by rw [hJ 1 (by omega)]) (by rw [hJ 1 (by omega)]) (h9 0 (by omega)) (h9 20 (by omega)) (h9 21 (by omega)) (h9 33 (by omega)), gW_c rW (hJ 46 (by omega)) (hX 71 (by omega)), gT_c rT (hJ 47 (by omega)) (hX 68 (by omega)) (hX 69 (by omega)), gE_c rE (hJ 48 (by omega)) (hX 70 (by omega)), ?_, gO_c rO (fun u hu k hk => hJ _ (by have := (s7 u hu k hk).2.2.1; have := s8 u hu k hk t ht; omega)) (hX 50 (by omega)) (hX 51 (by omega)) (hX 52 (by omega)) (hX 53 (by omega)) (hX 54 (by omega)) (hX 55 (by omega)) (hX 56 (by omega)), ?_, gC_c rC (fun p hp => hJ _ (by omega)) (hX 57 (by omega)) (hX 58 (by omega)), gQ_c rQ (fun p hp => ⟨hJ _ (by omega), hJ _ (by omega)⟩) (hX 57 (by omega)) (hX 58 (by omega)) (hX 59 (by omega)) h11, ?_, fD_c rD (fun b u _ _ _ e => by rw [hX b (by omega)]), ?_, gF_c rF (hX 68 (by omega)) (hX 75 (by omega)) (hX 76 (by omega)) h11 hkcf, gR_c rR (fun p hp => ⟨hJ _ (by omega), hJ _ (by omega)⟩) (hJ 44 (by omega)) (hJ 45 (by omega)) (hX 75 (by omega)) (hX 76 (by omega)), fM_c2 rM rH (fun b u _ _ _ _ _ _ _ _ e => by rw [hX b (by omega)]) (hX 52 (by omega)) (hX 54 (by omega)) (fun p hp => by rw [hJ (4 + 10 * p + 4) (by omega), hJ 44 (by omega)]), ?_, ?_, hB2, gU_c rU (h9 33 (by omega)) (h9 11 (by omega)) (h9 20 (by omega)), hRG⟩
  · exact gN_c rN (fun u hu => ⟨hta u hu 0 (by decide), hta u hu 2 (by decide), hta u hu 3 (by decide)⟩) (hX 50 (by omega)) (hX 51 (by omega))
  · exact fH_c rH (fun u hu e => ⟨hta u hu 4 (by decide), by rw [hX 50 (by omega)], by rw [hX 51 (by omega)]⟩) (hX 57 (by omega)) (hX 58 (by omega))
  · exact fP_c rP (fun u hu e => ⟨hta u hu 5 (by decide), hta u hu 6 (by decide), hta u hu 7 (by decide), hta u hu 9 (by decide)⟩) (fun b u _ _ _ _ _ _ _ _ _ _ e => by rw [hX b (by omega)]) (hX 52 (by omega)) (hX 54 (by omega)) h20 h21 (hX 53 (by omega)) (fun u _ _ _ _ h => x72 _ h)
  · exact gK_c rK (fun u hu => ⟨by rw [hJ (ta u + 2) (by have := hk2 u hu; omega)], hJ (ta u + 2 + 1) (by have := hk2 u hu; omega)⟩) hkcf
  · intro u hu
    by_cases e : u = t
    · subst e
      rw [hj8, x63]
      have := (cnF_add1 (al := oal X' u) (al' := oal X u) (t := p) 4 (fun i hi => by
        unfold oal
        by_cases ei : i = p
        · subst ei; rw [h77, h78]; exact ⟨fun _ => Or.inr rfl, fun _ => ⟨rfl, rfl⟩⟩
        · rw [x77n i ei, hX 78 (by omega)]; exact ⟨fun h => Or.inl h, fun h => h.resolve_right ei⟩) (fun h => by have := h.1; omega)).1 hp
      exact ⟨by omega, by omega⟩
    · have ec : cnF (oal X' u) 4 = cnF (oal X u) 4 := cnF_congr (fun i hi => by
        unfold oal
        by_cases ei : i = p
        · subst ei; rw [x77, h78, h77]
          exact ⟨fun h => by have := h.1; omega, fun h => by have := h.2; omega⟩
        · rw [x77n i ei, hX 78 (by omega)])
      have := s6 u t hu ht e
      have := (s5 u hu).2.2.1
      rw [hJ _ (by omega), x63n u e, ec]
      exact rA u hu
  · intro i hi
    by_cases e : i = p
    · subst e
      rw [hm1, x77]
      exact ⟨rfl, Or.inl rfl, fun h => by omega⟩
    · rw [hJ (4 + 10 * i + 6) (by omega), hJ (4 + 10 * i + 6 + 1) (by omega), x77n i e, hX 78 (by omega), hX 58 (by omega), hX 60 (by omega), hX 62 (by omega)]
      exact rL i hi
end SC
