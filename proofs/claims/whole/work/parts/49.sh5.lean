/-! A frame given back; an order finished; a thread sent away. -/
theorem adJ_congr {Z J : Mem} {R : Nat} {x : Int} (hZ : ∀ c j, c < 79 → Z c j = J c j) (hR : R + 1 < 79) {c : Nat} (hc : c < 79) : adJ Z R x c = adJ J R x c := by
  funext j
  unfold adJ zU
  rw [hZ R 1 (by omega), hZ c j hc, hZ R j (by omega), hZ (R + 1) j (by omega)]
section SE
variable {B nT n t : Nat} {ta : Nat → Nat} {oa : Nat → Nat → Nat} {J J' X X' : Mem} {K : Nat → Option ZK} {P : Nat → Nat → Option Nat}
theorem gR_addroom {p fr : Nat} {T : Int} (rR : gR J X) (hp : p < 4) (hfr : fr < 10) (h75 : X 75 fr = -1) (hc : J (4 + 10 * p + 4) 1 < 2) (hT : ∀ f, f < 10 → X 76 f < T) (x75 : X' 75 fr = p) (x75n : ∀ i, i ≠ fr → X' 75 i = X 75 i) (x76 : X' 76 fr = T) (x76n : ∀ i, i ≠ fr → X' 76 i = X 76 i) : gR (adJ J (4 + 10 * p + 4) fr) X' := by
  obtain ⟨r1, r2, r3⟩ := rR
  refine ⟨fun q hq => ?_, ?_, ?_⟩
  · obtain ⟨b1, b2, b3⟩ := r1 q hq
    by_cases e : q = p
    · subst e
      rw [ln_add b2, adJ_c]
      refine ⟨SL_add b1 hfr (by omega) (fun i hi => ?_) (fun i hi ei => x76n i ei) (fun i hi _ => by rw [x76]; exact hT i hi), by omega, by omega⟩
      by_cases ei : i = fr
      · subst ei; exact ⟨fun _ => Or.inr rfl, fun _ => x75⟩
      · rw [x75n i ei]; exact ⟨fun h => Or.inl h, fun h => h.resolve_right ei⟩
    · rw [ln_congr (J := J) (adJ_ne (by omega) (by omega)) (by funext j; exact adJ_ne (by omega) (by omega)), adJ_ne (by omega) (by omega)]
      refine ⟨SL_congr b1 (fun i hi => ?_) (fun i hi h => x76n i (fun q => by subst q; omega)), b2, b3⟩
      by_cases ei : i = fr
      · subst ei; exact ⟨fun h => by omega, fun h => by omega⟩
      · rw [x75n i ei]
  · rw [ln_congr (J := J) (adJ_ne (by omega) (by omega)) (by funext j; exact adJ_ne (by omega) (by omega))]
    refine SL_congr r2 (fun i hi => ?_) (fun i hi h => x76n i (fun q => by subst q; omega))
    by_cases ei : i = fr
    · subst ei; exact ⟨fun h => by omega, fun h => by omega⟩
    · rw [x75n i ei]
  · rw [adJ_ne (by omega) (by omega)]; exact r3
theorem gR_addpool {fr : Nat} {T : Int} (rR : gR J X) (hfr : fr < 10) (h75 : X 75 fr = -1) (hT : ∀ f, f < 10 → X 76 f < T) (x75 : X' 75 fr = 4) (x75n : ∀ i, i ≠ fr → X' 75 i = X 75 i) (x76 : X' 76 fr = T) (x76n : ∀ i, i ≠ fr → X' 76 i = X 76 i) : gR (adJ J 44 fr) X' := by
  obtain ⟨r1, r2, r3⟩ := rR
  refine ⟨fun q hq => ?_, ?_, ?_⟩
  · obtain ⟨b1, b2, b3⟩ := r1 q hq
    rw [ln_congr (J := J) (adJ_ne (by omega) (by omega)) (by funext j; exact adJ_ne (by omega) (by omega)), adJ_ne (by omega) (by omega)]
    refine ⟨SL_congr b1 (fun i hi => ?_) (fun i hi h => x76n i (fun q => by subst q; omega)), b2, b3⟩
    by_cases ei : i = fr
    · subst ei; exact ⟨fun h => by omega, fun h => by omega⟩
    · rw [x75n i ei]
  · rw [ln_add r3]
    refine SL_add r2 hfr (by omega) (fun i hi => ?_) (fun i hi ei => x76n i ei) (fun i hi _ => by rw [x76]; exact hT i hi)
    by_cases ei : i = fr
    · subst ei; exact ⟨fun _ => Or.inr rfl, fun _ => x75⟩
    · rw [x75n i ei]; exact ⟨fun h => Or.inl h, fun h => h.resolve_right ei⟩
  · rw [adJ_c]; omega
set_option maxHeartbeats 1000000 in
theorem S_rel {p q fr ks R : Nat} {rm ph : Int} (hs : SH K P n nT ta oa X) (hR : RF B nT t ta oa J X) (hT : TT nT t ta J X) (ht : t < nT) (hB : B < 100000) (h58 : ¬ X 58 t = 0) (h52 : X 52 (oi X t) = 3) (h60 : X 60 t = 13) (h62 : X 62 t = q) (h67 : X 67 t = ks) (hq : q < ks) (hks : ks ≤ 4) (hp : p < 4) (hfr : X 66 (4 * t + q) = fr) (hrm : -1 ≤ rm ∧ rm ≤ 4) (hRr : R = 44 ∨ R = 4 + 10 * p + 4) (hR10 : J R 1 ≤ 10)
    (hg : ∀ X', X' 75 fr = rm → (∀ i, i ≠ fr → X' 75 i = X 75 i) → X' 76 fr = X 49 11 + 1 → (∀ i, i ≠ fr → X' 76 i = X 76 i) → gR (adJ J R fr) X') (hph : ph = if q + 1 = ks then 14 else 13) :
    RF (B + 1) nT t ta oa (adJ (tfJ J (ta t + 2)) R fr) (zU (zU (zU (zU (zU X 75 fr rm) 49 11 (X 49 11 + 1)) 76 fr (X 49 11 + 1)) 62 t (q + 1)) 60 t ph) := by
  have hku := kcU hR hT h58 (by omega) (by omega)
  have hlk := lockU hR hT h58 (by omega) (by omega)
  obtain ⟨rS, rW, rT, rE, rN, rO, rH, rC, rQ, rP, rD, rK, rF, rR, rM, rA, rL, rB, rU, rZ⟩ := hR
  obtain ⟨s1, s2, s3, s4, s5, s6, s7, s8, s9⟩ := hs
  have t79 := (s5 t ht).2.2.1
  have hkt := kc_1 h58 h52 (by omega) (by omega)
  have hkb : kb X t = q := by unfold kb; rw [if_pos h60, h62]
  have k1 := rK t ht
  rw [hkt, hkb, h67] at k1
  have hkt2 : kc X t = ks - q := by rw [hkt, hkb, h67]
  obtain ⟨f1, f2, f3, f4⟩ := rF
  have hkf0 : kf X t 0 = fr := by unfold kf; rw [hkb]; exact hfr
  have ff := f4 t ht 0 (by omega)
  rw [hkf0] at ff
  have hgR := hg (zU (zU (zU (zU (zU X 75 fr rm) 49 11 (X 49 11 + 1)) 76 fr (X 49 11 + 1)) 62 t (q + 1)) 60 t ph) (by rw [zU_ne (by decide), zU_ne (by decide), zU_ne (by decide), zU_ne (by decide), zU_s]) (fun i h => by rw [zU_ne (by decide), zU_ne (by decide), zU_ne (by decide), zU_ne (by decide), zU_k _ _ _ h]) (by rw [zU_ne (by decide), zU_ne (by decide), zU_s]) (fun i h => by rw [zU_ne (by decide), zU_ne (by decide), zU_k _ _ _ h, zU_ne (by decide), zU_ne (by decide)])
  have hph2 : ph = 13 ∨ ph = 14 := by rw [hph]; split <;> omega
  obtain ⟨u1, u2, u3, u4, u5⟩ := rU
  have hZ : ∀ c j, c < 79 → tfJ J (ta t + 2) c j = J c j := fun c j h => tfJ_ne (by omega) (by omega)
  have hgR2 : gR (adJ (tfJ J (ta t + 2)) R fr) (zU (zU (zU (zU (zU X 75 fr rm) 49 11 (X 49 11 + 1)) 76 fr (X 49 11 + 1)) 62 t (q + 1)) 60 t ph) := gR_c hgR (fun i hi => ⟨adJ_congr hZ (by omega) (by omega), adJ_congr hZ (by omega) (by omega)⟩) (adJ_congr hZ (by omega) (by omega)) (adJ_congr hZ (by omega) (by omega)) rfl rfl
  have hRG : gZ (adJ (tfJ J (ta t + 2)) R fr) (zU (zU (zU (zU (zU X 75 fr rm) 49 11 (X 49 11 + 1)) 76 fr (X 49 11 + 1)) 62 t (q + 1)) 60 t ph) := ⟨RG_adJ (RG_tfJ rZ.1 (by omega)) (by rw [hZ R 1 (by omega)]; omega) ⟨by omega, by omega⟩, RG_U (RG_U (RG_U (RG_U (RG_U rZ.2 (by omega) (by omega)) (by omega) (by omega)) (by omega) (by omega)) (by omega) (by omega)) (by omega) (by omega)⟩
  have hc1 : adJ (tfJ J (ta t + 2)) R fr (ta t + 2) 1 = ks - q - 1 := by rw [adJ_ne (by omega) (by omega), tfJ_c]; omega
  have hc2 : ∀ j : Nat, (j : Int) < ks - q - 1 → adJ (tfJ J (ta t + 2)) R fr (ta t + 2 + 1) j = J (ta t + 2 + 1) (j + 1) := fun j hj => by
    rw [adJ_ne (by omega) (by omega)]
    unfold tfJ zsh
    rw [if_pos ⟨rfl, by omega, by omega⟩, zU_ne (by omega)]
  have hJ : ∀ c, ¬ (c = R ∨ c = R + 1 ∨ c = ta t + 2 ∨ c = ta t + 2 + 1) → adJ (tfJ J (ta t + 2)) R fr c = J c := fun c h => by
    funext j; rw [adJ_ne (by omega) (by omega), tfJ_ne (by omega) (by omega)]
  have hX : ∀ b, ¬ (b = 75 ∨ b = 49 ∨ b = 76 ∨ b = 62 ∨ b = 60) → (zU (zU (zU (zU (zU X 75 fr rm) 49 11 (X 49 11 + 1)) 76 fr (X 49 11 + 1)) 62 t (q + 1)) 60 t ph) b = X b := fun b h => by
    rw [zU_ab _ _ _ (by omega), zU_ab _ _ _ (by omega), zU_ab _ _ _ (by omega), zU_ab _ _ _ (by omega), zU_ab _ _ _ (by omega)]
  have hXu : ∀ b u, 50 ≤ b → b < 68 → u ≠ t → (zU (zU (zU (zU (zU X 75 fr rm) 49 11 (X 49 11 + 1)) 76 fr (X 49 11 + 1)) 62 t (q + 1)) 60 t ph) b u = X b u := fun b u h1 h2 h3 => by
    rw [zU_u h3, zU_u h3, zU_ne (by omega), zU_ne (by omega), zU_ne (by omega)]
  have h9 : ∀ k, k ≠ 11 → (zU (zU (zU (zU (zU X 75 fr rm) 49 11 (X 49 11 + 1)) 76 fr (X 49 11 + 1)) 62 t (q + 1)) 60 t ph) 49 k = X 49 k := fun k h => by
    rw [zU_ne (by decide), zU_ne (by decide), zU_ne (by decide), zU_k _ _ _ h, zU_ne (by decide)]
  have e11 : (zU (zU (zU (zU (zU X 75 fr rm) 49 11 (X 49 11 + 1)) 76 fr (X 49 11 + 1)) 62 t (q + 1)) 60 t ph) 49 11 = X 49 11 + 1 := by
    rw [zU_ne (by decide), zU_ne (by decide), zU_ne (by decide), zU_s]
  have x60 : (zU (zU (zU (zU (zU X 75 fr rm) 49 11 (X 49 11 + 1)) 76 fr (X 49 11 + 1)) 62 t (q + 1)) 60 t ph) 60 t = ph := zU_s _ _ _ _
  have x62 : (zU (zU (zU (zU (zU X 75 fr rm) 49 11 (X 49 11 + 1)) 76 fr (X 49 11 + 1)) 62 t (q + 1)) 60 t ph) 62 t = q + 1 := by rw [zU_ne (by decide), zU_s]
  have x75 : (zU (zU (zU (zU (zU X 75 fr rm) 49 11 (X 49 11 + 1)) 76 fr (X 49 11 + 1)) 62 t (q + 1)) 60 t ph) 75 fr = rm := by rw [zU_ne (by decide), zU_ne (by decide), zU_ne (by decide), zU_ne (by decide), zU_s]
  have x75n : ∀ i, i ≠ fr → (zU (zU (zU (zU (zU X 75 fr rm) 49 11 (X 49 11 + 1)) 76 fr (X 49 11 + 1)) 62 t (q + 1)) 60 t ph) 75 i = X 75 i := fun i h => by rw [zU_ne (by decide), zU_ne (by decide), zU_ne (by decide), zU_ne (by decide), zU_k _ _ _ h]
  have x76 : (zU (zU (zU (zU (zU X 75 fr rm) 49 11 (X 49 11 + 1)) 76 fr (X 49 11 + 1)) 62 t (q + 1)) 60 t ph) 76 fr = X 49 11 + 1 := by rw [zU_ne (by decide), zU_ne (by decide), zU_s]
  have x76n : ∀ i, i ≠ fr → (zU (zU (zU (zU (zU X 75 fr rm) 49 11 (X 49 11 + 1)) 76 fr (X 49 11 + 1)) 62 t (q + 1)) 60 t ph) 76 i = X 76 i := fun i h => by rw [zU_ne (by decide), zU_ne (by decide), zU_k _ _ _ h, zU_ne (by decide), zU_ne (by decide)]
  generalize adJ (tfJ J (ta t + 2)) R fr = J' at *
  generalize (zU (zU (zU (zU (zU X 75 fr rm) 49 11 (X 49 11 + 1)) 76 fr (X 49 11 + 1)) 62 t (q + 1)) 60 t ph) = X' at *
  have hta : ∀ u, u < nT → J' (ta u) = J (ta u) := fun u hu => hJ _ (by
    have := (s5 u hu).2.2.1
    by_cases e : u = t
    · subst e; omega
    · have := s6 u t hu ht e; omega)
  have h11 : X 49 11 ≤ X' 49 11 := by omega
  have h20 : X 49 20 ≤ X' 49 20 := by rw [h9 20 (by decide)]; exact Int.le_refl _
  have h21 := h9 21 (by decide)
  have hoi : ∀ u, oi X' u = oi X u := fun u => oi_c (by rw [hX 51 (by decide)])
  have hkt' : kc X' t = ks - q - 1 := by
    by_cases c : q + 1 = ks
    · rw [if_pos c] at hph
      rw [kc_0 (Or.inr (Or.inr (by omega)))]; omega
    · rw [if_neg c] at hph
      rw [kc_1 (by rw [hX 58 (by decide)]; exact h58) (by rw [hoi, hX 52 (by decide)]; exact h52) (by omega) (by omega), hX 67 (by decide), h67]
      unfold kb; rw [if_pos (by omega), x62]; omega
  have hkf : ∀ j : Nat, (j : Int) < ks - q - 1 → kf X' t j = kf X t (j + 1) := fun j hj => by
    have c : ¬ q + 1 = ks := by omega
    rw [if_neg c] at hph
    unfold kf
    have e1 : kb X' t = q + 1 := by unfold kb; rw [if_pos (by omega), x62]
    rw [e1, hkb, hX 66 (by decide)]
    rw [show 4 * t + ((q : Int) + 1).toNat + j = 4 * t + (q : Int).toNat + (j + 1) by omega]
  have hku' : ∀ u, u < nT → u ≠ t → kc X' u = 0 := fun u hu e => by
    have := hku u hu e
    unfold kc kb at this ⊢
    rw [hoi, hX 58 (by decide), hX 52 (by decide), hXu 60 u (by decide) (by decide) e, hXu 62 u (by decide) (by decide) e, hX 67 (by decide)]
    exact this
  refine ⟨gS_c rS (by rw [hJ 1 (by omega)]) (by rw [hJ 1 (by omega)]) (by rw [hJ 1 (by omega)]) (by rw [hJ 1 (by omega)]) (h9 0 (by omega)) (h9 20 (by omega)) (h9 21 (by omega)) (h9 33 (by omega)), gW_c rW (hJ 46 (by omega)) (hX 71 (by omega)), gT_c rT (hJ 47 (by omega)) (hX 68 (by omega)) (hX 69 (by omega)), gE_c rE (hJ 48 (by omega)) (hX 70 (by omega)), gN_c rN (fun u hu => by rw [hta u hu]; exact ⟨rfl, rfl, rfl⟩) (hX 50 (by omega)) (hX 51 (by omega)), gO_c rO (fun u hu k hk => hJ _ (by have := (s7 u hu k hk).2.2.1; have := s8 u hu k hk t ht; omega)) (hX 50 (by omega)) (hX 51 (by omega)) (hX 52 (by omega)) (hX 53 (by omega)) (hX 54 (by omega)) (hX 55 (by omega)) (hX 56 (by omega)), fH_c rH (fun u hu e => ⟨by rw [hta u hu], by rw [hX 50 (by omega)], by rw [hX 51 (by omega)]⟩) (hX 57 (by omega)) (hX 58 (by omega)), gC_c rC (fun p hp => hJ _ (by omega)) (hX 57 (by omega)) (hX 58 (by omega)), gQ_c rQ (fun p hp => ⟨hJ _ (by omega), hJ _ (by omega)⟩) (hX 57 (by omega)) (hX 58 (by omega)) (hX 59 (by omega)) h11, ?_, ?_, ?_, ⟨?_, ?_, ?_, ?_⟩, hgR2, ?_, gA_c rA (fun u hu => by rw [hta u hu]) (hX 63 (by omega)) (hX 77 (by omega)) (hX 78 (by omega)), ?_, gB_c rB (fun p hp => ⟨hJ _ (by omega), hJ _ (by omega), hJ _ (by omega)⟩) (hX 72 (by omega)) (hX 73 (by omega)) (hX 74 (by omega)) h11, ⟨by rw [h9 33 (by decide)]; exact u1, by rw [h9 33 (by decide)]; omega, by omega, by omega, by rw [h9 20 (by decide)]; omega⟩, hRG⟩
  · exact fP_c rP (fun u hu e => by rw [hta u hu]; exact ⟨rfl, rfl, rfl, rfl⟩) (fun b u _ _ _ _ _ _ _ _ _ _ e => hXu b u (by omega) (by omega) e) (hX 52 (by omega)) (hX 54 (by omega)) h20 h21 (hX 53 (by omega)) (fun u _ _ _ _ h => by rw [hX 72 (by omega)]; exact h)
  · exact fD_c rD (fun b u _ _ _ e => hXu b u (by omega) (by omega) e)
  · intro u hu
    by_cases e : u = t
    · subst e
      rw [hkt', hc1]
      refine ⟨rfl, fun j hj => ?_⟩
      rw [hc2 j hj, hkf j hj]
      exact k1.2 (j + 1) (by omega)
    · have hs6 := s6 u t hu ht e
      have h79 := (s5 u hu).2.2.1
      rw [hku' u hu e, hJ (ta u + 2) (by omega)]
      have := (rK u hu).1
      rw [hku u hu e] at this
      exact ⟨this, fun j hj => by omega⟩
  · intro f hf
    by_cases e : f = fr
    · subst e; rw [x75, x76]; exact ⟨hrm.1, hrm.2, by omega⟩
    · rw [x75n f e, x76n f e]
      have := f1 f hf
      exact ⟨this.1, this.2.1, by omega⟩
  · intro g hgg h0
    rw [hX 68 (by decide)] at h0 ⊢
    have h1 := f2 g hgg h0
    have h2 := ff.2.2.2.1 g hgg
    rw [x75n _ (by omega)]
    exact h1
  · rw [hX 68 (by decide)]; exact f3
  · intro u hu j hj
    by_cases e : u = t
    · subst e
      rw [hkt'] at hj
      rw [hkf j hj, hX 68 (by decide)]
      obtain ⟨g1, g2, g3, g4, g5⟩ := f4 u hu (j + 1) (by omega)
      have hne := g5 0 (by omega) (by omega)
      rw [hkf0] at hne
      refine ⟨g1, g2, by rw [x75n _ (by omega)]; exact g3, g4, fun i hi hij => ?_⟩
      rw [hkt'] at hi
      rw [hkf i hi]
      exact g5 (i + 1) (by omega) (by omega)
    · rw [hku' u hu e] at hj; omega
  · exact fM_v (fun u hu hut h5 h6 => by
      rw [hX 58 (by decide)] at h5
      rw [hXu 60 u (by decide) (by decide) hut] at h6
      exact hlk u hu hut h5 (by omega))
  · exact fL_c rL (fun i hi => by rw [hJ (4 + 10 * i + 6) (by omega), hJ (4 + 10 * i + 6 + 1) (by omega)]; exact ⟨rfl, rfl⟩) (fun b u _ _ _ e => hXu b u (by omega) (by omega) e) (hX 77 (by omega)) (hX 78 (by omega))
end SE
