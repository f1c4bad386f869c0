/-! An order finished: its outcome; the thread begins its next order, waits, or is done. -/
theorem be_aw {X : Mem} {t : Nat} {q h x : Int} : beJ (awJ X t q h) t x = awJ (beJ X t x) t q h := by
  have e : beJ X t x 49 11 = X 49 11 := by unfold beJ; rw [zU_ne (by decide), zU_ne (by decide), zU_ne (by decide), zU_ne (by decide), zU_ne (by decide), zU_ne (by decide)]
  unfold awJ
  rw [e]
  unfold beJ
  funext b k
  by_cases c : b = 57 ∨ b = 58 ∨ b = 49 ∨ b = 59
  · rw [zU_ne (by omega), zU_ne (by omega), zU_ne (by omega), zU_ne (by omega), zU_ne (by omega), zU_ne (by omega)]
    rcases c with c | c | c | c <;> subst c <;> simp [zU]
  · have e4 : ∀ (Z : Mem) (x1 x2 x3 x4 : Int) (k : Nat), zU (zU (zU (zU Z 57 t x1) 58 t x2) 49 11 x3) 59 t x4 b k = Z b k := fun Z x1 x2 x3 x4 k => by rw [zU_ne (by omega), zU_ne (by omega), zU_ne (by omega), zU_ne (by omega)]
    rw [e4]
    unfold zU
    by_cases c1 : b = 65
    · subst c1; simp
    · by_cases c2 : b = 67
      · subst c2; simp
      · by_cases c3 : b = 64
        · subst c3; simp
        · by_cases c4 : b = 63
          · subst c4; simp
          · by_cases c5 : b = 62
            · subst c5; simp
            · by_cases c6 : b = 60
              · subst c6; simp
              · simp [c1, c2, c3, c4, c5, c6]
                have := e4 X q h (X 49 11 + 1) (X 49 11 + 1) k
                unfold zU at this
                exact this
section SG
variable {B nT n t : Nat} {ta : Nat → Nat} {oa : Nat → Nat → Nat} {J J' X X' : Mem} {K : Nat → Option ZK} {P : Nat → Nat → Option Nat}
set_option maxHeartbeats 1000000 in
theorem S_fin {dn : Nat} {v : Int} (hs : SH K P n nT ta oa X) (hR : RF B nT t ta oa J X) (ht : t < nT) (h51 : X 51 t = dn) (hdn : (dn : Int) < X 50 t) (hv : J (ta t) 9 = v) (hph : X 60 t < 10 ∨ 13 < X 60 t) : RF B nT t ta oa (fnJ J (ta t) (oa t dn)) (zU (zU X 56 (10 * t + dn) v) 51 t (dn + 1)) := by
  obtain ⟨rS, rW, rT, rE, rN, rO, rH, rC, rQ, rP, rD, rK, rF, rR, rM, rA, rL, rB, rU, rZ⟩ := hR
  obtain ⟨s1, s2, s3, s4, s5, s6, s7, s8, s9⟩ := hs
  have t79 := (s5 t ht).2.2.1
  obtain ⟨o1, o2, o3, o4⟩ := s7 t ht dn hdn
  have ot := s8 t ht dn hdn
  obtain ⟨n1, n2, n3, n4, n5, n6⟩ := rN t ht
  have rv := rZ.1 (ta t) 9
  unfold fnJ
  have hRG : gZ (zU (zU J (oa t dn) 4 (J (ta t) 9)) (ta t) 3 (J (ta t) 3 + 1)) (zU (zU X 56 (10 * t + dn) v) 51 t (dn + 1)) := ⟨RG_U (RG_U rZ.1 rv.1 rv.2) (by omega) (by omega), RG_U (RG_U rZ.2 (by omega) (by omega)) (by omega) (by omega)⟩
  have hJ : ∀ c, ¬ (c = oa t dn ∨ c = ta t) → (zU (zU J (oa t dn) 4 (J (ta t) 9)) (ta t) 3 (J (ta t) 3 + 1)) c = J c := fun c h => by
    rw [zU_ab _ _ _ (by omega), zU_ab _ _ _ (by omega)]
  have hto := ot t ht
  have j3 : (zU (zU J (oa t dn) 4 (J (ta t) 9)) (ta t) 3 (J (ta t) 3 + 1)) (ta t) 3 = dn + 1 := by rw [zU_s, n3, h51]
  have hta3 : ∀ k, k ≠ 3 → (zU (zU J (oa t dn) 4 (J (ta t) 9)) (ta t) 3 (J (ta t) 3 + 1)) (ta t) k = J (ta t) k := fun k h => by rw [zU_k _ _ _ h, zU_ne (by omega)]
  have jo4 : (zU (zU J (oa t dn) 4 (J (ta t) 9)) (ta t) 3 (J (ta t) 3 + 1)) (oa t dn) 4 = v := by rw [zU_ne (by omega), zU_s, hv]
  have jok : ∀ k, k ≠ 4 → (zU (zU J (oa t dn) 4 (J (ta t) 9)) (ta t) 3 (J (ta t) 3 + 1)) (oa t dn) k = J (oa t dn) k := fun k h => by rw [zU_ne (by omega), zU_k _ _ _ h]
  have hX : ∀ b, ¬ (b = 56 ∨ b = 51) → (zU (zU X 56 (10 * t + dn) v) 51 t (dn + 1)) b = X b := fun b h => by rw [zU_ab _ _ _ (by omega), zU_ab _ _ _ (by omega)]
  have x51 : (zU (zU X 56 (10 * t + dn) v) 51 t (dn + 1)) 51 t = dn + 1 := zU_s _ _ _ _
  have x51n : ∀ u, u ≠ t → (zU (zU X 56 (10 * t + dn) v) 51 t (dn + 1)) 51 u = X 51 u := fun u h => by rw [zU_k _ _ _ h, zU_ne (by decide)]
  have x56 : (zU (zU X 56 (10 * t + dn) v) 51 t (dn + 1)) 56 (10 * t + dn) = v := by rw [zU_ne (by decide), zU_s]
  have x56n : ∀ i, i ≠ 10 * t + dn → (zU (zU X 56 (10 * t + dn) v) 51 t (dn + 1)) 56 i = X 56 i := fun i h => by rw [zU_ne (by decide), zU_k _ _ _ h]
  generalize (zU (zU J (oa t dn) 4 (J (ta t) 9)) (ta t) 3 (J (ta t) 3 + 1)) = J' at *
  generalize (zU (zU X 56 (10 * t + dn) v) 51 t (dn + 1)) = X' at *
  have htu : ∀ u, u < nT → u ≠ t → J' (ta u) = J (ta u) := fun u hu e => by
    have := s6 u t hu ht e
    have := ot u hu
    exact hJ _ (by omega)
  have hta : ∀ u, u < nT → ∀ k, k ≠ 3 → J' (ta u) k = J (ta u) k := fun u hu k hk => by
    by_cases e : u = t
    · subst e; exact hta3 k hk
    · rw [htu u hu e]
  have h9 : ∀ k, k < 100 → X' 49 k = X 49 k := fun k _ => by rw [hX 49 (by decide)]
  have h11 : X 49 11 ≤ X' 49 11 := by rw [h9 11 (by decide)]; exact Int.le_refl _
  have h20 : X 49 20 ≤ X' 49 20 := by rw [h9 20 (by decide)]; exact Int.le_refl _
  have h21 := h9 21 (by decide)
  have hkt : kc X t = 0 := kc_0 (by omega)
  have hkt' : kc X' t = 0 := kc_0 (by rw [hX 60 (by decide)]; omega)
  have hkcf : ∀ u, u < nT → kc X' u = kc X u ∧ ∀ j : Nat, (j : Int) < kc X u → kf X' u j = kf X u j := fun u hu => by
    by_cases e : u = t
    · subst e; exact ⟨by rw [hkt, hkt'], fun j hj => by omega⟩
    · exact kcf_c (by rw [hX 58 (by decide)]) (x51n u e) (hX 52 (by decide)) (by rw [hX 60 (by decide)]) (by rw [hX 62 (by decide)]) (hX 66 (by decide)) (by rw [hX 67 (by decide)])
  have hk2 : ∀ u, u < nT → ¬ (ta u + 2 = ta t ∨ ta u + 2 + 1 = ta t) ∧ ¬ (ta u + 2 = oa t dn ∨ ta u + 2 + 1 = oa t dn) := fun u hu => by
    have h1 := ot u hu
    by_cases e : u = t
    · subst e; omega
    · have := s6 u t hu ht e; omega
  refine ⟨gS_c rS (by rw [hJ 1 (by omega)]) (by rw [hJ 1 (by omega)]) (by rw [hJ 1 (by omega)]) (by rw [hJ 1 (by omega)]) (h9 0 (by omega)) (h9 20 (by omega)) (h9 21 (by omega)) (h9 33 (by omega)), gW_c rW (hJ 46 (by omega)) (hX 71 (by omega)), gT_c rT (hJ 47 (by omega)) (hX 68 (by omega)) (hX 69 (by omega)), gE_c rE (hJ 48 (by omega)) (hX 70 (by omega)), ?_, ?_, ?_, gC_c rC (fun p hp => hJ _ (by omega)) (hX 57 (by omega)) (hX 58 (by omega)), gQ_c rQ (fun p hp => ⟨hJ _ (by omega), hJ _ (by omega)⟩) (hX 57 (by omega)) (hX 58 (by omega)) (hX 59 (by omega)) h11, ?_, fD_c rD (fun b u _ _ _ e => by rw [hX b (by omega)]), ?_, gF_c rF (hX 68 (by omega)) (hX 75 (by omega)) (hX 76 (by omega)) h11 hkcf, gR_c rR (fun p hp => ⟨hJ _ (by omega), hJ _ (by omega)⟩) (hJ 44 (by omega)) (hJ 45 (by omega)) (hX 75 (by omega)) (hX 76 (by omega)), ?_, ?_, ?_, gB_c rB (fun p hp => ⟨hJ _ (by omega), hJ _ (by omega), hJ _ (by omega)⟩) (hX 72 (by omega)) (hX 73 (by omega)) (hX 74 (by omega)) h11, gU_c rU (h9 33 (by omega)) (h9 11 (by omega)) (h9 20 (by omega)), hRG⟩
  · intro u hu
    by_cases e : u = t
    · subst e
      rw [hta3 0 (by decide), hta3 2 (by decide), j3, x51, hX 50 (by decide)]
      exact ⟨n1, n2, rfl, by omega, by omega, n6⟩
    · rw [htu u hu e, x51n u e, hX 50 (by decide)]; exact rN u hu
  · intro u hu k hk
    rw [hX 50 (by decide)] at hk
    obtain ⟨p1, p2⟩ := rO u hu k hk
    by_cases e : u = t ∧ k = dn
    · obtain ⟨rfl, rfl⟩ := e
      refine ⟨?_, fun _ => by rw [jo4, x56]⟩
      unfold OR at p1 ⊢
      rw [jok 0 (by decide), jok 1 (by decide), jok 2 (by decide), jok 3 (by decide), hX 52 (by decide), hX 53 (by decide), hX 54 (by decide), hX 55 (by decide)]
      exact p1
    · have hne := s9 u t hu ht k dn hk hdn (by omega)
      have h2 := s8 u hu k hk t ht
      have hn6 := (rN u hu).2.2.2.2.2
      refine ⟨?_, fun hlt => ?_⟩
      · unfold OR at p1 ⊢
        rw [hJ _ (by omega), hX 52 (by decide), hX 53 (by decide), hX 54 (by decide), hX 55 (by decide)]
        exact p1
      · rw [hJ _ (by omega), x56n _ (by omega)]
        refine p2 ?_
        by_cases eu : u = t
        · subst eu; rw [x51] at hlt; omega
        · rw [x51n u eu] at hlt; exact hlt
  · exact fH_c rH (fun u hu e => ⟨hta u hu 4 (by decide), by rw [hX 50 (by omega)], x51n u e⟩) (hX 57 (by omega)) (hX 58 (by omega))
  · refine fP_c rP (fun u hu e => by rw [htu u hu e]; exact ⟨rfl, rfl, rfl, rfl⟩) (fun b u _ _ _ _ _ _ _ _ _ _ e => ?_) (hX 52 (by omega)) (hX 54 (by omega)) h20 h21 (hX 53 (by omega)) (fun u _ _ _ _ h => by rw [hX 72 (by omega)]; exact h)
    by_cases hb : b = 51
    · subst hb; exact x51n u e
    · rw [hX b (by omega)]
  · exact gK_c rK (fun u hu => ⟨by rw [hJ (ta u + 2) (by have := hk2 u hu; omega)], hJ (ta u + 2 + 1) (by have := hk2 u hu; omega)⟩) hkcf
  · refine fM_c2 rM rH (fun b u _ _ _ _ _ _ _ _ e => ?_) (hX 52 (by omega)) (hX 54 (by omega)) (fun p hp => by rw [hJ (4 + 10 * p + 4) (by omega), hJ 44 (by omega)])
    by_cases hb : b = 51
    · subst hb; exact x51n u e
    · rw [hX b (by omega)]
  · exact gA_c rA (fun u hu => hta u hu 8 (by decide)) (hX 63 (by omega)) (hX 77 (by omega)) (hX 78 (by omega))
  · exact fL_c rL (fun q hq => by rw [hJ (4 + 10 * q + 6) (by omega), hJ (4 + 10 * q + 6 + 1) (by omega)]; exact ⟨rfl, rfl⟩) (fun b u _ _ _ e => by rw [hX b (by omega)]) (hX 77 (by omega)) (hX 78 (by omega))
set_option maxHeartbeats 1000000 in
theorem S_away1 {p q : Nat} (hs : SH K P n nT ta oa X) (hR : RF B nT t ta oa J X) (ht : t < nT) (hB : B < 100000) (h58 : X 58 t = 2) (hp : p < 4) (h57 : X 57 t = p) (hq : q < 4) (hph : X 60 t < 10 ∨ 13 < X 60 t) (hql : J (4 + 10 * q + 8) 1 ≤ 8) : RF (B + 1) nT t ta oa (adJ (fhJ J (ta t) (4 + 10 * p) q) (4 + 10 * q + 8) t) (awJ X t q 1) := by
  obtain ⟨rS, rW, rT, rE, rN, rO, rH, rC, rQ, rP, rD, rK, rF, rR, rM, rA, rL, rB, rU, rZ⟩ := hR
  obtain ⟨s1, s2, s3, s4, s5, s6, s7, s8, s9⟩ := hs
  have t79 := (s5 t ht).2.2.1
  obtain ⟨u1, u2, u3, u4, u5⟩ := rU
  have hn := s3
  unfold fhJ awJ
  have hRG0 : RG (zU (zU J (4 + 10 * p) 5 (-1)) (ta t) 4 q) := RG_U (RG_U rZ.1 (by omega) (by omega)) (by omega) (by omega)
  have hRG : gZ (adJ (zU (zU J (4 + 10 * p) 5 (-1)) (ta t) 4 q) (4 + 10 * q + 8) t) (zU (zU (zU (zU X 57 t q) 58 t 1) 49 11 (X 49 11 + 1)) 59 t (X 49 11 + 1)) := ⟨RG_adJ hRG0 (by rw [zU_ne (by omega), zU_ne (by omega)]; omega) ⟨by omega, by omega⟩, RG_U (RG_U (RG_U (RG_U rZ.2 (by omega) (by omega)) (by omega) (by omega)) (by omega) (by omega)) (by omega) (by omega)⟩
  have hJ : ∀ c, ¬ (c = 4 + 10 * p ∨ c = ta t ∨ c = 4 + 10 * q + 8 ∨ c = 4 + 10 * q + 8 + 1) → (adJ (zU (zU J (4 + 10 * p) 5 (-1)) (ta t) 4 q) (4 + 10 * q + 8) t) c = J c := fun c h => by
    rw [show adJ (zU (zU J (4 + 10 * p) 5 (-1)) (ta t) 4 q) (4 + 10 * q + 8) t c = (zU (zU J (4 + 10 * p) 5 (-1)) (ta t) 4 q) c from by funext j; exact adJ_ne (by omega) (by omega)]
    rw [zU_ab _ _ _ (by omega), zU_ab _ _ _ (by omega)]
  have jp5 : (adJ (zU (zU J (4 + 10 * p) 5 (-1)) (ta t) 4 q) (4 + 10 * q + 8) t) (4 + 10 * p) 5 = -1 := by rw [adJ_ne (by omega) (by omega), zU_ne (by omega), zU_s]
  have jpk : ∀ k, k ≠ 5 → (adJ (zU (zU J (4 + 10 * p) 5 (-1)) (ta t) 4 q) (4 + 10 * q + 8) t) (4 + 10 * p) k = J (4 + 10 * p) k := fun k h => by rw [adJ_ne (by omega) (by omega), zU_ne (by omega), zU_k _ _ _ h]
  have jt4 : (adJ (zU (zU J (4 + 10 * p) 5 (-1)) (ta t) 4 q) (4 + 10 * q + 8) t) (ta t) 4 = q := by rw [adJ_ne (by omega) (by omega), zU_s]
  have jtk : ∀ k, k ≠ 4 → (adJ (zU (zU J (4 + 10 * p) 5 (-1)) (ta t) 4 q) (4 + 10 * q + 8) t) (ta t) k = J (ta t) k := fun k h => by rw [adJ_ne (by omega) (by omega), zU_k _ _ _ h, zU_ne (by omega)]
  have hlq : ln (adJ (zU (zU J (4 + 10 * p) 5 (-1)) (ta t) 4 q) (4 + 10 * q + 8) t) (4 + 10 * q + 8) = ln J (4 + 10 * q + 8) ++ [(t : Int)] := by
    rw [ln_add (by rw [zU_ne (by omega), zU_ne (by omega)]; exact (rQ.1 q hq).2), ln_congr (J := J) (by rw [zU_ne (by omega), zU_ne (by omega)]) (by rw [zU_ab _ _ _ (by omega), zU_ab _ _ _ (by omega)])]
  have hcq : (adJ (zU (zU J (4 + 10 * p) 5 (-1)) (ta t) 4 q) (4 + 10 * q + 8) t) (4 + 10 * q + 8) 1 = J (4 + 10 * q + 8) 1 + 1 := by rw [adJ_c, zU_ne (by omega), zU_ne (by omega)]
  have hX : ∀ b, ¬ (b = 57 ∨ b = 58 ∨ b = 49 ∨ b = 59) → (zU (zU (zU (zU X 57 t q) 58 t 1) 49 11 (X 49 11 + 1)) 59 t (X 49 11 + 1)) b = X b := fun b h => by
    rw [zU_ab _ _ _ (by omega), zU_ab _ _ _ (by omega), zU_ab _ _ _ (by omega), zU_ab _ _ _ (by omega)]
  have hXu : ∀ b u, b ≠ 49 → u ≠ t → (zU (zU (zU (zU X 57 t q) 58 t 1) 49 11 (X 49 11 + 1)) 59 t (X 49 11 + 1)) b u = X b u := fun b u hb h => by
    rw [zU_u h, zU_ne (by omega), zU_u h, zU_u h]
  have h9 : ∀ k, k ≠ 11 → (zU (zU (zU (zU X 57 t q) 58 t 1) 49 11 (X 49 11 + 1)) 59 t (X 49 11 + 1)) 49 k = X 49 k := fun k h => by
    rw [zU_ne (by decide), zU_k _ _ _ h, zU_ne (by decide), zU_ne (by decide)]
  have e11 : (zU (zU (zU (zU X 57 t q) 58 t 1) 49 11 (X 49 11 + 1)) 59 t (X 49 11 + 1)) 49 11 = X 49 11 + 1 := by rw [zU_ne (by decide), zU_s]
  have x57 : (zU (zU (zU (zU X 57 t q) 58 t 1) 49 11 (X 49 11 + 1)) 59 t (X 49 11 + 1)) 57 t = q := by rw [zU_ne (by decide), zU_ne (by decide), zU_ne (by decide), zU_s]
  have x58 : (zU (zU (zU (zU X 57 t q) 58 t 1) 49 11 (X 49 11 + 1)) 59 t (X 49 11 + 1)) 58 t = 1 := by rw [zU_ne (by decide), zU_ne (by decide), zU_s]
  have x59 : (zU (zU (zU (zU X 57 t q) 58 t 1) 49 11 (X 49 11 + 1)) 59 t (X 49 11 + 1)) 59 t = X 49 11 + 1 := by rw [zU_s]
  generalize (zU (zU (zU (zU X 57 t q) 58 t 1) 49 11 (X 49 11 + 1)) 59 t (X 49 11 + 1)) = X' at *
  generalize (adJ (zU (zU J (4 + 10 * p) 5 (-1)) (ta t) 4 q) (4 + 10 * q + 8) t) = J' at *
  have htu : ∀ u, u < nT → u ≠ t → J' (ta u) = J (ta u) := fun u hu e => by
    have := s6 u t hu ht e
    have := (s5 u hu).2.2.1
    exact hJ _ (by omega)
  have hta : ∀ u, u < nT → ∀ k, k ≠ 4 → J' (ta u) k = J (ta u) k := fun u hu k hk => by
    by_cases e : u = t
    · subst e; exact jtk k hk
    · rw [htu u hu e]
  have h11 : X 49 11 ≤ X' 49 11 := by omega
  have h20 : X 49 20 ≤ X' 49 20 := by rw [h9 20 (by decide)]; exact Int.le_refl _
  have h21 := h9 21 (by decide)
  have hkt : kc X t = 0 := kc_0 (by omega)
  have hkt' : kc X' t = 0 := kc_0 (by rw [hX 60 (by decide)]; omega)
  have hkcf : ∀ u, u < nT → kc X' u = kc X u ∧ ∀ j : Nat, (j : Int) < kc X u → kf X' u j = kf X u j := fun u hu => by
    by_cases e : u = t
    · subst e; exact ⟨by rw [hkt, hkt'], fun j hj => by omega⟩
    · exact kcf_c (hXu 58 u (by decide) e) (by rw [hX 51 (by decide)]) (hX 52 (by decide)) (by rw [hX 60 (by decide)]) (by rw [hX 62 (by decide)]) (hX 66 (by decide)) (by rw [hX 67 (by decide)])
  have hk2 : ∀ u, u < nT → ¬ (ta u + 2 = ta t ∨ ta u + 2 + 1 = ta t) ∧ 79 ≤ ta u := fun u hu => by
    have := (s5 u hu).2.2.1
    by_cases e : u = t
    · subst e; omega
    · have := s6 u t hu ht e; omega
  refine ⟨gS_c rS (by rw [hJ 1 (by omega)]) (by rw [hJ 1 (by omega)]) (by rw [hJ 1 (by omega)]) (by rw [hJ 1 (by omega)]) (h9 0 (by omega)) (h9 20 (by omega)) (h9 21 (by omega)) (h9 33 (by omega)), gW_c rW (hJ 46 (by omega)) (hX 71 (by omega)), gT_c rT (hJ 47 (by omega)) (hX 68 (by omega)) (hX 69 (by omega)), gE_c rE (hJ 48 (by omega)) (hX 70 (by omega)), ?_, gO_c rO (fun u hu k hk => hJ _ (by have := (s7 u hu k hk).2.2.1; have := s8 u hu k hk t ht; omega)) (hX 50 (by omega)) (hX 51 (by omega)) (hX 52 (by omega)) (hX 53 (by omega)) (hX 54 (by omega)) (hX 55 (by omega)) (hX 56 (by omega)), ?_, ?_, ?_, ?_, ?_, ?_, gF_c rF (hX 68 (by omega)) (hX 75 (by omega)) (hX 76 (by omega)) h11 hkcf, gR_c rR (fun p hp => ⟨hJ _ (by omega), hJ _ (by omega)⟩) (hJ 44 (by omega)) (hJ 45 (by omega)) (hX 75 (by omega)) (hX 76 (by omega)), ?_, ?_, ?_, gB_c rB (fun p hp => ⟨hJ _ (by omega), hJ _ (by omega), hJ _ (by omega)⟩) (hX 72 (by omega)) (hX 73 (by omega)) (hX 74 (by omega)) h11, ⟨by rw [h9 33 (by decide)]; exact u1, by rw [h9 33 (by decide)]; omega, by omega, by omega, by rw [h9 20 (by decide)]; omega⟩, hRG⟩
  · exact gN_c rN (fun u hu => ⟨hta u hu 0 (by decide), hta u hu 2 (by decide), hta u hu 3 (by decide)⟩) (hX 50 (by omega)) (hX 51 (by omega))
  · intro u hu
    obtain ⟨a, b, c, d⟩ := rH u hu
    by_cases e : u = t
    · subst e; rw [x57, x58]; exact ⟨Or.inr (Or.inl rfl), by omega, by omega, fun h => absurd rfl h⟩
    · rw [hXu 57 u (by decide) e, hXu 58 u (by decide) e, htu u hu e, hX 50 (by decide), hX 51 (by decide)]
      exact ⟨a, b, c, d⟩
  · intro i hi
    obtain ⟨c1, c2, c3, c4⟩ := rC i hi
    by_cases e : i = p
    · subst e
      rw [jpk 0 (by decide), jp5]
      refine ⟨c1, by omega, by omega, fun u hu => ?_⟩
      have ct := (c4 t ht).mp ⟨h58, h57⟩
      by_cases eu : u = t
      · subst eu; rw [x58]; exact ⟨fun h => by have := h.1; omega, fun h => by omega⟩
      · rw [hXu 58 u (by decide) eu, hXu 57 u (by decide) eu]
        exact ⟨fun h => by have := (c4 u hu).mp h; omega, fun h => by omega⟩
    · rw [hJ _ (by omega)]
      refine ⟨c1, c2, c3, fun u hu => ?_⟩
      by_cases eu : u = t
      · subst eu; rw [x58]
        exact ⟨fun h => by have := h.1; omega, fun h => by have := ((c4 u hu).mpr h).2; omega⟩
      · rw [hXu 58 u (by decide) eu, hXu 57 u (by decide) eu]; exact c4 u hu
  · refine ⟨fun i hi => ?_, fun u hu => ?_⟩
    · obtain ⟨b1, b2⟩ := rQ.1 i hi
      by_cases e : i = q
      · subst e
        rw [hlq, hcq]
        refine ⟨SL_add b1 ht (fun h => by have := h.1; omega) (fun u hu => ?_) (fun u hu e => hXu 59 u (by decide) e) (fun u hu _ => by rw [x59]; have := rQ.2 u hu; omega), by omega⟩
        unfold qal
        by_cases eu : u = t
        · subst eu; rw [x57, x58]; exact ⟨fun _ => Or.inr rfl, fun _ => ⟨rfl, rfl⟩⟩
        · rw [hXu 58 u (by decide) eu, hXu 57 u (by decide) eu]; exact ⟨fun h => Or.inl h, fun h => h.resolve_right eu⟩
      · rw [ln_congr (J := J) (by rw [hJ _ (by omega)]) (hJ _ (by omega)), hJ _ (by omega)]
        refine ⟨SL_congr b1 (fun u hu => ?_) (fun u hu h => hXu 59 u (by decide) (fun q => by subst q; have := h.1; omega)), b2⟩
        unfold qal
        by_cases eu : u = t
        · subst eu; rw [x57, x58]; exact ⟨fun h => by have := h.2; omega, fun h => by have := h.1; omega⟩
        · rw [hXu 58 u (by decide) eu, hXu 57 u (by decide) eu]
    · by_cases eu : u = t
      · subst eu; rw [x59]; omega
      · rw [hXu 59 u (by decide) eu]; have := rQ.2 u hu; omega
  · exact fP_c rP (fun u hu e => by rw [htu u hu e]; exact ⟨rfl, rfl, rfl, rfl⟩) (fun b u _ _ _ _ _ _ _ _ _ _ e => hXu b u (by omega) e) (hX 52 (by omega)) (hX 54 (by omega)) h20 h21 (hX 53 (by omega)) (fun u _ _ _ _ h => by rw [hX 72 (by omega)]; exact h)
  · exact fD_c rD (fun b u _ _ _ e => hXu b u (by omega) e)
  · exact gK_c rK (fun u hu => ⟨by rw [hJ (ta u + 2) (by have := hk2 u hu; omega)], hJ (ta u + 2 + 1) (by have := hk2 u hu; omega)⟩) hkcf
  · exact fM_c2 rM rH (fun b u _ _ _ _ _ _ _ _ e => hXu b u (by omega) e) (hX 52 (by omega)) (hX 54 (by omega)) (fun p hp => by rw [hJ (4 + 10 * p + 4) (by omega), hJ 44 (by omega)])
  · exact gA_c rA (fun u hu => hta u hu 8 (by decide)) (hX 63 (by omega)) (hX 77 (by omega)) (hX 78 (by omega))
  · exact fL_c rL (fun q hq => by rw [hJ (4 + 10 * q + 6) (by omega), hJ (4 + 10 * q + 6 + 1) (by omega)]; exact ⟨rfl, rfl⟩) (fun b u _ _ _ e => hXu b u (by omega) e) (hX 77 (by omega)) (hX 78 (by omega))
set_option maxHeartbeats 1000000 in
theorem S_away0 {p q : Nat} (hs : SH K P n nT ta oa X) (hR : RF B nT t ta oa J X) (ht : t < nT) (hB : B < 100000) (h58 : X 58 t = 2) (hp : p < 4) (h57 : X 57 t = p) (hq : q < 4) (hph : X 60 t < 10 ∨ 13 < X 60 t) (hql : J (4 + 10 * q + 8) 1 ≤ 8) : RF (B + 1) nT t ta oa (fhJ J (ta t) (4 + 10 * p) q) (awJ X t q 0) := by
  obtain ⟨rS, rW, rT, rE, rN, rO, rH, rC, rQ, rP, rD, rK, rF, rR, rM, rA, rL, rB, rU, rZ⟩ := hR
  obtain ⟨s1, s2, s3, s4, s5, s6, s7, s8, s9⟩ := hs
  have t79 := (s5 t ht).2.2.1
  obtain ⟨u1, u2, u3, u4, u5⟩ := rU
  have hn := s3
  unfold fhJ awJ
  have hRG0 : RG (zU (zU J (4 + 10 * p) 5 (-1)) (ta t) 4 q) := RG_U (RG_U rZ.1 (by omega) (by omega)) (by omega) (by omega)
  have hRG : gZ (zU (zU J (4 + 10 * p) 5 (-1)) (ta t) 4 q) (zU (zU (zU (zU X 57 t q) 58 t 0) 49 11 (X 49 11 + 1)) 59 t (X 49 11 + 1)) := ⟨hRG0, RG_U (RG_U (RG_U (RG_U rZ.2 (by omega) (by omega)) (by omega) (by omega)) (by omega) (by omega)) (by omega) (by omega)⟩
  have hJ : ∀ c, ¬ (c = 4 + 10 * p ∨ c = ta t) → (zU (zU J (4 + 10 * p) 5 (-1)) (ta t) 4 q) c = J c := fun c h => by
    rw [zU_ab _ _ _ (by omega), zU_ab _ _ _ (by omega)]
  have jp5 : (zU (zU J (4 + 10 * p) 5 (-1)) (ta t) 4 q) (4 + 10 * p) 5 = -1 := by rw [zU_ne (by omega), zU_s]
  have jpk : ∀ k, k ≠ 5 → (zU (zU J (4 + 10 * p) 5 (-1)) (ta t) 4 q) (4 + 10 * p) k = J (4 + 10 * p) k := fun k h => by rw [zU_ne (by omega), zU_k _ _ _ h]
  have jt4 : (zU (zU J (4 + 10 * p) 5 (-1)) (ta t) 4 q) (ta t) 4 = q := by rw [zU_s]
  have jtk : ∀ k, k ≠ 4 → (zU (zU J (4 + 10 * p) 5 (-1)) (ta t) 4 q) (ta t) k = J (ta t) k := fun k h => by rw [zU_k _ _ _ h, zU_ne (by omega)]
  have hX : ∀ b, ¬ (b = 57 ∨ b = 58 ∨ b = 49 ∨ b = 59) → (zU (zU (zU (zU X 57 t q) 58 t 0) 49 11 (X 49 11 + 1)) 59 t (X 49 11 + 1)) b = X b := fun b h => by
    rw [zU_ab _ _ _ (by omega), zU_ab _ _ _ (by omega), zU_ab _ _ _ (by omega), zU_ab _ _ _ (by omega)]
  have hXu : ∀ b u, b ≠ 49 → u ≠ t → (zU (zU (zU (zU X 57 t q) 58 t 0) 49 11 (X 49 11 + 1)) 59 t (X 49 11 + 1)) b u = X b u := fun b u hb h => by
    rw [zU_u h, zU_ne (by omega), zU_u h, zU_u h]
  have h9 : ∀ k, k ≠ 11 → (zU (zU (zU (zU X 57 t q) 58 t 0) 49 11 (X 49 11 + 1)) 59 t (X 49 11 + 1)) 49 k = X 49 k := fun k h => by
    rw [zU_ne (by decide), zU_k _ _ _ h, zU_ne (by decide), zU_ne (by decide)]
  have e11 : (zU (zU (zU (zU X 57 t q) 58 t 0) 49 11 (X 49 11 + 1)) 59 t (X 49 11 + 1)) 49 11 = X 49 11 + 1 := by rw [zU_ne (by decide), zU_s]
  have x57 : (zU (zU (zU (zU X 57 t q) 58 t 0) 49 11 (X 49 11 + 1)) 59 t (X 49 11 + 1)) 57 t = q := by rw [zU_ne (by decide), zU_ne (by decide), zU_ne (by decide), zU_s]
  have x58 : (zU (zU (zU (zU X 57 t q) 58 t 0) 49 11 (X 49 11 + 1)) 59 t (X 49 11 + 1)) 58 t = 0 := by rw [zU_ne (by decide), zU_ne (by decide), zU_s]
  have x59 : (zU (zU (zU (zU X 57 t q) 58 t 0) 49 11 (X 49 11 + 1)) 59 t (X 49 11 + 1)) 59 t = X 49 11 + 1 := by rw [zU_s]
  generalize (zU (zU (zU (zU X 57 t q) 58 t 0) 49 11 (X 49 11 + 1)) 59 t (X 49 11 + 1)) = X' at *
  generalize (zU (zU J (4 + 10 * p) 5 (-1)) (ta t) 4 q) = J' at *
  have htu : ∀ u, u < nT → u ≠ t → J' (ta u) = J (ta u) := fun u hu e => by
    have := s6 u t hu ht e
    have := (s5 u hu).2.2.1
    exact hJ _ (by omega)
  have hta : ∀ u, u < nT → ∀ k, k ≠ 4 → J' (ta u) k = J (ta u) k := fun u hu k hk => by
    by_cases e : u = t
    · subst e; exact jtk k hk
    · rw [htu u hu e]
  have h11 : X 49 11 ≤ X' 49 11 := by omega
  have h20 : X 49 20 ≤ X' 49 20 := by rw [h9 20 (by decide)]; exact Int.le_refl _
  have h21 := h9 21 (by decide)
  have hkt : kc X t = 0 := kc_0 (by omega)
  have hkt' : kc X' t = 0 := kc_0 (by rw [hX 60 (by decide)]; omega)
  have hkcf : ∀ u, u < nT → kc X' u = kc X u ∧ ∀ j : Nat, (j : Int) < kc X u → kf X' u j = kf X u j := fun u hu => by
    by_cases e : u = t
    · subst e; exact ⟨by rw [hkt, hkt'], fun j hj => by omega⟩
    · exact kcf_c (hXu 58 u (by decide) e) (by rw [hX 51 (by decide)]) (hX 52 (by decide)) (by rw [hX 60 (by decide)]) (by rw [hX 62 (by decide)]) (hX 66 (by decide)) (by rw [hX 67 (by decide)])
  have hk2 : ∀ u, u < nT → ¬ (ta u + 2 = ta t ∨ ta u + 2 + 1 = ta t) ∧ 79 ≤ ta u := fun u hu => by
    have := (s5 u hu).2.2.1
    by_cases e : u = t
    · subst e; omega
    · have := s6 u t hu ht e; omega
  refine ⟨gS_c rS (by rw [hJ 1 (by omega)]) (by rw [hJ 1 (by omega)]) (by rw [hJ 1 (by omega)]) (by rw [hJ 1 (by omega)]) (h9 0 (by omega)) (h9 20 (by omega)) (h9 21 (by omega)) (h9 33 (by omega)), gW_c rW (hJ 46 (by omega)) (hX 71 (by omega)), gT_c rT (hJ 47 (by omega)) (hX 68 (by omega)) (hX 69 (by omega)), gE_c rE (hJ 48 (by omega)) (hX 70 (by omega)), ?_, gO_c rO (fun u hu k hk => hJ _ (by have := (s7 u hu k hk).2.2.1; have := s8 u hu k hk t ht; omega)) (hX 50 (by omega)) (hX 51 (by omega)) (hX 52 (by omega)) (hX 53 (by omega)) (hX 54 (by omega)) (hX 55 (by omega)) (hX 56 (by omega)), ?_, ?_, ?_, ?_, ?_, ?_, gF_c rF (hX 68 (by omega)) (hX 75 (by omega)) (hX 76 (by omega)) h11 hkcf, gR_c rR (fun p hp => ⟨hJ _ (by omega), hJ _ (by omega)⟩) (hJ 44 (by omega)) (hJ 45 (by omega)) (hX 75 (by omega)) (hX 76 (by omega)), ?_, ?_, ?_, gB_c rB (fun p hp => ⟨hJ _ (by omega), hJ _ (by omega), hJ _ (by omega)⟩) (hX 72 (by omega)) (hX 73 (by omega)) (hX 74 (by omega)) h11, ⟨by rw [h9 33 (by decide)]; exact u1, by rw [h9 33 (by decide)]; omega, by omega, by omega, by rw [h9 20 (by decide)]; omega⟩, hRG⟩
  · exact gN_c rN (fun u hu => ⟨hta u hu 0 (by decide), hta u hu 2 (by decide), hta u hu 3 (by decide)⟩) (hX 50 (by omega)) (hX 51 (by omega))
  · intro u hu
    obtain ⟨a, b, c, d⟩ := rH u hu
    by_cases e : u = t
    · subst e; rw [x57, x58]; exact ⟨Or.inl rfl, by omega, by omega, fun h => absurd rfl h⟩
    · rw [hXu 57 u (by decide) e, hXu 58 u (by decide) e, htu u hu e, hX 50 (by decide), hX 51 (by decide)]
      exact ⟨a, b, c, d⟩
  · intro i hi
    obtain ⟨c1, c2, c3, c4⟩ := rC i hi
    by_cases e : i = p
    · subst e
      rw [jpk 0 (by decide), jp5]
      refine ⟨c1, by omega, by omega, fun u hu => ?_⟩
      have ct := (c4 t ht).mp ⟨h58, h57⟩
      by_cases eu : u = t
      · subst eu; rw [x58]; exact ⟨fun h => by have := h.1; omega, fun h => by omega⟩
      · rw [hXu 58 u (by decide) eu, hXu 57 u (by decide) eu]
        exact ⟨fun h => by have := (c4 u hu).mp h; omega, fun h => by omega⟩
    · rw [hJ _ (by omega)]
      refine ⟨c1, c2, c3, fun u hu => ?_⟩
      by_cases eu : u = t
      · subst eu; rw [x58]
        exact ⟨fun h => by have := h.1; omega, fun h => by have := ((c4 u hu).mpr h).2; omega⟩
      · rw [hXu 58 u (by decide) eu, hXu 57 u (by decide) eu]; exact c4 u hu
  · refine ⟨fun i hi => ?_, fun u hu => ?_⟩
    · obtain ⟨b1, b2⟩ := rQ.1 i hi
      rw [ln_congr (J := J) (by rw [hJ _ (by omega)]) (hJ _ (by omega)), hJ _ (by omega)]
      refine ⟨SL_congr b1 (fun u hu => ?_) (fun u hu h => hXu 59 u (by decide) (fun q => by subst q; have := h.1; omega)), b2⟩
      unfold qal
      by_cases eu : u = t
      · subst eu; rw [x58]; exact ⟨fun h => by have := h.1; omega, fun h => by have := h.1; omega⟩
      · rw [hXu 58 u (by decide) eu, hXu 57 u (by decide) eu]
    · by_cases eu : u = t
      · subst eu; rw [x59]; omega
      · rw [hXu 59 u (by decide) eu]; have := rQ.2 u hu; omega
  · exact fP_c rP (fun u hu e => by rw [htu u hu e]; exact ⟨rfl, rfl, rfl, rfl⟩) (fun b u _ _ _ _ _ _ _ _ _ _ e => hXu b u (by omega) e) (hX 52 (by omega)) (hX 54 (by omega)) h20 h21 (hX 53 (by omega)) (fun u _ _ _ _ h => by rw [hX 72 (by omega)]; exact h)
  · exact fD_c rD (fun b u _ _ _ e => hXu b u (by omega) e)
  · exact gK_c rK (fun u hu => ⟨by rw [hJ (ta u + 2) (by have := hk2 u hu; omega)], hJ (ta u + 2 + 1) (by have := hk2 u hu; omega)⟩) hkcf
  · exact fM_c2 rM rH (fun b u _ _ _ _ _ _ _ _ e => hXu b u (by omega) e) (hX 52 (by omega)) (hX 54 (by omega)) (fun p hp => by rw [hJ (4 + 10 * p + 4) (by omega), hJ 44 (by omega)])
  · exact gA_c rA (fun u hu => hta u hu 8 (by decide)) (hX 63 (by omega)) (hX 77 (by omega)) (hX 78 (by omega))
  · exact fL_c rL (fun q hq => by rw [hJ (4 + 10 * q + 6) (by omega), hJ (4 + 10 * q + 6 + 1) (by omega)]; exact ⟨rfl, rfl⟩) (fun b u _ _ _ e => hXu b u (by omega) e) (hX 77 (by omega)) (hX 78 (by omega))
end SG
