/-! One micro-step more is counted; leaves by RR_loc. -/
theorem zU_u {α : Type} {X : Nat → Nat → α} {b0 t b u : Nat} {x : α} (h : u ≠ t) : zU X b0 t x b u = X b u := by
  by_cases hb : b = b0
  · subst hb; exact zU_k _ _ _ h
  · exact zU_ne hb
def msX (X : Mem) : Mem := zU X 49 33 (X 49 33 + 1)
section RM
variable {B nT n t : Nat} {ta : Nat → Nat} {oa : Nat → Nat → Nat} {J X : Mem} {K : Nat → Option ZK} {P : Nat → Nat → Option Nat}
set_option maxHeartbeats 4000000 in
theorem RR_ms (hB : B < 100000) (hs : SH K P n nT ta oa X) (hR : RR B nT ta oa J X) : RR (B + 1) nT ta oa (msJ J) (msX X) := by
  obtain ⟨rS, rW, rT, rE, rN, rO, rH, rC, rQ, rP, rD, rK, rF, rR, rM, rA, rL, rB, rU, rZ⟩ := hR
  obtain ⟨s1, s2, s3, s4, s5, s6, s7, s8, s9⟩ := hs
  have hJ : ∀ c, c ≠ 1 → msJ J c = J c := fun c h => zU_ab _ _ _ h
  have hX : ∀ b, b ≠ 49 → msX X b = X b := fun b h => zU_ab _ _ _ h
  have h9 : ∀ k, k ≠ 33 → msX X 49 k = X 49 k := fun k h => zU_k _ _ _ h
  have h1 : ∀ k, k ≠ 9 → msJ J 1 k = J 1 k := fun k h => zU_k _ _ _ h
  have hta : ∀ u, u < nT → msJ J (ta u) = J (ta u) := fun u hu => hJ _ (by have := (s5 u hu).2.2.1; omega)
  have hkcf : ∀ u, u < nT → kc (msX X) u = kc X u ∧ ∀ j : Nat, (j : Int) < kc X u → kf (msX X) u j = kf X u j := fun u hu => kcf_c (by rw [hX 58 (by decide)]) (by rw [hX 51 (by decide)]) (hX 52 (by decide)) (by rw [hX 60 (by decide)]) (by rw [hX 62 (by decide)]) (hX 66 (by decide)) (by rw [hX 67 (by decide)])
  obtain ⟨u1, u2, u3, u4, u5⟩ := rU
  obtain ⟨z1, z2⟩ := rZ
  obtain ⟨q1, q2, q3, q4, q5, q6, q7⟩ := rS
  have e33 : msX X 49 33 = X 49 33 + 1 := zU_s _ _ _ _
  have e9 : msJ J 1 9 = J 1 9 + 1 := zU_s _ _ _ _
  refine ⟨⟨by rw [h1 1 (by decide)]; exact q1, by rw [h9 0 (by decide)]; exact q2, by rw [h1 7 (by decide), h9 20 (by decide)]; exact q3, by rw [h1 8 (by decide), h9 21 (by decide)]; exact q4, by rw [e33, e9, q5], by rw [h9 21 (by decide)]; exact q6, by rw [h9 21 (by decide), h9 20 (by decide)]; exact q7⟩, gW_c rW (hJ 46 (by decide)) (hX 71 (by decide)), gT_c rT (hJ 47 (by decide)) (hX 68 (by decide)) (hX 69 (by decide)), gE_c rE (hJ 48 (by decide)) (hX 70 (by decide)), gN_c rN (fun u hu => by rw [hta u hu]; exact ⟨rfl, rfl, rfl⟩) (hX 50 (by decide)) (hX 51 (by decide)), gO_c rO (fun u hu k hk => hJ _ (by have := (s7 u hu k hk).2.2.1; omega)) (hX 50 (by decide)) (hX 51 (by decide)) (hX 52 (by decide)) (hX 53 (by decide)) (hX 54 (by decide)) (hX 55 (by decide)) (hX 56 (by decide)), gH_c rH (fun u hu => by rw [hta u hu]) (hX 50 (by decide)) (hX 51 (by decide)) (hX 57 (by decide)) (hX 58 (by decide)), gC_c rC (fun p hp => hJ _ (by omega)) (hX 57 (by decide)) (hX 58 (by decide)), gQ_c rQ (fun p hp => ⟨hJ _ (by omega), hJ _ (by omega)⟩) (hX 57 (by decide)) (hX 58 (by decide)) (hX 59 (by decide)) (by rw [h9 11 (by decide)]; exact Int.le_refl _), ?_, ?_, gK_c rK (fun u hu => ⟨by rw [hJ _ (by omega)], hJ _ (by omega)⟩) hkcf, ?_, gR_c rR (fun p hp => ⟨hJ _ (by omega), hJ _ (by omega)⟩) (hJ 44 (by decide)) (hJ 45 (by decide)) (hX 75 (by decide)) (hX 76 (by decide)), ?_, gA_c rA (fun u hu => by rw [hta u hu]) (hX 63 (by decide)) (hX 77 (by decide)) (hX 78 (by decide)), ?_, gB_c rB (fun p hp => ⟨hJ _ (by omega), hJ _ (by omega), hJ _ (by omega)⟩) (hX 72 (by decide)) (hX 73 (by decide)) (hX 74 (by decide)) (by rw [h9 11 (by decide)]; exact Int.le_refl _), ⟨by omega, by omega, by rw [h9 11 (by decide)]; exact u3, by rw [h9 11 (by decide)]; omega, by rw [h9 20 (by decide)]; omega⟩, ?_⟩
  · intro u hu h5
    rw [hX 58 (by decide)] at h5
    rw [oi_c (X := X) (by rw [hX 51 (by decide)])]
    have hj := hta u hu
    exact TH_c (rP u hu h5) (by rw [hj]) (by rw [hj]) (by rw [hj]) (by rw [hj]) (by rw [h9 20 (by decide)]; exact Int.le_refl _) (h9 21 (by decide)) (by rw [hX 52 (by decide)]) (by rw [hX 54 (by decide)]) (by rw [hX 58 (by decide)]) (by rw [hX 60 (by decide)]) (by rw [hX 61 (by decide)]) (by rw [hX 62 (by decide)]) (by rw [hX 64 (by decide)]) (by rw [hX 65 (by decide)]) (by rw [hX 67 (by decide)]) (by rw [hX 72 (by decide), hX 57 (by decide), hX 53 (by decide)]; exact fun _ h => h)
  · unfold gD; rw [hX 58 (by decide), hX 60 (by decide), hX 61 (by decide)]; exact rD
  · obtain ⟨f1, f2, f3, f4⟩ := rF
    refine ⟨by rw [hX 75 (by decide), hX 76 (by decide), h9 11 (by decide)]; exact f1, by rw [hX 68 (by decide), hX 75 (by decide)]; exact f2, by rw [hX 68 (by decide)]; exact f3, fun u hu j hj => ?_⟩
    obtain ⟨k1, k2⟩ := hkcf u hu
    rw [k1] at hj
    rw [k2 j hj, hX 75 (by decide), hX 68 (by decide)]
    obtain ⟨g1, g2, g3, g4, g5⟩ := f4 u hu j hj
    refine ⟨g1, g2, g3, g4, fun i hi hij => ?_⟩
    rw [k1] at hi
    rw [k2 i hi]
    exact g5 i hi hij
  · intro u hu h5 h6 h7
    rw [hX 58 (by decide)] at h5
    rw [hX 60 (by decide)] at h6
    rw [oi_c (X := X) (by rw [hX 51 (by decide)]), hX 52 (by decide)] at h7
    rw [oi_c (X := X) (by rw [hX 51 (by decide)]), hX 54 (by decide), hX 57 (by decide), hX 62 (by decide), hJ 44 (by decide), hJ (4 + 10 * (X 57 u).toNat + 4) (by omega)]
    exact rM u hu h5 h6 h7
  · unfold gL; rw [hX 58 (by decide), hX 60 (by decide), hX 62 (by decide), hX 77 (by decide), hX 78 (by decide)]
    intro q hq
    rw [hJ (4 + 10 * q + 6) (by omega), hJ (4 + 10 * q + 6 + 1) (by omega)]
    exact rL q hq
  · have := z1 1 9
    have := z2 49 33
    exact ⟨RG_U z1 (by omega) (by omega), RG_U z2 (by omega) (by omega)⟩
end RM
/-! The phases, one by one: what TH says there, and what makes it. -/
section TD
variable {J X : Mem} {a t i : Nat}
theorem TH_mk4 (h5 : J a 5 = X 60 t) (h1 : 4 ≤ X 60 t) (h2 : X 60 t ≤ 6) (k0 : 0 ≤ X 52 i) (k1 : X 52 i ≤ 1) (hq : X 58 t = 1 → X 60 t = 4) (hn : X 60 t = 5 ∨ X 60 t = 6 → X 72 (16 * (X 57 t).toNat + (X 53 i).toNat) = 0) : TH J X a t i := by
  unfold TH zfp
  refine ⟨h5, fun q => ?_, ?_, ?_, ?_, ?_, ?_, ?_, ?_, ?_, ?_, ?_, ?_, ?_, ?_, ?_, ?_, ?_⟩
  · rw [if_neg (by omega), if_pos (by omega)]; exact hq q
  all_goals first | exact hn | omega
theorem TH_mk15 (h5 : J a 5 = X 60 t) (h1 : X 60 t = 15) (k0 : X 52 i = 5) (h9 : J a 9 = 0) : TH J X a t i := by
  unfold TH zfp
  refine ⟨h5, fun q => ?_, ?_, ?_, ?_, ?_, ?_, ?_, ?_, ?_, ?_, ?_, ?_, ?_, ?_, ?_, ?_, ?_⟩
  · rw [if_pos k0]; exact h1
  all_goals omega
theorem TH_mk7 (h5 : J a 5 = X 60 t) (h1 : X 60 t = 7) (k0 : 2 ≤ X 52 i) (k1 : X 52 i ≤ 4) (z1 : J a 6 = 0) (z2 : X 62 t = 0) (z3 : J a 9 = 0) (z4 : X 64 t = 0) (z5 : X 65 t = 0) (z6 : X 67 t = 0) : TH J X a t i := by
  unfold TH zfp
  refine ⟨h5, fun q => ?_, ?_, ?_, ?_, ?_, ?_, ?_, ?_, ?_, ?_, ?_, ?_, ?_, ?_, ?_, ?_, ?_⟩
  · rw [if_neg (by omega), if_neg (by omega)]; exact h1
  all_goals omega
theorem TH_mk8 (h5 : J a 5 = X 60 t) (h1 : X 60 t = 8) (hq : ¬ X 58 t = 1) (k0 : 2 ≤ X 52 i) (k1 : X 52 i ≤ 4) (q1 : J a 7 = X 61 t) (q2 : X 49 21 ≤ X 61 t) (q3 : X 61 t < X 49 20) (z1 : J a 6 = 0) (z2 : X 62 t = 0) (z3 : J a 9 = 0) (z4 : X 64 t = 0) (z5 : X 65 t = 0) (z6 : X 67 t = 0) : TH J X a t i := by
  unfold TH
  refine ⟨h5, ?_, ?_, ?_, ?_, ?_, ?_, ?_, ?_, ?_, ?_, ?_, ?_, ?_, ?_, ?_, ?_, ?_⟩ <;> omega
theorem TH_mk9 (h5 : J a 5 = X 60 t) (h1 : X 60 t = 9) (hq : ¬ X 58 t = 1) (k0 : X 52 i = 2) (q1 : J a 7 = X 61 t) (q2 : X 61 t = X 49 21) (q3 : X 61 t < X 49 20) (z1 : J a 6 = 0) (z2 : X 62 t = 0) (z3 : J a 9 = 0) (z4 : X 64 t = 0) (z5 : X 65 t = 0) (z6 : X 67 t = 0) : TH J X a t i := by
  unfold TH
  refine ⟨h5, ?_, ?_, ?_, ?_, ?_, ?_, ?_, ?_, ?_, ?_, ?_, ?_, ?_, ?_, ?_, ?_, ?_⟩ <;> omega
theorem TH_mk10 (h5 : J a 5 = X 60 t) (h1 : X 60 t = 10) (hq : ¬ X 58 t = 1) (k0 : 2 ≤ X 52 i) (k1 : X 52 i ≤ 4) (q1 : J a 7 = X 61 t) (q2 : X 61 t = X 49 21) (q3 : X 61 t < X 49 20) (z1 : J a 6 = X 62 t) (z2 : 0 ≤ X 62 t) (z3 : X 62 t < X 54 i) (z4 : J a 9 = X 64 t) (z5 : 0 ≤ X 64 t) (z6 : X 64 t ≤ X 62 t) (z7 : X 65 t = 0) (z8 : X 67 t = (if X 52 i = 3 then X 64 t else 0)) : TH J X a t i := by
  unfold TH
  refine ⟨h5, by omega, by omega, by omega, by omega, by omega, by omega, by omega, by omega, by omega, by omega, fun _ => ⟨z1, z2, z3, z4, z5, z6, z7, z8⟩, by omega, by omega, by omega, by omega, by omega, by omega⟩
theorem TH_mk11 (h5 : J a 5 = X 60 t) (h1 : X 60 t = 11 ∨ X 60 t = 12) (hq : ¬ X 58 t = 1) (k0 : 3 ≤ X 52 i) (k1 : X 52 i ≤ 4) (q1 : J a 7 = X 61 t) (q2 : X 61 t = X 49 21) (q3 : X 61 t < X 49 20) (z1 : X 60 t = 11 → J a 6 = X 62 t ∧ 0 ≤ X 62 t ∧ X 62 t < 4) (z4 : J a 9 = X 64 t) (z5 : 0 < X 64 t) (z6 : X 64 t ≤ 4) (z7 : X 65 t = 0) (z8 : X 52 i = 3 → X 67 t = X 64 t) : TH J X a t i := by
  unfold TH
  refine ⟨h5, by omega, by omega, by omega, by omega, by omega, by omega, by omega, by omega, by omega, by omega, by omega, z1, fun _ _ => ⟨z4, z5, z6, z7, z8⟩, by omega, by omega, by omega, by omega⟩
theorem TH_mk13 (h5 : J a 5 = X 60 t) (h1 : X 60 t = 13) (hq : ¬ X 58 t = 1) (k0 : X 52 i = 3) (q1 : J a 7 = X 61 t) (q2 : X 61 t = X 49 21) (q3 : X 61 t < X 49 20) (z1 : 0 ≤ X 62 t) (z2 : X 62 t < X 67 t) (z4 : J a 9 = X 64 t) (z5 : 0 < X 64 t) (z6 : X 64 t ≤ 4) (z7 : X 65 t = 0) (z8 : X 67 t = X 64 t) : TH J X a t i := by
  unfold TH
  refine ⟨h5, ?_, ?_, ?_, ?_, ?_, ?_, ?_, ?_, ?_, ?_, ?_, ?_, ?_, ?_, ?_, ?_, ?_⟩ <;> omega
theorem TH_mk14 (h5 : J a 5 = X 60 t) (h1 : X 60 t = 14) (hq : ¬ X 58 t = 1) (k0 : 2 ≤ X 52 i) (k1 : X 52 i ≤ 4) (q1 : J a 7 = X 61 t) (q2 : X 61 t = X 49 21) (q3 : X 61 t < X 49 20) (z1 : J a 9 = (if X 65 t = 0 then X 64 t else -3)) (z2 : 0 ≤ X 64 t) (z3 : X 64 t ≤ 4) : TH J X a t i := by
  unfold TH
  refine ⟨h5, by omega, by omega, by omega, by omega, by omega, by omega, by omega, by omega, by omega, by omega, by omega, by omega, by omega, by omega, fun _ => ⟨z1, z2, z3⟩, by omega, by omega⟩
/-- what the phase tells of the kind -/
theorem TH_kd (h : TH J X a t i) (k0 : 0 ≤ X 52 i) (k5 : X 52 i ≤ 5) : J a 5 = X 60 t ∧ ((X 52 i ≤ 1 ∧ 4 ≤ X 60 t ∧ X 60 t ≤ 6) ∨ (2 ≤ X 52 i ∧ X 52 i ≤ 4 ∧ 7 ≤ X 60 t ∧ X 60 t ≤ 14) ∨ (X 52 i = 5 ∧ X 60 t = 15)) := by
  obtain ⟨a1, a2, a3, a4, a5, _⟩ := h
  refine ⟨a1, ?_⟩
  by_cases c1 : X 52 i ≤ 1
  · exact Or.inl ⟨c1, a3 c1⟩
  · by_cases c2 : X 52 i = 5
    · exact Or.inr (Or.inr ⟨c2, a4 c2⟩)
    · have q1 : 2 ≤ X 52 i := by clear a2 a3 a4 a5; omega
      have q2 : X 52 i ≤ 4 := by clear a2 a3 a4 a5; omega
      exact Or.inr (Or.inl ⟨q1, q2, a5 q1 q2⟩)
theorem TH_d8 (h : TH J X a t i) (h1 : 8 ≤ X 60 t) (h2 : X 60 t ≤ 14) : J a 7 = X 61 t ∧ X 49 21 ≤ X 61 t ∧ X 61 t < X 49 20 := h.2.2.2.2.2.2.2.2.1 h1 h2
theorem TH_d9 (h : TH J X a t i) (h1 : 9 ≤ X 60 t) (h2 : X 60 t ≤ 14) : X 61 t = X 49 21 := h.2.2.2.2.2.2.2.2.2.1 h1 h2
theorem TH_d7 (h : TH J X a t i) (h1 : 7 ≤ X 60 t) (h2 : X 60 t ≤ 9) : J a 6 = 0 ∧ X 62 t = 0 ∧ J a 9 = 0 ∧ X 64 t = 0 ∧ X 65 t = 0 ∧ X 67 t = 0 := h.2.2.2.2.2.2.2.2.2.2.1 h1 h2
theorem TH_d10 (h : TH J X a t i) (h1 : X 60 t = 10) : J a 6 = X 62 t ∧ 0 ≤ X 62 t ∧ X 62 t < X 54 i ∧ J a 9 = X 64 t ∧ 0 ≤ X 64 t ∧ X 64 t ≤ X 62 t ∧ X 65 t = 0 ∧ X 67 t = (if X 52 i = 3 then X 64 t else 0) := h.2.2.2.2.2.2.2.2.2.2.2.1 h1
theorem TH_d11 (h : TH J X a t i) (h1 : X 60 t = 11) : J a 6 = X 62 t ∧ 0 ≤ X 62 t ∧ X 62 t < 4 := h.2.2.2.2.2.2.2.2.2.2.2.2.1 h1
theorem TH_d1113 (h : TH J X a t i) (h1 : 11 ≤ X 60 t) (h2 : X 60 t ≤ 13) : (J a 9 = X 64 t ∧ 0 < X 64 t ∧ X 64 t ≤ 4 ∧ X 65 t = 0 ∧ (X 52 i = 3 → X 67 t = X 64 t)) ∧ ¬ X 52 i = 2 := ⟨h.2.2.2.2.2.2.2.2.2.2.2.2.2.1 h1 h2, h.2.2.2.2.2.2.1 h1 h2⟩
theorem TH_d13 (h : TH J X a t i) (h1 : X 60 t = 13) : (0 ≤ X 62 t ∧ X 62 t < X 67 t) ∧ X 52 i = 3 := ⟨h.2.2.2.2.2.2.2.2.2.2.2.2.2.2.1 h1, h.2.2.2.2.2.2.2.1 h1⟩
theorem TH_d14 (h : TH J X a t i) (h1 : X 60 t = 14) : J a 9 = (if X 65 t = 0 then X 64 t else -3) ∧ 0 ≤ X 64 t ∧ X 64 t ≤ 4 := h.2.2.2.2.2.2.2.2.2.2.2.2.2.2.2.1 h1
theorem TH_d15 (h : TH J X a t i) (h1 : X 60 t = 15) : J a 9 = 0 := h.2.2.2.2.2.2.2.2.2.2.2.2.2.2.2.2.1 h1
theorem TH_d5 (h : TH J X a t i) (h1 : X 60 t = 5 ∨ X 60 t = 6) : X 72 (16 * (X 57 t).toNat + (X 53 i).toNat) = 0 := h.2.2.2.2.2.2.2.2.2.2.2.2.2.2.2.2.2 h1
theorem TH_q (h : TH J X a t i) : (X 58 t = 1 → X 60 t = zfp (X 52 i)) ∧ (X 60 t = 9 → X 52 i = 2) := ⟨h.2.1, h.2.2.2.2.2.1⟩
end TD
/-- nobody is owed anything by t: nobody has t's request -/
theorem oal_0 {X : Mem} {t : Nat} : ∀ k, cnF (oal X t) k = 0 → ∀ q, q < k → ¬ oal X t q := by
  intro k
  induction k with
  | zero => intro _ q hq; omega
  | succ k ih =>
    intro h q hq
    by_cases ho : oal X t k
    · have := cnF_t ho; omega
    · have h2 := cnF_f ho
      by_cases hqk : q = k
      · subst hqk; exact ho
      · exact ih (by omega) q (by omega)
