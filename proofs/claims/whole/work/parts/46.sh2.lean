/-! Buffers and mail. -/
theorem RG_drF {b : Nat} {f g : Int} : ∀ (m i kp : Nat) (J : Mem), RG J → RG (drF b f g m i kp J).1 ∧ (drF b f g m i kp J).2 ≤ kp + m := by
  intro m
  induction m with
  | zero => intro i kp J h; exact ⟨h, Nat.le_refl _⟩
  | succ m ih =>
    intro i kp J h
    unfold drF
    split
    · have h1 := h (b + 1) i
      have h2 := h (b + 2) i
      have := ih (i + 1) (kp + 1) (zU (zU J (b + 1) kp (J (b + 1) i)) (b + 2) kp (J (b + 2) i)) (RG_U (RG_U h h1.1 h1.2) h2.1 h2.2)
      exact ⟨this.1, by omega⟩
    · have := ih (i + 1) kp J h
      exact ⟨this.1, by omega⟩
theorem RG_drJ {J : Mem} {b : Nat} {f g : Int} (h : RG J) (h3 : J b 2 ≤ 3) : RG (drJ J b f g) := by
  unfold drJ
  have := RG_drF (b := b) (f := f) (g := f + g) (J b 2).toNat 0 0 J h
  exact RG_U this.1 (by omega) (by omega)
theorem RG_ptJ {J : Mem} {b : Nat} {x y : Int} (h : RG J) (h3 : J b 2 ≤ 3) (hx : zr x) (hy : zr y) : RG (ptJ J b x y) := by
  have := h b 2
  exact RG_U (RG_U (RG_U h hx.1 hx.2) hy.1 hy.2) (by omega) (by omega)
theorem RG_adJ {J : Mem} {a : Nat} {x : Int} (h : RG J) (h3 : J a 1 ≤ 100) (hx : zr x) : RG (adJ J a x) := by
  have := h a 1
  exact RG_U (RG_U h hx.1 hx.2) (by omega) (by omega)
theorem RG_tfJ {J : Mem} {a : Nat} (h : RG J) (h0 : 0 ≤ J a 1) : RG (tfJ J a) := by
  have h1 := h a 1
  have h2 : RG (zU J a 1 (J a 1 - 1)) := RG_U h (by omega) (by omega)
  intro c j
  unfold tfJ zsh
  split
  · exact h2 _ _
  · exact h2 _ _
theorem RG_zfill {J : Mem} {b i m : Nat} (h : RG J) : RG (zfill J b i m) := by
  intro c j
  unfold zfill
  split
  · exact ⟨by omega, by omega⟩
  · exact h _ _
section SB
variable {B nT n t : Nat} {ta : Nat → Nat} {oa : Nat → Nat → Nat} {J J' X X' : Mem} {K : Nat → Option ZK} {P : Nat → Nat → Option Nat}
theorem S_drop {p f m : Nat} (hs : SH K P n nT ta oa X) (hR : RF B nT t ta oa J X) (ht : t < nT) (hp : p < 4) (hf : f + m ≤ 16) : RF B nT t ta oa (drJ J (4 + 10 * p + 1) f m) (zfill X 72 (16 * p + f) m) := by
  obtain ⟨rS, rW, rT, rE, rN, rO, rH, rC, rQ, rP, rD, rK, rF, rR, rM, rA, rL, rB, rU, rZ⟩ := hR
  obtain ⟨s1, s2, s3, s4, s5, s6, s7, s8, s9⟩ := hs
  have hJ : ∀ c, ¬ (c = 4 + 10 * p + 1 ∨ c = 4 + 10 * p + 2 ∨ c = 4 + 10 * p + 3) → drJ J (4 + 10 * p + 1) f m c = J c := fun c h => by funext j; exact drJ_ne (by omega) (by omega) (by omega)
  have hX : ∀ b, b ≠ 72 → zfill X 72 (16 * p + f) m b = X b := fun b h => zfill_ab h
  have hta : ∀ u, u < nT → drJ J (4 + 10 * p + 1) f m (ta u) = J (ta u) := fun u hu => hJ _ (by have := (s5 u hu).2.2.1; omega)
  have h9 : ∀ k, k < 100 → zfill X 72 (16 * p + f) m 49 k = X 49 k := fun k _ => by rw [hX 49 (by decide)]
  have h11 : X 49 11 ≤ zfill X 72 (16 * p + f) m 49 11 := by rw [h9 11 (by decide)]; exact Int.le_refl _
  have h20 : X 49 20 ≤ zfill X 72 (16 * p + f) m 49 20 := by rw [h9 20 (by decide)]; exact Int.le_refl _
  have h21 := h9 21 (by decide)
  have hkcf : ∀ u, u < nT → kc (zfill X 72 (16 * p + f) m) u = kc X u ∧ ∀ j : Nat, (j : Int) < kc X u → kf (zfill X 72 (16 * p + f) m) u j = kf X u j := fun u hu => kcf_c (by rw [hX 58 (by decide)]) (by rw [hX 51 (by decide)]) (hX 52 (by decide)) (by rw [hX 60 (by decide)]) (by rw [hX 62 (by decide)]) (hX 66 (by decide)) (by rw [hX 67 (by decide)])
  refine ⟨gS_c rS (by rw [hJ 1 (by omega)]) (by rw [hJ 1 (by omega)]) (by rw [hJ 1 (by omega)]) (by rw [hJ 1 (by omega)]) (h9 0 (by omega)) (h9 20 (by omega)) (h9 21 (by omega)) (h9 33 (by omega)), gW_c rW (hJ 46 (by omega)) (hX 71 (by omega)), gT_c rT (hJ 47 (by omega)) (hX 68 (by omega)) (hX 69 (by omega)), gE_c rE (hJ 48 (by omega)) (hX 70 (by omega)), gN_c rN (fun u hu => by rw [hta u hu]; exact ⟨rfl, rfl, rfl⟩) (hX 50 (by omega)) (hX 51 (by omega)), gO_c rO (fun u hu k hk => hJ _ (by have := (s7 u hu k hk).2.2.1; have := s8 u hu k hk t ht; omega)) (hX 50 (by omega)) (hX 51 (by omega)) (hX 52 (by omega)) (hX 53 (by omega)) (hX 54 (by omega)) (hX 55 (by omega)) (hX 56 (by omega)), fH_c rH (fun u hu e => ⟨by rw [hta u hu], by rw [hX 50 (by omega)], by rw [hX 51 (by omega)]⟩) (hX 57 (by omega)) (hX 58 (by omega)), gC_c rC (fun p hp => hJ _ (by omega)) (hX 57 (by omega)) (hX 58 (by omega)), gQ_c rQ (fun p hp => ⟨hJ _ (by omega), hJ _ (by omega)⟩) (hX 57 (by omega)) (hX 58 (by omega)) (hX 59 (by omega)) h11, ?_, fD_c rD (fun b u _ _ _ e => by rw [hX b (by omega)]), gK_c rK (fun u hu => ⟨by rw [hJ (ta u + 2) (by have := (s5 u hu).2.2.1; omega)], hJ (ta u + 2 + 1) (by have := (s5 u hu).2.2.1; omega)⟩) hkcf, gF_c rF (hX 68 (by omega)) (hX 75 (by omega)) (hX 76 (by omega)) h11 hkcf, gR_c rR (fun p hp => ⟨hJ _ (by omega), hJ _ (by omega)⟩) (hJ 44 (by omega)) (hJ 45 (by omega)) (hX 75 (by omega)) (hX 76 (by omega)), fM_c2 rM rH (fun b u _ _ _ _ _ _ _ _ e => by rw [hX b (by omega)]) (hX 52 (by omega)) (hX 54 (by omega)) (fun p hp => by rw [hJ (4 + 10 * p + 4) (by omega), hJ 44 (by omega)]), gA_c rA (fun u hu => by rw [hta u hu]) (hX 63 (by omega)) (hX 77 (by omega)) (hX 78 (by omega)), fL_c rL (fun q hq => by rw [hJ (4 + 10 * q + 6) (by omega), hJ (4 + 10 * q + 6 + 1) (by omega)]; exact ⟨rfl, rfl⟩) (fun b u _ _ _ e => by rw [hX b (by omega)]) (hX 77 (by omega)) (hX 78 (by omega)), gB_drop rB hp hf, gU_c rU (h9 33 (by omega)) (h9 11 (by omega)) (h9 20 (by omega)), ⟨RG_drJ rZ.1 (rB p hp).2.2.2.1, RG_zfill rZ.2⟩⟩
  refine fP_c rP (fun u hu e => by rw [hta u hu]; exact ⟨rfl, rfl, rfl, rfl⟩) (fun b u _ _ _ _ _ _ _ _ _ _ e => by rw [hX b (by omega)]) (hX 52 (by omega)) (hX 54 (by omega)) h20 h21 (hX 53 (by omega)) (fun u _ _ _ _ h => ?_)
  unfold zfill
  split
  · rfl
  · exact h
theorem gB_put {p pg : Nat} {fr wr : Int} (rB : gB J X) (hp : p < 4) (hg : pg < 16) (h72 : X 72 (16 * p + pg) = 0) (hc : J (4 + 10 * p + 1) 2 < 3) (f0 : 0 ≤ fr) (f1 : fr < 10) (hw : wr = 0 ∨ wr = 1) (h11 : 0 ≤ X 49 11) :
    gB (ptJ J (4 + 10 * p + 1) pg (2 * fr + wr)) (zU (zU (zU (zU X 49 11 (X 49 11 + 1)) 72 (16 * p + pg) (X 49 11 + 1)) 73 (16 * p + pg) fr) 74 (16 * p + pg) wr) := by
  obtain ⟨b1, b2, b3, b4, b5⟩ := rB p hp
  generalize hX' : (zU (zU (zU (zU X 49 11 (X 49 11 + 1)) 72 (16 * p + pg) (X 49 11 + 1)) 73 (16 * p + pg) fr) 74 (16 * p + pg) wr) = X'
  have e11 : X' 49 11 = X 49 11 + 1 := by rw [← hX', zU_ne (by decide), zU_ne (by decide), zU_ne (by decide), zU_s]
  have e72 : ∀ i, i ≠ 16 * p + pg → X' 72 i = X 72 i := fun i h => by rw [← hX', zU_ne (by decide), zU_ne (by decide), zU_k _ _ _ h, zU_ne (by decide)]
  have e72s : X' 72 (16 * p + pg) = X 49 11 + 1 := by rw [← hX', zU_ne (by decide), zU_ne (by decide), zU_s]
  have e73 : ∀ i, i ≠ 16 * p + pg → X' 73 i = X 73 i := fun i h => by rw [← hX', zU_ne (by decide), zU_k _ _ _ h, zU_ne (by decide), zU_ne (by decide)]
  have e73s : X' 73 (16 * p + pg) = fr := by rw [← hX', zU_ne (by decide), zU_s]
  have e74 : ∀ i, i ≠ 16 * p + pg → X' 74 i = X 74 i := fun i h => by rw [← hX', zU_k _ _ _ h, zU_ne (by decide), zU_ne (by decide), zU_ne (by decide)]
  have e74s : X' 74 (16 * p + pg) = wr := by rw [← hX', zU_s]
  refine gB_p (p := p) rB ⟨?_, ?_, ?_, ?_, ?_⟩ (fun q hq e => ⟨?_, ?_, ?_⟩) (fun q hq e g hg => ⟨e72 _ (by omega), e73 _ (by omega), e74 _ (by omega)⟩) (by omega)
  · rw [ptJ_b b3]
    refine SL_add (al' := kal X' (16 * p)) b1 hg (by unfold kal; omega) (fun i hi => ?_) (fun i hi e => e72 _ (by omega)) (fun i hi h => ?_)
    · unfold kal
      by_cases e : i = pg
      · subst e; rw [e72s]; exact ⟨fun _ => Or.inr rfl, fun _ => by omega⟩
      · rw [e72 _ (by omega)]
        exact ⟨fun h => Or.inl h, fun h => h.resolve_right e⟩
    · show X 72 (16 * p + i) < X' 72 (16 * p + pg)
      rw [e72s]
      have := (b5 i hi).2.1
      omega
  · refine ptJ_e b3 (fun i hi => ?_) ?_
    · rw [b2 i hi]
      have hm : J (4 + 10 * p + 1 + 1) i ∈ bp J (4 + 10 * p + 1) := by
        unfold bp
        exact List.mem_map.mpr ⟨i, List.mem_range.mpr hi, rfl⟩
      have hr := b1.1 _ hm
      have hne : (J (4 + 10 * p + 1 + 1) i).toNat ≠ pg := fun q => by
        have h3 := hr.2.2
        unfold kal at h3
        rw [q] at h3; omega
      unfold ke
      rw [e73 _ (by omega), e74 _ (by omega)]
    · unfold ke; rw [Int.toNat_natCast, e73s, e74s]
  · unfold ptJ; rw [zU_s]; omega
  · unfold ptJ; rw [zU_s]; omega
  · intro g hg'
    by_cases e : g = pg
    · subst e; rw [e72s, e73s, e74s, e11]; exact ⟨by omega, by omega, fun _ => ⟨f0, f1, hw⟩⟩
    · rw [e72 _ (by omega), e73 _ (by omega), e74 _ (by omega), e11]
      obtain ⟨c1, c2, c3⟩ := b5 g hg'
      exact ⟨c1, by omega, c3⟩
  · funext j; exact ptJ_ne (by omega) (by omega) (by omega)
  · funext j; exact ptJ_ne (by omega) (by omega) (by omega)
  · funext j; exact ptJ_ne (by omega) (by omega) (by omega)
/-- the buffer takes a translation: the count and the eldest are the same on both sides -/
theorem gB_know {p pg : Nat} (rB : gB J X) (hp : p < 4) (hg : pg < 16) (h72 : X 72 (16 * p + pg) = 0) (f0 : 0 ≤ X 68 pg) (f1 : X 68 pg < 10) (hw : X 69 pg = 0 ∨ X 69 pg = 1) (h11 : 0 ≤ X 49 11) :
    gB (plJ J (4 + 10 * p + 1) pg (2 * X 68 pg + X 69 pg)) (knJ X p pg) ∧ (cnF (kal X (16 * p)) 16 = 3 → 0 ≤ eaF X (16 * p) 16) ∧ (J (4 + 10 * p + 1) 2 = 3 → (0 ≤ J (4 + 10 * p + 1 + 1) 0 ∧ J (4 + 10 * p + 1 + 1) 0 < 1000) ∧ 0 ≤ drJ J (4 + 10 * p + 1) (J (4 + 10 * p + 1 + 1) 0) 1 (4 + 10 * p + 1) 2 ∧ drJ J (4 + 10 * p + 1) (J (4 + 10 * p + 1 + 1) 0) 1 (4 + 10 * p + 1) 2 < 3) := by
  obtain ⟨b1, b2, b3, b4, b5⟩ := rB p hp
  have hlen : (J (4 + 10 * p + 1) 2).toNat = cnF (kal X (16 * p)) 16 := by rw [← SL_len 16 _ b1, bp_len]
  by_cases c : J (4 + 10 * p + 1) 2 = 3
  · have hcn : cnF (kal X (16 * p)) 16 = 3 := by omega
    have hcons : bp J (4 + 10 * p + 1) = J (4 + 10 * p + 1 + 1) 0 :: [J (4 + 10 * p + 1 + 1) 1, J (4 + 10 * p + 1 + 1) 2] := by
      unfold bp; rw [c]; rfl
    have hea := eaF_head (by rw [hcons] at b1; exact b1)
    have hh := b1.1 (J (4 + 10 * p + 1 + 1) 0) (by rw [hcons]; exact List.mem_cons_self)
    obtain ⟨h, hh2⟩ : ∃ h : Nat, J (4 + 10 * p + 1 + 1) 0 = h := ⟨(J (4 + 10 * p + 1 + 1) 0).toNat, by omega⟩
    rw [hh2] at hea hh
    have eX0 : knJ0 X p = zfill X 72 (16 * p + h) 1 := by
      unfold knJ0
      rw [if_pos hcn, hea, ← zfill_s, zfill_0]
      rw [show ((↑(16 * p) : Int) + (h : Int)).toNat = 16 * p + h + 0 by omega]
    have hd : drJ J (4 + 10 * p + 1) h 1 (4 + 10 * p + 1) 2 < 3 := by
      rw [(drJ_c b3).2.2, drJ_b, hcons, hh2, List.filter_cons_of_neg (by simp; omega)]
      have := List.length_filter_le (fun x => decide (x < (h : Int) ∨ (h : Int) + 1 ≤ x)) [J (4 + 10 * p + 1 + 1) 1, J (4 + 10 * p + 1 + 1) 2]
      simp only [List.length_cons, List.length_nil] at this
      omega
    have g1 := gB_drop (p := p) (f := h) (m := 1) rB hp (by omega)
    have hz72 : zfill X 72 (16 * p + h) 1 72 (16 * p + pg) = 0 := by unfold zfill; split; rfl; exact h72
    have hz : ∀ b, b ≠ 72 → zfill X 72 (16 * p + h) 1 b = X b := fun b h => zfill_ab h
    have g2 := gB_put (p := p) (pg := pg) (fr := X 68 pg) (wr := X 69 pg) g1 hp hg hz72 hd f0 f1 hw (by rw [hz 49 (by decide)]; exact h11)
    refine ⟨?_, fun _ => by rw [hea]; omega, fun _ => ⟨by omega, by rw [hh2]; exact (drJ_c b3).1, by rw [hh2]; exact hd⟩⟩
    unfold plJ knJ
    rw [if_pos c, eX0, hh2]
    rw [hz 49 (by decide)] at g2
    exact g2
  · have hcn : ¬ cnF (kal X (16 * p)) 16 = 3 := by omega
    refine ⟨?_, fun q => absurd q hcn, fun q => absurd q c⟩
    unfold plJ knJ knJ0
    rw [if_neg c, if_neg hcn]
    exact gB_put rB hp hg h72 (by omega) f0 f1 hw h11
theorem plJ_ne {b c : Nat} {x y : Int} (h : ¬ (c = b ∨ c = b + 1 ∨ c = b + 2)) : plJ J b x y c = J c := by
  funext j
  unfold plJ
  split
  · rw [ptJ_ne (by omega) (by omega) (by omega), drJ_ne (by omega) (by omega) (by omega)]
  · rw [ptJ_ne (by omega) (by omega) (by omega)]
theorem RG_plJ {b : Nat} {x y : Int} (h : RG J) (h0 : 0 ≤ J b 2) (h3 : J b 2 ≤ 3) (hx : zr x) (hy : zr y) : RG (plJ J b x y) := by
  unfold plJ
  split
  · exact RG_ptJ (RG_drJ h h3) (by have := (drJ_c (f := J (b + 1) 0) (g := 1) h0).2.1; omega) hx hy
  · exact RG_ptJ h h3 hx hy
set_option maxHeartbeats 1000000 in
theorem S_know {p pg : Nat} (hs : SH K P n nT ta oa X) (hR : RF B nT t ta oa J X) (ht : t < nT) (hB : B < 100000) (h58 : X 58 t = 2) (hp : p < 4) (h57 : X 57 t = p) (hg : pg < 16) (h72 : X 72 (16 * p + pg) = 0) (f0 : 0 ≤ X 68 pg) : RF (B + 1) nT t ta oa (plJ J (4 + 10 * p + 1) pg (J 47 pg)) (knJ X p pg) := by
  obtain ⟨rS, rW, rT, rE, rN, rO, rH, rC, rQ, rP, rD, rK, rF, rR, rM, rA, rL, rB, rU, rZ⟩ := hR
  obtain ⟨s1, s2, s3, s4, s5, s6, s7, s8, s9⟩ := hs
  obtain ⟨q1, q2, q3⟩ := rT pg hg
  rw [if_neg (by omega)] at q3
  obtain ⟨u1, u2, u3, u4, u5⟩ := rU
  have hb := (gB_know rB hp hg h72 f0 (by omega) q2 u3).1
  rw [← q3] at hb
  have hJ : ∀ c, ¬ (c = 4 + 10 * p + 1 ∨ c = 4 + 10 * p + 2 ∨ c = 4 + 10 * p + 3) → plJ J (4 + 10 * p + 1) pg (J 47 pg) c = J c := fun c h => plJ_ne (by omega)
  have hX : ∀ b, ¬ (b = 49 ∨ b = 72 ∨ b = 73 ∨ b = 74) → knJ X p pg b = X b := fun b h => by
    unfold knJ knJ0
    rw [zU_ab _ _ _ (by omega), zU_ab _ _ _ (by omega), zU_ab _ _ _ (by omega), zU_ab _ _ _ (by omega)]
    split
    · rw [zU_ab _ _ _ (by omega)]
    · rfl
  have h9 : ∀ k, k ≠ 11 → knJ X p pg 49 k = X 49 k := fun k h => by
    unfold knJ knJ0
    rw [zU_ne (by decide), zU_ne (by decide), zU_ne (by decide), zU_k _ _ _ h]
    split
    · rw [zU_ne (by decide)]
    · rfl
  have e11 : knJ X p pg 49 11 = X 49 11 + 1 := by
    unfold knJ
    rw [zU_ne (by decide), zU_ne (by decide), zU_ne (by decide), zU_s]
  have hta : ∀ u, u < nT → plJ J (4 + 10 * p + 1) pg (J 47 pg) (ta u) = J (ta u) := fun u hu => hJ _ (by have := (s5 u hu).2.2.1; omega)
  have h11 : X 49 11 ≤ knJ X p pg 49 11 := by omega
  have h20 : X 49 20 ≤ knJ X p pg 49 20 := by rw [h9 20 (by decide)]; exact Int.le_refl _
  have h21 := h9 21 (by decide)
  have hkcf : ∀ u, u < nT → kc (knJ X p pg) u = kc X u ∧ ∀ j : Nat, (j : Int) < kc X u → kf (knJ X p pg) u j = kf X u j := fun u hu => kcf_c (by rw [hX 58 (by decide)]) (by rw [hX 51 (by decide)]) (hX 52 (by decide)) (by rw [hX 60 (by decide)]) (by rw [hX 62 (by decide)]) (hX 66 (by decide)) (by rw [hX 67 (by decide)])
  have r47 := rZ.1 47 pg
  have r68 := rZ.2 68 pg
  have r69 := rZ.2 69 pg
  have rK0 : RG (knJ0 X p) := by
    unfold knJ0
    split
    · exact RG_U rZ.2 (by omega) (by omega)
    · exact rZ.2
  refine ⟨gS_c rS (by rw [hJ 1 (by omega)]) (by rw [hJ 1 (by omega)]) (by rw [hJ 1 (by omega)]) (by rw [hJ 1 (by omega)]) (h9 0 (by omega)) (h9 20 (by omega)) (h9 21 (by omega)) (h9 33 (by omega)), gW_c rW (hJ 46 (by omega)) (hX 71 (by omega)), gT_c rT (hJ 47 (by omega)) (hX 68 (by omega)) (hX 69 (by omega)), gE_c rE (hJ 48 (by omega)) (hX 70 (by omega)), gN_c rN (fun u hu => by rw [hta u hu]; exact ⟨rfl, rfl, rfl⟩) (hX 50 (by omega)) (hX 51 (by omega)), gO_c rO (fun u hu k hk => hJ _ (by have := (s7 u hu k hk).2.2.1; have := s8 u hu k hk t ht; omega)) (hX 50 (by omega)) (hX 51 (by omega)) (hX 52 (by omega)) (hX 53 (by omega)) (hX 54 (by omega)) (hX 55 (by omega)) (hX 56 (by omega)), fH_c rH (fun u hu e => ⟨by rw [hta u hu], by rw [hX 50 (by omega)], by rw [hX 51 (by omega)]⟩) (hX 57 (by omega)) (hX 58 (by omega)), gC_c rC (fun p hp => hJ _ (by omega)) (hX 57 (by omega)) (hX 58 (by omega)), gQ_c rQ (fun p hp => ⟨hJ _ (by omega), hJ _ (by omega)⟩) (hX 57 (by omega)) (hX 58 (by omega)) (hX 59 (by omega)) h11, ?_, fD_c rD (fun b u _ _ _ e => by rw [hX b (by omega)]), gK_c rK (fun u hu => ⟨by rw [hJ (ta u + 2) (by have := (s5 u hu).2.2.1; omega)], hJ (ta u + 2 + 1) (by have := (s5 u hu).2.2.1; omega)⟩) hkcf, gF_c rF (hX 68 (by omega)) (hX 75 (by omega)) (hX 76 (by omega)) h11 hkcf, gR_c rR (fun p hp => ⟨hJ _ (by omega), hJ _ (by omega)⟩) (hJ 44 (by omega)) (hJ 45 (by omega)) (hX 75 (by omega)) (hX 76 (by omega)), fM_c2 rM rH (fun b u _ _ _ _ _ _ _ _ e => by rw [hX b (by omega)]) (hX 52 (by omega)) (hX 54 (by omega)) (fun p hp => by rw [hJ (4 + 10 * p + 4) (by omega), hJ 44 (by omega)]), gA_c rA (fun u hu => by rw [hta u hu]) (hX 63 (by omega)) (hX 77 (by omega)) (hX 78 (by omega)), fL_c rL (fun q hq => by rw [hJ (4 + 10 * q + 6) (by omega), hJ (4 + 10 * q + 6 + 1) (by omega)]; exact ⟨rfl, rfl⟩) (fun b u _ _ _ e => by rw [hX b (by omega)]) (hX 77 (by omega)) (hX 78 (by omega)), hb, ⟨by rw [h9 33 (by decide)]; exact u1, by rw [h9 33 (by decide)]; omega, by omega, by omega, by rw [h9 20 (by decide)]; omega⟩, ⟨RG_plJ rZ.1 (rB p hp).2.2.1 (rB p hp).2.2.2.1 ⟨by omega, by omega⟩ ⟨r47.1, r47.2⟩, RG_U (RG_U (RG_U (RG_U rK0 (by omega) (by omega)) (by omega) (by omega)) r68.1 r68.2) r69.1 r69.2⟩⟩
  refine fP_c rP (fun u hu e => by rw [hta u hu]; exact ⟨rfl, rfl, rfl, rfl⟩) (fun b u _ _ _ _ _ _ _ _ _ _ e => by rw [hX b (by omega)]) (hX 52 (by omega)) (hX 54 (by omega)) h20 h21 (hX 53 (by omega)) (fun u hu hut h5 h6 h => ?_)
  have hu57 := rH u hu
  have hTu := rP u hu hut h5
  obtain ⟨n1, n2, n3, n4, n5, n6⟩ := rN u hu
  have hlt : X 51 u < X 50 u := by
    have := ((hu57.2.2.2 hut).1)
    have h3 : ¬ X 51 u = X 50 u := fun q => h5 (this.mpr q)
    clear this hu57
    omega
  have hOR := (rO u hu (X 51 u).toNat (by clear hu57; omega)).1
  have hkd := TH_kd hTu hOR.2.1 hOR.2.2.1
  have h53 := hOR.2.2.2.2.1 (by unfold oi at hkd; clear hu57; omega)
  have hoi : 10 * u + (X 51 u).toNat = oi X u := rfl
  rw [hoi] at h53
  by_cases e : (X 57 u).toNat = p
  · exfalso
    have h2 : X 58 u = 2 := by
      rcases hu57.1 with c | c | c
      · exact absurd c h5
      · have := (TH_q hTu).1 c
        unfold zfp at this
        split at this
        · omega
        · split at this
          · omega
          · omega
      · exact c
    have c1 := ((rC p hp).2.2.2 u hu).mp ⟨h2, by have := hu57.2.1; omega⟩
    have c2 := ((rC p hp).2.2.2 t ht).mp ⟨h58, h57⟩
    omega
  · unfold knJ
    rw [zU_ne (by decide), zU_ne (by decide), zU_k _ _ _ (by omega), zU_ne (by decide)]
    unfold knJ0
    split
    · rename_i hcn
      have hlen : (J (4 + 10 * p + 1) 2).toNat = cnF (kal X (16 * p)) 16 := by rw [← SL_len 16 _ (rB p hp).1, bp_len]
      have r1 := eaF_r X (16 * p) 16
      have r2 := (gB_know rB hp hg h72 f0 (by omega) q2 u3).2.1 hcn
      rw [zU_k _ _ _ (by omega)]
      exact h
    · exact h
end SB
