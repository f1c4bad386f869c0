/-! One micro-step on both sides. -/
theorem AG_ms {Y X : Mem} (h : AG Y X) : AG (zU Y 49 33 (Y 49 33 + 1)) (msX X) := AG_U h (by rw [h 49 (by decide) (by decide)])
theorem FR_ms {Y : Mem} {x : Int} : FRm (zU Y 49 33 x) Y := FR_U (FR_r Y) (by omega) (by omega)
theorem AG_be {Y X : Mem} {t : Nat} {x y : Int} (h : AG Y X) (hx : x = y) : AG (beJ Y t x) (beJ X t y) := by
  unfold beJ
  exact AG_U (AG_U (AG_U (AG_U (AG_U (AG_U h hx) rfl) rfl) rfl) rfl) rfl
theorem FR_be {Z Y : Mem} {t : Nat} {x : Int} (h : FRm Z Y) : FRm (beJ Z t x) Y := by
  unfold beJ
  exact FR_U (FR_U (FR_U (FR_U (FR_U (FR_U h (by omega) (by omega)) (by omega) (by omega)) (by omega) (by omega)) (by omega) (by omega)) (by omega) (by omega)) (by omega) (by omega)
theorem AG_aw {Y X : Mem} {t : Nat} {q q' h h' : Int} (g : AG Y X) (hq : q = q') (hh : h = h') : AG (awJ Y t q h) (awJ X t q' h') := by
  unfold awJ
  exact AG_U (AG_U (AG_U (AG_U g hq) hh) (by rw [g 49 (by decide) (by decide)])) (by rw [g 49 (by decide) (by decide)])
theorem FR_aw {Z Y : Mem} {t : Nat} {q h : Int} (g : FRm Z Y) : FRm (awJ Z t q h) Y := by
  unfold awJ
  exact FR_U (FR_U (FR_U (FR_U g (by omega) (by omega)) (by omega) (by omega)) (by omega) (by omega)) (by omega) (by omega)
theorem KP_be {nT : Nat} {Z X : Mem} {t : Nat} {x : Int} (h : KP nT Z X) (ht : t < nT) : KP nT (beJ Z t x) X := by
  unfold beJ
  exact KP_U (KP_U (KP_U (KP_U (KP_U (KP_U h (fun _ => ht)) (fun _ => ht)) (fun _ => ht)) (fun _ => ht)) (fun _ => ht)) (fun _ => ht)
theorem KP_aw {nT : Nat} {Z X : Mem} {t : Nat} {q h : Int} (g : KP nT Z X) (ht : t < nT) : KP nT (awJ Z t q h) X := by
  unfold awJ
  exact KP_U (KP_U (KP_U (KP_U g (fun _ => ht)) (fun _ => ht)) (by omega)) (fun _ => ht)
theorem FR_t {Z Y W : Mem} (h : FRm Z Y) (h2 : FRm Y W) : FRm Z W := fun c hc => by rw [h c hc, h2 c hc]
theorem CF_fn {Z J : Mem} {t o : Nat} (h : CFR Z J) (ht : 78 < t) (ho : 78 < o) : CFR (fnJ Z t o) J := by
  unfold fnJ
  exact CF_U (CF_U h (Or.inr ho)) (Or.inr ht)
theorem CF_fb {Z J : Mem} {t o : Nat} {x : Int} (h : CFR Z J) (ht : 78 < t) (ho : 78 < o) : CFR (fbJ Z t o x) J := by
  unfold fbJ
  exact CF_U (CF_U (CF_U (CF_fn h ht ho) (Or.inr ht)) (Or.inr ht)) (Or.inr ht)
theorem CF_fh {Z J : Mem} {t y : Nat} {x : Int} (h : CFR Z J) (ht : 78 < t) (hy : y ≠ 0 ∧ y < 49) : CFR (fhJ Z t y x) J := by
  unfold fhJ
  exact CF_U (CF_U h (Or.inl hy)) (Or.inr ht)
theorem curF_g {X : Mem} {p c : Int} {nT : Nat} (h : ∀ t : Nat, t < nT → ((X 58 t = 2 ∧ X 57 t = p) ↔ c = t)) (h0 : -1 ≤ c) : ∀ k, k ≤ nT → curF X p k = if c < k then c else -1 := by
  intro k
  induction k with
  | zero => intro _; unfold curF; split <;> omega
  | succ k ih =>
    intro hk
    unfold curF
    by_cases e : c = k
    · rw [if_pos ((h k (by omega)).mpr e), if_pos (by omega)]; exact e.symm
    · rw [if_neg (fun q => e ((h k (by omega)).mp q)), ih (by omega)]
      by_cases e2 : c < k
      · rw [if_pos e2, if_pos (by omega)]
      · rw [if_neg e2, if_neg (by omega)]
theorem curF_of {J X Y : Mem} {p nT : Nat} (h : gC nT J X) (hp : p < 4) (h57 : Y 57 = X 57) (h58 : Y 58 = X 58) : curF Y p nT = J (4 + 10 * p) 5 := by
  obtain ⟨a1, a2, a3, a4⟩ := h p hp
  rw [curF_g (X := Y) (p := p) (c := J (4 + 10 * p) 5) (nT := nT) (fun t ht => by rw [h57, h58]; exact a4 t ht) a2 nT (Nat.le_refl _), if_pos a3]
def MSP (K : Nat → Option ZK) (P : Nat → Nat → Option Nat) (n w B nT : Nat) (ta : Nat → Nat) (oa : Nat → Nat → Nat) (p : Nat) (J X : Mem) : Prop := ∃ (J' X' : Mem) (a : Int), RR (B + 3) nT ta oa J' X' ∧ X' 50 = X 50 ∧ CFR J' J ∧ KP nT X' X ∧ (0 ≤ a ∧ a ≤ 31) ∧ (∀ (d : Nat) (Q : Option ZV → ZH → Prop), Q (some (.inl (zi a))) (K, zm J', P, n, w) → zT (d + 4) 25 0 [(0, .inr (some 1)), (1, .inr (some (4 + 10 * p)))] [] (K, zm J, P, n, w) Q)
  ∧ ∀ Y, AG Y X → RG Y → ∃ Y', AG Y' X' ∧ FRm Y' Y ∧ ∀ (d : Nat) (Q : Option ZV → ZH → Prop), Q (some (.inl (zi a))) (K, zm Y', P, n, w) → zT (d + 4) 85 0 [(0, .inr (some 49)), (1, .inl (zi p))] [] (K, zm Y, P, n, w) Q
section PE
variable {B nT n w t p : Nat} {ta : Nat → Nat} {oa : Nat → Nat → Nat} {J X : Mem} {K : Nat → Option ZK} {P : Nat → Nat → Option Nat}
set_option maxHeartbeats 1000000 in
theorem st_mail (hs : SH K P n nT ta oa X) (hR : RR B nT ta oa J X) (hp : p < 4) (hB : B < 99000) (h77 : X 77 p = 1) : MSP K P n w B nT ta oa p J X := by
  have hR1 := RR_ms (by omega) hs hR
  have jms : ∀ b, b ≠ 1 → msJ J b = J b := fun b h => zU_ab _ _ _ h
  have xms : ∀ b, b ≠ 49 → msX X b = X b := fun b h => zU_ab _ _ _ h
  have jcf : CFR (msJ J) J := CF_U (CF_r J) (by omega)
  have hs1 : SH K P n nT ta oa (msX X) := SH_c hs (xms 50 (by omega))
  have agm : ∀ Y, AG Y X → AG (zU Y 49 33 (Y 49 33 + 1)) (msX X) := fun Y h => AG_ms h
  obtain ⟨l1, l2, l3⟩ := hR1.2.2.2.2.2.2.2.2.2.2.2.2.2.2.2.2.1 p hp
  rw [xms 77 (by omega)] at l3
  obtain ⟨m1, m2, m3, m4, m5, m6⟩ := l3 h77
  obtain ⟨u, hu⟩ : ∃ u : Nat, msX X 78 p = u := ⟨(msX X 78 p).toNat, by omega⟩
  rw [hu, Int.toNat_natCast] at m4 m5 m6
  rw [hu] at m1
  have hun : u < nT := by omega
  obtain ⟨hF, hT⟩ := RF_of hR1 hun
  obtain ⟨T1, T2, T3, T4, T5⟩ := hT
  have hTH := T2 m4
  have T3' := T3 m4
  obtain ⟨n1, n2, n3, n4, n5, n6⟩ := hR1.2.2.2.2.1 u hun
  obtain ⟨dn, hdn⟩ : ∃ dn : Nat, msX X 51 u = dn := ⟨(msX X 51 u).toNat, by omega⟩
  have hlt : msX X 51 u < msX X 50 u := by
    have : ¬ msX X 51 u = msX X 50 u := fun q => m4 (T1.1.mpr q)
    clear T1; omega
  have hoi : oi (msX X) u = 10 * u + dn := by unfold oi; rw [hdn]; omega
  have hOR := (hR1.2.2.2.2.2.1 u hun dn (by clear T1; omega)).1
  rw [hoi] at hTH
  obtain ⟨g1, g2⟩ := TH_kd hTH hOR.2.1 hOR.2.2.1
  obtain ⟨r1, r2, r3, r4, r5, r6, r7⟩ := hOR.2.2.2.2.1 (by clear T1; omega)
  obtain ⟨f, hf⟩ : ∃ f : Nat, msX X 53 (10 * u + dn) = f := ⟨(msX X 53 (10 * u + dn)).toNat, by omega⟩
  obtain ⟨m, hmm⟩ : ∃ m : Nat, msX X 54 (10 * u + dn) = m := ⟨(msX X 54 (10 * u + dn)).toNat, by omega⟩
  have rZ := hR1.2.2.2.2.2.2.2.2.2.2.2.2.2.2.2.2.2.2.2
  obtain ⟨b1, b2, b3, b4, b5⟩ := hR1.2.2.2.2.2.2.2.2.2.2.2.2.2.2.2.2.2.1 p hp
  have hnT := hR1.1.1
  obtain ⟨s1, s2, s3, s4, s5, s6, s7, s8, s9⟩ := hs1
  obtain ⟨o1, o2, o3, o4⟩ := s7 u hun dn (by omega)
  have o5 := s8 u hun dn (by omega) u hun
  obtain ⟨t1, t2, t3, t4⟩ := s5 u hun
  have k1 := s1.1
  have py : prc K P (4 + 10 * p) := s1.2.2.2.2.2.2.2.2.2.2.2.2.2.2 p hp
  have jm6 : J (4 + 10 * p + 6) 1 = 1 := by rw [← jms _ (by omega), l1, xms 77 (by omega)]; exact h77
  have hS := S_ans (p := p) (f := f) (m := m) ⟨s1, s2, s3, s4, s5, s6, s7, s8, s9⟩ hF hun hp (by omega) (by rw [xms 77 (by omega)]; exact h77) hu
  have hJt : ∀ k, k ≠ 8 → (zU (drJ (tfJ (msJ J) (4 + 10 * p + 6)) (4 + 10 * p + 1) f m) (ta u) 8 (drJ (tfJ (msJ J) (4 + 10 * p + 6)) (4 + 10 * p + 1) f m (ta u) 8 - 1)) (ta u) k = msJ J (ta u) k := fun k h => by rw [zU_k _ _ _ h, drJ_ne (by omega) (by omega) (by omega), tfJ_ne (by omega) (by omega)]
  have hX : ∀ b, ¬ (b = 63 ∨ b = 72 ∨ b = 77) → (zU (zfill (zU (msX X) 77 p 0) 72 (16 * p + f) m) 63 u (msX X 63 u - 1)) b = msX X b := fun b h => by rw [zU_ab _ _ _ (by omega), zfill_ab (by omega), zU_ab _ _ _ (by omega)]
  have h77' : ∀ q, (zU (zfill (zU (msX X) 77 p 0) 72 (16 * p + f) m) 63 u (msX X 63 u - 1)) 77 q = if q = p then 0 else msX X 77 q := fun q => by
    rw [zU_ne (by decide), zfill_ab (by decide)]
    by_cases e : q = p
    · rw [if_pos e, e, zU_s]
    · rw [if_neg e, zU_k _ _ _ e]
  have hCF : CFR (zU (drJ (tfJ (msJ J) (4 + 10 * p + 6)) (4 + 10 * p + 1) f m) (ta u) 8 (drJ (tfJ (msJ J) (4 + 10 * p + 6)) (4 + 10 * p + 1) f m (ta u) 8 - 1)) J := CF_U (CF_t (drJ_CF (by omega)) (CF_t (tfJ_CF (by omega)) jcf)) (by omega)
  refine ⟨_, _, 1, RR_mono (RR_of hS hun ?_) (by omega), by rw [hX 50 (by omega), xms 50 (by omega)], hCF, KP_U (KP_fill (KP_U (KP_U (KP_r X) (by omega)) (by omega)) (by omega)) (by omega), by omega, fun d Q hQ => ?_, fun Y hY rY => ⟨zU (zfill (zU (zU Y 49 33 (Y 49 33 + 1)) 77 p 0) 72 (16 * p + f) m) 63 u (Y 63 u - 1), AG_U (AG_fill (AG_U (AG_ms hY) rfl)) (by rw [hY 63 (by decide) (by decide), xms 63 (by omega)]), FR_U (FR_fill (FR_U FR_ms (by omega) (by omega)) (by omega) (by omega)) (by omega) (by omega), fun d Q hQ => ?_⟩⟩
  · generalize (zU (drJ (tfJ (msJ J) (4 + 10 * p + 6)) (4 + 10 * p + 1) f m) (ta u) 8 (drJ (tfJ (msJ J) (4 + 10 * p + 6)) (4 + 10 * p + 1) f m (ta u) 8 - 1)) = J' at *
    generalize (zU (zfill (zU (msX X) 77 p 0) 72 (16 * p + f) m) 63 u (msX X 63 u - 1)) = X' at *
    have hoi2 : oi X' u = 10 * u + dn := by rw [oi_c (by rw [hX 51 (by omega)]), hoi]
    refine ⟨?_, fun _ => ?_, fun _ => ?_, fun _ a => ?_, fun q hq a b => ?_⟩
    · rw [hX 58 (by omega), hX 51 (by omega), hX 50 (by omega), hJt 4 (by decide), hX 57 (by omega)]; exact T1
    · rw [hoi2]
      refine TH_c hTH (hJt 5 (by decide)) (hJt 6 (by decide)) (hJt 7 (by decide)) (hJt 9 (by decide)) (by rw [hX 49 (by omega)]; exact Int.le_refl _) (by rw [hX 49 (by omega)]) (by rw [hX 52 (by omega)]) (by rw [hX 54 (by omega)]) (by rw [hX 58 (by omega)]) (by rw [hX 60 (by omega)]) (by rw [hX 61 (by omega)]) (by rw [hX 62 (by omega)]) (by rw [hX 64 (by omega)]) (by rw [hX 65 (by omega)]) (by rw [hX 67 (by omega)]) (fun q => by clear T1; omega)
    · unfold tD at T3' ⊢
      rw [hX 58 (by omega), hX 60 (by omega), hX 61 (by omega)]; exact T3'
    · rw [hX 60 (by omega)] at a; clear T1; omega
    · rw [h77' q] at a
      by_cases e : q = p
      · rw [if_pos e] at a; omega
      · rw [if_neg e] at a
        rw [hX 78 (by omega)] at b
        rw [hX 58 (by omega), hX 60 (by omega), hX 62 (by omega)]
        exact T5 q hq a b
  · exact s_microA (d := d + 3) k1 py (by omega) (by omega) (by omega) (fun Q' hQ' => s_answer (d := d + 2) (x := u) (nT := nT) (f := f) (g := m) (t := ta u) (o := oa u dn) s1 py t2 o2 rZ.1 (RG_tfJ rZ.1 (by rw [jms _ (by omega)]; omega)) (by omega) t3 o3 hnT s3 (by rw [jms _ (by omega)]; omega) (by rw [jms _ (by omega)]; omega) m1 hun t1 (by omega) (by omega) (by omega) (by rw [n3, hdn, Int.toNat_natCast]; exact o1) (by omega) (by omega) (by omega) b3 b4 hQ') hQ
  · have yx : ∀ b, 49 < b → b ≤ 78 → Y b = msX X b := fun b h1 h2 => by rw [hY b (by omega) h2, xms b (by omega)]
    exact m_stepA (d := d) (t := u) (dn := dn) (f := f) (m := m) (ow := Y 63 u) s2 rY hp (by rw [hY 77 (by decide) (by decide)]; exact h77) (by rw [yx 78 (by decide) (by decide)]; exact hu) (by omega) (by omega) (by rw [yx 51 (by decide) (by decide)]; exact hdn) (by rw [yx 53 (by decide) (by decide)]; exact hf) (by rw [yx 54 (by decide) (by decide)]; exact hmm) (by omega) rfl hQ
theorem ph_all {dn : Nat} (h : CX K P n B nT ta oa t p J X) (h51 : X 51 t = dn) : PH0 K P n w B nT ta oa t p dn J X ∨ (PH1 K P n w B nT ta oa t p dn J X ∧ (X 60 t < 10 ∨ 13 < X 60 t)) := by
  obtain ⟨⟨c1, c2, c3, c4⟩, hOR, hTH, hh⟩ := CX_f h h51
  obtain ⟨g1, g2⟩ := TH_kd hTH hOR.2.1 hOR.2.2.1
  have hc : X 60 t = 4 ∨ X 60 t = 5 ∨ X 60 t = 6 ∨ X 60 t = 7 ∨ X 60 t = 8 ∨ X 60 t = 9 ∨ X 60 t = 10 ∨ X 60 t = 11 ∨ X 60 t = 12 ∨ X 60 t = 13 ∨ X 60 t = 14 ∨ X 60 t = 15 := by omega
  rcases hc with e | e | e | e | e | e | e | e | e | e | e | e
  · exact (ph_4 h h51 e).imp (fun q => q) (fun q => ⟨q, by omega⟩)
  · exact (ph_5 h h51 e).imp (fun q => q) (fun q => ⟨q, by omega⟩)
  · exact (ph_6 h h51 e).imp (fun q => q) (fun q => ⟨q, by omega⟩)
  · exact Or.inl (ph_7 h h51 e)
  · exact Or.inl (ph_8 h h51 e)
  · exact Or.inl (ph_9 h h51 e)
  · exact Or.inl (ph_10 h h51 e)
  · exact Or.inl (ph_11 h h51 e)
  · exact Or.inl (ph_12 h h51 e)
  · exact Or.inl (ph_13 h h51 e)
  · exact Or.inr ⟨ph_14 h h51 e, by omega⟩
  · exact Or.inr ⟨ph_15 h h51 e, by omega⟩
set_option maxHeartbeats 4000000 in
theorem st_cur (hs : SH K P n nT ta oa X) (hR : RR B nT ta oa J X) (hp : p < 4) (hB : B < 99000) (h77 : X 77 p = 0) (hru : J (4 + 10 * p) 5 = t) : MSP K P n w B nT ta oa p J X := by
  have hR1 := RR_ms (by omega) hs hR
  have rC := hR.2.2.2.2.2.2.2.1
  have hcu : ∀ Y, AG Y X → curF Y p nT = t := fun Y hY => by rw [curF_of rC hp (hY 57 (by decide) (by decide)) (hY 58 (by decide) (by decide))]; exact hru
  obtain ⟨a1, a2, a3, a4⟩ := rC p hp
  have ht : t < nT := by omega
  obtain ⟨h58, h57⟩ := (a4 t ht).mpr hru
  obtain ⟨u1, u2, u3, u4, u5⟩ := hR.2.2.2.2.2.2.2.2.2.2.2.2.2.2.2.2.2.2.1
  have jms : ∀ b, b ≠ 1 → msJ J b = J b := fun b h => zU_ab _ _ _ h
  have xms : ∀ b, b ≠ 49 → msX X b = X b := fun b h => zU_ab _ _ _ h
  have x49 : msX X 49 0 = X 49 0 := zU_k _ _ _ (by decide)
  have jcf : CFR (msJ J) J := CF_U (CF_r J) (by omega)
  have hs1 : SH K P n nT ta oa (msX X) := SH_c hs (xms 50 (by omega))
  have jm6 : J (4 + 10 * p + 6) 1 = 0 := by rw [(hR.2.2.2.2.2.2.2.2.2.2.2.2.2.2.2.2.1 p hp).1]; exact h77
  have hx490 := hR.1.2.1
  have hj11 := hR.1.1
  have hN := hR.2.2.2.2.1 t ht
  have hCX : CX K P n (B + 1) nT ta oa t p (msJ J) (msX X) := ⟨hs1, hR1, ht, by rw [xms 58 (by omega)]; exact h58, hp, by rw [xms 57 (by omega)]; exact h57, by omega⟩
  obtain ⟨dn, hdn⟩ : ∃ dn : Nat, X 51 t = dn := ⟨(X 51 t).toNat, by omega⟩
  have h51 : msX X 51 t = dn := by rw [xms 51 (by omega)]; exact hdn
  obtain ⟨⟨c1, c2, c3, c4⟩, hOR, hTH, ⟨zt, kt, t79, po, ko, o79, oto⟩, hk, k1, py, hm, rJ, rX⟩ := CX_f hCX h51
  obtain ⟨g1, g2⟩ := TH_kd hTH hOR.2.1 hOR.2.2.1
  have j5 : J (ta t) 5 = msX X 60 t := by rw [← jms _ (by omega)]; exact hTH.1
  have j3 : J (ta t) 3 = dn := by omega
  have x50 : msX X 50 = X 50 := xms 50 (by omega)
  have c3' : (dn : Int) < X 50 t := by rw [← x50]; exact c3
  have hTN := (hs.2.2.2.2.1 t ht).1
  have hn8 := hs.2.2.1
  have agm : ∀ Y, AG Y X → AG (zU Y 49 33 (Y 49 33 + 1)) (msX X) := fun Y h => AG_ms h
  have rgm : ∀ Y, AG Y X → RG Y → RG (zU Y 49 33 (Y 49 33 + 1)) ∧ Y 49 33 < 1000000 := fun Y h r => by
    have e : Y 49 33 = X 49 33 := by rw [h 49 (by decide) (by decide)]
    exact ⟨RG_U r (by omega) (by omega), by omega⟩
  have hcl : ∀ (d : Nat) (Q : Option ZV → ZH → Prop) (J1 : Mem) (e : Int), e = 0 ∨ e = 1 → (∀ Q' : Option ZV → ZH → Prop, Q' (some (.inl (zi e))) (K, zm J1, P, n, w) → zT (d + 3) 30 0 [(0, .inr (some 1)), (1, .inr (some (ta t))), (2, .inr (some (oa t dn))), (3, .inr (some (4 + 10 * p)))] [] (K, zm (msJ J), P, n, w) Q') → (e = 0 → Q (some (.inl (zi (msX X 60 t)))) (K, zm J1, P, n, w)) → (e = 1 → zT (d + 3) 29 0 [(0, .inr (some 1)), (1, .inr (some (ta t))), (2, .inr (some (oa t dn))), (3, .inr (some (4 + 10 * p)))] [] (K, zm J1, P, n, w) (fun r h' => r = none ∧ Q (some (.inl (zi (msX X 60 t + 16)))) h')) → zT (d + 4) 25 0 [(0, .inr (some 1)), (1, .inr (some (4 + 10 * p)))] [] (K, zm J, P, n, w) Q := fun d Q J1 e he h0 h1 h2 =>
    s_microP (d := d + 2) (nT := nT) (x := t) (t := ta t) (o := oa t dn) hk py (by omega) jm6 hru hj11 hn8 ht hTN zt t79 (by omega) (by omega) (by omega) (by rw [j3, Int.toNat_natCast]; exact po) he h0 (by rw [j5]; exact h1) (by rw [j5]; exact h2)
  have kpm : KP nT (msX X) X := KP_x (fun b hb => xms b (by omega))
  rcases ph_all (w := w) hCX h51 with ⟨J', X', e1, e2, e3, eK, e4, e5⟩ | ⟨⟨J1, X1, v, e1, e2, e3, e4, e5, e6, e7⟩, hph⟩
  · refine ⟨J', X', msX X 60 t, RR_mono e1 (by omega), by rw [e2, x50], CF_t e3 jcf, KP_t eK kpm, by omega, fun d Q hQ => ?_, fun Y hY rY => ?_⟩
    · exact hcl d Q J' 0 (Or.inl rfl) (e4 d) (fun _ => hQ) (fun q => absurd q (by decide))
    · obtain ⟨Y', b1, b2, b3⟩ := e5 _ (agm Y hY) (rgm Y hY rY).1
      refine ⟨Y', b1, FR_t b2 FR_ms, fun d Q hQ => ?_⟩
      refine zT_mono (m_stepC (d := d) (Q := fun r h' => r = some (.inl (zi (msX X 60 t))) ∧ h' = (K, zm Y', P, n, w)) hm rY (rgm Y hY rY).2 hp (by rw [hY 77 (by decide) (by decide)]; exact h77) (by rw [hY 49 (by decide) (by decide)]; exact hx490) hn8 (hcu Y hY) (m_act0 (d := d) (dn := dn) (x := msX X 60 t) hm hp c1 c2 (by rw [agm Y hY 51 (by decide) (by decide)]; exact h51) (by rw [agm Y hY 60 (by decide) (by decide)]) (by omega) (by omega) (fun Q' hQ' => b3 d Q' hQ') ⟨rfl, rfl⟩) (fun r h' q => ⟨_, q.1⟩)) (fun r h' q => by rw [q.1, q.2]; exact hQ)
  · have hnm := CX_nm hCX (by omega)
    have hx1 : ∀ b, ¬ (b = 49 ∨ b = 71) → X1 b = msX X b := e3
    have hs2 : SH K P n nT ta oa X1 := SH_c hs1 (hx1 50 (by omega))
    have i58 : X1 58 t = 2 := by rw [hx1 58 (by omega), xms 58 (by omega)]; exact h58
    have i57 : X1 57 t = p := by rw [hx1 57 (by omega), xms 57 (by omega)]; exact h57
    have i51 : X1 51 t = dn := by rw [hx1 51 (by omega)]; exact h51
    have i50 : X1 50 = msX X 50 := hx1 50 (by omega)
    have i52 : X1 52 = msX X 52 := hx1 52 (by omega)
    have i53 : X1 53 = msX X 53 := hx1 53 (by omega)
    have i60 : X1 60 t = msX X 60 t := by rw [hx1 60 (by omega)]
    have i63 : X1 63 t = 0 := by rw [hx1 63 (by omega)]; exact hnm.2
    have i77 : ∀ q : Nat, q < 4 → X1 77 q = 1 → X1 78 q = t → False := fun q hq a b => hnm.1 q hq (by rw [← hx1 77 (by omega)]; exact a) (by rw [← hx1 78 (by omega)]; exact b)
    obtain ⟨zS, zW, zT', zE, zN, zO, zH, zC, zQ, zP, zD, zK, zF, zR, zM, zA, zL, zB, zU', zZ⟩ := id e1
    have q0 : ∀ b, b < 4 → 0 ≤ J1 (4 + 10 * b + 8) 1 ∧ J1 (4 + 10 * b + 8) 1 = (cnF (qal X1 b) nT : Nat) ∧ J1 (4 + 10 * b + 8) 1 < 8 := fun b hb => by
      obtain ⟨w1, w2⟩ := zQ.1 b hb
      have w3 := SL_len nT _ w1
      rw [ln_len] at w3
      have w4 := cnF_lt (al := qal X1 b) (i := t) (N := nT) ht (fun q => by have := q.1; omega)
      omega
    obtain ⟨n1, n2, n3, n4, n5, n6⟩ := zN t ht
    obtain ⟨hO1, hO2⟩ := zO t ht dn (by rw [i50]; exact c3)
    have hy0 := (zC p hp).1
    have hk15 : X1 52 (10 * t + dn) = 5 ↔ msX X 60 t = 15 := by rw [i52]; omega
    obtain ⟨q, hq4, hqe⟩ : ∃ q : Nat, q < 4 ∧ (q : Int) = (if msX X 60 t = 15 then X1 53 (10 * t + dn) else p) := by
      by_cases c : msX X 60 t = 15
      · have := hO1.2.2.2.1 (hk15.mpr c)
        exact ⟨(X1 53 (10 * t + dn)).toNat, by omega, by rw [if_pos c]; omega⟩
      · exact ⟨p, hp, by rw [if_neg c]⟩
    obtain ⟨f1, f2⟩ := L_fin (q := q) (v := v) hs2 e1 ht (by omega) i58 hp i57 hq4 i51 (by rw [i50]; exact c3) e2 (by rw [i60]; exact hph) i63 i77 (by have := (q0 q hq4).2.2; omega)
    have hss := hs.2.2.2.2.2.2
    have ho2 : (dn : Int) + 1 < X 50 t → P (ta t + 1) (dn + 1) = some (oa t (dn + 1)) ∧ K (oa t (dn + 1)) = some (.inl 4) ∧ oa t (dn + 1) ≠ oa t dn ∧ oa t (dn + 1) ≠ ta t ∧ 79 ≤ oa t (dn + 1) := fun c => by
      obtain ⟨w1, w2, w3, w4⟩ := hss.1 t ht (dn + 1) (by omega)
      have w5 := hss.2.1 t ht (dn + 1) (by omega) t ht
      exact ⟨w1, w2, hss.2.2 t t ht ht (dn + 1) dn (by omega) (by omega) (Or.inr (by omega)), by omega, w3⟩
    have hfin : ∀ (d : Nat) (Q : Option ZV → ZH → Prop), ((dn : Int) + 1 < X 50 t → ¬ msX X 60 t = 15 → cnF (qal X1 p) nT = 0 → Q none (K, zm (fbJ J1 (ta t) (oa t dn) (zfp (J1 (oa t (dn + 1)) 0))), P, n, w)) → ((dn : Int) + 1 < X 50 t → (msX X 60 t = 15 ∨ 0 < cnF (qal X1 p) nT) → Q none (K, zm (adJ (fhJ (fbJ J1 (ta t) (oa t dn) (zfp (J1 (oa t (dn + 1)) 0))) (ta t) (4 + 10 * p) q) (4 + 10 * q + 8) t), P, n, w)) → (¬ (dn : Int) + 1 < X 50 t → Q none (K, zm (fhJ (fnJ J1 (ta t) (oa t dn)) (ta t) (4 + 10 * p) q), P, n, w)) → zT (d + 3) 29 0 [(0, .inr (some 1)), (1, .inr (some (ta t))), (2, .inr (some (oa t dn))), (3, .inr (some (4 + 10 * p)))] [] (K, zm J1, P, n, w) Q := fun d Q h1 h2 h3 => by
      have e50 : J1 (ta t) 2 = X 50 t := by rw [n2, i50, x50]
      have e51 : J1 (ta t) 3 = dn := by rw [n3]; exact i51
      have ek : J1 (oa t dn) 0 = 5 ↔ msX X 60 t = 15 := by rw [hO1.1]; exact hk15
      have eq := q0 p hp
      refine s_finish (d := d + 1) (o2 := oa t (dn + 1)) (hN := q) hk py zt ko zZ.1 (by omega) t79 o79 oto (by omega) (by omega) (by omega) (fun c => ?_) ?_ hq4 eq.1 (by omega) (q0 q hq4).1 (fun _ => (q0 q hq4).2.2) (fun c a b => ?_) (fun c a => ?_) (fun c => ?_)
      · rw [e51, show ((dn : Int) + 1).toNat = dn + 1 by omega]
        exact ho2 (by omega)
      · rw [hqe]
        by_cases c : msX X 60 t = 15
        · rw [if_pos c, if_pos (ek.mpr c)]
          exact (hO1.2.2.2.1 (hk15.mpr c)).1
        · rw [if_neg c, if_neg (fun z => c (ek.mp z))]; exact hy0
      · exact h1 (by omega) (fun z => a (ek.mpr z)) (by omega)
      · rw [n1]
        exact h2 (by omega) (a.imp (fun z => ek.mp z) (fun z => by omega))
      · exact h3 (by omega)
    have hmd : ∀ (Y : Mem), AG Y X → RG Y → ∃ Y1, AG Y1 (zU X1 56 (10 * t + dn) v) ∧ FRm Y1 Y ∧ ∀ (d : Nat) (Y' : Mem), ((dn : Int) + 1 < X 50 t → ¬ msX X 60 t = 15 → cnF (qal X1 p) nT = 0 → Y' = beJ (zU Y1 51 t (dn + 1)) t (zfp (Y1 52 (10 * t + (dn + 1))))) → ((dn : Int) + 1 < X 50 t → (msX X 60 t = 15 ∨ 0 < cnF (qal X1 p) nT) → Y' = beJ (awJ (zU Y1 51 t (dn + 1)) t q 1) t (zfp (Y1 52 (10 * t + (dn + 1))))) → (¬ (dn : Int) + 1 < X 50 t → Y' = awJ (zU Y1 51 t (dn + 1)) t q 0) → ∀ (Q : Option ZV → ZH → Prop), Q (some (.inl (zi (msX X 60 t + 16)))) (K, zm Y', P, n, w) → zT (d + 4) 85 0 [(0, .inr (some 49)), (1, .inl (zi p))] [] (K, zm Y, P, n, w) Q := fun Y hY rY => by
      obtain ⟨Y1, b1, b2, b3⟩ := e7 _ (agm Y hY) (rgm Y hY rY).1
      refine ⟨Y1, b1, FR_t b2 FR_ms, fun d Y' h1 h2 h3 Q hQ => ?_⟩
      have y1 : ∀ b, 49 < b → b ≤ 78 → b ≠ 56 → b ≠ 71 → Y1 b = msX X b := fun b r1 r2 r3 r4 => by rw [b1 b (by omega) r2, zU_ab _ _ _ r3, hx1 b (by omega)]
      have rg1 : RG Y1 := fun a j => by
        by_cases c : 49 ≤ a ∧ a ≤ 78
        · rw [b1 a c.1 c.2]
          have hv : -2147483648 ≤ v ∧ v < 2147483648 := by rw [← e2]; exact zZ.1 (ta t) 9
          exact (RG_U zZ.2 hv.1 hv.2) a j
        · rw [b2 a (by omega)]; exact (rgm Y hY rY).1 a j
      have hqal : qal Y1 p = qal X1 p := by
        funext i; unfold qal; rw [y1 58 (by decide) (by decide) (by decide) (by decide), y1 57 (by decide) (by decide) (by decide) (by decide), hx1 58 (by omega), hx1 57 (by omega)]
      have c50 : ∃ c : Nat, X 50 t = c := ⟨(X 50 t).toNat, by omega⟩
      obtain ⟨c, hc50⟩ := c50
      have h53 : Y1 53 (10 * t + dn) = X1 53 (10 * t + dn) := by rw [y1 53 (by decide) (by decide) (by decide) (by decide), i53]
      refine zT_mono (m_stepC (d := d) (Q := fun r h' => r = some (.inl (zi (msX X 60 t + 16))) ∧ h' = (K, zm Y', P, n, w)) hm rY (rgm Y hY rY).2 hp (by rw [hY 77 (by decide) (by decide)]; exact h77) (by rw [hY 49 (by decide) (by decide)]; exact hx490) hn8 (hcu Y hY) (m_act1 (d := d) (dn := dn) (nT := nT) (c := c) (x := msX X 60 t) hm rg1 hp c1 c2 (by rw [agm Y hY 51 (by decide) (by decide)]; exact h51) (by rw [agm Y hY 60 (by decide) (by decide)]) (by omega) (by omega) (fun Q' hQ' => b3 d Q' hQ') ?_ ?_ (by omega) ?_ hn8 ?_ ?_ ?_ ?_) (fun r h' q => ⟨_, q.1⟩)) (fun r h' q => by rw [q.1, q.2]; exact hQ)
      · rw [y1 51 (by decide) (by decide) (by decide) (by decide)]; exact h51
      · rw [y1 50 (by decide) (by decide) (by decide) (by decide), x50]; exact hc50
      · rw [b1 49 (by decide) (by decide), zU_ne (by decide), e4, x49]; exact hx490
      · intro z
        have := (f1 (by rw [i50, x50]; omega)).1
        rw [y1 52 (by decide) (by decide) (by decide) (by decide), ← i52]
        exact ⟨this.1, this.2.1⟩
      · intro z1 z2 z3
        rw [hqal] at z3
        exact ⟨rfl, by rw [h1 (by omega) z2 z3]⟩
      · intro z1 z2
        rw [hqal] at z2
        rw [h53, ← hqe]
        exact ⟨rfl, by rw [h2 (by omega) z2]⟩
      · intro z1
        rw [h53, ← hqe]
        exact ⟨rfl, by rw [h3 (by omega)]⟩
    have cf1 : CFR J1 J := CF_t e5 jcf
    have kp1 : KP nT (zU (zU X1 56 (10 * t + dn) v) 51 t (dn + 1)) X := KP_U (KP_U (KP_t (KP_x (fun b hb => hx1 b (by omega))) kpm) (by omega)) (by omega)
    have y52 : ∀ Y1, AG Y1 (zU X1 56 (10 * t + dn) v) → Y1 52 = X1 52 := fun Y1 h => by rw [h 52 (by decide) (by decide), zU_ab _ _ _ (by decide)]
    rw [i50, x50] at f1 f2
    by_cases c : (dn : Int) + 1 < X 50 t
    · obtain ⟨⟨k5, k6, k7⟩, R1, R2⟩ := f1 c
      by_cases c7 : msX X 60 t = 15 ∨ 0 < cnF (qal X1 p) nT
      · refine ⟨_, _, msX X 60 t + 16, RR_mono R2 (by omega), ?_, CF_t (adJ_CF (by omega)) (CF_fh (CF_fb cf1 (by omega) (by omega)) (by omega) (by omega)), KP_be (KP_aw kp1 ht) ht, by omega, fun d Q hQ => ?_, fun Y hY rY => ?_⟩
        · unfold beJ awJ
          rw [zU_ab _ _ _ (by decide), zU_ab _ _ _ (by decide), zU_ab _ _ _ (by decide), zU_ab _ _ _ (by decide), zU_ab _ _ _ (by decide), zU_ab _ _ _ (by decide), zU_ab _ _ _ (by decide), zU_ab _ _ _ (by decide), zU_ab _ _ _ (by decide), zU_ab _ _ _ (by decide), zU_ab _ _ _ (by decide), zU_ab _ _ _ (by decide), i50, x50]
        · refine hcl d Q J1 1 (Or.inr rfl) (e6 d) (fun q => absurd q (by decide)) (fun _ => hfin d _ (fun _ a b => ?_) (fun _ _ => ⟨rfl, ?_⟩) (fun a => absurd c a))
          · omega
          · rw [k7]; exact hQ
        · obtain ⟨Y1, b1, b2, b3⟩ := hmd Y hY rY
          refine ⟨beJ (awJ (zU Y1 51 t (dn + 1)) t q 1) t (zfp (Y1 52 (10 * t + (dn + 1)))), AG_be (AG_aw (AG_U b1 rfl) rfl rfl) (by rw [y52 Y1 b1]), FR_be (FR_aw (FR_U b2 (by omega) (by omega))), fun d Q hQ => b3 d _ (fun _ a b => by omega) (fun _ _ => rfl) (fun a => absurd c a) Q hQ⟩
      · refine ⟨_, _, msX X 60 t + 16, RR_mono R1 (by omega), ?_, CF_fb cf1 (by omega) (by omega), KP_be kp1 ht, by omega, fun d Q hQ => ?_, fun Y hY rY => ?_⟩
        · unfold beJ
          rw [zU_ab _ _ _ (by decide), zU_ab _ _ _ (by decide), zU_ab _ _ _ (by decide), zU_ab _ _ _ (by decide), zU_ab _ _ _ (by decide), zU_ab _ _ _ (by decide), zU_ab _ _ _ (by decide), zU_ab _ _ _ (by decide), i50, x50]
        · refine hcl d Q J1 1 (Or.inr rfl) (e6 d) (fun q => absurd q (by decide)) (fun _ => hfin d _ (fun _ a b => ⟨rfl, ?_⟩) (fun _ a => absurd a c7) (fun a => absurd c a))
          rw [k7]; exact hQ
        · obtain ⟨Y1, b1, b2, b3⟩ := hmd Y hY rY
          refine ⟨beJ (zU Y1 51 t (dn + 1)) t (zfp (Y1 52 (10 * t + (dn + 1)))), AG_be (AG_U b1 rfl) (by rw [y52 Y1 b1]), FR_be (FR_U b2 (by omega) (by omega)), fun d Q hQ => b3 d _ (fun _ a b => rfl) (fun _ a => absurd a c7) (fun a => absurd c a) Q hQ⟩
    · refine ⟨_, _, msX X 60 t + 16, RR_mono (f2 c) (by omega), ?_, CF_fh (CF_fn cf1 (by omega) (by omega)) (by omega) (by omega), KP_aw kp1 ht, by omega, fun d Q hQ => ?_, fun Y hY rY => ?_⟩
      · unfold awJ
        rw [zU_ab _ _ _ (by decide), zU_ab _ _ _ (by decide), zU_ab _ _ _ (by decide), zU_ab _ _ _ (by decide), zU_ab _ _ _ (by decide), zU_ab _ _ _ (by decide), i50, x50]
      · exact hcl d Q J1 1 (Or.inr rfl) (e6 d) (fun q => absurd q (by decide)) (fun _ => hfin d _ (fun a => absurd a c) (fun a => absurd a c) (fun _ => ⟨rfl, hQ⟩))
      · obtain ⟨Y1, b1, b2, b3⟩ := hmd Y hY rY
        refine ⟨awJ (zU Y1 51 t (dn + 1)) t q 0, AG_aw (AG_U b1 rfl) rfl rfl, FR_aw (FR_U b2 (by omega) (by omega)), fun d Q hQ => b3 d _ (fun a => absurd a c) (fun a => absurd a c) (fun _ => rfl) Q hQ⟩
set_option maxHeartbeats 4000000 in
theorem st_take (hs : SH K P n nT ta oa X) (hR : RR B nT ta oa J X) (hp : p < 4) (hB : B < 99000) (h77 : X 77 p = 0) (hru : J (4 + 10 * p) 5 = -1) : MSP K P n w B nT ta oa p J X := by
  have hR1 := RR_ms (by omega) hs hR
  have rC := hR.2.2.2.2.2.2.2.1
  have hcu : ∀ Y, AG Y X → curF Y p nT = -1 := fun Y hY => by rw [curF_of rC hp (hY 57 (by decide) (by decide)) (hY 58 (by decide) (by decide))]; exact hru
  obtain ⟨u1, u2, u3, u4, u5⟩ := hR.2.2.2.2.2.2.2.2.2.2.2.2.2.2.2.2.2.2.1
  have jms : ∀ b, b ≠ 1 → msJ J b = J b := fun b h => zU_ab _ _ _ h
  have xms : ∀ b, b ≠ 49 → msX X b = X b := fun b h => zU_ab _ _ _ h
  have jcf : CFR (msJ J) J := CF_U (CF_r J) (by omega)
  have hs1 : SH K P n nT ta oa (msX X) := SH_c hs (xms 50 (by omega))
  have jm6 : J (4 + 10 * p + 6) 1 = 0 := by rw [(hR.2.2.2.2.2.2.2.2.2.2.2.2.2.2.2.2.1 p hp).1]; exact h77
  have hx490 := hR.1.2.1
  have hj11 := hR.1.1
  have hn8 := hs.2.2.1
  have hk := hs.1
  have py : prc K P (4 + 10 * p) := hk.2.2.2.2.2.2.2.2.2.2.2.2.2.2 p hp
  have hm := hs.2.1
  have x50 : msX X 50 = X 50 := xms 50 (by omega)
  have rQ := hR1.2.2.2.2.2.2.2.2.1.1
  have rZ := hR1.2.2.2.2.2.2.2.2.2.2.2.2.2.2.2.2.2.2.2
  have hru1 : msJ J (4 + 10 * p) 5 = -1 := by rw [jms _ (by omega)]; exact hru
  have rgm : ∀ Y, AG Y X → RG Y → Y 49 33 < 1000000 := fun Y h r => by
    have e : Y 49 33 = X 49 33 := by rw [h 49 (by decide) (by decide)]
    omega
  have q0 : ∀ b, b < 4 → 0 ≤ msJ J (4 + 10 * b + 8) 1 ∧ msJ J (4 + 10 * b + 8) 1 = (cnF (qal (msX X) b) nT : Nat) ∧ msJ J (4 + 10 * b + 8) 1 ≤ 8 := fun b hb => by
    obtain ⟨w1, w2⟩ := rQ b hb
    have w3 := SL_len nT _ w1
    rw [ln_len] at w3
    have w4 := cnF_le (qal (msX X) b) nT
    omega
  have kpm : KP nT (msX X) X := KP_x (fun b hb => xms b (by omega))
  have hlg : lgF (qc (msJ J)) 3 = lgF (fun b => cnF (qal (msX X) b) nT) 3 := lgF_congr 3 (fun i hi => by
    have := q0 i (by omega)
    unfold qc; omega)
  have hl4 := lgF_r (fun b => cnF (qal (msX X) b) nT) 3
  have hcq : ∀ b, b < 4 → 0 ≤ msJ J (4 + 10 * b + 8) 1 ∧ msJ J (4 + 10 * b + 8) 1 ≤ 8 := fun b hb => ⟨(q0 b hb).1, (q0 b hb).2.2⟩
  have yqal : ∀ Y, AG Y X → ∀ b : Int, qal Y b = qal (msX X) b := fun Y hY b => by
    funext i; unfold qal; rw [hY 58 (by decide) (by decide), hY 57 (by decide) (by decide), xms 58 (by omega), xms 57 (by omega)]
  have ySL : ∀ Y, AG Y X → ∀ b, b < 4 → SL (ln (msJ J) (4 + 10 * b + 8)) nT (qal Y b) (Y 59) := fun Y hY b hb => by
    rw [yqal Y hY, hY 59 (by decide) (by decide), ← xms 59 (by omega)]; exact (rQ b hb).1
  generalize hlb : lgF (fun b => cnF (qal (msX X) b) nT) 3 = lb at *
  have hlen : ∀ b, b < 4 → (ln (msJ J) (4 + 10 * b + 8)).length = cnF (qal (msX X) b) nT := fun b hb => SL_len nT _ (rQ b hb).1
  have hyl : ∀ Y, AG Y X → lgF (fun b => cnF (qal Y b) nT) 3 = lb := fun Y hY => by rw [← hlb]; exact lgF_congr 3 (fun i _ => by rw [yqal Y hY])
  have yat : ∀ Y, AG Y X → ∀ b, b < 4 → 0 < msJ J (4 + 10 * b + 8) 1 → atF Y b ((cnF (qal Y b) nT : Nat) - 1) nT nT = msJ J (4 + 10 * b + 8 + 1) (msJ J (4 + 10 * b + 8) 1 - 1).toNat := fun Y hY b hb hc => by
    have hq := (q0 b hb).2.1
    have hln := hlen b hb
    have h1 := atF_get (ySL Y hY b hb) (i := cnF (qal (msX X) b) nT - 1) (by omega)
    rw [yqal Y hY, show ((cnF (qal (msX X) b) nT : Nat) : Int) - 1 = ((cnF (qal (msX X) b) nT - 1 : Nat) : Int) by omega, h1]
    have hl := ln_last hc
    have hl2 : (ln (zU (msJ J) (4 + 10 * b + 8) 1 (msJ J (4 + 10 * b + 8) 1 - 1)) (4 + 10 * b + 8)).length = cnF (qal (msX X) b) nT - 1 := by
      have := congrArg List.length hl
      rw [List.length_append, List.length_singleton, hln] at this
      omega
    rw [List.getElem_of_eq hl, List.getElem_append_right (by omega)]
    simp [hl2]
  have yne : ∀ Y, AG Y X → 2 ≤ cnF (qal Y (lgF (fun b => cnF (qal Y b) nT) 3 : Nat)) nT → 0 ≤ atF Y (lgF (fun b => cnF (qal Y b) nT) 3 : Nat) ((cnF (qal Y (lgF (fun b => cnF (qal Y b) nT) 3 : Nat)) nT : Nat) - 1) nT nT := fun Y hY h2 => by
    rw [hyl Y hY] at h2 ⊢
    rw [yqal Y hY] at h2
    have hq := (q0 lb (by omega)).2.1
    rw [yat Y hY lb (by omega) (by omega)]
    have := (rQ lb (by omega)).1.1 (msJ J (4 + 10 * lb + 8 + 1) (msJ J (4 + 10 * lb + 8) 1 - 1).toNat) (by rw [ln_last (by omega)]; exact List.mem_append_right _ List.mem_cons_self)
    omega
  by_cases c : 0 < msJ J (4 + 10 * p + 8) 1
  · have hcons := ln_cons c
    have hSL := (rQ p hp).1
    have hmem := hSL.1 (msJ J (4 + 10 * p + 8 + 1) 0) (by rw [hcons]; exact List.mem_cons_self)
    obtain ⟨u, hu⟩ : ∃ u : Nat, msJ J (4 + 10 * p + 8 + 1) 0 = u := ⟨(msJ J (4 + 10 * p + 8 + 1) 0).toNat, by omega⟩
    rw [hu, Int.toNat_natCast] at hmem
    obtain ⟨v1, v2, v3⟩ := hmem
    have hln := hlen p hp
    have yat0 : ∀ Y, AG Y X → atF Y p 0 nT nT = u := fun Y hY => by
      have h1 := atF_get (ySL Y hY p hp) (i := 0) (by rw [hln]; have := (q0 p hp).2.1; omega)
      rw [show ((0 : Nat) : Int) = 0 from rfl] at h1
      rw [h1, List.getElem_of_eq hcons]
      exact hu
    rw [hcons, hu] at hSL
    refine ⟨_, _, 2, RR_mono (L_take (t := u) (p := p) (b := p) (J0 := tfJ (msJ J) (4 + 10 * p + 8)) hs1 hR1 (by omega) v3.1 hp hp hru1 (fun c hc => by funext j; exact tfJ_ne (by omega) (by omega)) (RG_tfJ rZ.1 (by omega)) (SL_tail hSL (fun i _ => Iff.rfl)) (by rw [tfJ_c]; omega) v3.2) (by omega), ?_, ?_, ?_, by omega, fun d Q hQ => ?_, fun Y hY rY => ⟨zU (zU (zU Y 49 33 (Y 49 33 + 1)) 58 u 2) 57 u p, AG_U (AG_U (AG_ms hY) rfl) rfl, FR_U (FR_U FR_ms (by omega) (by omega)) (by omega) (by omega), fun d Q hQ => ?_⟩⟩
    · rw [zU_ab _ _ _ (by decide), zU_ab _ _ _ (by decide), x50]
    · exact CF_U (CF_t (tfJ_CF (by omega)) jcf) (by omega)
    · exact KP_U (KP_U kpm (by omega)) (by omega)
    · exact s_microT (d := d + 3) (a := 2) (nT := nT) hk py (by omega) jm6 hru hj11 hn8 (fun Q' hQ' => s_takeThread (d := d + 2) hk py (by omega) (hcq p hp).1 (hcq p hp).2 hcq (fun _ => by rw [hu]; exact hQ') (fun q => absurd c q) (fun q => absurd c q)) hQ
    · refine m_stepT (d := d) (nT := nT) hm rY (rgm Y hY rY) hp (by rw [hY 77 (by decide) (by decide)]; exact h77) (by rw [hY 49 (by decide) (by decide)]; exact hx490) hn8 (hcu Y hY) (fun t' e => ?_) (fun e => ?_) (fun t' e => ?_) (yne Y hY)
      · have : t' = u := by rw [yat0 Y hY] at e; omega
        rw [this]; exact hQ
      · rw [yat0 Y hY] at e; omega
      · rw [yat0 Y hY] at e; omega
  · have yat0 : ∀ Y, AG Y X → atF Y p 0 nT nT = -1 := fun Y hY => atF_none (ySL Y hY p hp) (Or.inr (by rw [hlen p hp]; have := q0 p hp; omega))
    by_cases c2 : msJ J (4 + 10 * lb + 8) 1 < 2
    · have c3 := (q0 lb (by omega)).2.1
      refine ⟨msJ J, msX X, 0, RR_mono hR1 (by omega), x50, jcf, kpm, by omega, fun d Q hQ => ?_, fun Y hY rY => ⟨zU Y 49 33 (Y 49 33 + 1), AG_ms hY, FR_ms, fun d Q hQ => ?_⟩⟩
      · exact s_microT (d := d + 3) (a := 0) (nT := nT) hk py (by omega) jm6 hru hj11 hn8 (fun Q' hQ' => s_takeThread (d := d + 2) hk py (by omega) (hcq p hp).1 (hcq p hp).2 hcq (fun q => absurd q c) (fun _ _ => hQ') (fun _ q => absurd (by rw [hlg]; exact c2) q)) hQ
      · refine m_stepT (d := d) (nT := nT) hm rY (rgm Y hY rY) hp (by rw [hY 77 (by decide) (by decide)]; exact h77) (by rw [hY 49 (by decide) (by decide)]; exact hx490) hn8 (hcu Y hY) (fun t' e => ?_) (fun _ _ => hQ) (fun t' e e2 => ?_) (yne Y hY)
        · rw [yat0 Y hY] at e; omega
        · rw [hyl Y hY, yqal Y hY] at e2; omega
    · have c3 := (q0 lb (by omega)).2.1
      have c4 := (q0 lb (by omega)).2.2
      have clb : 0 < msJ J (4 + 10 * lb + 8) 1 := by omega
      have hSL := (rQ lb (by omega)).1
      rw [ln_last clb] at hSL
      have hmem := hSL.1 (msJ J (4 + 10 * lb + 8 + 1) (msJ J (4 + 10 * lb + 8) 1 - 1).toNat) (List.mem_append_right _ List.mem_cons_self)
      obtain ⟨u, hu⟩ : ∃ u : Nat, msJ J (4 + 10 * lb + 8 + 1) (msJ J (4 + 10 * lb + 8) 1 - 1).toNat = u := ⟨(msJ J (4 + 10 * lb + 8 + 1) (msJ J (4 + 10 * lb + 8) 1 - 1).toNat).toNat, by omega⟩
      rw [hu, Int.toNat_natCast] at hmem
      obtain ⟨v1, v2, v3⟩ := hmem
      rw [hu] at hSL
      refine ⟨_, _, 3, RR_mono (L_take (t := u) (p := p) (b := lb) (J0 := zU (msJ J) (4 + 10 * lb + 8) 1 (msJ J (4 + 10 * lb + 8) 1 - 1)) hs1 hR1 (by omega) v3.1 hp (by omega) hru1 (fun c hc => zU_ab _ _ _ (by omega)) (RG_U rZ.1 (by omega) (by omega)) (SL_init hSL (fun i _ => Iff.rfl)) (by rw [zU_s]; omega) v3.2) (by omega), ?_, ?_, ?_, by omega, fun d Q hQ => ?_, fun Y hY rY => ⟨zU (zU (zU Y 49 33 (Y 49 33 + 1)) 58 u 2) 57 u p, AG_U (AG_U (AG_ms hY) rfl) rfl, FR_U (FR_U FR_ms (by omega) (by omega)) (by omega) (by omega), fun d Q hQ => ?_⟩⟩
      · rw [zU_ab _ _ _ (by decide), zU_ab _ _ _ (by decide), x50]
      · exact CF_U (CF_U jcf (by omega)) (by omega)
      · exact KP_U (KP_U kpm (by omega)) (by omega)
      · exact s_microT (d := d + 3) (a := 3) (nT := nT) hk py (by omega) jm6 hru hj11 hn8 (fun Q' hQ' => s_takeThread (d := d + 2) hk py (by omega) (hcq p hp).1 (hcq p hp).2 hcq (fun q => absurd q c) (fun _ q => absurd (by rw [hlg] at q; exact q) c2) (fun _ _ => by rw [hlg, hu]; exact hQ')) hQ
      · refine m_stepT (d := d) (nT := nT) hm rY (rgm Y hY rY) hp (by rw [hY 77 (by decide) (by decide)]; exact h77) (by rw [hY 49 (by decide) (by decide)]; exact hx490) hn8 (hcu Y hY) (fun t' e => ?_) (fun _ e2 => ?_) (fun t' e e2 e3 => ?_) (yne Y hY)
        · rw [yat0 Y hY] at e; omega
        · rw [hyl Y hY, yqal Y hY] at e2; omega
        · rw [hyl Y hY, yat Y hY lb (by omega) clb, hu] at e3
          have : t' = u := by omega
          rw [this]; exact hQ
theorem st_all (hs : SH K P n nT ta oa X) (hR : RR B nT ta oa J X) (hp : p < 4) (hB : B < 99000) : MSP K P n w B nT ta oa p J X := by
  have hL := (hR.2.2.2.2.2.2.2.2.2.2.2.2.2.2.2.2.1 p hp).2.1
  have hC := (hR.2.2.2.2.2.2.2.1 p hp)
  rcases hL with e | e
  · by_cases c : J (4 + 10 * p) 5 = -1
    · exact st_take hs hR hp hB e c
    · exact st_cur (t := (J (4 + 10 * p) 5).toNat) hs hR hp hB e (by have := hC.2.1; omega)
  · exact st_mail hs hR hp hB e
end PE
