/-! LOOK, LEAF, CHECK. -/
theorem drJ_CF {J : Mem} {b : Nat} {f g : Int} (h : b ≠ 0 ∧ b + 2 < 49) : CFR (drJ J b f g) J := fun c h1 h2 => by funext j; exact drJ_ne (by omega) (by omega) (by omega)
section PB
variable {B nT n w t p : Nat} {ta : Nat → Nat} {oa : Nat → Nat → Nat} {J X : Mem} {K : Nat → Option ZK} {P : Nat → Nat → Option Nat}
/-- what the class's search of the buffer finds -/
theorem look_e {f : Nat} (rB : gB J X) (hp : p < 4) (hf : f < 16) : (X 72 (16 * p + f) = 0 → enF J (4 + 10 * p + 1) f 0 (J (4 + 10 * p + 1) 2).toNat = -1) ∧ (¬ X 72 (16 * p + f) = 0 → enF J (4 + 10 * p + 1) f 0 (J (4 + 10 * p + 1) 2).toNat = 2 * X 73 (16 * p + f) + X 74 (16 * p + f)) := by
  obtain ⟨b1, b2, b3, b4, b5⟩ := rB p hp
  obtain ⟨e1, e2⟩ := enF_in (x := (f : Int)) b2
  have h72 := (b5 f hf).1
  refine ⟨fun h => e2 (fun hm => ?_), fun h => ?_⟩
  · have := (b1.1 _ hm).2.2
    rw [Int.toNat_natCast] at this
    unfold kal at this; omega
  · rw [e1 (b1.2.1 f hf (by unfold kal; omega))]
    unfold ke; rw [Int.toNat_natCast]
set_option maxHeartbeats 2000000 in
theorem ph_4 {dn : Nat} (h : CX K P n B nT ta oa t p J X) (h51 : X 51 t = dn) (h60 : X 60 t = 4) : PH0 K P n w B nT ta oa t p dn J X ∨ PH1 K P n w B nT ta oa t p dn J X := by
  obtain ⟨⟨c1, c2, c3, c4⟩, hOR, hTH, ⟨zt, kt, t79, po, ko, o79, oto⟩, hk, k1, py, hm, rJ, rX⟩ := CX_f h h51
  obtain ⟨hs, hR, ht, h58, hp, h57, hB⟩ := h
  obtain ⟨g1, g2⟩ := TH_kd hTH hOR.2.1 hOR.2.2.1
  have hk1 : X 52 (10 * t + dn) ≤ 1 := by omega
  obtain ⟨r1, r2, r3, r4, r5, r6, r7⟩ := hOR.2.2.2.2.1 (by omega)
  obtain ⟨f, hf⟩ : ∃ f : Nat, X 53 (10 * t + dn) = f := ⟨(X 53 (10 * t + dn)).toNat, by omega⟩
  have ho0 := hOR.1
  have rB := hR.2.2.2.2.2.2.2.2.2.2.2.2.2.2.2.2.2.1
  have rW := hR.2.1
  obtain ⟨b1, b2, b3, b4, b5⟩ := rB p hp
  obtain ⟨l1, l2⟩ := look_e (f := f) rB hp (by omega)
  obtain ⟨x1, x2, x3⟩ := b5 f (by omega)
  have hjp : J (ta t) 5 = 4 := by omega
  have hact : actM (X 60 t) = 90 := by unfold actM; rw [if_pos (by omega)]
  obtain ⟨c, hc⟩ : ∃ c : Nat, J (4 + 10 * p + 1) 2 = c := ⟨(J (4 + 10 * p + 1) 2).toNat, by omega⟩
  rw [hc, Int.toNat_natCast] at l1 l2
  by_cases e : X 72 (16 * p + f) = 0
  · left
    have he := l1 e
    refine ⟨zU J (ta t) 5 5, zU X 60 t 5, ?_, zU_ab _ _ _ (by decide), CF_U (CF_r J) (by omega), KP_U (KP_r X) (by omega), fun d Q hQ => ?_, fun Y hY rY => ⟨zU Y 60 t 5, AG_U hY rfl, FR_U (FR_r Y) (by omega) (by omega), fun d Q hQ => ?_⟩⟩
    · refine RR_mono (L_acc hs hR ht h58 (by rw [c4]; exact hk1) (by omega) (by omega) (fun _ => ?_)) (by omega)
      rw [c4, h57, hf, Int.toNat_natCast, Int.toNat_natCast]; exact e
    · exact s_mp4 (d := d + 2) k1 kt hjp (Or.inl rfl) (fun Q' hQ' => s_look (d := d + 1) (c := c) (f := f) (e := -1) hk py kt ko rJ (by omega) t79 o79 oto hc (by omega) (by omega) (by omega) he (Or.inl rfl) (fun _ => hQ') (fun q => absurd rfl q) (fun q => absurd rfl q) (fun q => absurd rfl q)) hQ
    · rw [hact]
      exact m_access1 (d := d + 1) (f := f) hm rY hp c1 (by omega) (by rw [hY 53 (by decide) (by decide)]; exact hf) (by omega) (by rw [hY 60 (by decide) (by decide)]; exact h60) (by rw [hY 72 (by decide) (by decide)]; exact e) hQ
  · right
    have he := l2 e
    obtain ⟨y1, y2, y3⟩ := x3 (by omega)
    obtain ⟨fr, hfr⟩ : ∃ fr : Nat, X 73 (16 * p + f) = fr := ⟨(X 73 (16 * p + f)).toNat, by omega⟩
    generalize hE : 2 * X 73 (16 * p + f) + X 74 (16 * p + f) = E at *
    have hE2 : (E / 2).toNat = fr := by omega
    have hEm : E % 2 = X 74 (16 * p + f) := by omega
    have hE1 : ¬ E = -1 := by omega
    have hw := rW fr (by omega)
    have hF0 : ∀ v : Int, zr v → RF (B + 1) nT t ta oa (zU J (ta t) 9 v) X := fun v hv => RF_mono (RF_loc hs (RF_of hR ht).1 ht (fun c h => zU_ab _ _ _ h) (fun k _ _ _ h => zU_k _ _ _ h) (fun _ _ => rfl) (fun _ _ _ => rfl) ⟨RG_U rJ hv.1 hv.2, rX⟩ ⟨rfl, fun _ _ => rfl⟩) (by omega)
    have r46 := rJ 46 fr
    by_cases ck : X 52 (10 * t + dn) = 1
    · by_cases cw : X 74 (16 * p + f) = 0
      · refine ⟨zU J (ta t) 9 (-2), X, -2, hF0 _ ⟨by omega, by omega⟩, zU_s _ _ _ _, fun _ _ => rfl, rfl, CF_U (CF_r J) (by omega), fun d Q hQ => ?_, fun Y hY rY => ⟨zU Y 56 (10 * t + dn) (-2), AG_U hY rfl, FR_U (FR_r Y) (by omega) (by omega), fun d Q hQ => ?_⟩⟩
        · exact s_mp4 (d := d + 2) k1 kt hjp (Or.inr rfl) (fun Q' hQ' => s_look (d := d + 1) (c := c) (f := f) (e := E) hk py kt ko rJ (by omega) t79 o79 oto hc (by omega) (by omega) (by omega) he (Or.inr ⟨by omega, by omega⟩) (fun q => absurd q hE1) (fun _ _ _ => hQ') (fun _ q => absurd (by omega) q) (fun _ _ q => absurd (by omega) q)) hQ
        · rw [hact]
          exact m_access2 (d := d + 1) (f := f) hm rY hp c1 (by omega) (by rw [hY 53 (by decide) (by decide)]; exact hf) (by omega) (by rw [hY 60 (by decide) (by decide)]; exact h60) (by rw [hY 72 (by decide) (by decide)]; exact e) (by rw [hY 52 (by decide) (by decide)]; exact ck) (by rw [hY 74 (by decide) (by decide)]; exact cw) hQ
      · have r55 := rX 55 (10 * t + dn)
        refine ⟨zU (zU J (ta t) 9 (J 46 fr)) 46 fr (X 55 (10 * t + dn)), zU X 71 fr (X 55 (10 * t + dn)), X 71 fr, S_word hs (hF0 _ ⟨r46.1, r46.2⟩) ht ⟨r55.1, r55.2⟩, by rw [zU_ne (by omega), zU_s, hw], fun b h => zU_ab _ _ _ (by omega), by rw [zU_ne (by decide)], CF_U (CF_U (CF_r J) (by omega)) (by omega), fun d Q hQ => ?_, fun Y hY rY => ⟨zU (zU Y 71 fr (X 55 (10 * t + dn))) 56 (10 * t + dn) (X 71 fr), AG_U (AG_U hY rfl) rfl, FR_U (FR_U (FR_r Y) (by omega) (by omega)) (by omega) (by omega), fun d Q hQ => ?_⟩⟩
        · exact s_mp4 (d := d + 2) k1 kt hjp (Or.inr rfl) (fun Q' hQ' => s_look (d := d + 1) (c := c) (f := f) (e := E) hk py kt ko rJ (by omega) t79 o79 oto hc (by omega) (by omega) (by omega) he (Or.inr ⟨by omega, by omega⟩) (fun q => absurd q hE1) (fun _ _ q => by omega) (fun _ q => absurd (by omega) q) (fun _ _ _ => by rw [hE2, r3]; exact hQ')) hQ
        · rw [hact]
          exact m_access4 (d := d + 1) (f := f) (x := fr) hm rY hp c1 (by omega) (by rw [hY 53 (by decide) (by decide)]; exact hf) (by omega) (by rw [hY 60 (by decide) (by decide)]; exact h60) (by rw [hY 72 (by decide) (by decide)]; exact e) (by rw [hY 52 (by decide) (by decide)]; exact ck) (by rw [hY 74 (by decide) (by decide)]; exact cw) (by rw [hY 73 (by decide) (by decide)]; exact hfr) (by omega) (by rw [hY 55 (by decide) (by decide), hY 71 (by decide) (by decide)]; exact hQ)
    · refine ⟨zU J (ta t) 9 (J 46 fr), X, X 71 fr, hF0 _ ⟨r46.1, r46.2⟩, by rw [zU_s, hw], fun _ _ => rfl, rfl, CF_U (CF_r J) (by omega), fun d Q hQ => ?_, fun Y hY rY => ⟨zU Y 56 (10 * t + dn) (X 71 fr), AG_U hY rfl, FR_U (FR_r Y) (by omega) (by omega), fun d Q hQ => ?_⟩⟩
      · exact s_mp4 (d := d + 2) k1 kt hjp (Or.inr rfl) (fun Q' hQ' => s_look (d := d + 1) (c := c) (f := f) (e := E) hk py kt ko rJ (by omega) t79 o79 oto hc (by omega) (by omega) (by omega) he (Or.inr ⟨by omega, by omega⟩) (fun q => absurd q hE1) (fun _ q => by omega) (fun _ _ => by rw [hE2]; exact hQ') (fun _ q => by omega)) hQ
      · rw [hact]
        exact m_access3 (d := d + 1) (f := f) (x := fr) hm rY hp c1 (by omega) (by rw [hY 53 (by decide) (by decide)]; exact hf) (by omega) (by rw [hY 60 (by decide) (by decide)]; exact h60) (by rw [hY 72 (by decide) (by decide)]; exact e) (by rw [hY 52 (by decide) (by decide)]; exact ck) (by rw [hY 73 (by decide) (by decide)]; exact hfr) (by omega) (by rw [hY 71 (by decide) (by decide)]; exact hQ)
theorem kal_ag {Y X : Mem} {b : Nat} (h : AG Y X) : kal Y b = kal X b := by funext i; unfold kal; rw [h 72 (by decide) (by decide)]
theorem eaF_ag {Y X : Mem} {b : Nat} (h : AG Y X) : ∀ k, eaF Y b k = eaF X b k := by
  intro k
  induction k with
  | zero => rfl
  | succ k ih => unfold eaF; rw [ih, h 72 (by decide) (by decide)]
theorem AG_kn {Y X : Mem} {p pg : Nat} (h : AG Y X) : AG (knJ Y p pg) (knJ X p pg) := by
  have h0 : AG (knJ0 Y p) (knJ0 X p) := by
    unfold knJ0
    rw [kal_ag h, eaF_ag h]
    split
    · exact AG_U h rfl
    · exact h
  unfold knJ
  exact AG_U (AG_U (AG_U (AG_U h0 (by rw [h 49 (by decide) (by decide)])) (by rw [h 49 (by decide) (by decide)])) (by rw [h 68 (by decide) (by decide)])) (by rw [h 69 (by decide) (by decide)])
theorem FR_kn {Y : Mem} {p pg : Nat} : FRm (knJ Y p pg) Y := by
  have h0 : FRm (knJ0 Y p) Y := by
    unfold knJ0
    split
    · exact FR_U (FR_r Y) (by omega) (by omega)
    · exact FR_r Y
  exact FR_U (FR_U (FR_U (FR_U h0 (by omega) (by omega)) (by omega) (by omega)) (by omega) (by omega)) (by omega) (by omega)
set_option maxHeartbeats 2000000 in
theorem ph_6 {dn : Nat} (h : CX K P n B nT ta oa t p J X) (h51 : X 51 t = dn) (h60 : X 60 t = 6) : PH0 K P n w B nT ta oa t p dn J X ∨ PH1 K P n w B nT ta oa t p dn J X := by
  obtain ⟨⟨c1, c2, c3, c4⟩, hOR, hTH, ⟨zt, kt, t79, po, ko, o79, oto⟩, hk, k1, py, hm, rJ, rX⟩ := CX_f h h51
  have hnm := (CX_nm h (by omega)).1
  obtain ⟨hs, hR, ht, h58, hp, h57, hB⟩ := h
  obtain ⟨g1, g2⟩ := TH_kd hTH hOR.2.1 hOR.2.2.1
  have hk1 : X 52 (10 * t + dn) ≤ 1 := by omega
  obtain ⟨r1, r2, r3, r4, r5, r6, r7⟩ := hOR.2.2.2.2.1 (by omega)
  obtain ⟨f, hf⟩ : ∃ f : Nat, X 53 (10 * t + dn) = f := ⟨(X 53 (10 * t + dn)).toNat, by omega⟩
  have ho0 := hOR.1
  have ho00 := hOR.2.1
  have rB := hR.2.2.2.2.2.2.2.2.2.2.2.2.2.2.2.2.2.1
  have rT := hR.2.2.1 f (by omega)
  have rU := hR.2.2.2.2.2.2.2.2.2.2.2.2.2.2.2.2.2.2.1
  obtain ⟨b1, b2, b3, b4, b5⟩ := rB p hp
  obtain ⟨q1, q2, q3⟩ := rT
  have hjp : J (ta t) 5 = 6 := by omega
  have hact : actM (X 60 t) = 90 := by unfold actM; rw [if_pos (by omega)]
  have h72 := TH_d5 hTH (Or.inr h60)
  rw [h57, hf, Int.toNat_natCast, Int.toNat_natCast] at h72
  have her : J 47 f = -1 ∨ (0 ≤ J 47 f ∧ J 47 f < 20) := by rw [q3]; split <;> omega
  have hkn3 : J (4 + 10 * p + 1) 2 = 3 → (0 ≤ J (4 + 10 * p + 1 + 1) 0 ∧ J (4 + 10 * p + 1 + 1) 0 < 1000) ∧ 0 ≤ drJ J (4 + 10 * p + 1) (J (4 + 10 * p + 1 + 1) 0) 1 (4 + 10 * p + 1) 2 ∧ drJ J (4 + 10 * p + 1) (J (4 + 10 * p + 1 + 1) 0) 1 (4 + 10 * p + 1) 2 < 3 := fun q => by
    have hcons : bp J (4 + 10 * p + 1) = J (4 + 10 * p + 1 + 1) 0 :: [J (4 + 10 * p + 1 + 1) 1, J (4 + 10 * p + 1 + 1) 2] := by
      unfold bp; rw [q]; rfl
    have hh := b1.1 (J (4 + 10 * p + 1 + 1) 0) (by rw [hcons]; exact List.mem_cons_self)
    refine ⟨by omega, (drJ_c b3).1, ?_⟩
    rw [(drJ_c b3).2.2, drJ_b, hcons, List.filter_cons_of_neg (by simp; omega)]
    have := List.length_filter_le (fun x => decide (x < J (4 + 10 * p + 1 + 1) 0 ∨ J (4 + 10 * p + 1 + 1) 0 + 1 ≤ x)) [J (4 + 10 * p + 1 + 1) 1, J (4 + 10 * p + 1 + 1) 2]
    simp only [List.length_cons, List.length_nil] at this
    omega
  by_cases c : X 68 f < 0 ∨ (X 52 (10 * t + dn) = 1 ∧ X 69 f = 0)
  · right
    have ce : J 47 f = -1 ∨ (J (oa t dn) 0 = 1 ∧ J 47 f % 2 = 0) := by
      by_cases c5 : X 68 f < 0
      · rw [if_pos c5] at q3; exact Or.inl q3
      · rw [if_neg c5] at q3
        have := c.resolve_left c5
        exact Or.inr ⟨by omega, by omega⟩
    refine ⟨zU J (ta t) 9 (-2), X, -2, ?_, zU_s _ _ _ _, fun _ _ => rfl, rfl, CF_U (CF_r J) (by omega), fun d Q hQ => ?_, fun Y hY rY => ⟨zU Y 56 (10 * t + dn) (-2), AG_U hY rfl, FR_U (FR_r Y) (by omega) (by omega), fun d Q hQ => ?_⟩⟩
    · refine RF_mono (RF_loc hs (RF_of hR ht).1 ht (fun c h => zU_ab _ _ _ h) (fun k _ _ _ h => zU_k _ _ _ h) (fun _ _ => rfl) (fun _ _ _ => rfl) ⟨RG_U rJ (by omega) (by omega), rX⟩ ⟨rfl, fun _ _ => rfl⟩) (by omega)
    · exact s_mp6 (d := d + 2) k1 kt hjp (Or.inr rfl) (fun Q' hQ' => s_leaf (d := d) (f := f) hk py kt ko rJ (by omega) (by omega) rfl her b3 b4 (fun q => (hkn3 q).1) (fun q => (hkn3 q).2) (fun _ => hQ') (fun a b => absurd ce (fun w => w.elim a b))) hQ
    · rw [hact]
      exact m_access7 (d := d + 1) (f := f) hm rY hp c1 (by omega) (by rw [hY 53 (by decide) (by decide)]; exact hf) (by omega) (by rw [hY 60 (by decide) (by decide)]; exact h60) (by rw [hY 68 (by decide) (by decide), hY 52 (by decide) (by decide), hY 69 (by decide) (by decide)]; exact c) hQ
  · left
    have c5 : ¬ X 68 f < 0 := fun q => c (Or.inl q)
    rw [if_neg c5] at q3
    have c6 : ¬ (X 52 (10 * t + dn) = 1 ∧ X 69 f = 0) := fun q => c (Or.inr q)
    have ce : ¬ (J 47 f = -1 ∨ (J (oa t dn) 0 = 1 ∧ J 47 f % 2 = 0)) := by omega
    have hK := S_know hs (RF_of hR ht).1 ht hB h58 hp h57 (by omega) h72 (by omega)
    obtain ⟨w1, w2, w3⟩ := gB_know rB hp (by omega) h72 (by omega) (by omega) q2 rU.2.2.1
    have hX : ∀ b, ¬ (b = 49 ∨ b = 72 ∨ b = 73 ∨ b = 74) → knJ X p f b = X b := fun b h => by
      unfold knJ knJ0
      rw [zU_ab _ _ _ (by omega), zU_ab _ _ _ (by omega), zU_ab _ _ _ (by omega), zU_ab _ _ _ (by omega)]
      split
      · rw [zU_ab _ _ _ (by omega)]
      · rfl
    have hJt : plJ J (4 + 10 * p + 1) f (J 47 f) (ta t) = J (ta t) := plJ_ne (by omega)
    have hCF : CFR (plJ J (4 + 10 * p + 1) f (J 47 f)) J := fun c h1 h2 => plJ_ne (by omega)
    have rK := hK.2.2.2.2.2.2.2.2.2.2.2.2.2.2.2.2.2.2.2
    have hs1 : SH K P n nT ta oa (knJ X p f) := SH_c hs (hX 50 (by omega))
    have hoi : oi (knJ X p f) t = 10 * t + dn := by rw [oi_c (by rw [hX 51 (by omega)]), c4]
    have hoi2 : oi (zU (knJ X p f) 60 t 4) t = 10 * t + dn := by rw [oi_c (zU_ne (by decide)), hoi]
    have hXY : ∀ b, ¬ (b = 49 ∨ b = 72 ∨ b = 73 ∨ b = 74 ∨ b = 60) → zU (knJ X p f) 60 t 4 b = X b := fun b h => by rw [zU_ab _ _ _ (by omega), hX b (by omega)]
    have y60 : zU (knJ X p f) 60 t 4 60 t = 4 := zU_s _ _ _ _
    have y58 : zU (knJ X p f) 60 t 4 58 t = 2 := by rw [hXY 58 (by omega)]; exact h58
    have q51 : X 51 t < X 50 t := by omega
    refine ⟨zU (plJ J (4 + 10 * p + 1) f (J 47 f)) (ta t) 5 4, zU (knJ X p f) 60 t 4, ?_, hXY 50 (by omega), CF_U hCF (by omega), ⟨fun u _ => by rw [hXY 51 (by omega)], fun u _ => by rw [hXY 59 (by omega)], fun u _ => by rw [hXY 63 (by omega)]⟩, fun d Q hQ => ?_, fun Y hY rY => ⟨zU (knJ Y p f) 60 t 4, AG_U (AG_kn hY) rfl, FR_U FR_kn (by omega) (by omega), fun d Q hQ => ?_⟩⟩
    · refine RR_of (RF_loc hs1 hK ht (fun c h => zU_ab _ _ _ h) (fun k h _ _ _ => zU_k _ _ _ h) (fun b h => zU_ab _ _ _ (by omega)) (fun b u h => zU_u h) ⟨RG_U rK.1 (by omega) (by omega), RG_U rK.2 (by omega) (by omega)⟩ ⟨?_, fun j hj => ?_⟩) ht ⟨⟨⟨fun q => ?_, fun q => ?_⟩, fun q => ?_⟩, fun _ => ?_, fun _ a => ?_, fun _ a => ?_, fun q hq a b => ?_⟩
      · rw [kc_0 (Or.inl (by rw [hoi2, hXY 52 (by omega)]; omega)), kc_0 (Or.inl (by rw [hoi, hX 52 (by omega)]; omega))]
      · rw [kc_0 (Or.inl (by rw [hoi, hX 52 (by omega)]; omega))] at hj; omega
      · omega
      · rw [hXY 51 (by omega), hXY 50 (by omega)] at q; omega
      · omega
      · rw [hoi2]
        refine TH_mk4 (by rw [zU_s, y60]) (by rw [y60]; omega) (by rw [y60]; omega) (by rw [hXY 52 (by omega)]; exact ho00) (by rw [hXY 52 (by omega)]; exact hk1) (fun q => by omega) (fun q => by omega)
      · rw [y60] at a; omega
      · rw [y60] at a; omega
      · rw [hXY 77 (by omega)] at a
        rw [hXY 78 (by omega)] at b
        exact (hnm q hq a b).elim
    · exact s_mp6 (d := d + 2) k1 kt hjp (Or.inl rfl) (fun Q' hQ' => s_leaf (d := d) (f := f) hk py kt ko rJ (by omega) (by omega) rfl her b3 b4 (fun q => (hkn3 q).1) (fun q => (hkn3 q).2) (fun q => absurd q ce) (fun _ _ => hQ')) hQ
    · rw [hact]
      exact m_access8 (d := d) (f := f) hm rY hp c1 (by omega) (by rw [hY 53 (by decide) (by decide)]; exact hf) (by omega) (by rw [hY 60 (by decide) (by decide)]; exact h60) (by rw [hY 68 (by decide) (by decide)]; exact c5) (by rw [hY 52 (by decide) (by decide), hY 69 (by decide) (by decide)]; exact c6) (by rw [hY 69 (by decide) (by decide)]; exact q2) (by rw [kal_ag hY, eaF_ag hY]; exact w2) hQ
theorem smF_ag {Y X : Mem} {f : Nat} (h : AG Y X) : ∀ m, smF Y f m = smF X f m := by
  intro m
  induction m with
  | zero => rfl
  | succ k ih => unfold smF; rw [ih, h 68 (by decide) (by decide)]
set_option maxHeartbeats 2000000 in
theorem ph_9 {dn : Nat} (h : CX K P n B nT ta oa t p J X) (h51 : X 51 t = dn) (h60 : X 60 t = 9) : PH0 K P n w B nT ta oa t p dn J X := by
  obtain ⟨⟨c1, c2, c3, c4⟩, hOR, hTH, ⟨zt, kt, t79, po, ko, o79, oto⟩, hk, k1, py, hm, rJ, rX⟩ := CX_f h h51
  obtain ⟨hs, hR, ht, h58, hp, h57, hB⟩ := h
  have k2 := (TH_q hTH).2 h60
  obtain ⟨r1, r2, r3, r4, r5, r6, r7⟩ := hOR.2.2.2.2.1 (by omega)
  obtain ⟨f, hf⟩ : ∃ f : Nat, X 53 (10 * t + dn) = f := ⟨(X 53 (10 * t + dn)).toNat, by omega⟩
  obtain ⟨m, hmm⟩ : ∃ m : Nat, X 54 (10 * t + dn) = m := ⟨(X 54 (10 * t + dn)).toNat, by omega⟩
  have rT := hR.2.2.1
  have rR := hR.2.2.2.2.2.2.2.2.2.2.2.2.2.1
  obtain ⟨a1, a2, a3⟩ := rR.1 p hp
  obtain ⟨a4, a5⟩ := rR.2
  have n1 := SL_len 10 _ a1
  have n2 := SL_len 10 _ a4
  rw [ln_len] at n1 n2
  have n3 := cnF_le (fun f => X 75 f = (4 : Int)) 10
  have hjp : J (ta t) 5 = 9 := by have := hTH.1; omega
  have hact : actM (X 60 t) = 94 := by unfold actM; rw [if_neg (by omega), if_pos (by omega)]
  have hun : unF J f m = true ↔ ¬ smF X f m = true := by
    rw [unF_iff, smF_iff]
    constructor
    · intro h
      rintro ⟨q, hq, h0⟩
      have h1 := h q hq
      have h2 := (rT (f + q) (by omega)).2.2
      rw [if_neg (by omega)] at h2
      have h3 := (rT (f + q) (by omega)).2.1
      omega
    · intro h q hq
      have h2 := (rT (f + q) (by omega)).2.2
      have : X 68 (f + q) < 0 := by
        refine Int.not_le.mp (fun w => h ⟨q, hq, w⟩)
      rw [if_pos this] at h2
      exact h2
  by_cases c : smF X f m = true ∨ cnF (fun i => X 75 i = p) 10 + cnF (fun i => X 75 i = 4) 10 < m
  · refine ⟨_, _, RR_mono (L_9a hs hR ht h58 h60) (by omega), by rw [zU_ab _ _ _ (by decide), zU_ab _ _ _ (by decide)], CF_U (CF_U (CF_r J) (by omega)) (by omega), KP_U (KP_U (KP_r X) (by omega)) (by omega), fun d Q hQ => ?_, fun Y hY rY => ⟨zU (zU Y 65 t 1) 60 t 14, AG_U (AG_U hY rfl) rfl, FR_U (FR_U (FR_r Y) (by omega) (by omega)) (by omega) (by omega), fun d Q hQ => ?_⟩⟩
    · refine s_mp9 (d := d + 2) k1 kt hjp (fun Q' hQ' => s_check (d := d + 1) (f := f) (g := m) hk py kt ko rJ (by omega) (by omega) (by omega) a2 a3 a5 (by omega) (fun b1 b2 => ?_) (fun _ => hQ')) hQ
      rcases c with c | c
      · exact absurd c (hun.mp b2)
      · omega
    · rw [hact]
      refine m_change9 (d := d + 1) (f := f) (m := m) hm rY hp c1 (by omega) (by rw [hY 53 (by decide) (by decide)]; exact hf) (by rw [hY 54 (by decide) (by decide)]; exact hmm) (by omega) (by rw [hY 60 (by decide) (by decide)]; exact h60) (fun _ => hQ) (fun q => absurd (by rw [smF_ag hY, hY 75 (by decide) (by decide)]; exact c) q)
  · have cs : ¬ smF X f m = true := fun q => c (Or.inl q)
    have cn : ¬ cnF (fun i => X 75 i = p) 10 + cnF (fun i => X 75 i = 4) 10 < m := fun q => c (Or.inr q)
    refine ⟨_, _, RR_mono (L_9b hs hR ht h58 h60 (by rw [c4, h57, Int.toNat_natCast]; omega)) (by omega), by rw [zU_ab _ _ _ (by decide), zU_ab _ _ _ (by decide)], CF_U (CF_r J) (by omega), KP_U (KP_U (KP_r X) (by omega)) (by omega), fun d Q hQ => ?_, fun Y hY rY => ⟨zU (zU Y 65 t 0) 60 t 10, AG_U (AG_U hY rfl) rfl, FR_U (FR_U (FR_r Y) (by omega) (by omega)) (by omega) (by omega), fun d Q hQ => ?_⟩⟩
    · refine s_mp9 (d := d + 2) k1 kt hjp (fun Q' hQ' => s_check (d := d + 1) (f := f) (g := m) hk py kt ko rJ (by omega) (by omega) (by omega) a2 a3 a5 (by omega) (fun _ _ => hQ') (fun q => ?_)) hQ
      rcases q with q | q
      · omega
      · have := hun.mpr cs
        rw [q] at this; cases this
    · rw [hact]
      exact m_change9 (d := d + 1) (f := f) (m := m) hm rY hp c1 (by omega) (by rw [hY 53 (by decide) (by decide)]; exact hf) (by rw [hY 54 (by decide) (by decide)]; exact hmm) (by omega) (by rw [hY 60 (by decide) (by decide)]; exact h60) (fun q => absurd (by rw [smF_ag hY, hY 75 (by decide) (by decide)] at q; exact q) c) (fun _ => hQ)
end PB
