/-! RELEASE, SEND. -/
theorem cnF_lt {al : Nat → Prop} {i N : Nat} (hi : i < N) (h : ¬ al i) : cnF al N < N := by
  have h1 := (cnF_add1 (al := al) (al' := fun j => al j ∨ j = i) (t := i) N (fun j _ => Iff.rfl) h).1 hi
  have h2 := cnF_le (fun j => al j ∨ j = i) N
  omega
theorem adJ_CF {J : Mem} {a : Nat} {x : Int} (h : (a ≠ 0 ∧ a + 1 < 49) ∨ 78 < a) : CFR (adJ J a x) J := fun c h1 h2 => by funext j; exact adJ_ne (by omega) (by omega)
theorem tfJ_CF {J : Mem} {a : Nat} (h : (a ≠ 0 ∧ a + 1 < 49) ∨ 78 < a) : CFR (tfJ J a) J := fun c h1 h2 => by funext j; exact tfJ_ne (by omega) (by omega)
section PC
variable {B nT n w t p : Nat} {ta : Nat → Nat} {oa : Nat → Nat → Nat} {J X : Mem} {K : Nat → Option ZK} {P : Nat → Nat → Option Nat}
set_option maxHeartbeats 2000000 in
theorem rel_RR {dn q fr ks R : Nat} {rm : Int} (h : CX K P n B nT ta oa t p J X) (h51 : X 51 t = dn) (h60 : X 60 t = 13) (h62 : X 62 t = q) (h67 : X 67 t = ks) (hfr : X 66 (4 * t + q) = fr) (hrm : -1 ≤ rm ∧ rm ≤ 4) (hRr : R = 44 ∨ R = 4 + 10 * p + 4) (hR10 : J R 1 ≤ 10)
    (hg : ∀ X', X' 75 fr = rm → (∀ i, i ≠ fr → X' 75 i = X 75 i) → X' 76 fr = X 49 11 + 1 → (∀ i, i ≠ fr → X' 76 i = X 76 i) → gR (adJ J R fr) X') :
    RR (B + 1) nT ta oa (if ((ks : Int) - q) = 1 then zU (adJ (tfJ J (ta t + 2)) R fr) (ta t) 5 14 else adJ (tfJ J (ta t + 2)) R fr) (zU (zU (zU (zU (zU X 75 fr rm) 49 11 (X 49 11 + 1)) 76 fr (X 49 11 + 1)) 62 t (q + 1)) 60 t (if q + 1 = ks then 14 else 13)) := by
  obtain ⟨⟨c1, c2, c3, c4⟩, hOR, hTH, ⟨zt, kt, t79, po, ko, o79, oto⟩, hk, k1, py, hm, rJ, rX⟩ := CX_f h h51
  have hnm := (CX_nm h (by omega)).1
  obtain ⟨hs, hR, ht, h58, hp, h57, hB⟩ := h
  obtain ⟨hF, hT⟩ := RF_of hR ht
  obtain ⟨⟨d1, d2⟩, d3⟩ := TH_d13 hTH h60
  obtain ⟨⟨e1, e2, e3, e4, e5⟩, e6⟩ := TH_d1113 hTH (by omega) (by omega)
  have e5' := e5 d3
  obtain ⟨b1, b2, b3⟩ := TH_d8 hTH (by omega) (by omega)
  have b4 := TH_d9 hTH (by omega) (by omega)
  have hTD := hT.2.2.1 (by omega) (by omega) (by omega)
  have hS := S_rel (rm := rm) (ph := if q + 1 = ks then 14 else 13) hs hF hT ht hB (by omega) (by rw [c4]; exact d3) h60 h62 h67 (by omega) (by omega) hp hfr hrm hRr hR10 hg rfl
  generalize hph : (if q + 1 = ks then (14 : Int) else 13) = ph at *
  have hJt : adJ (tfJ J (ta t + 2)) R fr (ta t) = J (ta t) := by funext j; rw [adJ_ne (by omega) (by omega), tfJ_ne (by omega) (by omega)]
  have hX : ∀ b, ¬ (b = 75 ∨ b = 49 ∨ b = 76 ∨ b = 62 ∨ b = 60) → (zU (zU (zU (zU (zU X 75 fr rm) 49 11 (X 49 11 + 1)) 76 fr (X 49 11 + 1)) 62 t (q + 1)) 60 t ph) b = X b := fun b h => by
    rw [zU_ab _ _ _ (by omega), zU_ab _ _ _ (by omega), zU_ab _ _ _ (by omega), zU_ab _ _ _ (by omega), zU_ab _ _ _ (by omega)]
  have hXu : ∀ u, u ≠ t → (zU (zU (zU (zU (zU X 75 fr rm) 49 11 (X 49 11 + 1)) 76 fr (X 49 11 + 1)) 62 t (q + 1)) 60 t ph) 60 u = X 60 u := fun u h => by
    rw [zU_k _ _ _ h, zU_ne (by omega), zU_ne (by omega), zU_ne (by omega), zU_ne (by omega)]
  have h9 : ∀ k, k ≠ 11 → (zU (zU (zU (zU (zU X 75 fr rm) 49 11 (X 49 11 + 1)) 76 fr (X 49 11 + 1)) 62 t (q + 1)) 60 t ph) 49 k = X 49 k := fun k h => by
    rw [zU_ne (by decide), zU_ne (by decide), zU_ne (by decide), zU_k _ _ _ h, zU_ne (by decide)]
  have x60 : (zU (zU (zU (zU (zU X 75 fr rm) 49 11 (X 49 11 + 1)) 76 fr (X 49 11 + 1)) 62 t (q + 1)) 60 t ph) 60 t = ph := zU_s _ _ _ _
  have x62 : (zU (zU (zU (zU (zU X 75 fr rm) 49 11 (X 49 11 + 1)) 76 fr (X 49 11 + 1)) 62 t (q + 1)) 60 t ph) 62 t = q + 1 := by rw [zU_ne (by decide), zU_s]
  generalize hX' : (zU (zU (zU (zU (zU X 75 fr rm) 49 11 (X 49 11 + 1)) 76 fr (X 49 11 + 1)) 62 t (q + 1)) 60 t ph) = X' at *
  generalize adJ (tfJ J (ta t + 2)) R fr = J1 at *
  have hs1 : SH K P n nT ta oa X' := SH_c hs (hX 50 (by omega))
  have rZ := hS.2.2.2.2.2.2.2.2.2.2.2.2.2.2.2.2.2.2.2
  have hoi : oi X' t = 10 * t + dn := by rw [oi_c (by rw [hX 51 (by omega)]), c4]
  have tt : ∀ J2 : Mem, J2 (ta t) 5 = ph → (∀ k, k ≠ 5 → J2 (ta t) k = J (ta t) k) → TT nT t ta J2 X' := fun J2 j5 jk => by
    refine ⟨⟨⟨fun a => ?_, fun a => ?_⟩, fun a => ?_⟩, fun _ => ?_, fun _ _ _ => ?_, fun _ a => ?_, fun i hi a b => ?_⟩
    · rw [hX 58 (by omega)] at a; omega
    · rw [hX 51 (by omega), hX 50 (by omega)] at a; omega
    · rw [hX 58 (by omega)] at a; omega
    · rw [hoi]
      by_cases cc : q + 1 = ks
      · rw [if_pos cc] at hph
        exact TH_mk14 (by rw [j5, x60]) (by omega) (by rw [hX 58 (by omega)]; omega) (by rw [hX 52 (by omega)]; omega) (by rw [hX 52 (by omega)]; omega) (by rw [jk 7 (by decide), hX 61 (by omega)]; exact b1) (by rw [hX 61 (by omega), h9 21 (by decide)]; exact b4) (by rw [hX 61 (by omega), h9 20 (by decide)]; exact b3) (by rw [jk 9 (by decide), hX 65 (by omega), hX 64 (by omega), if_pos e4]; exact e1) (by rw [hX 64 (by omega)]; omega) (by rw [hX 64 (by omega)]; exact e3)
      · rw [if_neg cc] at hph
        exact TH_mk13 (by rw [j5, x60]) (by omega) (by rw [hX 58 (by omega)]; omega) (by rw [hX 52 (by omega)]; exact d3) (by rw [jk 7 (by decide), hX 61 (by omega)]; exact b1) (by rw [hX 61 (by omega), h9 21 (by decide)]; exact b4) (by rw [hX 61 (by omega), h9 20 (by decide)]; exact b3) (by rw [x62]; omega) (by rw [x62, hX 67 (by omega)]; omega) (by rw [jk 9 (by decide), hX 64 (by omega)]; exact e1) (by rw [hX 64 (by omega)]; exact e2) (by rw [hX 64 (by omega)]; exact e3) (by rw [hX 65 (by omega)]; exact e4) (by rw [hX 67 (by omega), hX 64 (by omega)]; exact e5')
    · intro u hu hut a b c
      rw [hX 58 (by omega)] at a
      rw [hXu u hut] at b c
      rw [hX 61 (by omega)]
      exact hTD u hu hut a b c
    · have : ph = 14 ∨ ph = 13 := by rw [← hph]; split <;> omega
      omega
    · rw [hX 77 (by omega)] at a
      rw [hX 78 (by omega)] at b
      exact (hnm i hi a b).elim
  by_cases cc : q + 1 = ks
  · rw [if_pos (by omega)]
    have hph1 := hph
    rw [if_pos cc] at hph1
    exact RR_of (RF_loc hs1 hS ht (fun c h => zU_ab _ _ _ h) (fun k h _ _ _ => zU_k _ _ _ h) (fun _ _ => rfl) (fun _ _ _ => rfl) ⟨RG_U rZ.1 (by omega) (by omega), rZ.2⟩ ⟨rfl, fun _ _ => rfl⟩) ht (tt _ (by rw [zU_s]; exact hph1) (fun k h => by rw [zU_k _ _ _ h, hJt]))
  · rw [if_neg (by omega)]
    have hph1 := hph
    rw [if_neg cc] at hph1
    exact RR_of hS ht (tt _ (by rw [hJt, hTH.1]; omega) (fun k _ => by rw [hJt]))
set_option maxHeartbeats 2000000 in
theorem ph_13 {dn : Nat} (h : CX K P n B nT ta oa t p J X) (h51 : X 51 t = dn) (h60 : X 60 t = 13) : PH0 K P n w B nT ta oa t p dn J X := by
  have h0 := h
  obtain ⟨⟨c1, c2, c3, c4⟩, hOR, hTH, ⟨zt, kt, t79, po, ko, o79, oto⟩, hk, k1, py, hm, rJ, rX⟩ := CX_f h h51
  obtain ⟨hs, hR, ht, h58, hp, h57, hB⟩ := h
  have hjp : J (ta t) 5 = 13 := by have := hTH.1; omega
  have hact : actM (X 60 t) = 97 := by unfold actM; rw [if_neg (by omega), if_neg (by omega)]
  obtain ⟨⟨d1, d2⟩, d3⟩ := TH_d13 hTH h60
  obtain ⟨⟨e1, e2, e3, e4, e5⟩, e6⟩ := TH_d1113 hTH (by omega) (by omega)
  have e5' := e5 d3
  obtain ⟨q, h62⟩ : ∃ q : Nat, X 62 t = q := ⟨(X 62 t).toNat, by omega⟩
  obtain ⟨ks, h67⟩ : ∃ ks : Nat, X 67 t = ks := ⟨(X 67 t).toNat, by omega⟩
  have rK := hR.2.2.2.2.2.2.2.2.2.2.2.1 t ht
  have rF := hR.2.2.2.2.2.2.2.2.2.2.2.2.1
  have rR := hR.2.2.2.2.2.2.2.2.2.2.2.2.2.1
  have hkt := kc_1 (t := t) (X := X) (by omega) (by rw [c4]; exact d3) (by omega) (by omega)
  have hkb : kb X t = q := by unfold kb; rw [if_pos h60, h62]
  rw [hkt, hkb, h67] at rK
  have hff := rF.2.2.2 t ht 0 (by rw [hkt, hkb, h67]; omega)
  have hk0 := rK.2 0 (by omega)
  have ekf : kf X t 0 = X 66 (4 * t + q) := by unfold kf; rw [hkb]; rfl
  rw [ekf] at hff hk0
  obtain ⟨fr, hfr⟩ : ∃ fr : Nat, X 66 (4 * t + q) = fr := ⟨(X 66 (4 * t + q)).toNat, by omega⟩
  rw [hfr, Int.toNat_natCast] at hff
  rw [hfr] at hk0
  have hf76 : ∀ f, f < 10 → X 76 f < X 49 11 + 1 := fun f hf => by have := (rF.1 f hf).2.2; omega
  obtain ⟨a1, a2, a3⟩ := rR.1 p hp
  obtain ⟨a4, a5⟩ := rR.2
  have n1 := SL_len 10 _ a1
  have n2 := SL_len 10 _ a4
  rw [ln_len] at n1 n2
  have n3 := cnF_lt (al := fun f => X 75 f = (4 : Int)) (i := fr) (N := 10) (by omega) (by omega)
  by_cases c : J (4 + 10 * p + 4) 1 < 2
  · have hcn : cnF (fun i => X 75 i = p) 10 < 2 := by omega
    refine ⟨_, _, rel_RR (rm := p) (R := 4 + 10 * p + 4) h0 h51 h60 h62 h67 hfr ⟨by omega, by omega⟩ (Or.inr rfl) (by omega) (fun X' x1 x2 x3 x4 => gR_addroom rR hp (by omega) hff.2.2.1 c hf76 x1 x2 x3 x4), ?_, ?_, KP_U (KP_U (KP_U (KP_U (KP_U (KP_r X) (by omega)) (by omega)) (by omega)) (by omega)) (by omega), fun d Q hQ => ?_, fun Y hY rY => ⟨zU (zU (zU (zU (zU Y 75 fr p) 49 11 (Y 49 11 + 1)) 76 fr (Y 49 11 + 1)) 62 t (q + 1)) 60 t (if q + 1 = ks then 14 else 13), AG_U (AG_U (AG_U (AG_U (AG_U hY rfl) (by rw [hY 49 (by decide) (by decide)])) (by rw [hY 49 (by decide) (by decide)])) rfl) rfl, FR_U (FR_U (FR_U (FR_U (FR_U (FR_r Y) (by omega) (by omega)) (by omega) (by omega)) (by omega) (by omega)) (by omega) (by omega)) (by omega) (by omega), fun d Q hQ => ?_⟩⟩
    · rw [zU_ab _ _ _ (by decide), zU_ab _ _ _ (by decide), zU_ab _ _ _ (by decide), zU_ab _ _ _ (by decide), zU_ab _ _ _ (by decide)]
    · split
      · exact CF_U (CF_t (adJ_CF (by omega)) (tfJ_CF (by omega))) (by omega)
      · exact CF_t (adJ_CF (by omega)) (tfJ_CF (by omega))
    · exact s_mp13 (d := d + 2) k1 kt hjp (fun Q' hQ' => s_release (d := d + 1) (fr := fr) (c := ks - q) hk py zt rJ (by omega) t79 rK.1 (by omega) (by omega) hk0 a2 a3 a5 (by omega) (fun _ => hQ') (fun q => absurd c q)) hQ
    · rw [hact]
      refine m_shoot13 (d := d + 1) (q := q) (fr := fr) (ks := ks) hm rY hp c1 (by rw [hY 60 (by decide) (by decide)]; exact h60) (by rw [hY 62 (by decide) (by decide)]; exact h62) (by omega) (by rw [hY 66 (by decide) (by decide)]; exact hfr) (by omega) (by rw [hY 67 (by decide) (by decide)]; exact h67) (by omega) ?_
      rw [show (if cnF (fun i => Y 75 i = (p : Int)) 10 < 2 then (p : Int) else 4) = p by rw [hY 75 (by decide) (by decide), if_pos hcn]]
      exact hQ
  · have hcn : ¬ cnF (fun i => X 75 i = p) 10 < 2 := by omega
    refine ⟨_, _, rel_RR (rm := 4) (R := 44) h0 h51 h60 h62 h67 hfr ⟨by omega, by omega⟩ (Or.inl rfl) (by omega) (fun X' x1 x2 x3 x4 => gR_addpool rR (by omega) hff.2.2.1 hf76 x1 x2 x3 x4), ?_, ?_, KP_U (KP_U (KP_U (KP_U (KP_U (KP_r X) (by omega)) (by omega)) (by omega)) (by omega)) (by omega), fun d Q hQ => ?_, fun Y hY rY => ⟨zU (zU (zU (zU (zU Y 75 fr 4) 49 11 (Y 49 11 + 1)) 76 fr (Y 49 11 + 1)) 62 t (q + 1)) 60 t (if q + 1 = ks then 14 else 13), AG_U (AG_U (AG_U (AG_U (AG_U hY rfl) (by rw [hY 49 (by decide) (by decide)])) (by rw [hY 49 (by decide) (by decide)])) rfl) rfl, FR_U (FR_U (FR_U (FR_U (FR_U (FR_r Y) (by omega) (by omega)) (by omega) (by omega)) (by omega) (by omega)) (by omega) (by omega)) (by omega) (by omega), fun d Q hQ => ?_⟩⟩
    · rw [zU_ab _ _ _ (by decide), zU_ab _ _ _ (by decide), zU_ab _ _ _ (by decide), zU_ab _ _ _ (by decide), zU_ab _ _ _ (by decide)]
    · split
      · exact CF_U (CF_t (adJ_CF (by omega)) (tfJ_CF (by omega))) (by omega)
      · exact CF_t (adJ_CF (by omega)) (tfJ_CF (by omega))
    · exact s_mp13 (d := d + 2) k1 kt hjp (fun Q' hQ' => s_release (d := d + 1) (fr := fr) (c := ks - q) hk py zt rJ (by omega) t79 rK.1 (by omega) (by omega) hk0 a2 a3 a5 (by omega) (fun q => absurd q c) (fun _ => hQ')) hQ
    · rw [hact]
      refine m_shoot13 (d := d + 1) (q := q) (fr := fr) (ks := ks) hm rY hp c1 (by rw [hY 60 (by decide) (by decide)]; exact h60) (by rw [hY 62 (by decide) (by decide)]; exact h62) (by omega) (by rw [hY 66 (by decide) (by decide)]; exact hfr) (by omega) (by rw [hY 67 (by decide) (by decide)]; exact h67) (by omega) ?_
      rw [show (if cnF (fun i => Y 75 i = (p : Int)) 10 < 2 then (p : Int) else 4) = 4 by rw [hY 75 (by decide) (by decide), if_neg hcn]]
      exact hQ
/-- SEND's end: the next processor, or AWAIT -/
theorem send_RR {dn q : Nat} {J1 X1 : Mem} (h : CX K P n B nT ta oa t p J X) (h51 : X 51 t = dn) (h60 : X 60 t = 11) (h62 : X 62 t = q) (hF1 : RF B nT t ta oa J1 X1) (hJt : ∀ k, k ≠ 8 → J1 (ta t) k = J (ta t) k) (hX1 : ∀ b, ¬ (b = 63 ∨ b = 72 ∨ b = 77 ∨ b = 78) → X1 b = X b) (hml : ∀ i : Nat, i < 4 → X1 77 i = 1 → X1 78 i = t → (i : Int) < q + 1) :
    RR B nT ta oa (if (q : Int) + 1 < 4 then zU J1 (ta t) 6 (q + 1) else zU (zU (zU J1 (ta t) 6 (q + 1)) (ta t) 5 12) (ta t) 6 0) (zU (zU X1 62 t (q + 1)) 60 t (if q = 3 then 12 else 11)) := by
  obtain ⟨⟨c1, c2, c3, c4⟩, hOR, hTH, ⟨zt, kt, t79, po, ko, o79, oto⟩, hk, k1, py, hm, rJ, rX⟩ := CX_f h h51
  obtain ⟨hs, hR, ht, h58, hp, h57, hB⟩ := h
  obtain ⟨hF, hT⟩ := RF_of hR ht
  obtain ⟨d1, d2, d3⟩ := TH_d11 hTH h60
  obtain ⟨g1, g2⟩ := TH_kd hTH hOR.2.1 hOR.2.2.1
  obtain ⟨⟨e1, e2, e3, e4, e5⟩, e6⟩ := TH_d1113 hTH (by omega) (by omega)
  obtain ⟨b1, b2, b3⟩ := TH_d8 hTH (by omega) (by omega)
  have b4 := TH_d9 hTH (by omega) (by omega)
  have hTD := hT.2.2.1 (by omega) (by omega) (by omega)
  have rZ := hF1.2.2.2.2.2.2.2.2.2.2.2.2.2.2.2.2.2.2.2
  have hs1 : SH K P n nT ta oa X1 := SH_c hs (hX1 50 (by omega))
  generalize hph : (if q = 3 then (12 : Int) else 11) = ph
  have hph2 : ph = 11 ∨ ph = 12 := by rw [← hph]; split <;> omega
  have hX : ∀ b, ¬ (b = 63 ∨ b = 72 ∨ b = 77 ∨ b = 78 ∨ b = 60 ∨ b = 62) → (zU (zU X1 62 t (q + 1)) 60 t ph) b = X b := fun b h => by rw [zU_ab _ _ _ (by omega), zU_ab _ _ _ (by omega), hX1 b (by omega)]
  have hXu : ∀ b u, u ≠ t → (zU (zU X1 62 t (q + 1)) 60 t ph) b u = X1 b u := fun b u h => by rw [zU_u h, zU_u h]
  have x60 : (zU (zU X1 62 t (q + 1)) 60 t ph) 60 t = ph := zU_s _ _ _ _
  have x62 : (zU (zU X1 62 t (q + 1)) 60 t ph) 62 t = q + 1 := by rw [zU_ne (by decide), zU_s]
  have hoi1 : oi X1 t = 10 * t + dn := by rw [oi_c (by rw [hX1 51 (by omega)]), c4]
  have hoi : oi (zU (zU X1 62 t (q + 1)) 60 t ph) t = 10 * t + dn := by rw [oi_c (by rw [hX 51 (by omega)]), c4]
  have hkb1 : kb X1 t = 0 := by unfold kb; rw [hX1 60 (by omega), if_neg (by omega)]
  have hkb2 : kb (zU (zU X1 62 t (q + 1)) 60 t ph) t = 0 := by unfold kb; rw [x60, if_neg (by omega)]
  have hkc : kc (zU (zU X1 62 t (q + 1)) 60 t ph) t = kc X1 t ∧ ∀ j : Nat, (j : Int) < kc X1 t → kf (zU (zU X1 62 t (q + 1)) 60 t ph) t j = kf X1 t j := by
    refine ⟨?_, fun j _ => ?_⟩
    · by_cases c : X 52 (10 * t + dn) = 3
      · rw [kc_1 (by rw [hX 58 (by omega)]; omega) (by rw [hoi, hX 52 (by omega)]; exact c) (by omega) (by omega), kc_1 (by rw [hX1 58 (by omega)]; omega) (by rw [hoi1, hX1 52 (by omega)]; exact c) (by rw [hX1 60 (by omega)]; omega) (by rw [hX1 60 (by omega)]; omega), hkb1, hkb2, hX 67 (by omega), hX1 67 (by omega)]
      · rw [kc_0 (Or.inl (by rw [hoi, hX 52 (by omega)]; exact c)), kc_0 (Or.inl (by rw [hoi1, hX1 52 (by omega)]; exact c))]
    · unfold kf; rw [hkb1, hkb2, hX 66 (by omega), hX1 66 (by omega)]
  have hRX : RG (zU (zU X1 62 t (q + 1)) 60 t ph) := RG_U (RG_U rZ.2 (by omega) (by omega)) (by omega) (by omega)
  have tt : ∀ J2 : Mem, J2 (ta t) 5 = ph → (ph = 11 → J2 (ta t) 6 = q + 1) → (∀ k, k ≠ 5 → k ≠ 6 → k ≠ 8 → J2 (ta t) k = J (ta t) k) → TT nT t ta J2 (zU (zU X1 62 t (q + 1)) 60 t ph) := fun J2 j5 j6 jk => by
    refine ⟨⟨⟨fun a => ?_, fun a => ?_⟩, fun a => ?_⟩, fun _ => ?_, fun _ _ _ => ?_, fun _ a => ?_, fun i hi a b => ?_⟩
    · rw [hX 58 (by omega)] at a; omega
    · rw [hX 51 (by omega), hX 50 (by omega)] at a; omega
    · rw [hX 58 (by omega)] at a; omega
    · rw [hoi]
      refine TH_mk11 (by rw [j5, x60]) (by rw [x60]; exact hph2) (by rw [hX 58 (by omega)]; omega) (by rw [hX 52 (by omega)]; omega) (by rw [hX 52 (by omega)]; omega) (by rw [jk 7 (by decide) (by decide) (by decide), hX 61 (by omega)]; exact b1) (by rw [hX 61 (by omega), hX 49 (by omega)]; exact b4) (by rw [hX 61 (by omega), hX 49 (by omega)]; exact b3) (by rw [x60, x62]; intro w; exact ⟨j6 w, by omega, by rw [← hph] at w; split at w <;> omega⟩) (by rw [jk 9 (by decide) (by decide) (by decide), hX 64 (by omega)]; exact e1) (by rw [hX 64 (by omega)]; exact e2) (by rw [hX 64 (by omega)]; exact e3) (by rw [hX 65 (by omega)]; exact e4) (by rw [hX 52 (by omega), hX 67 (by omega), hX 64 (by omega)]; exact e5)
    · intro u hu hut a b c
      rw [hX 58 (by omega)] at a
      rw [hXu 60 u hut, hX1 60 (by omega)] at b c
      rw [hX 61 (by omega)]
      exact hTD u hu hut a b c
    · omega
    · rw [zU_ne (by decide), zU_ne (by decide)] at a b
      have := hml i hi a b
      rw [x60, x62, hX 58 (by omega)]
      exact ⟨by omega, hph2, fun _ => this⟩
  by_cases cc : (q : Int) + 1 < 4
  · rw [if_pos cc]
    have hp1 : ph = 11 := by rw [← hph, if_neg (by omega)]
    exact RR_of (RF_loc hs1 hF1 ht (fun c h => zU_ab _ _ _ h) (fun k _ h _ _ => zU_k _ _ _ h) (fun b h => by rw [zU_ab _ _ _ (by omega), zU_ab _ _ _ (by omega)]) hXu ⟨RG_U rZ.1 (by omega) (by omega), hRX⟩ hkc) ht (tt _ (by rw [zU_k _ _ _ (by decide), hJt 5 (by decide)]; omega) (fun _ => zU_s _ _ _ _) (fun k h1 h2 h3 => by rw [zU_k _ _ _ h2, hJt k h3]))
  · rw [if_neg cc]
    have hp1 : ph = 12 := by rw [← hph, if_pos (by omega)]
    exact RR_of (RF_loc hs1 hF1 ht (fun c h => by rw [zU_ab _ _ _ h, zU_ab _ _ _ h, zU_ab _ _ _ h]) (fun k h1 h2 _ _ => by rw [zU_k _ _ _ h2, zU_k _ _ _ h1, zU_k _ _ _ h2]) (fun b h => by rw [zU_ab _ _ _ (by omega), zU_ab _ _ _ (by omega)]) hXu ⟨RG_U (RG_U (RG_U rZ.1 (by omega) (by omega)) (by omega) (by omega)) (by omega) (by omega), hRX⟩ hkc) ht (tt _ (by rw [zU_k _ _ _ (by decide), zU_s]; omega) (fun w => by omega) (fun k h1 h2 h3 => by rw [zU_k _ _ _ h2, zU_k _ _ _ h1, zU_k _ _ _ h2, hJt k h3]))
set_option maxHeartbeats 2000000 in
theorem ph_11 {dn : Nat} (h : CX K P n B nT ta oa t p J X) (h51 : X 51 t = dn) (h60 : X 60 t = 11) : PH0 K P n w B nT ta oa t p dn J X := by
  have h0 := h
  obtain ⟨⟨c1, c2, c3, c4⟩, hOR, hTH, ⟨zt, kt, t79, po, ko, o79, oto⟩, hk, k1, py, hm, rJ, rX⟩ := CX_f h h51
  obtain ⟨hs, hR, ht, h58, hp, h57, hB⟩ := h
  have hjp : J (ta t) 5 = 11 := by have := hTH.1; omega
  have hact : actM (X 60 t) = 97 := by unfold actM; rw [if_neg (by omega), if_neg (by omega)]
  obtain ⟨hF, hT⟩ := RF_of hR ht
  obtain ⟨d1, d2, d3⟩ := TH_d11 hTH h60
  obtain ⟨g1, g2⟩ := TH_kd hTH hOR.2.1 hOR.2.2.1
  obtain ⟨q, h62⟩ : ∃ q : Nat, X 62 t = q := ⟨(X 62 t).toNat, by omega⟩
  obtain ⟨r1, r2, r3, r4, r5, r6, r7⟩ := hOR.2.2.2.2.1 (by omega)
  obtain ⟨f, hf⟩ : ∃ f : Nat, X 53 (10 * t + dn) = f := ⟨(X 53 (10 * t + dn)).toNat, by omega⟩
  obtain ⟨m, hmm⟩ : ∃ m : Nat, X 54 (10 * t + dn) = m := ⟨(X 54 (10 * t + dn)).toNat, by omega⟩
  have hyc := (hR.2.2.2.2.2.2.2.1 p hp).1
  have hN := hR.2.2.2.2.1 t ht
  have rA := hR.2.2.2.2.2.2.2.2.2.2.2.2.2.2.2.1 t ht
  have hTL := hT.2.2.2.2
  have hcn := cnF_le (oal X t) 4
  obtain ⟨b1, b2, b3, b4, b5⟩ := hR.2.2.2.2.2.2.2.2.2.2.2.2.2.2.2.2.2.1 p hp
  by_cases c : q = p
  · subst c
    have hS := S_drop (p := q) (f := f) (m := m) hs hF ht hp (by omega)
    have hJt : drJ J (4 + 10 * q + 1) f m (ta t) = J (ta t) := by funext j; exact drJ_ne (by omega) (by omega) (by omega)
    refine ⟨_, _, RR_mono (send_RR h0 h51 h60 h62 hS (fun k _ => by rw [hJt]) (fun b h => zfill_ab (by omega)) (fun i hi a b => ?_)) (by omega), ?_, ?_, KP_U (KP_U (KP_fill (KP_r X) (by omega)) (by omega)) (by omega), fun d Q hQ => ?_, fun Y hY rY => ⟨zU (zU (zfill Y 72 (16 * q + f) m) 62 t (q + 1)) 60 t (if q = 3 then 12 else 11), AG_U (AG_U (AG_fill hY) rfl) rfl, FR_U (FR_U (FR_fill (FR_r Y) (by omega) (by omega)) (by omega) (by omega)) (by omega) (by omega), fun d Q hQ => ?_⟩⟩
    · rw [zfill_ab (by decide)] at a b
      have := (hTL i hi a b).2.2 h60
      omega
    · rw [zU_ab _ _ _ (by decide), zU_ab _ _ _ (by decide), zfill_ab (by decide)]
    · split
      · exact CF_U (drJ_CF (by omega)) (by omega)
      · exact CF_U (CF_U (CF_U (drJ_CF (by omega)) (by omega)) (by omega)) (by omega)
    · refine s_mp11 (d := d + 2) k1 kt hjp (fun Q' hQ' => s_sendA (d := d + 1) (f := f) (g := m) (q := q) py kt ko rJ (by omega) t79 (by omega) hyc (by omega) (by omega) (by omega) (by omega) (by omega) b3 b4 (by rw [hJt]; omega) (fun a => ?_) (fun a => ?_)) hQ
      · rw [if_pos a] at hQ'; exact hQ'
      · rw [if_neg a] at hQ'; exact hQ'
    · rw [hact]
      exact m_shoot11a (d := d + 1) (dn := dn) (f := f) (m := m) hm hp c1 c2 (by rw [hY 51 (by decide) (by decide)]; exact h51) (by rw [hY 53 (by decide) (by decide)]; exact hf) (by rw [hY 54 (by decide) (by decide)]; exact hmm) (by omega) (by rw [hY 60 (by decide) (by decide)]; exact h60) (by rw [hY 62 (by decide) (by decide)]; exact h62) hQ
  · have rL := hR.2.2.2.2.2.2.2.2.2.2.2.2.2.2.2.2.1 q (by omega)
    have h77 : X 77 q = 0 := by
      rcases rL.2.1 with e | e
      · exact e
      · exfalso
        obtain ⟨l1, l2, l3, l4, l5, l6⟩ := rL.2.2 e
        by_cases eu : (X 78 q).toNat = t
        · have := (hTL q (by omega) e (by omega)).2.2 h60
          omega
        · exact lockU hF hT (by omega) (by omega) (by omega) (X 78 q).toNat (by omega) eu l4 (by omega)
    have hS := S_mail (q := q) hs hF ht (by omega) h77 (by omega)
    have hJt : ∀ k, k ≠ 8 → zU (adJ J (4 + 10 * q + 6) t) (ta t) 8 (J (ta t) 8 + 1) (ta t) k = J (ta t) k := fun k h => by rw [zU_k _ _ _ h, adJ_ne (by omega) (by omega)]
    refine ⟨_, _, RR_mono (send_RR h0 h51 h60 h62 hS hJt (fun b h => by rw [zU_ab _ _ _ (by omega), zU_ab _ _ _ (by omega), zU_ab _ _ _ (by omega)]) (fun i hi a b => ?_)) (by omega), ?_, ?_, KP_U (KP_U (KP_U (KP_U (KP_U (KP_r X) (by omega)) (by omega)) (by omega)) (by omega)) (by omega), fun d Q hQ => ?_, fun Y hY rY => ⟨zU (zU (zU (zU (zU Y 77 q 1) 78 q t) 63 t (Y 63 t + 1)) 62 t (q + 1)) 60 t (if q = 3 then 12 else 11), AG_U (AG_U (AG_U (AG_U (AG_U hY rfl) rfl) (by rw [hY 63 (by decide) (by decide)])) rfl) rfl, FR_U (FR_U (FR_U (FR_U (FR_U (FR_r Y) (by omega) (by omega)) (by omega) (by omega)) (by omega) (by omega)) (by omega) (by omega)) (by omega) (by omega), fun d Q hQ => ?_⟩⟩
    · by_cases ei : i = q
      · omega
      · rw [zU_ne (by decide), zU_ne (by decide), zU_k _ _ _ ei] at a
        rw [zU_ne (by decide), zU_k _ _ _ ei, zU_ne (by decide)] at b
        have := (hTL i hi a b).2.2 h60
        omega
    · rw [zU_ab _ _ _ (by decide), zU_ab _ _ _ (by decide), zU_ab _ _ _ (by decide), zU_ab _ _ _ (by decide), zU_ab _ _ _ (by decide)]
    · split
      · exact CF_U (CF_U (adJ_CF (by omega)) (by omega)) (by omega)
      · exact CF_U (CF_U (CF_U (CF_U (adJ_CF (by omega)) (by omega)) (by omega)) (by omega)) (by omega)
    · refine s_mp11 (d := d + 2) k1 kt hjp (fun Q' hQ' => s_sendB (d := d + 1) (q := q) (x := t) (ow := J (ta t) 8) hk py.1 kt rJ t79 (by omega) (by omega) (by rw [hyc]; omega) hN.1 rfl (by omega) (by omega) (fun a => ?_) (fun a => ?_)) hQ
      · rw [if_pos a] at hQ'; exact hQ'
      · rw [if_neg a] at hQ'; exact hQ'
    · rw [hact]
      exact m_shoot11b (d := d + 1) (q := q) (ow := Y 63 t) hm rY hp c1 (by rw [hY 60 (by decide) (by decide)]; exact h60) (by rw [hY 62 (by decide) (by decide)]; exact h62) (by omega) c rfl hQ
end PC
