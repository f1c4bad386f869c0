/-! Two memories become one; run. -/
section RJ
variable {B nT n w t p : Nat} {ta : Nat → Nat} {oa : Nat → Nat → Nat} {J X J' X' : Mem} {K : Nat → Option ZK} {P : Nat → Nat → Option Nat}
set_option maxHeartbeats 1000000 in
theorem RR_join (hs : SH K P n nT ta oa X) (hR : RR B nT ta oa J X) (hJ : ∀ c, c < 49 ∨ 78 < c → J' c = J c) (hX : ∀ b, 49 ≤ b ∧ b ≤ 78 → X' b = X b) (hZ : gZ J' X') : RR B nT ta oa J' X' := by
  obtain ⟨rS, rW, rT, rE, rN, rO, rH, rC, rQ, rP, rD, rK, rF, rR, rM, rA, rL, rB, rU, rZ⟩ := hR
  obtain ⟨s1, s2, s3, s4, s5, s6, s7, s8, s9⟩ := hs
  have hta : ∀ u, u < nT → J' (ta u) = J (ta u) := fun u hu => hJ _ (by have := (s5 u hu).2.2.1; omega)
  have h9 : ∀ k, 0 ≤ k → X' 49 k = X 49 k := fun k _ => by rw [hX 49 (by omega)]
  have h11 : X 49 11 ≤ X' 49 11 := by rw [h9 11 (by omega)]; exact Int.le_refl _
  have hkb : ∀ u, kb X' u = kb X u := fun u => by unfold kb; rw [hX 60 (by omega), hX 62 (by omega)]
  have hoi : ∀ u, oi X' u = oi X u := fun u => oi_c (by rw [hX 51 (by omega)])
  have hkcf : ∀ u, u < nT → kc X' u = kc X u ∧ ∀ j : Nat, (j : Int) < kc X u → kf X' u j = kf X u j := fun u _ => ⟨by unfold kc; rw [hkb, hoi, hX 58 (by omega), hX 52 (by omega), hX 60 (by omega), hX 67 (by omega)], fun j _ => by unfold kf; rw [hkb, hX 66 (by omega)]⟩
  refine ⟨gS_c rS (by rw [hJ 1 (by omega)]) (by rw [hJ 1 (by omega)]) (by rw [hJ 1 (by omega)]) (by rw [hJ 1 (by omega)]) (h9 0 (by omega)) (h9 20 (by omega)) (h9 21 (by omega)) (h9 33 (by omega)), gW_c rW (hJ 46 (by omega)) (hX 71 (by omega)), gT_c rT (hJ 47 (by omega)) (hX 68 (by omega)) (hX 69 (by omega)), gE_c rE (hJ 48 (by omega)) (hX 70 (by omega)), gN_c rN (fun u hu => by rw [hta u hu]; exact ⟨rfl, rfl, rfl⟩) (hX 50 (by omega)) (hX 51 (by omega)), ?_, gH_c rH (fun u hu => by rw [hta u hu]) (hX 50 (by omega)) (hX 51 (by omega)) (hX 57 (by omega)) (hX 58 (by omega)), gC_c rC (fun p hp => hJ _ (by omega)) (hX 57 (by omega)) (hX 58 (by omega)), gQ_c rQ (fun p hp => ⟨hJ _ (by omega), hJ _ (by omega)⟩) (hX 57 (by omega)) (hX 58 (by omega)) (hX 59 (by omega)) h11, ?_, ?_, gK_c rK (fun u hu => ⟨by rw [hJ (ta u + 2) (by have := (s5 u hu).2.2.1; omega)], hJ (ta u + 2 + 1) (by have := (s5 u hu).2.2.1; omega)⟩) hkcf, gF_c rF (hX 68 (by omega)) (hX 75 (by omega)) (hX 76 (by omega)) h11 hkcf, gR_c rR (fun p hp => ⟨hJ _ (by omega), hJ _ (by omega)⟩) (hJ 44 (by omega)) (hJ 45 (by omega)) (hX 75 (by omega)) (hX 76 (by omega)), ?_, gA_c rA (fun u hu => by rw [hta u hu]) (hX 63 (by omega)) (hX 77 (by omega)) (hX 78 (by omega)), ?_, gB_c rB (fun p hp => ⟨hJ _ (by omega), hJ _ (by omega), hJ _ (by omega)⟩) (hX 72 (by omega)) (hX 73 (by omega)) (hX 74 (by omega)) h11, gU_c rU (h9 33 (by omega)) (h9 11 (by omega)) (h9 20 (by omega)), hZ⟩
  · exact gO_c rO (fun u hu k hk => hJ _ (by have := (s7 u hu k hk).2.2.1; omega)) (hX 50 (by omega)) (hX 51 (by omega)) (hX 52 (by omega)) (hX 53 (by omega)) (hX 54 (by omega)) (hX 55 (by omega)) (hX 56 (by omega))
  · intro u hu h
    rw [hX 58 (by omega)] at h
    rw [hoi]
    have j := hta u hu
    exact TH_c (rP u hu h) (by rw [j]) (by rw [j]) (by rw [j]) (by rw [j]) (by rw [h9 20 (by omega)]; exact Int.le_refl _) (h9 21 (by omega)) (by rw [hX 52 (by omega)]) (by rw [hX 54 (by omega)]) (by rw [hX 58 (by omega)]) (by rw [hX 60 (by omega)]) (by rw [hX 61 (by omega)]) (by rw [hX 62 (by omega)]) (by rw [hX 64 (by omega)]) (by rw [hX 65 (by omega)]) (by rw [hX 67 (by omega)]) (fun _ q => by rw [hX 72 (by omega), hX 57 (by omega), hX 53 (by omega)]; exact q)
  · unfold gD
    rw [hX 58 (by omega), hX 60 (by omega), hX 61 (by omega)]; exact rD
  · intro u hu
    have h57 := rH u hu
    rw [hoi, hX 58 (by omega), hX 60 (by omega), hX 52 (by omega), hX 54 (by omega), hX 62 (by omega), hX 57 (by omega), hJ (4 + 10 * (X 57 u).toNat + 4) (by omega), hJ 44 (by omega)]
    exact rM u hu
  · exact gL_c rL (fun q hq => by rw [hJ (4 + 10 * q + 6) (by omega), hJ (4 + 10 * q + 6 + 1) (by omega)]; exact ⟨rfl, rfl⟩) (fun u _ a _ => by rw [hX 58 (by omega)]; exact a) (fun u _ _ _ => Or.inl (by rw [hX 60 (by omega), hX 62 (by omega)]; exact ⟨rfl, fun _ => Int.le_refl _⟩)) (hX 77 (by omega)) (hX 78 (by omega))
theorem RG_join {Y J X : Mem} (h1 : AG Y X) (h2 : FRm Y J) (r1 : RG J) (r2 : RG X) : RG Y := fun a j => by
  by_cases c : 49 ≤ a ∧ a ≤ 78
  · rw [h1 a c.1 c.2]; exact r2 a j
  · rw [h2 a (by omega)]; exact r1 a j
/-- class's end J', reference's end X': both in one memory Y -/
theorem RR_one {Y : Mem} (hs : SH K P n nT ta oa X') (hR : RR B nT ta oa J' X') (h1 : AG Y X') (h2 : FRm Y J') : RR B nT ta oa Y Y := by
  have rZ := hR.2.2.2.2.2.2.2.2.2.2.2.2.2.2.2.2.2.2.2
  have rY := RG_join h1 h2 rZ.1 rZ.2
  exact RR_join hs hR (fun c hc => h2 c hc) (fun b hb => h1 b hb.1 hb.2) ⟨rY, rY⟩
end RJ
theorem run_bits (x : Int32) (i : Nat) (hi : i < 16) : ∃ p : Nat, p < 4 ∧ ((x.toUInt32 >>> ((zi (2 * (i : Int))).toUInt32 &&& Int32.toUInt32 31)).toInt32) &&& zi 3 = zi p ∧ (x >>> (zi (2 * (i : Int)) &&& 31)) &&& zi 3 = zi p := by
  have h1 : ∀ v : BitVec 32, (zi ((v.toNat : Nat) : Int)).toBitVec = v := fun v => by
    unfold zi
    rw [Int32.toBitVec_ofInt, BitVec.ofInt_natCast]
    simp
  have hc : i = 0 ∨ i = 1 ∨ i = 2 ∨ i = 3 ∨ i = 4 ∨ i = 5 ∨ i = 6 ∨ i = 7 ∨ i = 8 ∨ i = 9 ∨ i = 10 ∨ i = 11 ∨ i = 12 ∨ i = 13 ∨ i = 14 ∨ i = 15 := by omega
  refine ⟨((x.toBitVec >>> (2 * i)) &&& 3#32).toNat, ?_, ?_, ?_⟩
  · have : ((x.toBitVec >>> (2 * i)) &&& 3#32).toNat ≤ 3 := by
      rw [BitVec.toNat_and]
      exact Nat.and_le_right
    omega
  · apply Int32.toBitVec_inj.mp
    rw [h1]
    rcases hc with e | e | e | e | e | e | e | e | e | e | e | e | e | e | e | e <;> subst e <;> rfl
  · apply Int32.toBitVec_inj.mp
    rw [h1]
    have h2 : ((x >>> (zi (2 * (i : Int)) &&& 31)) &&& zi 3).toBitVec = x.toBitVec.sshiftRight (2 * i) &&& 3#32 := by
      rcases hc with e | e | e | e | e | e | e | e | e | e | e | e | e | e | e | e <;> subst e <;> rfl
    have h3 : ∀ j, j < 32 → 2 ≤ j → (3#32).getLsbD j = false := by decide
    rw [h2]
    apply BitVec.eq_of_getLsbD_eq
    intro j hj
    rw [BitVec.getLsbD_and, BitVec.getLsbD_and]
    by_cases c : j < 2
    · rw [BitVec.getLsbD_sshiftRight, BitVec.getLsbD_ushiftRight]
      simp [show ¬ 32 ≤ j by omega, show 2 * i + j < 32 by omega]
    · rw [h3 j hj (by omega)]; simp
section RN
variable {nT n w : Nat} {ta : Nat → Nat} {oa : Nat → Nat → Nat} {K : Nat → Option ZK} {P : Nat → Nat → Option Nat}
set_option maxHeartbeats 4000000 in
theorem run_c {d p i k : Nat} {x : Int32} {c a : Int} {J J1 : Mem} {T : ZL} {Q : Option ZV → ZH → Prop} (hk : krn K P) (hp : p < 4) (hi : i < k) (hk16 : k ≤ 16) (hT : ∀ v, zset T 5 v = [(5, v)]) (hc0 : 0 ≤ c) (hc1 : c ≤ 16) (ha0 : 0 ≤ a) (ha1 : a ≤ 31) (hb : ((x.toUInt32 >>> ((zi (2 * (i : Int))).toUInt32 &&& Int32.toUInt32 31)).toInt32) &&& zi 3 = zi p)
    (h : ∀ Q' : Option ZV → ZH → Prop, Q' (some (.inl (zi a))) (K, zm J1, P, n, w) → zT (d + 4) 25 0 [(0, .inr (some 1)), (1, .inr (some (4 + 10 * p)))] [] (K, zm J, P, n, w) Q')
    (hQ : zT (d + 5) 9 18 [(0, .inr (some 1)), (1, .inl x), (2, .inl (zi k)), (3, .inl (zi (c + (if 16 ≤ a then 1 else 0)))), (4, .inl (zi ((i : Int) + 1))), (5, .inl (zi p))] [] (K, zm J1, P, n, w) Q) : zT (d + 5) 9 18 ((0, .inr (some 1)) :: (1, .inl x) :: (2, .inl (zi k)) :: (3, .inl (zi c)) :: (4, .inl (zi i)) :: T) [] (K, zm J, P, n, w) Q := by
  obtain ⟨k1, p10, k2, p12, k3, p13, l44, p14, k46, p15, k47, p16, k48, p3, pp⟩ := hk
  have e1 : ¬ (k : Int) ≤ i := by omega
  have e2 := p3 p hp
  rw [zt_9_18]
  simp (disch := omega) only [zt_9_20, zt_9_21, zt_9_24, zt_9_25, zt_9_26, zt_9_28, zt_9_29, zt_9_30, zt_9_31, zt_9_32, zt_9_34, zt_9_35, zt_9_36, zt_9_39, zt_9_41, zt_9_42, zx_const, zx_iload, zx_aload, zx_istore, zx_astore, zx_iinc, zx_add, zx_sub, zx_mul, zx_dup, zx_dup2, zx_pop, zx_cmp, zx_if, zx_goto, zx_ifnull0, zx_ifnull1, zx_ifnn0, zx_ifnn1, zx_null, zx_geti, zx_getr, zx_puti, zx_putr, zx_iald, zx_iast, zx_zald, zx_zast, zx_aald, zx_aast, zx_alen, zx_obj, zx_ret, zx_iret, zx_zret, zx_aret, zo1_s, zo2_s, zget_s, zget_ne, zset_s, zset_ne, zset_0, zc_eq, zc_ne, zc_lt, zc_ge, zc_gt, zc_le, zi_add, zi_sub, zi_mul, zi_lt, zi_le, zi_eq, Nat.reduceBEq, zU_s, zU_k, zU_ne, if_true, if_false, not_true_eq_false, not_false_eq_true, Option.toList_some, Option.toList_none, List.cons_append, List.nil_append, Int.toNat_natCast, and_true, true_and, zcs1_0, zcv1_0, zcs2_0, zcv2_0, zcs3_0, zcv3_0, zcs4_0, zcv4_0, zcs5_0, zcv5_0, zcs6_0, zcv6_0, zcs1_1, zcv1_1, zcs2_1, zcv2_1, zcs3_1, zcv3_1, zcs4_1, zcv4_1, zcs5_1, zcv5_1, zcs6_1, zcv6_1, zcs1_2, zcv1_2, zcs2_2, zcv2_2, zcs3_2, zcv3_2, zcs4_2, zcv4_2, zcs5_2, zcv5_2, zcs6_2, zcv6_2, zcs1_3, zcv1_3, zcs2_3, zcv2_3, zcs3_3, zcv3_3, zcs4_3, zcv4_3, zcs5_3, zcv5_3, zcs6_3, zcv6_3, zcs1_4, zcv1_4, zcs2_4, zcv2_4, zcs3_4, zcv3_4, zcs4_4, zcv4_4, zcs5_4, zcv5_4, zcs6_4, zcv6_4, zx_ushr, zx_and, e1, hb, hT, p12, k3, k1, e2]
  refine h _ ?_
  by_cases c1 : a < 16
  · rw [if_neg (by omega), Int.add_zero] at hQ
    simp (disch := omega) only [zt_9_45, zt_9_47, zt_9_50, zt_9_53, zt_9_56, zx_const, zx_iload, zx_aload, zx_istore, zx_astore, zx_iinc, zx_add, zx_sub, zx_mul, zx_dup, zx_dup2, zx_pop, zx_cmp, zx_if, zx_goto, zx_ifnull0, zx_ifnull1, zx_ifnn0, zx_ifnn1, zx_null, zx_geti, zx_getr, zx_puti, zx_putr, zx_iald, zx_iast, zx_zald, zx_zast, zx_aald, zx_aast, zx_alen, zx_obj, zx_ret, zx_iret, zx_zret, zx_aret, zo1_s, zo2_s, zget_s, zget_ne, zset_s, zset_ne, zset_0, zc_eq, zc_ne, zc_lt, zc_ge, zc_gt, zc_le, zi_add, zi_sub, zi_mul, zi_lt, zi_le, zi_eq, Nat.reduceBEq, zU_s, zU_k, zU_ne, if_true, if_false, not_true_eq_false, not_false_eq_true, Option.toList_some, Option.toList_none, List.cons_append, List.nil_append, Int.toNat_natCast, and_true, true_and, c1]
    exact hQ
  · rw [if_pos (by omega)] at hQ
    simp (disch := omega) only [zt_9_45, zt_9_47, zt_9_50, zt_9_53, zt_9_56, zx_const, zx_iload, zx_aload, zx_istore, zx_astore, zx_iinc, zx_add, zx_sub, zx_mul, zx_dup, zx_dup2, zx_pop, zx_cmp, zx_if, zx_goto, zx_ifnull0, zx_ifnull1, zx_ifnn0, zx_ifnn1, zx_null, zx_geti, zx_getr, zx_puti, zx_putr, zx_iald, zx_iast, zx_zald, zx_zast, zx_aald, zx_aast, zx_alen, zx_obj, zx_ret, zx_iret, zx_zret, zx_aret, zo1_s, zo2_s, zget_s, zget_ne, zset_s, zset_ne, zset_0, zc_eq, zc_ne, zc_lt, zc_ge, zc_gt, zc_le, zi_add, zi_sub, zi_mul, zi_lt, zi_le, zi_eq, Nat.reduceBEq, zU_s, zU_k, zU_ne, if_true, if_false, not_true_eq_false, not_false_eq_true, Option.toList_some, Option.toList_none, List.cons_append, List.nil_append, Int.toNat_natCast, and_true, true_and, c1]
    exact hQ
set_option maxHeartbeats 4000000 in
theorem run_m {d p i k : Nat} {x : Int32} {c a : Int} {J J1 : Mem} {T : ZL} {Q : Option ZV → ZH → Prop} (hm : msh K P) (hi : i < k) (hk16 : k ≤ 16) (hT : ∀ v, zset T 5 v = [(5, v)]) (hc0 : 0 ≤ c) (hc1 : c ≤ 16) (ha0 : 0 ≤ a) (ha1 : a ≤ 31) (hb : (x >>> (zi (2 * (i : Int)) &&& 31)) &&& zi 3 = zi p)
    (h : ∀ Q' : Option ZV → ZH → Prop, Q' (some (.inl (zi a))) (K, zm J1, P, n, w) → zT (d + 4) 85 0 [(0, .inr (some 49)), (1, .inl (zi p))] [] (K, zm J, P, n, w) Q')
    (hQ : zT (d + 5) 86 18 [(0, .inr (some 49)), (1, .inl x), (2, .inl (zi k)), (3, .inl (zi (c + (if 16 ≤ a then 1 else 0)))), (4, .inl (zi ((i : Int) + 1))), (5, .inl (zi a))] [] (K, zm J1, P, n, w) Q) : zT (d + 5) 86 18 ((0, .inr (some 49)) :: (1, .inl x) :: (2, .inl (zi k)) :: (3, .inl (zi c)) :: (4, .inl (zi i)) :: T) [] (K, zm J, P, n, w) Q := by
  have k49 := hm.1
  have e1 : ¬ (k : Int) ≤ i := by omega
  rw [zt_86_18]
  simp (disch := omega) only [zt_86_20, zt_86_21, zt_86_24, zt_86_25, zt_86_26, zt_86_27, zt_86_29, zt_86_30, zt_86_31, zt_86_32, zt_86_33, zx_const, zx_iload, zx_aload, zx_istore, zx_astore, zx_iinc, zx_add, zx_sub, zx_mul, zx_dup, zx_dup2, zx_pop, zx_cmp, zx_if, zx_goto, zx_ifnull0, zx_ifnull1, zx_ifnn0, zx_ifnn1, zx_null, zx_geti, zx_getr, zx_puti, zx_putr, zx_iald, zx_iast, zx_zald, zx_zast, zx_aald, zx_aast, zx_alen, zx_obj, zx_ret, zx_iret, zx_zret, zx_aret, zo1_s, zo2_s, zget_s, zget_ne, zset_s, zset_ne, zset_0, zc_eq, zc_ne, zc_lt, zc_ge, zc_gt, zc_le, zi_add, zi_sub, zi_mul, zi_lt, zi_le, zi_eq, Nat.reduceBEq, zU_s, zU_k, zU_ne, if_true, if_false, not_true_eq_false, not_false_eq_true, Option.toList_some, Option.toList_none, List.cons_append, List.nil_append, Int.toNat_natCast, and_true, true_and, zcs1_0, zcv1_0, zcs2_0, zcv2_0, zcs3_0, zcv3_0, zcs4_0, zcv4_0, zcs5_0, zcv5_0, zcs6_0, zcv6_0, zcs1_1, zcv1_1, zcs2_1, zcv2_1, zcs3_1, zcv3_1, zcs4_1, zcv4_1, zcs5_1, zcv5_1, zcs6_1, zcv6_1, zcs1_2, zcv1_2, zcs2_2, zcv2_2, zcs3_2, zcv3_2, zcs4_2, zcv4_2, zcs5_2, zcv5_2, zcs6_2, zcv6_2, zcs1_3, zcv1_3, zcs2_3, zcv2_3, zcs3_3, zcv3_3, zcs4_3, zcv4_3, zcs5_3, zcv5_3, zcs6_3, zcv6_3, zcs1_4, zcv1_4, zcs2_4, zcv2_4, zcs3_4, zcv3_4, zcs4_4, zcv4_4, zcs5_4, zcv5_4, zcs6_4, zcv6_4, zx_shr, zx_and, e1, hb, k49]
  refine h _ ?_
  by_cases c1 : a < 16
  · rw [if_neg (by omega), Int.add_zero] at hQ
    simp (disch := omega) only [zt_86_36, zt_86_38, zt_86_39, zt_86_41, zt_86_43, zt_86_46, zt_86_47, zt_86_50, zt_86_51, zt_86_52, zt_86_53, zt_86_56, zx_const, zx_iload, zx_aload, zx_istore, zx_astore, zx_iinc, zx_add, zx_sub, zx_mul, zx_dup, zx_dup2, zx_pop, zx_cmp, zx_if, zx_goto, zx_ifnull0, zx_ifnull1, zx_ifnn0, zx_ifnn1, zx_null, zx_geti, zx_getr, zx_puti, zx_putr, zx_iald, zx_iast, zx_zald, zx_zast, zx_aald, zx_aast, zx_alen, zx_obj, zx_ret, zx_iret, zx_zret, zx_aret, zo1_s, zo2_s, zget_s, zget_ne, zset_s, zset_ne, zset_0, zc_eq, zc_ne, zc_lt, zc_ge, zc_gt, zc_le, zi_add, zi_sub, zi_mul, zi_lt, zi_le, zi_eq, Nat.reduceBEq, zU_s, zU_k, zU_ne, if_true, if_false, not_true_eq_false, not_false_eq_true, Option.toList_some, Option.toList_none, List.cons_append, List.nil_append, Int.toNat_natCast, and_true, true_and, hT, c1]
    rw [Int.add_zero]
    exact hQ
  · rw [if_pos (by omega)] at hQ
    simp (disch := omega) only [zt_86_36, zt_86_38, zt_86_39, zt_86_41, zt_86_43, zt_86_46, zt_86_47, zt_86_50, zt_86_51, zt_86_52, zt_86_53, zt_86_56, zx_const, zx_iload, zx_aload, zx_istore, zx_astore, zx_iinc, zx_add, zx_sub, zx_mul, zx_dup, zx_dup2, zx_pop, zx_cmp, zx_if, zx_goto, zx_ifnull0, zx_ifnull1, zx_ifnn0, zx_ifnn1, zx_null, zx_geti, zx_getr, zx_puti, zx_putr, zx_iald, zx_iast, zx_zald, zx_zast, zx_aald, zx_aast, zx_alen, zx_obj, zx_ret, zx_iret, zx_zret, zx_aret, zo1_s, zo2_s, zget_s, zget_ne, zset_s, zset_ne, zset_0, zc_eq, zc_ne, zc_lt, zc_ge, zc_gt, zc_le, zi_add, zi_sub, zi_mul, zi_lt, zi_le, zi_eq, Nat.reduceBEq, zU_s, zU_k, zU_ne, if_true, if_false, not_true_eq_false, not_false_eq_true, Option.toList_some, Option.toList_none, List.cons_append, List.nil_append, Int.toNat_natCast, and_true, true_and, hT, c1]
    exact hQ
set_option maxHeartbeats 4000000 in
theorem run_loop {k : Nat} {x : Int32} (hk16 : k ≤ 16) : ∀ (m i B : Nat) (c : Int) (J X : Mem), i + m = k → 0 ≤ c → c ≤ i → SH K P n nT ta oa X → RR B nT ta oa J X → B + 3 * m < 99000 → ∃ (J' X' : Mem) (c' : Int), RR (B + 3 * m) nT ta oa J' X' ∧ X' 50 = X 50 ∧ CFR J' J ∧ KP nT X' X ∧ (∀ (d : Nat) (T : ZL) (Q : Option ZV → ZH → Prop), (∀ v, zset T 5 v = [(5, v)]) → Q (some (.inl (zi c'))) (K, zm J', P, n, w) → zT (d + 5) 9 18 ((0, .inr (some 1)) :: (1, .inl x) :: (2, .inl (zi k)) :: (3, .inl (zi c)) :: (4, .inl (zi i)) :: T) [] (K, zm J, P, n, w) Q)
    ∧ ∀ Y, AG Y X → RG Y → ∃ Y', AG Y' X' ∧ FRm Y' Y ∧ ∀ (d : Nat) (T : ZL) (Q : Option ZV → ZH → Prop), (∀ v, zset T 5 v = [(5, v)]) → Q (some (.inl (zi c'))) (K, zm Y', P, n, w) → zT (d + 5) 86 18 ((0, .inr (some 49)) :: (1, .inl x) :: (2, .inl (zi k)) :: (3, .inl (zi c)) :: (4, .inl (zi i)) :: T) [] (K, zm Y, P, n, w) Q := by
  intro m
  induction m with
  | zero =>
    intro i B c J X hi hc0 hci hs hR hB
    have e1 : (k : Int) ≤ i := by omega
    refine ⟨J, X, c, hR, rfl, CF_r J, KP_r X, fun d T Q hT hQ => ?_, fun Y hY rY => ⟨Y, hY, FR_r Y, fun d T Q hT hQ => ?_⟩⟩
    · simp (disch := omega) only [zt_9_18, zt_9_20, zt_9_21, zt_9_59, zt_9_60, zx_const, zx_iload, zx_aload, zx_istore, zx_astore, zx_iinc, zx_add, zx_sub, zx_mul, zx_dup, zx_dup2, zx_pop, zx_cmp, zx_if, zx_goto, zx_ifnull0, zx_ifnull1, zx_ifnn0, zx_ifnn1, zx_null, zx_geti, zx_getr, zx_puti, zx_putr, zx_iald, zx_iast, zx_zald, zx_zast, zx_aald, zx_aast, zx_alen, zx_obj, zx_ret, zx_iret, zx_zret, zx_aret, zo1_s, zo2_s, zget_s, zget_ne, zset_s, zset_ne, zset_0, zc_eq, zc_ne, zc_lt, zc_ge, zc_gt, zc_le, zi_add, zi_sub, zi_mul, zi_lt, zi_le, zi_eq, Nat.reduceBEq, zU_s, zU_k, zU_ne, if_true, if_false, not_true_eq_false, not_false_eq_true, Option.toList_some, Option.toList_none, List.cons_append, List.nil_append, Int.toNat_natCast, and_true, true_and, e1]
      exact hQ
    · simp (disch := omega) only [zt_86_18, zt_86_20, zt_86_21, zt_86_59, zt_86_60, zx_const, zx_iload, zx_aload, zx_istore, zx_astore, zx_iinc, zx_add, zx_sub, zx_mul, zx_dup, zx_dup2, zx_pop, zx_cmp, zx_if, zx_goto, zx_ifnull0, zx_ifnull1, zx_ifnn0, zx_ifnn1, zx_null, zx_geti, zx_getr, zx_puti, zx_putr, zx_iald, zx_iast, zx_zald, zx_zast, zx_aald, zx_aast, zx_alen, zx_obj, zx_ret, zx_iret, zx_zret, zx_aret, zo1_s, zo2_s, zget_s, zget_ne, zset_s, zset_ne, zset_0, zc_eq, zc_ne, zc_lt, zc_ge, zc_gt, zc_le, zi_add, zi_sub, zi_mul, zi_lt, zi_le, zi_eq, Nat.reduceBEq, zU_s, zU_k, zU_ne, if_true, if_false, not_true_eq_false, not_false_eq_true, Option.toList_some, Option.toList_none, List.cons_append, List.nil_append, Int.toNat_natCast, and_true, true_and, e1]
      exact hQ
  | succ m ih =>
    intro i B c J X hi hc0 hci hs hR hB
    obtain ⟨p, hp, hb1, hb2⟩ := run_bits x i (by omega)
    obtain ⟨J1, X1, a, r1, r2, r3, rK, r4, r5, r6⟩ := st_all (w := w) hs hR hp (by omega)
    have hs1 : SH K P n nT ta oa X1 := SH_c hs r2
    have hc1 : 0 ≤ c + (if 16 ≤ a then 1 else 0) ∧ c + (if 16 ≤ a then 1 else 0) ≤ (i : Int) + 1 := by split <;> omega
    obtain ⟨J2, X2, c2, q1, q2, q3, qK, q5, q6⟩ := ih (i + 1) (B + 3) (c + (if 16 ≤ a then 1 else 0)) J1 X1 (by omega) hc1.1 (by omega) hs1 r1 (by omega)
    refine ⟨J2, X2, c2, RR_mono q1 (by omega), by rw [q2, r2], CF_t q3 r3, KP_t qK rK, fun d T Q hT hQ => ?_, fun Y hY rY => ?_⟩
    · have := q5 d [(5, .inl (zi p))] Q (fun v => zset_s) hQ
      rw [nat1] at this
      exact run_c hs.1 hp (by omega) hk16 hT hc0 (by omega) r4.1 r4.2 hb1 (fun Q' hQ' => r5 d Q' hQ') this
    · obtain ⟨Y1, v1, v2, v3⟩ := r6 Y hY rY
      have rZ := r1.2.2.2.2.2.2.2.2.2.2.2.2.2.2.2.2.2.2.2
      obtain ⟨Y2, u1, u2, u3⟩ := q6 Y1 v1 (RG_join v1 v2 rY rZ.2)
      refine ⟨Y2, u1, FR_t u2 v2, fun d T Q hT hQ => ?_⟩
      have := u3 d [(5, .inl (zi a))] Q (fun v => zset_s) hQ
      rw [nat1] at this
      exact run_m hs.2.1 (by omega) hk16 hT hc0 (by omega) r4.1 r4.2 hb2 (fun Q' hQ' => v3 d Q' hQ') this
end RN
