/-! The class's constructor, the reference's, and the whole law. -/
section CK
variable {d : Nat} {K : Nat → Option ZK} {J : Nat → Nat → Int} {P : Nat → Nat → Option Nat} {n w : Nat} {Q : Option ZV → ZH → Prop}
/-- the class's end of its constructor -/
def KF (k0 : Option ZK) (s : Nat → Int) (K : Nat → Option ZK) (J : Mem) (P : Nat → Nat → Option Nat) : Prop := K 0 = k0 ∧ J 0 = s ∧ RG J ∧ krn K P ∧ (J 1 1 = 0 ∧ J 1 7 = 0 ∧ J 1 8 = 0 ∧ J 1 9 = 0) ∧ (∀ p, p < 4 → PVAL J (4 + 10 * p) p) ∧ J 44 1 = 10 ∧ (∀ j : Nat, j < 10 → J 45 j = j) ∧ J 46 = (fun _ => 0) ∧ (∀ g, g < 16 → J 47 g = -1) ∧ J 48 = (fun _ => 0)
set_option maxHeartbeats 1000000 in
theorem k_pool {J0 : Mem} (hl : zline K P 44 10) (k1 : K 1 = some (.inl 0)) (p13 : P 1 3 = some 44) (hQ : ∀ (J' : Mem), (∀ b, b ≠ 44 → b ≠ 45 → J' b = J0 b) → J' 44 1 = 10 → (∀ j : Nat, j < 10 → J' 45 j = j) → RG J' → zT (d + 4) 0 88 [(0, .inr (some 1)), (1, .inl (zi 10))] [] (K, zm J', P, n, w) Q) : ∀ (m i : Nat) (J : Mem), i + m = 10 → (∀ b, b ≠ 44 → b ≠ 45 → J b = J0 b) → J 44 1 = i → (∀ j : Nat, j < i → J 45 j = j) → RG J → zT (d + 4) 0 68 [(0, .inr (some 1)), (1, .inl (zi i))] [] (K, zm J, P, n, w) Q := by
  intro m
  have kl := hl.1
  induction m with
  | zero =>
    intro i J hi h1 h2 h3 h4
    have e : i = 10 := by omega
    subst e
    have c : (10 : Int) ≤ ((10 : Nat) : Int) := by omega
    simp (disch := first | omega | assumption) only [zt_0_68, zt_0_69, zt_0_71, zx_const, zx_iload, zx_aload, zx_istore, zx_astore, zx_iinc, zx_add, zx_sub, zx_mul, zx_dup, zx_dup2, zx_pop, zx_cmp, zx_if, zx_goto, zx_ifnull0, zx_ifnull1, zx_ifnn0, zx_ifnn1, zx_null, zx_geti, zx_getr, zx_puti, zx_putr, zx_iald, zx_iast, zx_zald, zx_zast, zx_aald, zx_aast, zx_alen, zx_obj, zx_ret, zx_iret, zx_zret, zx_aret, zo1_s, zo2_s, zget_s, zget_ne, zset_s, zset_ne, zset_0, zc_eq, zc_ne, zc_lt, zc_ge, zc_gt, zc_le, zi_add, zi_sub, zi_mul, zi_lt, zi_le, zi_eq, Nat.reduceBEq, zU_s, zU_k, zU_ne, if_true, if_false, not_true_eq_false, not_false_eq_true, Option.toList_some, Option.toList_none, List.cons_append, List.nil_append, Int.toNat_natCast, and_true, true_and, c]
    exact hQ J h1 h2 h3 h4
  | succ m ih =>
    intro i J hi h1 h2 h3 h4
    have c : ¬ (10 : Int) ≤ (i : Int) := by omega
    simp (disch := first | omega | assumption) only [zt_0_68, zt_0_69, zt_0_71, zt_0_74, zt_0_75, zt_0_78, zt_0_79, zx_const, zx_iload, zx_aload, zx_istore, zx_astore, zx_iinc, zx_add, zx_sub, zx_mul, zx_dup, zx_dup2, zx_pop, zx_cmp, zx_if, zx_goto, zx_ifnull0, zx_ifnull1, zx_ifnn0, zx_ifnn1, zx_null, zx_geti, zx_getr, zx_puti, zx_putr, zx_iald, zx_iast, zx_zald, zx_zast, zx_aald, zx_aast, zx_alen, zx_obj, zx_ret, zx_iret, zx_zret, zx_aret, zo1_s, zo2_s, zget_s, zget_ne, zset_s, zset_ne, zset_0, zc_eq, zc_ne, zc_lt, zc_ge, zc_gt, zc_le, zi_add, zi_sub, zi_mul, zi_lt, zi_le, zi_eq, Nat.reduceBEq, zU_s, zU_k, zU_ne, if_true, if_false, not_true_eq_false, not_false_eq_true, Option.toList_some, Option.toList_none, List.cons_append, List.nil_append, Int.toNat_natCast, and_true, true_and, zcs1_0, zcv1_0, zcs2_0, zcv2_0, zcs3_0, zcv3_0, zcs4_0, zcv4_0, zcs5_0, zcv5_0, zcs6_0, zcv6_0, zcs1_1, zcv1_1, zcs2_1, zcv2_1, zcs3_1, zcv3_1, zcs4_1, zcv4_1, zcs5_1, zcv5_1, zcs6_1, zcv6_1, zcs1_2, zcv1_2, zcs2_2, zcv2_2, zcs3_2, zcv3_2, zcs4_2, zcv4_2, zcs5_2, zcv5_2, zcs6_2, zcv6_2, zcs1_3, zcv1_3, zcs2_3, zcv2_3, zcs3_3, zcv3_3, zcs4_3, zcv4_3, zcs5_3, zcv5_3, zcs6_3, zcv6_3, zcs1_4, zcv1_4, zcs2_4, zcv2_4, zcs3_4, zcv3_4, zcs4_4, zcv4_4, zcs5_4, zcv5_4, zcs6_4, zcv6_4, p13, c]
    refine s_addLast hl (by omega) (by omega) ?_
    simp (disch := first | omega | assumption) only [zt_0_82, zt_0_85, zx_const, zx_iload, zx_aload, zx_istore, zx_astore, zx_iinc, zx_add, zx_sub, zx_mul, zx_dup, zx_dup2, zx_pop, zx_cmp, zx_if, zx_goto, zx_ifnull0, zx_ifnull1, zx_ifnn0, zx_ifnn1, zx_null, zx_geti, zx_getr, zx_puti, zx_putr, zx_iald, zx_iast, zx_zald, zx_zast, zx_aald, zx_aast, zx_alen, zx_obj, zx_ret, zx_iret, zx_zret, zx_aret, zo1_s, zo2_s, zget_s, zget_ne, zset_s, zset_ne, zset_0, zc_eq, zc_ne, zc_lt, zc_ge, zc_gt, zc_le, zi_add, zi_sub, zi_mul, zi_lt, zi_le, zi_eq, Nat.reduceBEq, zU_s, zU_k, zU_ne, if_true, if_false, not_true_eq_false, not_false_eq_true, Option.toList_some, Option.toList_none, List.cons_append, List.nil_append, Int.toNat_natCast, and_true, true_and]
    have := ih (i + 1) (zU (zU J (44 + 1) (J 44 1).toNat i) 44 1 (J 44 1 + 1)) (by omega) (fun b hb1 hb2 => by rw [zU_ab _ _ _ hb1, zU_ab _ _ _ (by omega)]; exact h1 b hb1 hb2) (by rw [zU_s]; omega) (fun j hj => ?_) (RG_U (RG_U h4 (by omega) (by omega)) (by omega) (by omega))
    · rw [nat1] at this
      exact this
    · rw [zU_ne (by omega), h2, Int.toNat_natCast]
      by_cases e : j = i
      · subst e; exact zU_s _ _ _ _
      · rw [zU_k _ _ _ e]; exact h3 j (by omega)
set_option maxHeartbeats 1000000 in
theorem k_table {J0 : Mem} (k1 : K 1 = some (.inl 0)) (k47 : K 47 = some (.inr (0, 16))) (p15 : P 1 5 = some 47) (hQ : ∀ (J' : Mem), (∀ b, b ≠ 47 → J' b = J0 b) → (∀ j : Nat, j < 16 → J' 47 j = -1) → RG J' → zT (d + 4) 0 125 [(0, .inr (some 1)), (1, .inl (zi 16))] [] (K, zm J', P, n, w) Q) : ∀ (m i : Nat) (J : Mem), i + m = 16 → (∀ b, b ≠ 47 → J b = J0 b) → (∀ j : Nat, j < i → J 47 j = -1) → RG J → zT (d + 4) 0 106 [(0, .inr (some 1)), (1, .inl (zi i))] [] (K, zm J, P, n, w) Q := by
  intro m
  induction m with
  | zero =>
    intro i J hi h1 h3 h4
    have e : i = 16 := by omega
    subst e
    have c : (16 : Int) ≤ ((16 : Nat) : Int) := by omega
    simp (disch := first | omega | assumption) only [zt_0_106, zt_0_107, zt_0_109, zx_const, zx_iload, zx_aload, zx_istore, zx_astore, zx_iinc, zx_add, zx_sub, zx_mul, zx_dup, zx_dup2, zx_pop, zx_cmp, zx_if, zx_goto, zx_ifnull0, zx_ifnull1, zx_ifnn0, zx_ifnn1, zx_null, zx_geti, zx_getr, zx_puti, zx_putr, zx_iald, zx_iast, zx_zald, zx_zast, zx_aald, zx_aast, zx_alen, zx_obj, zx_ret, zx_iret, zx_zret, zx_aret, zo1_s, zo2_s, zget_s, zget_ne, zset_s, zset_ne, zset_0, zc_eq, zc_ne, zc_lt, zc_ge, zc_gt, zc_le, zi_add, zi_sub, zi_mul, zi_lt, zi_le, zi_eq, Nat.reduceBEq, zU_s, zU_k, zU_ne, if_true, if_false, not_true_eq_false, not_false_eq_true, Option.toList_some, Option.toList_none, List.cons_append, List.nil_append, Int.toNat_natCast, and_true, true_and, c]
    exact hQ J h1 h3 h4
  | succ m ih =>
    intro i J hi h1 h3 h4
    have c : ¬ (16 : Int) ≤ (i : Int) := by omega
    rw [zt_0_106]
    simp (disch := first | omega | assumption) only [zt_0_107, zt_0_109, zt_0_112, zt_0_113, zt_0_116, zt_0_117, zt_0_118, zt_0_119, zt_0_122, zx_const, zx_iload, zx_aload, zx_istore, zx_astore, zx_iinc, zx_add, zx_sub, zx_mul, zx_dup, zx_dup2, zx_pop, zx_cmp, zx_if, zx_goto, zx_ifnull0, zx_ifnull1, zx_ifnn0, zx_ifnn1, zx_null, zx_geti, zx_getr, zx_puti, zx_putr, zx_iald, zx_iast, zx_zald, zx_zast, zx_aald, zx_aast, zx_alen, zx_obj, zx_ret, zx_iret, zx_zret, zx_aret, zo1_s, zo2_s, zget_s, zget_ne, zset_s, zset_ne, zset_0, zc_eq, zc_ne, zc_lt, zc_ge, zc_gt, zc_le, zi_add, zi_sub, zi_mul, zi_lt, zi_le, zi_eq, Nat.reduceBEq, zU_s, zU_k, zU_ne, if_true, if_false, not_true_eq_false, not_false_eq_true, Option.toList_some, Option.toList_none, List.cons_append, List.nil_append, Int.toNat_natCast, and_true, true_and, p15, c]
    have := ih (i + 1) (zU J 47 i (-1)) (by omega) (fun b hb1 => by rw [zU_ab _ _ _ hb1]; exact h1 b hb1) (fun j hj => ?_) (RG_U h4 (by omega) (by omega))
    · rw [nat1] at this
      exact this
    · by_cases e : j = i
      · subst e; exact zU_s _ _ _ _
      · rw [zU_k _ _ _ e]; exact h3 j (by omega)
set_option maxHeartbeats 8000000 in
theorem s_kernelI {k0 : Option ZK} {s : Nat → Int} (hk1 : K 1 = some (.inl 0)) (hk0 : K 0 = k0) (hj0 : J 0 = s) (hr : RG J) (hQ : ∀ K' J' P', KF k0 s K' J' P' → Q none (K', zm J', P', 49, w + 210)) : zT (d + 4) 0 0 [(0, .inr (some 1))] [] (K, zm J, P, 2, w) Q := by
  have e8 : ((8 : Int)).toNat = 8 := rfl
  have e4 : ((4 : Int)).toNat = 4 := rfl
  have e10 : ((10 : Int)).toNat = 10 := rfl
  have e16 : ((16 : Int)).toNat = 16 := rfl
  have z1 : zfn 1 = 2 := rfl
  have a1 : va_up K 2 (some (.inr (2, 8))) 1 = some (.inl 0) := by rw [va_up_ne _ _ (by omega)]; exact hk1
  have a2 : va_up (va_up K 2 (some (.inr (2, 8)))) (2 + 1) (some (.inr (3, 4))) 1 = some (.inl 0) := by rw [va_up_ne _ _ (by omega)]; exact a1
  simp (disch := first | omega | assumption | exact va_up_self _ _ _ | exact Nat.le_of_ble_eq_true rfl) only [zt_0_0, zt_0_1, zt_0_4, zt_0_5, zt_0_7, zt_0_10, zt_0_13, zt_0_14, zt_0_15, zt_0_18, zt_0_19, zt_0_20, zt_0_23, zt_0_26, zt_0_27, zx_const, zx_iload, zx_aload, zx_istore, zx_astore, zx_iinc, zx_add, zx_sub, zx_mul, zx_dup, zx_dup2, zx_pop, zx_cmp, zx_if, zx_goto, zx_ifnull0, zx_ifnull1, zx_ifnn0, zx_ifnn1, zx_null, zx_geti, zx_getr, zx_puti, zx_putr, zx_iald, zx_iast, zx_zald, zx_zast, zx_aald, zx_aast, zx_alen, zx_obj, zx_ret, zx_iret, zx_zret, zx_aret, zo1_s, zo2_s, zget_s, zget_ne, zset_s, zset_ne, zset_0, zc_eq, zc_ne, zc_lt, zc_ge, zc_gt, zc_le, zi_add, zi_sub, zi_mul, zi_lt, zi_le, zi_eq, Nat.reduceBEq, zU_s, zU_k, zU_ne, if_true, if_false, not_true_eq_false, not_false_eq_true, Option.toList_some, Option.toList_none, List.cons_append, List.nil_append, Int.toNat_natCast, and_true, true_and, zx_newa, e8, e4]
  refine k_procs (k0 := k0) (s := s) (w := w + 8 + 4) (fun K1 J1 P1 hI => ?_) 4 0 _ _ _ (by omega) ⟨?_, ?_, ?_, a2, ?_, ?_, ?_, ?_, ?_, fun p hp => by omega⟩
  · have hI0 := hI
    obtain ⟨h0, h1, h2, h3, h4, h5, h6, h7, h8, h9⟩ := hI
    simp (disch := first | omega | assumption | exact va_up_self _ _ _ | exact Nat.le_of_ble_eq_true rfl) only [zt_0_53, zt_0_54, zt_0_57, zt_0_58, zt_0_60, zx_const, zx_iload, zx_aload, zx_istore, zx_astore, zx_iinc, zx_add, zx_sub, zx_mul, zx_dup, zx_dup2, zx_pop, zx_cmp, zx_if, zx_goto, zx_ifnull0, zx_ifnull1, zx_ifnn0, zx_ifnn1, zx_null, zx_geti, zx_getr, zx_puti, zx_putr, zx_iald, zx_iast, zx_zald, zx_zast, zx_aald, zx_aast, zx_alen, zx_obj, zx_ret, zx_iret, zx_zret, zx_aret, zo1_s, zo2_s, zget_s, zget_ne, zset_s, zset_ne, zset_0, zc_eq, zc_ne, zc_lt, zc_ge, zc_gt, zc_le, zi_add, zi_sub, zi_mul, zi_lt, zi_le, zi_eq, Nat.reduceBEq, zU_s, zU_k, zU_ne, if_true, if_false, not_true_eq_false, not_false_eq_true, Option.toList_some, Option.toList_none, List.cons_append, List.nil_append, Int.toNat_natCast, and_true, true_and, zcs1_0, zcv1_0, zcs2_0, zcv2_0, zcs3_0, zcv3_0, zcs4_0, zcv4_0, zcs5_0, zcv5_0, zcs6_0, zcv6_0, zcs1_1, zcv1_1, zcs2_1, zcv2_1, zcs3_1, zcv3_1, zcs4_1, zcv4_1, zcs5_1, zcv5_1, zcs6_1, zcv6_1, zcs1_2, zcv1_2, zcs2_2, zcv2_2, zcs3_2, zcv3_2, zcs4_2, zcv4_2, zcs5_2, zcv5_2, zcs6_2, zcv6_2, zcs1_3, zcv1_3, zcs2_3, zcv2_3, zcs3_3, zcv3_3, zcs4_3, zcv4_3, zcs5_3, zcv5_3, zcs6_3, zcv6_3, zcs1_4, zcv1_4, zcs2_4, zcv2_4, zcs3_4, zcv3_4, zcs4_4, zcv4_4, zcs5_4, zcv5_4, zcs6_4, zcv6_4, zx_new, z1]
    refine s_LineN (n := 44) (c := 10) (w := w + 8 + 4 + 39 * 4) (by omega) h2 (fun K2 J2 P2 f2 b2 v2 r2 => ?_)
    have hI2 := KI_c hI0 f2 r2
    obtain ⟨g0, g1, g2, g3, g4, g5, g6, g7, g8, g9⟩ := hI2
    simp (disch := first | omega | assumption | exact va_up_self _ _ _ | exact Nat.le_of_ble_eq_true rfl) only [zt_0_63, zt_0_66, zt_0_67, zx_const, zx_iload, zx_aload, zx_istore, zx_astore, zx_iinc, zx_add, zx_sub, zx_mul, zx_dup, zx_dup2, zx_pop, zx_cmp, zx_if, zx_goto, zx_ifnull0, zx_ifnull1, zx_ifnn0, zx_ifnn1, zx_null, zx_geti, zx_getr, zx_puti, zx_putr, zx_iald, zx_iast, zx_zald, zx_zast, zx_aald, zx_aast, zx_alen, zx_obj, zx_ret, zx_iret, zx_zret, zx_aret, zo1_s, zo2_s, zget_s, zget_ne, zset_s, zset_ne, zset_0, zc_eq, zc_ne, zc_lt, zc_ge, zc_gt, zc_le, zi_add, zi_sub, zi_mul, zi_lt, zi_le, zi_eq, Nat.reduceBEq, zU_s, zU_k, zU_ne, if_true, if_false, not_true_eq_false, not_false_eq_true, Option.toList_some, Option.toList_none, List.cons_append, List.nil_append, Int.toNat_natCast, and_true, true_and]
    have p1 : ∀ a, a ≠ 1 → zU P2 1 3 (some 44) a = P2 a := fun a ha => zU_ab _ _ _ ha
    have p1k : ∀ k, k ≠ 3 → zU P2 1 3 (some 44) 1 k = P2 1 k := fun k hk => zU_k _ _ _ hk
    have p13 : zU P2 1 3 (some 44) 1 3 = some 44 := zU_s _ _ _ _
    generalize zU P2 1 3 (some 44) = P3 at *
    have hl3 : zline K2 P3 44 10 := ⟨b2.1, by rw [p1 44 (by omega)]; exact b2.2.1, b2.2.2.1, b2.2.2.2⟩
    refine k_pool (J0 := J2) hl3 g3 p13 (fun J3 s1 s2 s3 s4 => ?_) 10 0 J2 (by omega) (fun _ _ _ => rfl) v2 (fun j hj => by omega) r2
    have a3 : va_up K2 (44 + 2) (some (.inr (0, 10))) 1 = some (.inl 0) := by rw [va_up_ne _ _ (by omega)]; exact g3
    have a4 : va_up (va_up K2 (44 + 2) (some (.inr (0, 10)))) (44 + 2 + 1) (some (.inr (0, 16))) 1 = some (.inl 0) := by rw [va_up_ne _ _ (by omega)]; exact a3
    simp (disch := first | omega | assumption | exact va_up_self _ _ _ | exact Nat.le_of_ble_eq_true rfl) only [zt_0_88, zt_0_89, zt_0_91, zt_0_93, zt_0_96, zt_0_97, zt_0_99, zt_0_101, zt_0_104, zt_0_105, zx_const, zx_iload, zx_aload, zx_istore, zx_astore, zx_iinc, zx_add, zx_sub, zx_mul, zx_dup, zx_dup2, zx_pop, zx_cmp, zx_if, zx_goto, zx_ifnull0, zx_ifnull1, zx_ifnn0, zx_ifnn1, zx_null, zx_geti, zx_getr, zx_puti, zx_putr, zx_iald, zx_iast, zx_zald, zx_zast, zx_aald, zx_aast, zx_alen, zx_obj, zx_ret, zx_iret, zx_zret, zx_aret, zo1_s, zo2_s, zget_s, zget_ne, zset_s, zset_ne, zset_0, zc_eq, zc_ne, zc_lt, zc_ge, zc_gt, zc_le, zi_add, zi_sub, zi_mul, zi_lt, zi_le, zi_eq, Nat.reduceBEq, zU_s, zU_k, zU_ne, if_true, if_false, not_true_eq_false, not_false_eq_true, Option.toList_some, Option.toList_none, List.cons_append, List.nil_append, Int.toNat_natCast, and_true, true_and, zx_newa, e10, e16]
    have K4f : ∀ a, a < 46 → va_up (va_up K2 (44 + 2) (some (.inr (0, 10)))) (44 + 2 + 1) (some (.inr (0, 16))) a = K2 a := fun a ha => by rw [va_up_ne _ _ (by omega), va_up_ne _ _ (by omega)]
    have K46 : va_up (va_up K2 (44 + 2) (some (.inr (0, 10)))) (44 + 2 + 1) (some (.inr (0, 16))) 46 = some (.inr (0, 10)) := by rw [va_up_ne _ _ (by omega)]; exact va_up_self _ _ _
    have K47 : va_up (va_up K2 (44 + 2) (some (.inr (0, 10)))) (44 + 2 + 1) (some (.inr (0, 16))) 47 = some (.inr (0, 16)) := va_up_self _ _ _
    have J4f : ∀ a, a < 46 → va_up (va_up J3 (44 + 2) (fun _ => 0)) (44 + 2 + 1) (fun _ => 0) a = J3 a := fun a ha => by rw [va_up_ne _ _ (by omega), va_up_ne _ _ (by omega)]
    have J46 : va_up (va_up J3 (44 + 2) (fun _ => 0)) (44 + 2 + 1) (fun _ => 0) 46 = (fun _ => 0) := by rw [va_up_ne _ _ (by omega)]; exact va_up_self _ _ _
    have P4f : ∀ a, a < 46 → a ≠ 1 → zU (va_up (zU (va_up P3 (44 + 2) (fun _ => none)) 1 4 (some (44 + 2))) (44 + 2 + 1) (fun _ => none)) 1 5 (some (44 + 2 + 1)) a = P3 a := fun a ha h1 => by rw [zU_ab _ _ _ h1, va_up_ne _ _ (by omega), zU_ab _ _ _ h1, va_up_ne _ _ (by omega)]
    have P41 : ∀ k, k ≠ 4 → k ≠ 5 → zU (va_up (zU (va_up P3 (44 + 2) (fun _ => none)) 1 4 (some (44 + 2))) (44 + 2 + 1) (fun _ => none)) 1 5 (some (44 + 2 + 1)) 1 k = P3 1 k := fun k h4 h5 => by rw [zU_k _ _ _ h5, va_up_ne _ _ (by omega), zU_k _ _ _ h4, va_up_ne _ _ (by omega)]
    have P44 : zU (va_up (zU (va_up P3 (44 + 2) (fun _ => none)) 1 4 (some (44 + 2))) (44 + 2 + 1) (fun _ => none)) 1 5 (some (44 + 2 + 1)) 1 4 = some 46 := by rw [zU_k _ _ _ (by decide), va_up_ne _ _ (by omega), zU_s]
    have P45 : zU (va_up (zU (va_up P3 (44 + 2) (fun _ => none)) 1 4 (some (44 + 2))) (44 + 2 + 1) (fun _ => none)) 1 5 (some (44 + 2 + 1)) 1 5 = some 47 := zU_s _ _ _ _
    have r4 : RG (va_up (va_up J3 (44 + 2) (fun _ => 0)) (44 + 2 + 1) (fun _ => 0)) := RG_up (RG_up s4)
    generalize va_up (va_up K2 (44 + 2) (some (.inr (0, 10)))) (44 + 2 + 1) (some (.inr (0, 16))) = K4 at *
    generalize va_up (va_up J3 (44 + 2) (fun _ => 0)) (44 + 2 + 1) (fun _ => 0) = J4 at *
    generalize zU (va_up (zU (va_up P3 (44 + 2) (fun _ => none)) 1 4 (some (44 + 2))) (44 + 2 + 1) (fun _ => none)) 1 5 (some (44 + 2 + 1)) = P4 at *
    refine k_table (J0 := J4) a4 K47 P45 (fun J5 t1 t2 t3 => ?_) 16 0 J4 (by omega) (fun _ _ => rfl) (fun j hj => by omega) r4
    have a5 : va_up K4 (44 + 2 + 1 + 1) (some (.inr (1, 4))) 1 = some (.inl 0) := by rw [va_up_ne _ _ (by omega)]; exact a4
    simp (disch := first | omega | assumption | exact va_up_self _ _ _ | exact Nat.le_of_ble_eq_true rfl) only [zt_0_125, zt_0_126, zt_0_127, zt_0_129, zt_0_132, zt_0_133, zt_0_134, zt_0_137, zt_0_138, zt_0_139, zt_0_142, zt_0_143, zt_0_144, zt_0_147, zx_const, zx_iload, zx_aload, zx_istore, zx_astore, zx_iinc, zx_add, zx_sub, zx_mul, zx_dup, zx_dup2, zx_pop, zx_cmp, zx_if, zx_goto, zx_ifnull0, zx_ifnull1, zx_ifnn0, zx_ifnn1, zx_null, zx_geti, zx_getr, zx_puti, zx_putr, zx_iald, zx_iast, zx_zald, zx_zast, zx_aald, zx_aast, zx_alen, zx_obj, zx_ret, zx_iret, zx_zret, zx_aret, zo1_s, zo2_s, zget_s, zget_ne, zset_s, zset_ne, zset_0, zc_eq, zc_ne, zc_lt, zc_ge, zc_gt, zc_le, zi_add, zi_sub, zi_mul, zi_lt, zi_le, zi_eq, Nat.reduceBEq, zU_s, zU_k, zU_ne, if_true, if_false, not_true_eq_false, not_false_eq_true, Option.toList_some, Option.toList_none, List.cons_append, List.nil_append, Int.toNat_natCast, and_true, true_and, zx_newa, e4]
    have K5f : ∀ a, a < 48 → va_up K4 (44 + 2 + 1 + 1) (some (.inr (1, 4))) a = K4 a := fun a ha => va_up_ne _ _ (by omega)
    have K48 : va_up K4 (44 + 2 + 1 + 1) (some (.inr (1, 4))) 48 = some (.inr (1, 4)) := va_up_self _ _ _
    have P5f : ∀ a, a < 48 → a ≠ 1 → zU (va_up P4 (44 + 2 + 1 + 1) (fun _ => none)) 1 6 (some (44 + 2 + 1 + 1)) a = P4 a := fun a ha h1 => by rw [zU_ab _ _ _ h1, va_up_ne _ _ (by omega)]
    have P51 : ∀ k, k ≠ 6 → zU (va_up P4 (44 + 2 + 1 + 1) (fun _ => none)) 1 6 (some (44 + 2 + 1 + 1)) 1 k = P4 1 k := fun k h6 => by rw [zU_k _ _ _ h6, va_up_ne _ _ (by omega)]
    have P56 : zU (va_up P4 (44 + 2 + 1 + 1) (fun _ => none)) 1 6 (some (44 + 2 + 1 + 1)) 1 6 = some 48 := zU_s _ _ _ _
    have J5f : ∀ a, a < 48 → a ≠ 1 → zU (zU (zU (va_up J5 (44 + 2 + 1 + 1) (fun _ => 0)) 1 7 0) 1 8 0) 1 9 0 a = J5 a := fun a ha h1 => by rw [zU_ab _ _ _ h1, zU_ab _ _ _ h1, zU_ab _ _ _ h1, va_up_ne _ _ (by omega)]
    have J51 : zU (zU (zU (va_up J5 (44 + 2 + 1 + 1) (fun _ => 0)) 1 7 0) 1 8 0) 1 9 0 1 1 = J5 1 1 := by rw [zU_k _ _ _ (by decide), zU_k _ _ _ (by decide), zU_k _ _ _ (by decide), va_up_ne _ _ (by omega)]
    have J57 : zU (zU (zU (va_up J5 (44 + 2 + 1 + 1) (fun _ => 0)) 1 7 0) 1 8 0) 1 9 0 1 7 = 0 := by rw [zU_k _ _ _ (by decide), zU_k _ _ _ (by decide), zU_s]
    have J58 : zU (zU (zU (va_up J5 (44 + 2 + 1 + 1) (fun _ => 0)) 1 7 0) 1 8 0) 1 9 0 1 8 = 0 := by rw [zU_k _ _ _ (by decide), zU_s]
    have J59 : zU (zU (zU (va_up J5 (44 + 2 + 1 + 1) (fun _ => 0)) 1 7 0) 1 8 0) 1 9 0 1 9 = 0 := zU_s _ _ _ _
    have J548 : zU (zU (zU (va_up J5 (44 + 2 + 1 + 1) (fun _ => 0)) 1 7 0) 1 8 0) 1 9 0 48 = (fun _ => 0) := by rw [zU_ab _ _ _ (by decide), zU_ab _ _ _ (by decide), zU_ab _ _ _ (by decide)]; exact va_up_self _ _ _
    have r5 : RG (zU (zU (zU (va_up J5 (44 + 2 + 1 + 1) (fun _ => 0)) 1 7 0) 1 8 0) 1 9 0) := RG_U (RG_U (RG_U (RG_up t3) (by omega) (by omega)) (by omega) (by omega)) (by omega) (by omega)
    have hfin := hQ (va_up K4 (44 + 2 + 1 + 1) (some (.inr (1, 4)))) (zU (zU (zU (va_up J5 (44 + 2 + 1 + 1) (fun _ => 0)) 1 7 0) 1 8 0) 1 9 0) (zU (va_up P4 (44 + 2 + 1 + 1) (fun _ => none)) 1 6 (some (44 + 2 + 1 + 1)))
    rw [show w + 210 = w + 8 + 4 + 39 * 4 + 2 + 10 + 10 + 16 + 4 by omega] at hfin
    refine hfin ?_
    clear hfin hQ
    generalize zU (zU (zU (va_up J5 (44 + 2 + 1 + 1) (fun _ => 0)) 1 7 0) 1 8 0) 1 9 0 = J6 at *
    generalize zU (va_up P4 (44 + 2 + 1 + 1) (fun _ => none)) 1 6 (some (44 + 2 + 1 + 1)) = P6 at *
    generalize va_up K4 (44 + 2 + 1 + 1) (some (.inr (1, 4))) = K6 at *
    have kk : ∀ a, a < 46 → K6 a = K2 a := fun a ha => by rw [K5f a (by omega), K4f a ha]
    have pp : ∀ a, a < 46 → a ≠ 1 → P6 a = P2 a := fun a ha h1 => by rw [P5f a (by omega) h1, P4f a ha h1, p1 a h1]
    have pk : ∀ k, k ≠ 3 → k ≠ 4 → k ≠ 5 → k ≠ 6 → P6 1 k = P2 1 k := fun k h3 h4 h5 h6 => by rw [P51 k h6, P41 k h4 h5, p1k k h3]
    have j5 : ∀ a, a < 46 → a ≠ 1 → J6 a = J3 a := fun a ha h1 => by rw [J5f a (by omega) h1, t1 a (by omega), J4f a ha]
    have j6 : ∀ a, a < 44 → a ≠ 1 → J6 a = J2 a := fun a ha h1 => by rw [j5 a (by omega) h1, s1 a (by omega) (by omega)]
    refine ⟨by rw [kk 0 (by omega)]; exact g0, by rw [j6 0 (by omega) (by omega)]; exact g1, r5, ⟨by rw [kk 1 (by omega)]; exact g3, by rw [pk 0 (by decide) (by decide) (by decide) (by decide)]; exact g4, by rw [kk 2 (by omega)]; exact g5, by rw [pk 2 (by decide) (by decide) (by decide) (by decide)]; exact g6, by rw [kk 3 (by omega)]; exact g7, by rw [P51 3 (by decide), P41 3 (by decide) (by decide)]; exact p13, ⟨by rw [kk 44 (by omega)]; exact b2.1, by rw [pp 44 (by omega) (by omega)]; exact b2.2.1, by rw [kk (44 + 1) (by omega)]; exact b2.2.2.1, by omega⟩, by rw [P51 4 (by decide)]; exact P44, by rw [K5f 46 (by omega)]; exact K46, by rw [P51 5 (by decide)]; exact P45, by rw [K5f 47 (by omega)]; exact K47, P56, K48, fun p hp => ?_, fun p hp => ?_⟩, ⟨?_, J57, J58, J59⟩, fun p hp => ?_, ?_, fun j hj => ?_, ?_, fun g hg => ?_, J548⟩
    · rw [pp 3 (by omega) (by omega)]; exact (g9 p hp).1
    · exact prc_c (fun a q1 q2 => kk a (by omega)) (fun a q1 q2 => pp a (by omega) (by omega)) (g9 p hp).2.1
    · rw [J51, t1 1 (by omega), J4f 1 (by omega), s1 1 (by omega) (by omega)]; exact g8
    · obtain ⟨c1, c2, c3, c4, c5, c6⟩ := (g9 p hp).2.2
      refine ⟨?_, ?_, ?_, ?_, ?_, ?_⟩
      · rw [j6 _ (by omega) (by omega)]; exact c1
      · rw [j6 _ (by omega) (by omega)]; exact c2
      · rw [j6 _ (by omega) (by omega)]; exact c3
      · rw [j6 _ (by omega) (by omega)]; exact c4
      · rw [j6 _ (by omega) (by omega)]; exact c5
      · rw [j6 _ (by omega) (by omega)]; exact c6
    · rw [j5 44 (by omega) (by omega)]; exact s2
    · rw [j5 45 (by omega) (by omega)]; exact s3 j hj
    · rw [J5f 46 (by omega) (by omega), t1 46 (by omega)]; exact J46
    · rw [J5f 47 (by omega) (by omega)]; exact t2 g hg
  · rw [va_up_ne _ _ (by omega), va_up_ne _ _ (by omega)]; exact hk0
  · rw [va_up_ne _ _ (by omega), zU_ab _ _ _ (by omega), va_up_ne _ _ (by omega)]; exact hj0
  · exact RG_up (RG_U (RG_up hr) (by omega) (by omega))
  · rw [zU_k _ _ _ (by decide), va_up_ne _ _ (by omega), zU_s]
  · rw [va_up_ne _ _ (by omega)]; exact va_up_self _ _ _
  · exact zU_s _ _ _ _
  · exact va_up_self _ _ _
  · rw [va_up_ne _ _ (by omega), zU_s]

def mTy : List Nat := [0, 0, 0, 0, 0, 0, 0, 0, 0, 0, 0, 0, 0, 0, 0, 1, 0, 0, 0, 1, 1, 0, 0, 0, 1, 0, 0, 1, 0]
def mLn : List Nat := [8, 8, 80, 80, 80, 80, 80, 8, 8, 8, 8, 8, 8, 8, 8, 8, 32, 8, 16, 16, 4, 10, 64, 64, 64, 10, 10, 4, 4]
def mFl : List Nat := [1, 2, 3, 4, 5, 6, 7, 8, 9, 10, 12, 13, 14, 15, 16, 17, 18, 19, 22, 23, 24, 25, 26, 27, 28, 29, 30, 31, 32]
/-- the reference's rows, j of them made; K0 J0 P0 as before -/
def MI (K0 : Nat → Option ZK) (J0 : Mem) (P0 : Nat → Nat → Option Nat) (j : Nat) (K : Nat → Option ZK) (J : Mem) (P : Nat → Nat → Option Nat) : Prop := SAM 49 K0 K J0 J P0 P ∧ K 49 = some (.inl 6) ∧ J 49 = (fun _ => 0) ∧ RG J ∧ ∀ q, q < j → K (50 + q) = some (.inr (mTy.getD q 0, mLn.getD q 0)) ∧ P 49 (mFl.getD q 0) = some (50 + q) ∧ J (50 + q) = (fun _ => 0)
theorem MI_step {K0 : Nat → Option ZK} {J0 : Mem} {P0 : Nat → Nat → Option Nat} {j : Nat} (h : MI K0 J0 P0 j K J P) (hj : j < 29) : MI K0 J0 P0 (j + 1) (va_up K (50 + j) (some (.inr (mTy.getD j 0, mLn.getD j 0)))) (va_up J (50 + j) (fun _ => 0)) (zU (va_up P (50 + j) (fun _ => none)) 49 (mFl.getD j 0) (some (50 + j))) := by
  obtain ⟨h1, h2, h3, h4, h5⟩ := h
  have hne : ∀ j, j < 29 → ∀ q, q < j → mFl.getD q 0 ≠ mFl.getD j 0 := by decide
  refine ⟨fun b hb => ⟨?_, ?_, ?_⟩, ?_, ?_, RG_up h4, fun q hq => ?_⟩
  · rw [va_up_ne _ _ (by omega)]; exact (h1 b hb).1
  · rw [va_up_ne _ _ (by omega)]; exact (h1 b hb).2.1
  · rw [zU_ab _ _ _ (by omega), va_up_ne _ _ (by omega)]; exact (h1 b hb).2.2
  · rw [va_up_ne _ _ (by omega)]; exact h2
  · rw [va_up_ne _ _ (by omega)]; exact h3
  · by_cases e : q = j
    · subst e
      exact ⟨va_up_self _ _ _, zU_s _ _ _ _, va_up_self _ _ _⟩
    · obtain ⟨a1, a2, a3⟩ := h5 q (by omega)
      exact ⟨by rw [va_up_ne _ _ (by omega)]; exact a1, by rw [zU_k _ _ _ (hne j hj q (by omega)), va_up_ne _ _ (by omega)]; exact a2, by rw [va_up_ne _ _ (by omega)]; exact a3⟩
set_option maxHeartbeats 1000000 in
theorem mi_0 {K0 : Nat → Option ZK} {J0 : Mem} {P0 : Nat → Nat → Option Nat} (hM : MI K0 J0 P0 0 K J P) (hQ : ∀ K' J' P', MI K0 J0 P0 1 K' J' P' → zT (d + 1) 65 12 [(0, .inr (some 49))] [] (K', zm J', P', 51, w + 8) Q) : zT (d + 1) 65 4 [(0, .inr (some 49))] [] (K, zm J, P, 50, w) Q := by
  have h49 := hM.2.1
  have hM1 := MI_step hM (by omega)
  have k1 : va_up K 50 (some (.inr (0, 8))) 49 = some (.inl 6) := by rw [va_up_ne _ _ (by omega)]; exact h49
  have e0 : ((8 : Int)).toNat = 8 := rfl
  simp (disch := first | omega | assumption | exact va_up_self _ _ _ | exact Nat.le_of_ble_eq_true rfl) only [zt_65_4, zt_65_5, zt_65_7, zt_65_9, zx_const, zx_iload, zx_aload, zx_istore, zx_astore, zx_iinc, zx_add, zx_sub, zx_mul, zx_dup, zx_dup2, zx_pop, zx_cmp, zx_if, zx_goto, zx_ifnull0, zx_ifnull1, zx_ifnn0, zx_ifnn1, zx_null, zx_geti, zx_getr, zx_puti, zx_putr, zx_iald, zx_iast, zx_zald, zx_zast, zx_aald, zx_aast, zx_alen, zx_obj, zx_ret, zx_iret, zx_zret, zx_aret, zo1_s, zo2_s, zget_s, zget_ne, zset_s, zset_ne, zset_0, zc_eq, zc_ne, zc_lt, zc_ge, zc_gt, zc_le, zi_add, zi_sub, zi_mul, zi_lt, zi_le, zi_eq, Nat.reduceBEq, zU_s, zU_k, zU_ne, if_true, if_false, not_true_eq_false, not_false_eq_true, Option.toList_some, Option.toList_none, List.cons_append, List.nil_append, Int.toNat_natCast, and_true, true_and, zx_newa, e0]
  exact hQ _ _ _ hM1
set_option maxHeartbeats 1000000 in
theorem mi_1 {K0 : Nat → Option ZK} {J0 : Mem} {P0 : Nat → Nat → Option Nat} (hM : MI K0 J0 P0 1 K J P) (hQ : ∀ K' J' P', MI K0 J0 P0 2 K' J' P' → zT (d + 1) 65 20 [(0, .inr (some 49))] [] (K', zm J', P', 52, w + 8) Q) : zT (d + 1) 65 12 [(0, .inr (some 49))] [] (K, zm J, P, 51, w) Q := by
  have h49 := hM.2.1
  have hM1 := MI_step hM (by omega)
  have k1 : va_up K 51 (some (.inr (0, 8))) 49 = some (.inl 6) := by rw [va_up_ne _ _ (by omega)]; exact h49
  have e0 : ((8 : Int)).toNat = 8 := rfl
  simp (disch := first | omega | assumption | exact va_up_self _ _ _ | exact Nat.le_of_ble_eq_true rfl) only [zt_65_12, zt_65_13, zt_65_15, zt_65_17, zx_const, zx_iload, zx_aload, zx_istore, zx_astore, zx_iinc, zx_add, zx_sub, zx_mul, zx_dup, zx_dup2, zx_pop, zx_cmp, zx_if, zx_goto, zx_ifnull0, zx_ifnull1, zx_ifnn0, zx_ifnn1, zx_null, zx_geti, zx_getr, zx_puti, zx_putr, zx_iald, zx_iast, zx_zald, zx_zast, zx_aald, zx_aast, zx_alen, zx_obj, zx_ret, zx_iret, zx_zret, zx_aret, zo1_s, zo2_s, zget_s, zget_ne, zset_s, zset_ne, zset_0, zc_eq, zc_ne, zc_lt, zc_ge, zc_gt, zc_le, zi_add, zi_sub, zi_mul, zi_lt, zi_le, zi_eq, Nat.reduceBEq, zU_s, zU_k, zU_ne, if_true, if_false, not_true_eq_false, not_false_eq_true, Option.toList_some, Option.toList_none, List.cons_append, List.nil_append, Int.toNat_natCast, and_true, true_and, zx_newa, e0]
  exact hQ _ _ _ hM1
set_option maxHeartbeats 1000000 in
theorem mi_2 {K0 : Nat → Option ZK} {J0 : Mem} {P0 : Nat → Nat → Option Nat} (hM : MI K0 J0 P0 2 K J P) (hQ : ∀ K' J' P', MI K0 J0 P0 3 K' J' P' → zT (d + 1) 65 28 [(0, .inr (some 49))] [] (K', zm J', P', 53, w + 80) Q) : zT (d + 1) 65 20 [(0, .inr (some 49))] [] (K, zm J, P, 52, w) Q := by
  have h49 := hM.2.1
  have hM1 := MI_step hM (by omega)
  have k1 : va_up K 52 (some (.inr (0, 80))) 49 = some (.inl 6) := by rw [va_up_ne _ _ (by omega)]; exact h49
  have e0 : ((80 : Int)).toNat = 80 := rfl
  simp (disch := first | omega | assumption | exact va_up_self _ _ _ | exact Nat.le_of_ble_eq_true rfl) only [zt_65_20, zt_65_21, zt_65_23, zt_65_25, zx_const, zx_iload, zx_aload, zx_istore, zx_astore, zx_iinc, zx_add, zx_sub, zx_mul, zx_dup, zx_dup2, zx_pop, zx_cmp, zx_if, zx_goto, zx_ifnull0, zx_ifnull1, zx_ifnn0, zx_ifnn1, zx_null, zx_geti, zx_getr, zx_puti, zx_putr, zx_iald, zx_iast, zx_zald, zx_zast, zx_aald, zx_aast, zx_alen, zx_obj, zx_ret, zx_iret, zx_zret, zx_aret, zo1_s, zo2_s, zget_s, zget_ne, zset_s, zset_ne, zset_0, zc_eq, zc_ne, zc_lt, zc_ge, zc_gt, zc_le, zi_add, zi_sub, zi_mul, zi_lt, zi_le, zi_eq, Nat.reduceBEq, zU_s, zU_k, zU_ne, if_true, if_false, not_true_eq_false, not_false_eq_true, Option.toList_some, Option.toList_none, List.cons_append, List.nil_append, Int.toNat_natCast, and_true, true_and, zx_newa, e0]
  exact hQ _ _ _ hM1
set_option maxHeartbeats 1000000 in
theorem mi_3 {K0 : Nat → Option ZK} {J0 : Mem} {P0 : Nat → Nat → Option Nat} (hM : MI K0 J0 P0 3 K J P) (hQ : ∀ K' J' P', MI K0 J0 P0 4 K' J' P' → zT (d + 1) 65 36 [(0, .inr (some 49))] [] (K', zm J', P', 54, w + 80) Q) : zT (d + 1) 65 28 [(0, .inr (some 49))] [] (K, zm J, P, 53, w) Q := by
  have h49 := hM.2.1
  have hM1 := MI_step hM (by omega)
  have k1 : va_up K 53 (some (.inr (0, 80))) 49 = some (.inl 6) := by rw [va_up_ne _ _ (by omega)]; exact h49
  have e0 : ((80 : Int)).toNat = 80 := rfl
  simp (disch := first | omega | assumption | exact va_up_self _ _ _ | exact Nat.le_of_ble_eq_true rfl) only [zt_65_28, zt_65_29, zt_65_31, zt_65_33, zx_const, zx_iload, zx_aload, zx_istore, zx_astore, zx_iinc, zx_add, zx_sub, zx_mul, zx_dup, zx_dup2, zx_pop, zx_cmp, zx_if, zx_goto, zx_ifnull0, zx_ifnull1, zx_ifnn0, zx_ifnn1, zx_null, zx_geti, zx_getr, zx_puti, zx_putr, zx_iald, zx_iast, zx_zald, zx_zast, zx_aald, zx_aast, zx_alen, zx_obj, zx_ret, zx_iret, zx_zret, zx_aret, zo1_s, zo2_s, zget_s, zget_ne, zset_s, zset_ne, zset_0, zc_eq, zc_ne, zc_lt, zc_ge, zc_gt, zc_le, zi_add, zi_sub, zi_mul, zi_lt, zi_le, zi_eq, Nat.reduceBEq, zU_s, zU_k, zU_ne, if_true, if_false, not_true_eq_false, not_false_eq_true, Option.toList_some, Option.toList_none, List.cons_append, List.nil_append, Int.toNat_natCast, and_true, true_and, zx_newa, e0]
  exact hQ _ _ _ hM1
set_option maxHeartbeats 1000000 in
theorem mi_4 {K0 : Nat → Option ZK} {J0 : Mem} {P0 : Nat → Nat → Option Nat} (hM : MI K0 J0 P0 4 K J P) (hQ : ∀ K' J' P', MI K0 J0 P0 5 K' J' P' → zT (d + 1) 65 44 [(0, .inr (some 49))] [] (K', zm J', P', 55, w + 80) Q) : zT (d + 1) 65 36 [(0, .inr (some 49))] [] (K, zm J, P, 54, w) Q := by
  have h49 := hM.2.1
  have hM1 := MI_step hM (by omega)
  have k1 : va_up K 54 (some (.inr (0, 80))) 49 = some (.inl 6) := by rw [va_up_ne _ _ (by omega)]; exact h49
  have e0 : ((80 : Int)).toNat = 80 := rfl
  simp (disch := first | omega | assumption | exact va_up_self _ _ _ | exact Nat.le_of_ble_eq_true rfl) only [zt_65_36, zt_65_37, zt_65_39, zt_65_41, zx_const, zx_iload, zx_aload, zx_istore, zx_astore, zx_iinc, zx_add, zx_sub, zx_mul, zx_dup, zx_dup2, zx_pop, zx_cmp, zx_if, zx_goto, zx_ifnull0, zx_ifnull1, zx_ifnn0, zx_ifnn1, zx_null, zx_geti, zx_getr, zx_puti, zx_putr, zx_iald, zx_iast, zx_zald, zx_zast, zx_aald, zx_aast, zx_alen, zx_obj, zx_ret, zx_iret, zx_zret, zx_aret, zo1_s, zo2_s, zget_s, zget_ne, zset_s, zset_ne, zset_0, zc_eq, zc_ne, zc_lt, zc_ge, zc_gt, zc_le, zi_add, zi_sub, zi_mul, zi_lt, zi_le, zi_eq, Nat.reduceBEq, zU_s, zU_k, zU_ne, if_true, if_false, not_true_eq_false, not_false_eq_true, Option.toList_some, Option.toList_none, List.cons_append, List.nil_append, Int.toNat_natCast, and_true, true_and, zx_newa, e0]
  exact hQ _ _ _ hM1
set_option maxHeartbeats 1000000 in
theorem mi_5 {K0 : Nat → Option ZK} {J0 : Mem} {P0 : Nat → Nat → Option Nat} (hM : MI K0 J0 P0 5 K J P) (hQ : ∀ K' J' P', MI K0 J0 P0 6 K' J' P' → zT (d + 1) 65 52 [(0, .inr (some 49))] [] (K', zm J', P', 56, w + 80) Q) : zT (d + 1) 65 44 [(0, .inr (some 49))] [] (K, zm J, P, 55, w) Q := by
  have h49 := hM.2.1
  have hM1 := MI_step hM (by omega)
  have k1 : va_up K 55 (some (.inr (0, 80))) 49 = some (.inl 6) := by rw [va_up_ne _ _ (by omega)]; exact h49
  have e0 : ((80 : Int)).toNat = 80 := rfl
  simp (disch := first | omega | assumption | exact va_up_self _ _ _ | exact Nat.le_of_ble_eq_true rfl) only [zt_65_44, zt_65_45, zt_65_47, zt_65_49, zx_const, zx_iload, zx_aload, zx_istore, zx_astore, zx_iinc, zx_add, zx_sub, zx_mul, zx_dup, zx_dup2, zx_pop, zx_cmp, zx_if, zx_goto, zx_ifnull0, zx_ifnull1, zx_ifnn0, zx_ifnn1, zx_null, zx_geti, zx_getr, zx_puti, zx_putr, zx_iald, zx_iast, zx_zald, zx_zast, zx_aald, zx_aast, zx_alen, zx_obj, zx_ret, zx_iret, zx_zret, zx_aret, zo1_s, zo2_s, zget_s, zget_ne, zset_s, zset_ne, zset_0, zc_eq, zc_ne, zc_lt, zc_ge, zc_gt, zc_le, zi_add, zi_sub, zi_mul, zi_lt, zi_le, zi_eq, Nat.reduceBEq, zU_s, zU_k, zU_ne, if_true, if_false, not_true_eq_false, not_false_eq_true, Option.toList_some, Option.toList_none, List.cons_append, List.nil_append, Int.toNat_natCast, and_true, true_and, zx_newa, e0]
  exact hQ _ _ _ hM1
set_option maxHeartbeats 1000000 in
theorem mi_6 {K0 : Nat → Option ZK} {J0 : Mem} {P0 : Nat → Nat → Option Nat} (hM : MI K0 J0 P0 6 K J P) (hQ : ∀ K' J' P', MI K0 J0 P0 7 K' J' P' → zT (d + 1) 65 60 [(0, .inr (some 49))] [] (K', zm J', P', 57, w + 80) Q) : zT (d + 1) 65 52 [(0, .inr (some 49))] [] (K, zm J, P, 56, w) Q := by
  have h49 := hM.2.1
  have hM1 := MI_step hM (by omega)
  have k1 : va_up K 56 (some (.inr (0, 80))) 49 = some (.inl 6) := by rw [va_up_ne _ _ (by omega)]; exact h49
  have e0 : ((80 : Int)).toNat = 80 := rfl
  simp (disch := first | omega | assumption | exact va_up_self _ _ _ | exact Nat.le_of_ble_eq_true rfl) only [zt_65_52, zt_65_53, zt_65_55, zt_65_57, zx_const, zx_iload, zx_aload, zx_istore, zx_astore, zx_iinc, zx_add, zx_sub, zx_mul, zx_dup, zx_dup2, zx_pop, zx_cmp, zx_if, zx_goto, zx_ifnull0, zx_ifnull1, zx_ifnn0, zx_ifnn1, zx_null, zx_geti, zx_getr, zx_puti, zx_putr, zx_iald, zx_iast, zx_zald, zx_zast, zx_aald, zx_aast, zx_alen, zx_obj, zx_ret, zx_iret, zx_zret, zx_aret, zo1_s, zo2_s, zget_s, zget_ne, zset_s, zset_ne, zset_0, zc_eq, zc_ne, zc_lt, zc_ge, zc_gt, zc_le, zi_add, zi_sub, zi_mul, zi_lt, zi_le, zi_eq, Nat.reduceBEq, zU_s, zU_k, zU_ne, if_true, if_false, not_true_eq_false, not_false_eq_true, Option.toList_some, Option.toList_none, List.cons_append, List.nil_append, Int.toNat_natCast, and_true, true_and, zx_newa, e0]
  exact hQ _ _ _ hM1
set_option maxHeartbeats 1000000 in
theorem mi_7 {K0 : Nat → Option ZK} {J0 : Mem} {P0 : Nat → Nat → Option Nat} (hM : MI K0 J0 P0 7 K J P) (hQ : ∀ K' J' P', MI K0 J0 P0 8 K' J' P' → zT (d + 1) 65 68 [(0, .inr (some 49))] [] (K', zm J', P', 58, w + 8) Q) : zT (d + 1) 65 60 [(0, .inr (some 49))] [] (K, zm J, P, 57, w) Q := by
  have h49 := hM.2.1
  have hM1 := MI_step hM (by omega)
  have k1 : va_up K 57 (some (.inr (0, 8))) 49 = some (.inl 6) := by rw [va_up_ne _ _ (by omega)]; exact h49
  have e0 : ((8 : Int)).toNat = 8 := rfl
  simp (disch := first | omega | assumption | exact va_up_self _ _ _ | exact Nat.le_of_ble_eq_true rfl) only [zt_65_60, zt_65_61, zt_65_63, zt_65_65, zx_const, zx_iload, zx_aload, zx_istore, zx_astore, zx_iinc, zx_add, zx_sub, zx_mul, zx_dup, zx_dup2, zx_pop, zx_cmp, zx_if, zx_goto, zx_ifnull0, zx_ifnull1, zx_ifnn0, zx_ifnn1, zx_null, zx_geti, zx_getr, zx_puti, zx_putr, zx_iald, zx_iast, zx_zald, zx_zast, zx_aald, zx_aast, zx_alen, zx_obj, zx_ret, zx_iret, zx_zret, zx_aret, zo1_s, zo2_s, zget_s, zget_ne, zset_s, zset_ne, zset_0, zc_eq, zc_ne, zc_lt, zc_ge, zc_gt, zc_le, zi_add, zi_sub, zi_mul, zi_lt, zi_le, zi_eq, Nat.reduceBEq, zU_s, zU_k, zU_ne, if_true, if_false, not_true_eq_false, not_false_eq_true, Option.toList_some, Option.toList_none, List.cons_append, List.nil_append, Int.toNat_natCast, and_true, true_and, zx_newa, e0]
  exact hQ _ _ _ hM1
set_option maxHeartbeats 1000000 in
theorem mi_8 {K0 : Nat → Option ZK} {J0 : Mem} {P0 : Nat → Nat → Option Nat} (hM : MI K0 J0 P0 8 K J P) (hQ : ∀ K' J' P', MI K0 J0 P0 9 K' J' P' → zT (d + 1) 65 76 [(0, .inr (some 49))] [] (K', zm J', P', 59, w + 8) Q) : zT (d + 1) 65 68 [(0, .inr (some 49))] [] (K, zm J, P, 58, w) Q := by
  have h49 := hM.2.1
  have hM1 := MI_step hM (by omega)
  have k1 : va_up K 58 (some (.inr (0, 8))) 49 = some (.inl 6) := by rw [va_up_ne _ _ (by omega)]; exact h49
  have e0 : ((8 : Int)).toNat = 8 := rfl
  simp (disch := first | omega | assumption | exact va_up_self _ _ _ | exact Nat.le_of_ble_eq_true rfl) only [zt_65_68, zt_65_69, zt_65_71, zt_65_73, zx_const, zx_iload, zx_aload, zx_istore, zx_astore, zx_iinc, zx_add, zx_sub, zx_mul, zx_dup, zx_dup2, zx_pop, zx_cmp, zx_if, zx_goto, zx_ifnull0, zx_ifnull1, zx_ifnn0, zx_ifnn1, zx_null, zx_geti, zx_getr, zx_puti, zx_putr, zx_iald, zx_iast, zx_zald, zx_zast, zx_aald, zx_aast, zx_alen, zx_obj, zx_ret, zx_iret, zx_zret, zx_aret, zo1_s, zo2_s, zget_s, zget_ne, zset_s, zset_ne, zset_0, zc_eq, zc_ne, zc_lt, zc_ge, zc_gt, zc_le, zi_add, zi_sub, zi_mul, zi_lt, zi_le, zi_eq, Nat.reduceBEq, zU_s, zU_k, zU_ne, if_true, if_false, not_true_eq_false, not_false_eq_true, Option.toList_some, Option.toList_none, List.cons_append, List.nil_append, Int.toNat_natCast, and_true, true_and, zx_newa, e0]
  exact hQ _ _ _ hM1
set_option maxHeartbeats 1000000 in
theorem mi_9 {K0 : Nat → Option ZK} {J0 : Mem} {P0 : Nat → Nat → Option Nat} (hM : MI K0 J0 P0 9 K J P) (hQ : ∀ K' J' P', MI K0 J0 P0 10 K' J' P' → zT (d + 1) 65 84 [(0, .inr (some 49))] [] (K', zm J', P', 60, w + 8) Q) : zT (d + 1) 65 76 [(0, .inr (some 49))] [] (K, zm J, P, 59, w) Q := by
  have h49 := hM.2.1
  have hM1 := MI_step hM (by omega)
  have k1 : va_up K 59 (some (.inr (0, 8))) 49 = some (.inl 6) := by rw [va_up_ne _ _ (by omega)]; exact h49
  have e0 : ((8 : Int)).toNat = 8 := rfl
  simp (disch := first | omega | assumption | exact va_up_self _ _ _ | exact Nat.le_of_ble_eq_true rfl) only [zt_65_76, zt_65_77, zt_65_79, zt_65_81, zx_const, zx_iload, zx_aload, zx_istore, zx_astore, zx_iinc, zx_add, zx_sub, zx_mul, zx_dup, zx_dup2, zx_pop, zx_cmp, zx_if, zx_goto, zx_ifnull0, zx_ifnull1, zx_ifnn0, zx_ifnn1, zx_null, zx_geti, zx_getr, zx_puti, zx_putr, zx_iald, zx_iast, zx_zald, zx_zast, zx_aald, zx_aast, zx_alen, zx_obj, zx_ret, zx_iret, zx_zret, zx_aret, zo1_s, zo2_s, zget_s, zget_ne, zset_s, zset_ne, zset_0, zc_eq, zc_ne, zc_lt, zc_ge, zc_gt, zc_le, zi_add, zi_sub, zi_mul, zi_lt, zi_le, zi_eq, Nat.reduceBEq, zU_s, zU_k, zU_ne, if_true, if_false, not_true_eq_false, not_false_eq_true, Option.toList_some, Option.toList_none, List.cons_append, List.nil_append, Int.toNat_natCast, and_true, true_and, zx_newa, e0]
  exact hQ _ _ _ hM1
set_option maxHeartbeats 1000000 in
theorem mi_10 {K0 : Nat → Option ZK} {J0 : Mem} {P0 : Nat → Nat → Option Nat} (hM : MI K0 J0 P0 10 K J P) (hQ : ∀ K' J' P', MI K0 J0 P0 11 K' J' P' → zT (d + 1) 65 92 [(0, .inr (some 49))] [] (K', zm J', P', 61, w + 8) Q) : zT (d + 1) 65 84 [(0, .inr (some 49))] [] (K, zm J, P, 60, w) Q := by
  have h49 := hM.2.1
  have hM1 := MI_step hM (by omega)
  have k1 : va_up K 60 (some (.inr (0, 8))) 49 = some (.inl 6) := by rw [va_up_ne _ _ (by omega)]; exact h49
  have e0 : ((8 : Int)).toNat = 8 := rfl
  simp (disch := first | omega | assumption | exact va_up_self _ _ _ | exact Nat.le_of_ble_eq_true rfl) only [zt_65_84, zt_65_85, zt_65_87, zt_65_89, zx_const, zx_iload, zx_aload, zx_istore, zx_astore, zx_iinc, zx_add, zx_sub, zx_mul, zx_dup, zx_dup2, zx_pop, zx_cmp, zx_if, zx_goto, zx_ifnull0, zx_ifnull1, zx_ifnn0, zx_ifnn1, zx_null, zx_geti, zx_getr, zx_puti, zx_putr, zx_iald, zx_iast, zx_zald, zx_zast, zx_aald, zx_aast, zx_alen, zx_obj, zx_ret, zx_iret, zx_zret, zx_aret, zo1_s, zo2_s, zget_s, zget_ne, zset_s, zset_ne, zset_0, zc_eq, zc_ne, zc_lt, zc_ge, zc_gt, zc_le, zi_add, zi_sub, zi_mul, zi_lt, zi_le, zi_eq, Nat.reduceBEq, zU_s, zU_k, zU_ne, if_true, if_false, not_true_eq_false, not_false_eq_true, Option.toList_some, Option.toList_none, List.cons_append, List.nil_append, Int.toNat_natCast, and_true, true_and, zx_newa, e0]
  exact hQ _ _ _ hM1
set_option maxHeartbeats 1000000 in
theorem mi_11 {K0 : Nat → Option ZK} {J0 : Mem} {P0 : Nat → Nat → Option Nat} (hM : MI K0 J0 P0 11 K J P) (hQ : ∀ K' J' P', MI K0 J0 P0 12 K' J' P' → zT (d + 1) 65 100 [(0, .inr (some 49))] [] (K', zm J', P', 62, w + 8) Q) : zT (d + 1) 65 92 [(0, .inr (some 49))] [] (K, zm J, P, 61, w) Q := by
  have h49 := hM.2.1
  have hM1 := MI_step hM (by omega)
  have k1 : va_up K 61 (some (.inr (0, 8))) 49 = some (.inl 6) := by rw [va_up_ne _ _ (by omega)]; exact h49
  have e0 : ((8 : Int)).toNat = 8 := rfl
  simp (disch := first | omega | assumption | exact va_up_self _ _ _ | exact Nat.le_of_ble_eq_true rfl) only [zt_65_92, zt_65_93, zt_65_95, zt_65_97, zx_const, zx_iload, zx_aload, zx_istore, zx_astore, zx_iinc, zx_add, zx_sub, zx_mul, zx_dup, zx_dup2, zx_pop, zx_cmp, zx_if, zx_goto, zx_ifnull0, zx_ifnull1, zx_ifnn0, zx_ifnn1, zx_null, zx_geti, zx_getr, zx_puti, zx_putr, zx_iald, zx_iast, zx_zald, zx_zast, zx_aald, zx_aast, zx_alen, zx_obj, zx_ret, zx_iret, zx_zret, zx_aret, zo1_s, zo2_s, zget_s, zget_ne, zset_s, zset_ne, zset_0, zc_eq, zc_ne, zc_lt, zc_ge, zc_gt, zc_le, zi_add, zi_sub, zi_mul, zi_lt, zi_le, zi_eq, Nat.reduceBEq, zU_s, zU_k, zU_ne, if_true, if_false, not_true_eq_false, not_false_eq_true, Option.toList_some, Option.toList_none, List.cons_append, List.nil_append, Int.toNat_natCast, and_true, true_and, zx_newa, e0]
  exact hQ _ _ _ hM1
set_option maxHeartbeats 1000000 in
theorem mi_12 {K0 : Nat → Option ZK} {J0 : Mem} {P0 : Nat → Nat → Option Nat} (hM : MI K0 J0 P0 12 K J P) (hQ : ∀ K' J' P', MI K0 J0 P0 13 K' J' P' → zT (d + 1) 65 108 [(0, .inr (some 49))] [] (K', zm J', P', 63, w + 8) Q) : zT (d + 1) 65 100 [(0, .inr (some 49))] [] (K, zm J, P, 62, w) Q := by
  have h49 := hM.2.1
  have hM1 := MI_step hM (by omega)
  have k1 : va_up K 62 (some (.inr (0, 8))) 49 = some (.inl 6) := by rw [va_up_ne _ _ (by omega)]; exact h49
  have e0 : ((8 : Int)).toNat = 8 := rfl
  simp (disch := first | omega | assumption | exact va_up_self _ _ _ | exact Nat.le_of_ble_eq_true rfl) only [zt_65_100, zt_65_101, zt_65_103, zt_65_105, zx_const, zx_iload, zx_aload, zx_istore, zx_astore, zx_iinc, zx_add, zx_sub, zx_mul, zx_dup, zx_dup2, zx_pop, zx_cmp, zx_if, zx_goto, zx_ifnull0, zx_ifnull1, zx_ifnn0, zx_ifnn1, zx_null, zx_geti, zx_getr, zx_puti, zx_putr, zx_iald, zx_iast, zx_zald, zx_zast, zx_aald, zx_aast, zx_alen, zx_obj, zx_ret, zx_iret, zx_zret, zx_aret, zo1_s, zo2_s, zget_s, zget_ne, zset_s, zset_ne, zset_0, zc_eq, zc_ne, zc_lt, zc_ge, zc_gt, zc_le, zi_add, zi_sub, zi_mul, zi_lt, zi_le, zi_eq, Nat.reduceBEq, zU_s, zU_k, zU_ne, if_true, if_false, not_true_eq_false, not_false_eq_true, Option.toList_some, Option.toList_none, List.cons_append, List.nil_append, Int.toNat_natCast, and_true, true_and, zx_newa, e0]
  exact hQ _ _ _ hM1
set_option maxHeartbeats 1000000 in
theorem mi_13 {K0 : Nat → Option ZK} {J0 : Mem} {P0 : Nat → Nat → Option Nat} (hM : MI K0 J0 P0 13 K J P) (hQ : ∀ K' J' P', MI K0 J0 P0 14 K' J' P' → zT (d + 1) 65 116 [(0, .inr (some 49))] [] (K', zm J', P', 64, w + 8) Q) : zT (d + 1) 65 108 [(0, .inr (some 49))] [] (K, zm J, P, 63, w) Q := by
  have h49 := hM.2.1
  have hM1 := MI_step hM (by omega)
  have k1 : va_up K 63 (some (.inr (0, 8))) 49 = some (.inl 6) := by rw [va_up_ne _ _ (by omega)]; exact h49
  have e0 : ((8 : Int)).toNat = 8 := rfl
  simp (disch := first | omega | assumption | exact va_up_self _ _ _ | exact Nat.le_of_ble_eq_true rfl) only [zt_65_108, zt_65_109, zt_65_111, zt_65_113, zx_const, zx_iload, zx_aload, zx_istore, zx_astore, zx_iinc, zx_add, zx_sub, zx_mul, zx_dup, zx_dup2, zx_pop, zx_cmp, zx_if, zx_goto, zx_ifnull0, zx_ifnull1, zx_ifnn0, zx_ifnn1, zx_null, zx_geti, zx_getr, zx_puti, zx_putr, zx_iald, zx_iast, zx_zald, zx_zast, zx_aald, zx_aast, zx_alen, zx_obj, zx_ret, zx_iret, zx_zret, zx_aret, zo1_s, zo2_s, zget_s, zget_ne, zset_s, zset_ne, zset_0, zc_eq, zc_ne, zc_lt, zc_ge, zc_gt, zc_le, zi_add, zi_sub, zi_mul, zi_lt, zi_le, zi_eq, Nat.reduceBEq, zU_s, zU_k, zU_ne, if_true, if_false, not_true_eq_false, not_false_eq_true, Option.toList_some, Option.toList_none, List.cons_append, List.nil_append, Int.toNat_natCast, and_true, true_and, zx_newa, e0]
  exact hQ _ _ _ hM1
set_option maxHeartbeats 1000000 in
theorem mi_14 {K0 : Nat → Option ZK} {J0 : Mem} {P0 : Nat → Nat → Option Nat} (hM : MI K0 J0 P0 14 K J P) (hQ : ∀ K' J' P', MI K0 J0 P0 15 K' J' P' → zT (d + 1) 65 124 [(0, .inr (some 49))] [] (K', zm J', P', 65, w + 8) Q) : zT (d + 1) 65 116 [(0, .inr (some 49))] [] (K, zm J, P, 64, w) Q := by
  have h49 := hM.2.1
  have hM1 := MI_step hM (by omega)
  have k1 : va_up K 64 (some (.inr (0, 8))) 49 = some (.inl 6) := by rw [va_up_ne _ _ (by omega)]; exact h49
  have e0 : ((8 : Int)).toNat = 8 := rfl
  simp (disch := first | omega | assumption | exact va_up_self _ _ _ | exact Nat.le_of_ble_eq_true rfl) only [zt_65_116, zt_65_117, zt_65_119, zt_65_121, zx_const, zx_iload, zx_aload, zx_istore, zx_astore, zx_iinc, zx_add, zx_sub, zx_mul, zx_dup, zx_dup2, zx_pop, zx_cmp, zx_if, zx_goto, zx_ifnull0, zx_ifnull1, zx_ifnn0, zx_ifnn1, zx_null, zx_geti, zx_getr, zx_puti, zx_putr, zx_iald, zx_iast, zx_zald, zx_zast, zx_aald, zx_aast, zx_alen, zx_obj, zx_ret, zx_iret, zx_zret, zx_aret, zo1_s, zo2_s, zget_s, zget_ne, zset_s, zset_ne, zset_0, zc_eq, zc_ne, zc_lt, zc_ge, zc_gt, zc_le, zi_add, zi_sub, zi_mul, zi_lt, zi_le, zi_eq, Nat.reduceBEq, zU_s, zU_k, zU_ne, if_true, if_false, not_true_eq_false, not_false_eq_true, Option.toList_some, Option.toList_none, List.cons_append, List.nil_append, Int.toNat_natCast, and_true, true_and, zx_newa, e0]
  exact hQ _ _ _ hM1
set_option maxHeartbeats 1000000 in
theorem mi_15 {K0 : Nat → Option ZK} {J0 : Mem} {P0 : Nat → Nat → Option Nat} (hM : MI K0 J0 P0 15 K J P) (hQ : ∀ K' J' P', MI K0 J0 P0 16 K' J' P' → zT (d + 1) 65 132 [(0, .inr (some 49))] [] (K', zm J', P', 66, w + 8) Q) : zT (d + 1) 65 124 [(0, .inr (some 49))] [] (K, zm J, P, 65, w) Q := by
  have h49 := hM.2.1
  have hM1 := MI_step hM (by omega)
  have k1 : va_up K 65 (some (.inr (1, 8))) 49 = some (.inl 6) := by rw [va_up_ne _ _ (by omega)]; exact h49
  have e0 : ((8 : Int)).toNat = 8 := rfl
  simp (disch := first | omega | assumption | exact va_up_self _ _ _ | exact Nat.le_of_ble_eq_true rfl) only [zt_65_124, zt_65_125, zt_65_127, zt_65_129, zx_const, zx_iload, zx_aload, zx_istore, zx_astore, zx_iinc, zx_add, zx_sub, zx_mul, zx_dup, zx_dup2, zx_pop, zx_cmp, zx_if, zx_goto, zx_ifnull0, zx_ifnull1, zx_ifnn0, zx_ifnn1, zx_null, zx_geti, zx_getr, zx_puti, zx_putr, zx_iald, zx_iast, zx_zald, zx_zast, zx_aald, zx_aast, zx_alen, zx_obj, zx_ret, zx_iret, zx_zret, zx_aret, zo1_s, zo2_s, zget_s, zget_ne, zset_s, zset_ne, zset_0, zc_eq, zc_ne, zc_lt, zc_ge, zc_gt, zc_le, zi_add, zi_sub, zi_mul, zi_lt, zi_le, zi_eq, Nat.reduceBEq, zU_s, zU_k, zU_ne, if_true, if_false, not_true_eq_false, not_false_eq_true, Option.toList_some, Option.toList_none, List.cons_append, List.nil_append, Int.toNat_natCast, and_true, true_and, zx_newa, e0]
  exact hQ _ _ _ hM1
set_option maxHeartbeats 1000000 in
theorem mi_16 {K0 : Nat → Option ZK} {J0 : Mem} {P0 : Nat → Nat → Option Nat} (hM : MI K0 J0 P0 16 K J P) (hQ : ∀ K' J' P', MI K0 J0 P0 17 K' J' P' → zT (d + 1) 65 140 [(0, .inr (some 49))] [] (K', zm J', P', 67, w + 32) Q) : zT (d + 1) 65 132 [(0, .inr (some 49))] [] (K, zm J, P, 66, w) Q := by
  have h49 := hM.2.1
  have hM1 := MI_step hM (by omega)
  have k1 : va_up K 66 (some (.inr (0, 32))) 49 = some (.inl 6) := by rw [va_up_ne _ _ (by omega)]; exact h49
  have e0 : ((32 : Int)).toNat = 32 := rfl
  simp (disch := first | omega | assumption | exact va_up_self _ _ _ | exact Nat.le_of_ble_eq_true rfl) only [zt_65_132, zt_65_133, zt_65_135, zt_65_137, zx_const, zx_iload, zx_aload, zx_istore, zx_astore, zx_iinc, zx_add, zx_sub, zx_mul, zx_dup, zx_dup2, zx_pop, zx_cmp, zx_if, zx_goto, zx_ifnull0, zx_ifnull1, zx_ifnn0, zx_ifnn1, zx_null, zx_geti, zx_getr, zx_puti, zx_putr, zx_iald, zx_iast, zx_zald, zx_zast, zx_aald, zx_aast, zx_alen, zx_obj, zx_ret, zx_iret, zx_zret, zx_aret, zo1_s, zo2_s, zget_s, zget_ne, zset_s, zset_ne, zset_0, zc_eq, zc_ne, zc_lt, zc_ge, zc_gt, zc_le, zi_add, zi_sub, zi_mul, zi_lt, zi_le, zi_eq, Nat.reduceBEq, zU_s, zU_k, zU_ne, if_true, if_false, not_true_eq_false, not_false_eq_true, Option.toList_some, Option.toList_none, List.cons_append, List.nil_append, Int.toNat_natCast, and_true, true_and, zx_newa, e0]
  exact hQ _ _ _ hM1
set_option maxHeartbeats 1000000 in
theorem mi_17 {K0 : Nat → Option ZK} {J0 : Mem} {P0 : Nat → Nat → Option Nat} (hM : MI K0 J0 P0 17 K J P) (hQ : ∀ K' J' P', MI K0 J0 P0 18 K' J' P' → zT (d + 1) 65 148 [(0, .inr (some 49))] [] (K', zm J', P', 68, w + 8) Q) : zT (d + 1) 65 140 [(0, .inr (some 49))] [] (K, zm J, P, 67, w) Q := by
  have h49 := hM.2.1
  have hM1 := MI_step hM (by omega)
  have k1 : va_up K 67 (some (.inr (0, 8))) 49 = some (.inl 6) := by rw [va_up_ne _ _ (by omega)]; exact h49
  have e0 : ((8 : Int)).toNat = 8 := rfl
  simp (disch := first | omega | assumption | exact va_up_self _ _ _ | exact Nat.le_of_ble_eq_true rfl) only [zt_65_140, zt_65_141, zt_65_143, zt_65_145, zx_const, zx_iload, zx_aload, zx_istore, zx_astore, zx_iinc, zx_add, zx_sub, zx_mul, zx_dup, zx_dup2, zx_pop, zx_cmp, zx_if, zx_goto, zx_ifnull0, zx_ifnull1, zx_ifnn0, zx_ifnn1, zx_null, zx_geti, zx_getr, zx_puti, zx_putr, zx_iald, zx_iast, zx_zald, zx_zast, zx_aald, zx_aast, zx_alen, zx_obj, zx_ret, zx_iret, zx_zret, zx_aret, zo1_s, zo2_s, zget_s, zget_ne, zset_s, zset_ne, zset_0, zc_eq, zc_ne, zc_lt, zc_ge, zc_gt, zc_le, zi_add, zi_sub, zi_mul, zi_lt, zi_le, zi_eq, Nat.reduceBEq, zU_s, zU_k, zU_ne, if_true, if_false, not_true_eq_false, not_false_eq_true, Option.toList_some, Option.toList_none, List.cons_append, List.nil_append, Int.toNat_natCast, and_true, true_and, zx_newa, e0]
  exact hQ _ _ _ hM1
set_option maxHeartbeats 1000000 in
theorem mi_18 {K0 : Nat → Option ZK} {J0 : Mem} {P0 : Nat → Nat → Option Nat} (hM : MI K0 J0 P0 18 K J P) (hQ : ∀ K' J' P', MI K0 J0 P0 19 K' J' P' → zT (d + 1) 65 156 [(0, .inr (some 49))] [] (K', zm J', P', 69, w + 16) Q) : zT (d + 1) 65 148 [(0, .inr (some 49))] [] (K, zm J, P, 68, w) Q := by
  have h49 := hM.2.1
  have hM1 := MI_step hM (by omega)
  have k1 : va_up K 68 (some (.inr (0, 16))) 49 = some (.inl 6) := by rw [va_up_ne _ _ (by omega)]; exact h49
  have e0 : ((16 : Int)).toNat = 16 := rfl
  simp (disch := first | omega | assumption | exact va_up_self _ _ _ | exact Nat.le_of_ble_eq_true rfl) only [zt_65_148, zt_65_149, zt_65_151, zt_65_153, zx_const, zx_iload, zx_aload, zx_istore, zx_astore, zx_iinc, zx_add, zx_sub, zx_mul, zx_dup, zx_dup2, zx_pop, zx_cmp, zx_if, zx_goto, zx_ifnull0, zx_ifnull1, zx_ifnn0, zx_ifnn1, zx_null, zx_geti, zx_getr, zx_puti, zx_putr, zx_iald, zx_iast, zx_zald, zx_zast, zx_aald, zx_aast, zx_alen, zx_obj, zx_ret, zx_iret, zx_zret, zx_aret, zo1_s, zo2_s, zget_s, zget_ne, zset_s, zset_ne, zset_0, zc_eq, zc_ne, zc_lt, zc_ge, zc_gt, zc_le, zi_add, zi_sub, zi_mul, zi_lt, zi_le, zi_eq, Nat.reduceBEq, zU_s, zU_k, zU_ne, if_true, if_false, not_true_eq_false, not_false_eq_true, Option.toList_some, Option.toList_none, List.cons_append, List.nil_append, Int.toNat_natCast, and_true, true_and, zx_newa, e0]
  exact hQ _ _ _ hM1
set_option maxHeartbeats 1000000 in
theorem mi_19 {K0 : Nat → Option ZK} {J0 : Mem} {P0 : Nat → Nat → Option Nat} (hM : MI K0 J0 P0 19 K J P) (hQ : ∀ K' J' P', MI K0 J0 P0 20 K' J' P' → zT (d + 1) 65 164 [(0, .inr (some 49))] [] (K', zm J', P', 70, w + 16) Q) : zT (d + 1) 65 156 [(0, .inr (some 49))] [] (K, zm J, P, 69, w) Q := by
  have h49 := hM.2.1
  have hM1 := MI_step hM (by omega)
  have k1 : va_up K 69 (some (.inr (1, 16))) 49 = some (.inl 6) := by rw [va_up_ne _ _ (by omega)]; exact h49
  have e0 : ((16 : Int)).toNat = 16 := rfl
  simp (disch := first | omega | assumption | exact va_up_self _ _ _ | exact Nat.le_of_ble_eq_true rfl) only [zt_65_156, zt_65_157, zt_65_159, zt_65_161, zx_const, zx_iload, zx_aload, zx_istore, zx_astore, zx_iinc, zx_add, zx_sub, zx_mul, zx_dup, zx_dup2, zx_pop, zx_cmp, zx_if, zx_goto, zx_ifnull0, zx_ifnull1, zx_ifnn0, zx_ifnn1, zx_null, zx_geti, zx_getr, zx_puti, zx_putr, zx_iald, zx_iast, zx_zald, zx_zast, zx_aald, zx_aast, zx_alen, zx_obj, zx_ret, zx_iret, zx_zret, zx_aret, zo1_s, zo2_s, zget_s, zget_ne, zset_s, zset_ne, zset_0, zc_eq, zc_ne, zc_lt, zc_ge, zc_gt, zc_le, zi_add, zi_sub, zi_mul, zi_lt, zi_le, zi_eq, Nat.reduceBEq, zU_s, zU_k, zU_ne, if_true, if_false, not_true_eq_false, not_false_eq_true, Option.toList_some, Option.toList_none, List.cons_append, List.nil_append, Int.toNat_natCast, and_true, true_and, zx_newa, e0]
  exact hQ _ _ _ hM1
set_option maxHeartbeats 1000000 in
theorem mi_20 {K0 : Nat → Option ZK} {J0 : Mem} {P0 : Nat → Nat → Option Nat} (hM : MI K0 J0 P0 20 K J P) (hQ : ∀ K' J' P', MI K0 J0 P0 21 K' J' P' → zT (d + 1) 65 171 [(0, .inr (some 49))] [] (K', zm J', P', 71, w + 4) Q) : zT (d + 1) 65 164 [(0, .inr (some 49))] [] (K, zm J, P, 70, w) Q := by
  have h49 := hM.2.1
  have hM1 := MI_step hM (by omega)
  have k1 : va_up K 70 (some (.inr (1, 4))) 49 = some (.inl 6) := by rw [va_up_ne _ _ (by omega)]; exact h49
  have e0 : ((4 : Int)).toNat = 4 := rfl
  simp (disch := first | omega | assumption | exact va_up_self _ _ _ | exact Nat.le_of_ble_eq_true rfl) only [zt_65_164, zt_65_165, zt_65_166, zt_65_168, zx_const, zx_iload, zx_aload, zx_istore, zx_astore, zx_iinc, zx_add, zx_sub, zx_mul, zx_dup, zx_dup2, zx_pop, zx_cmp, zx_if, zx_goto, zx_ifnull0, zx_ifnull1, zx_ifnn0, zx_ifnn1, zx_null, zx_geti, zx_getr, zx_puti, zx_putr, zx_iald, zx_iast, zx_zald, zx_zast, zx_aald, zx_aast, zx_alen, zx_obj, zx_ret, zx_iret, zx_zret, zx_aret, zo1_s, zo2_s, zget_s, zget_ne, zset_s, zset_ne, zset_0, zc_eq, zc_ne, zc_lt, zc_ge, zc_gt, zc_le, zi_add, zi_sub, zi_mul, zi_lt, zi_le, zi_eq, Nat.reduceBEq, zU_s, zU_k, zU_ne, if_true, if_false, not_true_eq_false, not_false_eq_true, Option.toList_some, Option.toList_none, List.cons_append, List.nil_append, Int.toNat_natCast, and_true, true_and, zx_newa, e0]
  exact hQ _ _ _ hM1
set_option maxHeartbeats 1000000 in
theorem mi_21 {K0 : Nat → Option ZK} {J0 : Mem} {P0 : Nat → Nat → Option Nat} (hM : MI K0 J0 P0 21 K J P) (hQ : ∀ K' J' P', MI K0 J0 P0 22 K' J' P' → zT (d + 1) 65 179 [(0, .inr (some 49))] [] (K', zm J', P', 72, w + 10) Q) : zT (d + 1) 65 171 [(0, .inr (some 49))] [] (K, zm J, P, 71, w) Q := by
  have h49 := hM.2.1
  have hM1 := MI_step hM (by omega)
  have k1 : va_up K 71 (some (.inr (0, 10))) 49 = some (.inl 6) := by rw [va_up_ne _ _ (by omega)]; exact h49
  have e0 : ((10 : Int)).toNat = 10 := rfl
  simp (disch := first | omega | assumption | exact va_up_self _ _ _ | exact Nat.le_of_ble_eq_true rfl) only [zt_65_171, zt_65_172, zt_65_174, zt_65_176, zx_const, zx_iload, zx_aload, zx_istore, zx_astore, zx_iinc, zx_add, zx_sub, zx_mul, zx_dup, zx_dup2, zx_pop, zx_cmp, zx_if, zx_goto, zx_ifnull0, zx_ifnull1, zx_ifnn0, zx_ifnn1, zx_null, zx_geti, zx_getr, zx_puti, zx_putr, zx_iald, zx_iast, zx_zald, zx_zast, zx_aald, zx_aast, zx_alen, zx_obj, zx_ret, zx_iret, zx_zret, zx_aret, zo1_s, zo2_s, zget_s, zget_ne, zset_s, zset_ne, zset_0, zc_eq, zc_ne, zc_lt, zc_ge, zc_gt, zc_le, zi_add, zi_sub, zi_mul, zi_lt, zi_le, zi_eq, Nat.reduceBEq, zU_s, zU_k, zU_ne, if_true, if_false, not_true_eq_false, not_false_eq_true, Option.toList_some, Option.toList_none, List.cons_append, List.nil_append, Int.toNat_natCast, and_true, true_and, zx_newa, e0]
  exact hQ _ _ _ hM1
set_option maxHeartbeats 1000000 in
theorem mi_22 {K0 : Nat → Option ZK} {J0 : Mem} {P0 : Nat → Nat → Option Nat} (hM : MI K0 J0 P0 22 K J P) (hQ : ∀ K' J' P', MI K0 J0 P0 23 K' J' P' → zT (d + 1) 65 187 [(0, .inr (some 49))] [] (K', zm J', P', 73, w + 64) Q) : zT (d + 1) 65 179 [(0, .inr (some 49))] [] (K, zm J, P, 72, w) Q := by
  have h49 := hM.2.1
  have hM1 := MI_step hM (by omega)
  have k1 : va_up K 72 (some (.inr (0, 64))) 49 = some (.inl 6) := by rw [va_up_ne _ _ (by omega)]; exact h49
  have e0 : ((64 : Int)).toNat = 64 := rfl
  simp (disch := first | omega | assumption | exact va_up_self _ _ _ | exact Nat.le_of_ble_eq_true rfl) only [zt_65_179, zt_65_180, zt_65_182, zt_65_184, zx_const, zx_iload, zx_aload, zx_istore, zx_astore, zx_iinc, zx_add, zx_sub, zx_mul, zx_dup, zx_dup2, zx_pop, zx_cmp, zx_if, zx_goto, zx_ifnull0, zx_ifnull1, zx_ifnn0, zx_ifnn1, zx_null, zx_geti, zx_getr, zx_puti, zx_putr, zx_iald, zx_iast, zx_zald, zx_zast, zx_aald, zx_aast, zx_alen, zx_obj, zx_ret, zx_iret, zx_zret, zx_aret, zo1_s, zo2_s, zget_s, zget_ne, zset_s, zset_ne, zset_0, zc_eq, zc_ne, zc_lt, zc_ge, zc_gt, zc_le, zi_add, zi_sub, zi_mul, zi_lt, zi_le, zi_eq, Nat.reduceBEq, zU_s, zU_k, zU_ne, if_true, if_false, not_true_eq_false, not_false_eq_true, Option.toList_some, Option.toList_none, List.cons_append, List.nil_append, Int.toNat_natCast, and_true, true_and, zx_newa, e0]
  exact hQ _ _ _ hM1
set_option maxHeartbeats 1000000 in
theorem mi_23 {K0 : Nat → Option ZK} {J0 : Mem} {P0 : Nat → Nat → Option Nat} (hM : MI K0 J0 P0 23 K J P) (hQ : ∀ K' J' P', MI K0 J0 P0 24 K' J' P' → zT (d + 1) 65 195 [(0, .inr (some 49))] [] (K', zm J', P', 74, w + 64) Q) : zT (d + 1) 65 187 [(0, .inr (some 49))] [] (K, zm J, P, 73, w) Q := by
  have h49 := hM.2.1
  have hM1 := MI_step hM (by omega)
  have k1 : va_up K 73 (some (.inr (0, 64))) 49 = some (.inl 6) := by rw [va_up_ne _ _ (by omega)]; exact h49
  have e0 : ((64 : Int)).toNat = 64 := rfl
  simp (disch := first | omega | assumption | exact va_up_self _ _ _ | exact Nat.le_of_ble_eq_true rfl) only [zt_65_187, zt_65_188, zt_65_190, zt_65_192, zx_const, zx_iload, zx_aload, zx_istore, zx_astore, zx_iinc, zx_add, zx_sub, zx_mul, zx_dup, zx_dup2, zx_pop, zx_cmp, zx_if, zx_goto, zx_ifnull0, zx_ifnull1, zx_ifnn0, zx_ifnn1, zx_null, zx_geti, zx_getr, zx_puti, zx_putr, zx_iald, zx_iast, zx_zald, zx_zast, zx_aald, zx_aast, zx_alen, zx_obj, zx_ret, zx_iret, zx_zret, zx_aret, zo1_s, zo2_s, zget_s, zget_ne, zset_s, zset_ne, zset_0, zc_eq, zc_ne, zc_lt, zc_ge, zc_gt, zc_le, zi_add, zi_sub, zi_mul, zi_lt, zi_le, zi_eq, Nat.reduceBEq, zU_s, zU_k, zU_ne, if_true, if_false, not_true_eq_false, not_false_eq_true, Option.toList_some, Option.toList_none, List.cons_append, List.nil_append, Int.toNat_natCast, and_true, true_and, zx_newa, e0]
  exact hQ _ _ _ hM1
set_option maxHeartbeats 1000000 in
theorem mi_24 {K0 : Nat → Option ZK} {J0 : Mem} {P0 : Nat → Nat → Option Nat} (hM : MI K0 J0 P0 24 K J P) (hQ : ∀ K' J' P', MI K0 J0 P0 25 K' J' P' → zT (d + 1) 65 203 [(0, .inr (some 49))] [] (K', zm J', P', 75, w + 64) Q) : zT (d + 1) 65 195 [(0, .inr (some 49))] [] (K, zm J, P, 74, w) Q := by
  have h49 := hM.2.1
  have hM1 := MI_step hM (by omega)
  have k1 : va_up K 74 (some (.inr (1, 64))) 49 = some (.inl 6) := by rw [va_up_ne _ _ (by omega)]; exact h49
  have e0 : ((64 : Int)).toNat = 64 := rfl
  simp (disch := first | omega | assumption | exact va_up_self _ _ _ | exact Nat.le_of_ble_eq_true rfl) only [zt_65_195, zt_65_196, zt_65_198, zt_65_200, zx_const, zx_iload, zx_aload, zx_istore, zx_astore, zx_iinc, zx_add, zx_sub, zx_mul, zx_dup, zx_dup2, zx_pop, zx_cmp, zx_if, zx_goto, zx_ifnull0, zx_ifnull1, zx_ifnn0, zx_ifnn1, zx_null, zx_geti, zx_getr, zx_puti, zx_putr, zx_iald, zx_iast, zx_zald, zx_zast, zx_aald, zx_aast, zx_alen, zx_obj, zx_ret, zx_iret, zx_zret, zx_aret, zo1_s, zo2_s, zget_s, zget_ne, zset_s, zset_ne, zset_0, zc_eq, zc_ne, zc_lt, zc_ge, zc_gt, zc_le, zi_add, zi_sub, zi_mul, zi_lt, zi_le, zi_eq, Nat.reduceBEq, zU_s, zU_k, zU_ne, if_true, if_false, not_true_eq_false, not_false_eq_true, Option.toList_some, Option.toList_none, List.cons_append, List.nil_append, Int.toNat_natCast, and_true, true_and, zx_newa, e0]
  exact hQ _ _ _ hM1
set_option maxHeartbeats 1000000 in
theorem mi_25 {K0 : Nat → Option ZK} {J0 : Mem} {P0 : Nat → Nat → Option Nat} (hM : MI K0 J0 P0 25 K J P) (hQ : ∀ K' J' P', MI K0 J0 P0 26 K' J' P' → zT (d + 1) 65 211 [(0, .inr (some 49))] [] (K', zm J', P', 76, w + 10) Q) : zT (d + 1) 65 203 [(0, .inr (some 49))] [] (K, zm J, P, 75, w) Q := by
  have h49 := hM.2.1
  have hM1 := MI_step hM (by omega)
  have k1 : va_up K 75 (some (.inr (0, 10))) 49 = some (.inl 6) := by rw [va_up_ne _ _ (by omega)]; exact h49
  have e0 : ((10 : Int)).toNat = 10 := rfl
  simp (disch := first | omega | assumption | exact va_up_self _ _ _ | exact Nat.le_of_ble_eq_true rfl) only [zt_65_203, zt_65_204, zt_65_206, zt_65_208, zx_const, zx_iload, zx_aload, zx_istore, zx_astore, zx_iinc, zx_add, zx_sub, zx_mul, zx_dup, zx_dup2, zx_pop, zx_cmp, zx_if, zx_goto, zx_ifnull0, zx_ifnull1, zx_ifnn0, zx_ifnn1, zx_null, zx_geti, zx_getr, zx_puti, zx_putr, zx_iald, zx_iast, zx_zald, zx_zast, zx_aald, zx_aast, zx_alen, zx_obj, zx_ret, zx_iret, zx_zret, zx_aret, zo1_s, zo2_s, zget_s, zget_ne, zset_s, zset_ne, zset_0, zc_eq, zc_ne, zc_lt, zc_ge, zc_gt, zc_le, zi_add, zi_sub, zi_mul, zi_lt, zi_le, zi_eq, Nat.reduceBEq, zU_s, zU_k, zU_ne, if_true, if_false, not_true_eq_false, not_false_eq_true, Option.toList_some, Option.toList_none, List.cons_append, List.nil_append, Int.toNat_natCast, and_true, true_and, zx_newa, e0]
  exact hQ _ _ _ hM1
set_option maxHeartbeats 1000000 in
theorem mi_26 {K0 : Nat → Option ZK} {J0 : Mem} {P0 : Nat → Nat → Option Nat} (hM : MI K0 J0 P0 26 K J P) (hQ : ∀ K' J' P', MI K0 J0 P0 27 K' J' P' → zT (d + 1) 65 219 [(0, .inr (some 49))] [] (K', zm J', P', 77, w + 10) Q) : zT (d + 1) 65 211 [(0, .inr (some 49))] [] (K, zm J, P, 76, w) Q := by
  have h49 := hM.2.1
  have hM1 := MI_step hM (by omega)
  have k1 : va_up K 76 (some (.inr (0, 10))) 49 = some (.inl 6) := by rw [va_up_ne _ _ (by omega)]; exact h49
  have e0 : ((10 : Int)).toNat = 10 := rfl
  simp (disch := first | omega | assumption | exact va_up_self _ _ _ | exact Nat.le_of_ble_eq_true rfl) only [zt_65_211, zt_65_212, zt_65_214, zt_65_216, zx_const, zx_iload, zx_aload, zx_istore, zx_astore, zx_iinc, zx_add, zx_sub, zx_mul, zx_dup, zx_dup2, zx_pop, zx_cmp, zx_if, zx_goto, zx_ifnull0, zx_ifnull1, zx_ifnn0, zx_ifnn1, zx_null, zx_geti, zx_getr, zx_puti, zx_putr, zx_iald, zx_iast, zx_zald, zx_zast, zx_aald, zx_aast, zx_alen, zx_obj, zx_ret, zx_iret, zx_zret, zx_aret, zo1_s, zo2_s, zget_s, zget_ne, zset_s, zset_ne, zset_0, zc_eq, zc_ne, zc_lt, zc_ge, zc_gt, zc_le, zi_add, zi_sub, zi_mul, zi_lt, zi_le, zi_eq, Nat.reduceBEq, zU_s, zU_k, zU_ne, if_true, if_false, not_true_eq_false, not_false_eq_true, Option.toList_some, Option.toList_none, List.cons_append, List.nil_append, Int.toNat_natCast, and_true, true_and, zx_newa, e0]
  exact hQ _ _ _ hM1
set_option maxHeartbeats 1000000 in
theorem mi_27 {K0 : Nat → Option ZK} {J0 : Mem} {P0 : Nat → Nat → Option Nat} (hM : MI K0 J0 P0 27 K J P) (hQ : ∀ K' J' P', MI K0 J0 P0 28 K' J' P' → zT (d + 1) 65 226 [(0, .inr (some 49))] [] (K', zm J', P', 78, w + 4) Q) : zT (d + 1) 65 219 [(0, .inr (some 49))] [] (K, zm J, P, 77, w) Q := by
  have h49 := hM.2.1
  have hM1 := MI_step hM (by omega)
  have k1 : va_up K 77 (some (.inr (1, 4))) 49 = some (.inl 6) := by rw [va_up_ne _ _ (by omega)]; exact h49
  have e0 : ((4 : Int)).toNat = 4 := rfl
  simp (disch := first | omega | assumption | exact va_up_self _ _ _ | exact Nat.le_of_ble_eq_true rfl) only [zt_65_219, zt_65_220, zt_65_221, zt_65_223, zx_const, zx_iload, zx_aload, zx_istore, zx_astore, zx_iinc, zx_add, zx_sub, zx_mul, zx_dup, zx_dup2, zx_pop, zx_cmp, zx_if, zx_goto, zx_ifnull0, zx_ifnull1, zx_ifnn0, zx_ifnn1, zx_null, zx_geti, zx_getr, zx_puti, zx_putr, zx_iald, zx_iast, zx_zald, zx_zast, zx_aald, zx_aast, zx_alen, zx_obj, zx_ret, zx_iret, zx_zret, zx_aret, zo1_s, zo2_s, zget_s, zget_ne, zset_s, zset_ne, zset_0, zc_eq, zc_ne, zc_lt, zc_ge, zc_gt, zc_le, zi_add, zi_sub, zi_mul, zi_lt, zi_le, zi_eq, Nat.reduceBEq, zU_s, zU_k, zU_ne, if_true, if_false, not_true_eq_false, not_false_eq_true, Option.toList_some, Option.toList_none, List.cons_append, List.nil_append, Int.toNat_natCast, and_true, true_and, zx_newa, e0]
  exact hQ _ _ _ hM1
set_option maxHeartbeats 1000000 in
theorem mi_28 {K0 : Nat → Option ZK} {J0 : Mem} {P0 : Nat → Nat → Option Nat} (hM : MI K0 J0 P0 28 K J P) (hQ : ∀ K' J' P', MI K0 J0 P0 29 K' J' P' → zT (d + 1) 65 233 [(0, .inr (some 49))] [] (K', zm J', P', 79, w + 4) Q) : zT (d + 1) 65 226 [(0, .inr (some 49))] [] (K, zm J, P, 78, w) Q := by
  have h49 := hM.2.1
  have hM1 := MI_step hM (by omega)
  have k1 : va_up K 78 (some (.inr (0, 4))) 49 = some (.inl 6) := by rw [va_up_ne _ _ (by omega)]; exact h49
  have e0 : ((4 : Int)).toNat = 4 := rfl
  simp (disch := first | omega | assumption | exact va_up_self _ _ _ | exact Nat.le_of_ble_eq_true rfl) only [zt_65_226, zt_65_227, zt_65_228, zt_65_230, zx_const, zx_iload, zx_aload, zx_istore, zx_astore, zx_iinc, zx_add, zx_sub, zx_mul, zx_dup, zx_dup2, zx_pop, zx_cmp, zx_if, zx_goto, zx_ifnull0, zx_ifnull1, zx_ifnn0, zx_ifnn1, zx_null, zx_geti, zx_getr, zx_puti, zx_putr, zx_iald, zx_iast, zx_zald, zx_zast, zx_aald, zx_aast, zx_alen, zx_obj, zx_ret, zx_iret, zx_zret, zx_aret, zo1_s, zo2_s, zget_s, zget_ne, zset_s, zset_ne, zset_0, zc_eq, zc_ne, zc_lt, zc_ge, zc_gt, zc_le, zi_add, zi_sub, zi_mul, zi_lt, zi_le, zi_eq, Nat.reduceBEq, zU_s, zU_k, zU_ne, if_true, if_false, not_true_eq_false, not_false_eq_true, Option.toList_some, Option.toList_none, List.cons_append, List.nil_append, Int.toNat_natCast, and_true, true_and, zx_newa, e0]
  exact hQ _ _ _ hM1
set_option maxHeartbeats 2000000 in
theorem m_ModelI {K0 : Nat → Option ZK} {J0 : Mem} {P0 : Nat → Nat → Option Nat} (hM : MI K0 J0 P0 0 K J P) (hQ : ∀ K' J' P', MI K0 J0 P0 29 K' J' P' → zT (d + 1) 65 233 [(0, .inr (some 49))] [] (K', zm J', P', 79, w + 794) Q) : zT (d + 1) 65 0 [(0, .inr (some 49))] [] (K, zm J, P, 50, w) Q := by
  simp (disch := first | omega | assumption | exact va_up_self _ _ _ | exact Nat.le_of_ble_eq_true rfl) only [zt_65_0, zt_65_1, zx_const, zx_iload, zx_aload, zx_istore, zx_astore, zx_iinc, zx_add, zx_sub, zx_mul, zx_dup, zx_dup2, zx_pop, zx_cmp, zx_if, zx_goto, zx_ifnull0, zx_ifnull1, zx_ifnn0, zx_ifnn1, zx_null, zx_geti, zx_getr, zx_puti, zx_putr, zx_iald, zx_iast, zx_zald, zx_zast, zx_aald, zx_aast, zx_alen, zx_obj, zx_ret, zx_iret, zx_zret, zx_aret, zo1_s, zo2_s, zget_s, zget_ne, zset_s, zset_ne, zset_0, zc_eq, zc_ne, zc_lt, zc_ge, zc_gt, zc_le, zi_add, zi_sub, zi_mul, zi_lt, zi_le, zi_eq, Nat.reduceBEq, zU_s, zU_k, zU_ne, if_true, if_false, not_true_eq_false, not_false_eq_true, Option.toList_some, Option.toList_none, List.cons_append, List.nil_append, Int.toNat_natCast, and_true, true_and]
  refine mi_0 hM (fun K1 J1 P1 hM1 => ?_)
  refine mi_1 hM1 (fun K2 J2 P2 hM2 => ?_)
  refine mi_2 hM2 (fun K3 J3 P3 hM3 => ?_)
  refine mi_3 hM3 (fun K4 J4 P4 hM4 => ?_)
  refine mi_4 hM4 (fun K5 J5 P5 hM5 => ?_)
  refine mi_5 hM5 (fun K6 J6 P6 hM6 => ?_)
  refine mi_6 hM6 (fun K7 J7 P7 hM7 => ?_)
  refine mi_7 hM7 (fun K8 J8 P8 hM8 => ?_)
  refine mi_8 hM8 (fun K9 J9 P9 hM9 => ?_)
  refine mi_9 hM9 (fun K10 J10 P10 hM10 => ?_)
  refine mi_10 hM10 (fun K11 J11 P11 hM11 => ?_)
  refine mi_11 hM11 (fun K12 J12 P12 hM12 => ?_)
  refine mi_12 hM12 (fun K13 J13 P13 hM13 => ?_)
  refine mi_13 hM13 (fun K14 J14 P14 hM14 => ?_)
  refine mi_14 hM14 (fun K15 J15 P15 hM15 => ?_)
  refine mi_15 hM15 (fun K16 J16 P16 hM16 => ?_)
  refine mi_16 hM16 (fun K17 J17 P17 hM17 => ?_)
  refine mi_17 hM17 (fun K18 J18 P18 hM18 => ?_)
  refine mi_18 hM18 (fun K19 J19 P19 hM19 => ?_)
  refine mi_19 hM19 (fun K20 J20 P20 hM20 => ?_)
  refine mi_20 hM20 (fun K21 J21 P21 hM21 => ?_)
  refine mi_21 hM21 (fun K22 J22 P22 hM22 => ?_)
  refine mi_22 hM22 (fun K23 J23 P23 hM23 => ?_)
  refine mi_23 hM23 (fun K24 J24 P24 hM24 => ?_)
  refine mi_24 hM24 (fun K25 J25 P25 hM25 => ?_)
  refine mi_25 hM25 (fun K26 J26 P26 hM26 => ?_)
  refine mi_26 hM26 (fun K27 J27 P27 hM27 => ?_)
  refine mi_27 hM27 (fun K28 J28 P28 hM28 => ?_)
  refine mi_28 hM28 (fun K29 J29 P29 hM29 => ?_)
  have := hQ _ _ _ hM29
  rw [show w + 794 = w + 8 + 8 + 80 + 80 + 80 + 80 + 80 + 8 + 8 + 8 + 8 + 8 + 8 + 8 + 8 + 8 + 32 + 8 + 16 + 16 + 4 + 10 + 64 + 64 + 64 + 10 + 10 + 4 + 4 by omega] at this
  exact this
theorem msh_MI {K0 : Nat → Option ZK} {J0 : Mem} {P0 : Nat → Nat → Option Nat} (h : MI K0 J0 P0 29 K J P) : msh K P := by
  obtain ⟨h1, h2, h3, h4, h5⟩ := h
  exact ⟨h2, (h5 0 (by omega)).2.1, (h5 0 (by omega)).1, (h5 1 (by omega)).2.1, (h5 1 (by omega)).1, (h5 2 (by omega)).2.1, (h5 2 (by omega)).1, (h5 3 (by omega)).2.1, (h5 3 (by omega)).1, (h5 4 (by omega)).2.1, (h5 4 (by omega)).1, (h5 5 (by omega)).2.1, (h5 5 (by omega)).1, (h5 6 (by omega)).2.1, (h5 6 (by omega)).1, (h5 7 (by omega)).2.1, (h5 7 (by omega)).1, (h5 8 (by omega)).2.1, (h5 8 (by omega)).1, (h5 9 (by omega)).2.1, (h5 9 (by omega)).1, (h5 10 (by omega)).2.1, (h5 10 (by omega)).1, (h5 11 (by omega)).2.1, (h5 11 (by omega)).1, (h5 12 (by omega)).2.1, (h5 12 (by omega)).1, (h5 13 (by omega)).2.1, (h5 13 (by omega)).1, (h5 14 (by omega)).2.1, (h5 14 (by omega)).1, (h5 15 (by omega)).2.1, (h5 15 (by omega)).1, (h5 16 (by omega)).2.1, (h5 16 (by omega)).1, (h5 17 (by omega)).2.1, (h5 17 (by omega)).1, (h5 18 (by omega)).2.1, (h5 18 (by omega)).1, (h5 19 (by omega)).2.1, (h5 19 (by omega)).1, (h5 20 (by omega)).2.1, (h5 20 (by omega)).1, (h5 21 (by omega)).2.1, (h5 21 (by omega)).1, (h5 22 (by omega)).2.1, (h5 22 (by omega)).1, (h5 23 (by omega)).2.1, (h5 23 (by omega)).1, (h5 24 (by omega)).2.1, (h5 24 (by omega)).1, (h5 25 (by omega)).2.1, (h5 25 (by omega)).1, (h5 26 (by omega)).2.1, (h5 26 (by omega)).1, (h5 27 (by omega)).2.1, (h5 27 (by omega)).1, (h5 28 (by omega)).2.1, (h5 28 (by omega)).1⟩
set_option maxHeartbeats 1000000 in
theorem m_l1 {J0 : Mem} (hm : msh K P) (hQ : ∀ (J' : Mem), (∀ b, b ≠ 68 → J' b = J0 b) → (∀ j : Nat, j < 16 → J' 68 j = -1) → RG J' → zT (d + 1) 65 254 [(0, .inr (some 49)), (1, .inl (zi 16))] [] (K, zm J', P, n, w) Q) : ∀ (m i : Nat) (J : Mem), i + m = 16 → (∀ b, b ≠ 68 → J b = J0 b) → (∀ j : Nat, j < i → J 68 j = -1) → RG J → zT (d + 1) 65 235 [(0, .inr (some 49)), (1, .inl (zi i))] [] (K, zm J, P, n, w) Q := by
  have hm0 := hm; obtain ⟨msk49, msp1, msk50, msp2, msk51, msp3, msk52, msp4, msk53, msp5, msk54, msp6, msk55, msp7, msk56, msp8, msk57, msp9, msk58, msp10, msk59, msp12, msk60, msp13, msk61, msp14, msk62, msp15, msk63, msp16, msk64, msp17, msk65, msp18, msk66, msp19, msk67, msp22, msk68, msp23, msk69, msp24, msk70, msp25, msk71, msp26, msk72, msp27, msk73, msp28, msk74, msp29, msk75, msp30, msk76, msp31, msk77, msp32, msk78⟩ := hm0
  intro m
  induction m with
  | zero =>
    intro i J hi h1 h3 h4
    have e : i = 16 := by omega
    subst e
    have c : (16 : Int) ≤ ((16 : Nat) : Int) := by omega
    simp (disch := first | omega | assumption) only [zt_65_235, zt_65_236, zt_65_238, zx_const, zx_iload, zx_aload, zx_istore, zx_astore, zx_iinc, zx_add, zx_sub, zx_mul, zx_dup, zx_dup2, zx_pop, zx_cmp, zx_if, zx_goto, zx_ifnull0, zx_ifnull1, zx_ifnn0, zx_ifnn1, zx_null, zx_geti, zx_getr, zx_puti, zx_putr, zx_iald, zx_iast, zx_zald, zx_zast, zx_aald, zx_aast, zx_alen, zx_obj, zx_ret, zx_iret, zx_zret, zx_aret, zo1_s, zo2_s, zget_s, zget_ne, zset_s, zset_ne, zset_0, zc_eq, zc_ne, zc_lt, zc_ge, zc_gt, zc_le, zi_add, zi_sub, zi_mul, zi_lt, zi_le, zi_eq, Nat.reduceBEq, zU_s, zU_k, zU_ne, if_true, if_false, not_true_eq_false, not_false_eq_true, Option.toList_some, Option.toList_none, List.cons_append, List.nil_append, Int.toNat_natCast, and_true, true_and, c]
    exact hQ J h1 h3 h4
  | succ m ih =>
    intro i J hi h1 h3 h4
    have c : ¬ (16 : Int) ≤ (i : Int) := by omega
    rw [zt_65_235]
    simp (disch := first | omega | assumption) only [zt_65_236, zt_65_238, zt_65_241, zt_65_242, zt_65_245, zt_65_246, zt_65_247, zt_65_248, zt_65_251, zx_const, zx_iload, zx_aload, zx_istore, zx_astore, zx_iinc, zx_add, zx_sub, zx_mul, zx_dup, zx_dup2, zx_pop, zx_cmp, zx_if, zx_goto, zx_ifnull0, zx_ifnull1, zx_ifnn0, zx_ifnn1, zx_null, zx_geti, zx_getr, zx_puti, zx_putr, zx_iald, zx_iast, zx_zald, zx_zast, zx_aald, zx_aast, zx_alen, zx_obj, zx_ret, zx_iret, zx_zret, zx_aret, zo1_s, zo2_s, zget_s, zget_ne, zset_s, zset_ne, zset_0, zc_eq, zc_ne, zc_lt, zc_ge, zc_gt, zc_le, zi_add, zi_sub, zi_mul, zi_lt, zi_le, zi_eq, Nat.reduceBEq, zU_s, zU_k, zU_ne, if_true, if_false, not_true_eq_false, not_false_eq_true, Option.toList_some, Option.toList_none, List.cons_append, List.nil_append, Int.toNat_natCast, and_true, true_and, msp1, msp2, msp3, msp4, msp5, msp6, msp7, msp8, msp9, msp10, msp12, msp13, msp14, msp15, msp16, msp17, msp18, msp19, msp22, msp23, msp24, msp25, msp26, msp27, msp28, msp29, msp30, msp31, msp32, c]
    have := ih (i + 1) (zU J 68 i (-1)) (by omega) (fun b hb1 => by rw [zU_ab _ _ _ hb1]; exact h1 b hb1) (fun j hj => ?_) (RG_U h4 (by omega) (by omega))
    · rw [nat1] at this
      exact this
    · by_cases e : j = i
      · subst e; exact zU_s _ _ _ _
      · rw [zU_k _ _ _ e]; exact h3 j (by omega)
set_option maxHeartbeats 1000000 in
theorem m_l2 {J0 : Mem} (hm : msh K P) (hQ : ∀ (J' : Mem), (∀ b, b ≠ 75 → b ≠ 76 → J' b = J0 b) → (∀ j : Nat, j < 10 → J' 75 j = 4 ∧ J' 76 j = j) → RG J' → zT (d + 1) 65 282 [(0, .inr (some 49)), (1, .inl (zi 10))] [] (K, zm J', P, n, w) Q) : ∀ (m i : Nat) (J : Mem), i + m = 10 → (∀ b, b ≠ 75 → b ≠ 76 → J b = J0 b) → (∀ j : Nat, j < i → J 75 j = 4 ∧ J 76 j = j) → RG J → zT (d + 1) 65 256 [(0, .inr (some 49)), (1, .inl (zi i))] [] (K, zm J, P, n, w) Q := by
  have hm0 := hm; obtain ⟨msk49, msp1, msk50, msp2, msk51, msp3, msk52, msp4, msk53, msp5, msk54, msp6, msk55, msp7, msk56, msp8, msk57, msp9, msk58, msp10, msk59, msp12, msk60, msp13, msk61, msp14, msk62, msp15, msk63, msp16, msk64, msp17, msk65, msp18, msk66, msp19, msk67, msp22, msk68, msp23, msk69, msp24, msk70, msp25, msk71, msp26, msk72, msp27, msk73, msp28, msk74, msp29, msk75, msp30, msk76, msp31, msk77, msp32, msk78⟩ := hm0
  intro m
  induction m with
  | zero =>
    intro i J hi h1 h3 h4
    have e : i = 10 := by omega
    subst e
    have c : (10 : Int) ≤ ((10 : Nat) : Int) := by omega
    simp (disch := first | omega | assumption) only [zt_65_256, zt_65_257, zt_65_259, zx_const, zx_iload, zx_aload, zx_istore, zx_astore, zx_iinc, zx_add, zx_sub, zx_mul, zx_dup, zx_dup2, zx_pop, zx_cmp, zx_if, zx_goto, zx_ifnull0, zx_ifnull1, zx_ifnn0, zx_ifnn1, zx_null, zx_geti, zx_getr, zx_puti, zx_putr, zx_iald, zx_iast, zx_zald, zx_zast, zx_aald, zx_aast, zx_alen, zx_obj, zx_ret, zx_iret, zx_zret, zx_aret, zo1_s, zo2_s, zget_s, zget_ne, zset_s, zset_ne, zset_0, zc_eq, zc_ne, zc_lt, zc_ge, zc_gt, zc_le, zi_add, zi_sub, zi_mul, zi_lt, zi_le, zi_eq, Nat.reduceBEq, zU_s, zU_k, zU_ne, if_true, if_false, not_true_eq_false, not_false_eq_true, Option.toList_some, Option.toList_none, List.cons_append, List.nil_append, Int.toNat_natCast, and_true, true_and, c]
    exact hQ J h1 h3 h4
  | succ m ih =>
    intro i J hi h1 h3 h4
    have c : ¬ (10 : Int) ≤ (i : Int) := by omega
    rw [zt_65_256]
    simp (disch := first | omega | assumption) only [zt_65_257, zt_65_259, zt_65_262, zt_65_263, zt_65_266, zt_65_267, zt_65_268, zt_65_269, zt_65_270, zt_65_273, zt_65_274, zt_65_275, zt_65_276, zt_65_279, zx_const, zx_iload, zx_aload, zx_istore, zx_astore, zx_iinc, zx_add, zx_sub, zx_mul, zx_dup, zx_dup2, zx_pop, zx_cmp, zx_if, zx_goto, zx_ifnull0, zx_ifnull1, zx_ifnn0, zx_ifnn1, zx_null, zx_geti, zx_getr, zx_puti, zx_putr, zx_iald, zx_iast, zx_zald, zx_zast, zx_aald, zx_aast, zx_alen, zx_obj, zx_ret, zx_iret, zx_zret, zx_aret, zo1_s, zo2_s, zget_s, zget_ne, zset_s, zset_ne, zset_0, zc_eq, zc_ne, zc_lt, zc_ge, zc_gt, zc_le, zi_add, zi_sub, zi_mul, zi_lt, zi_le, zi_eq, Nat.reduceBEq, zU_s, zU_k, zU_ne, if_true, if_false, not_true_eq_false, not_false_eq_true, Option.toList_some, Option.toList_none, List.cons_append, List.nil_append, Int.toNat_natCast, and_true, true_and, msp1, msp2, msp3, msp4, msp5, msp6, msp7, msp8, msp9, msp10, msp12, msp13, msp14, msp15, msp16, msp17, msp18, msp19, msp22, msp23, msp24, msp25, msp26, msp27, msp28, msp29, msp30, msp31, msp32, c]
    have := ih (i + 1) (zU (zU J 75 i 4) 76 i i) (by omega) (fun b hb1 hb2 => by rw [zU_ab _ _ _ hb2, zU_ab _ _ _ hb1]; exact h1 b hb1 hb2) (fun j hj => ?_) (RG_U (RG_U h4 (by omega) (by omega)) (by omega) (by omega))
    · rw [nat1] at this
      exact this
    · by_cases e : j = i
      · subst e; exact ⟨by rw [zU_ne (by decide), zU_s], zU_s _ _ _ _⟩
      · have h35 := h3 j (by omega)
        exact ⟨by rw [zU_ne (by decide), zU_k _ _ _ e]; exact h35.1, by rw [zU_k _ _ _ e, zU_ne (by decide)]; exact h35.2⟩
end CK
set_option maxHeartbeats 1000000 in
/-- both constructors done: the relation holds, with no thread -/
theorem INV_0 {L w : Nat} {s : Nat → Int} {K0 K : Nat → Option ZK} {J0 J1 : Mem} {P0 P : Nat → Nat → Option Nat} {J : Mem} (hF : KF (some (.inr (9, L))) s K0 J0 P0) (hM : MI K0 J0 P0 29 K J1 P) (hJ : ∀ b, ¬ (b = 68 ∨ b = 75 ∨ b = 76 ∨ b = 49) → J b = J1 b) (h49 : ∀ k, k ≠ 11 → J 49 k = 0) (h11 : J 49 11 = 10) (h68 : ∀ j : Nat, j < 16 → J 68 j = -1) (h75 : ∀ j : Nat, j < 10 → J 75 j = 4 ∧ J 76 j = j) (hr : RG J) (hw : w ≤ 10000) : INV L s 0 (K, zm J, P, 79, w) := by
  obtain ⟨f0, f1, f2, f3, ⟨f4, f5, f6, f7⟩, f8, f9, f10, f11, f12, f13⟩ := hF
  have hms := msh_MI hM
  obtain ⟨m1, m2, m3, m4, m5⟩ := hM
  have kz : ∀ a, a < 49 → K a = K0 a := fun a ha => (m1 a ha).1
  have pz : ∀ a, a < 49 → P a = P0 a := fun a ha => (m1 a ha).2.2
  have jz : ∀ a, a < 49 → J a = J0 a := fun a ha => by rw [hJ a (by omega), (m1 a ha).2.1]
  have row : ∀ b, 50 ≤ b → b ≤ 78 → ¬ (b = 68 ∨ b = 75 ∨ b = 76) → J b = (fun _ => 0) := fun b h1 h2 h3 => by
    have := (m5 (b - 50) (by omega)).2.2
    rw [show 50 + (b - 50) = b by omega] at this
    rw [hJ b (by omega), this]
  have hk : krn K P := by
    obtain ⟨k1, p10, k2, p12, k3, p13, ⟨l1, l2, l3, l4⟩, p14, k46, p15, k47, p16, k48, p3, pp⟩ := f3
    refine ⟨by rw [kz 1 (by omega)]; exact k1, by rw [pz 1 (by omega)]; exact p10, by rw [kz 2 (by omega)]; exact k2, by rw [pz 1 (by omega)]; exact p12, by rw [kz 3 (by omega)]; exact k3, by rw [pz 1 (by omega)]; exact p13, ⟨by rw [kz 44 (by omega)]; exact l1, by rw [pz 44 (by omega)]; exact l2, by rw [kz (44 + 1) (by omega)]; exact l3, l4⟩, by rw [pz 1 (by omega)]; exact p14, by rw [kz 46 (by omega)]; exact k46, by rw [pz 1 (by omega)]; exact p15, by rw [kz 47 (by omega)]; exact k47, by rw [pz 1 (by omega)]; exact p16, by rw [kz 48 (by omega)]; exact k48, fun p hp => by rw [pz 3 (by omega)]; exact p3 p hp, fun p hp => prc_c (fun a h1 h2 => kz a (by omega)) (fun a h1 h2 => pz a (by omega)) (pp p hp)⟩
  have hSn : ∀ (N : Nat) (al : Nat → Prop) (st : Nat → Int), (∀ i, i < N → ¬ al i) → SL [] N al st := fun N al st h => ⟨fun x hx => absurd hx (by simp), fun i hi ha => absurd ha (h i hi), List.Pairwise.nil⟩
  have ln0 : ∀ a, J a 1 = 0 → ln J a = [] := fun a h => by unfold ln; rw [h]; rfl
  refine ⟨K, J, P, 79, w, 0, fun _ => 0, fun _ _ => 0, rfl, by rw [kz 0 (by omega)]; exact f0, by rw [jz 0 (by omega)]; exact f1, ⟨hk, hms, by omega, by omega, fun t h => by omega, fun t u h => by omega, fun t h => by omega, fun t h => by omega, fun t u h => by omega⟩, ⟨⟨?_, ?_, ?_, ?_, ?_, ?_, ?_⟩, ?_, ?_, ?_, fun t h => by omega, fun t h => by omega, fun t h => by omega, ?_, ⟨?_, fun t h => by omega⟩, fun t h => by omega, fun t u h => by omega, fun t h => by omega, ⟨?_, ?_, ?_, fun t h => by omega⟩, ⟨?_, ?_, ?_⟩, fun t h => by omega, fun t h => by omega, ?_, ?_, ⟨?_, ?_, ?_, ?_, ?_⟩, hr, hr⟩, fun u _ => ?_, by omega, by omega⟩
  · rw [jz 1 (by omega), f4]; rfl
  · rw [h49 0 (by decide)]; rfl
  · rw [jz 1 (by omega), f5, h49 20 (by decide)]
  · rw [jz 1 (by omega), f6, h49 21 (by decide)]
  · rw [jz 1 (by omega), f7, h49 33 (by decide)]
  · rw [h49 21 (by decide)]; exact Int.le_refl _
  · rw [h49 21 (by decide), h49 20 (by decide)]; exact Int.le_refl _
  · intro f hf
    rw [jz 46 (by omega), f11, row 71 (by omega) (by omega) (by omega)]
  · intro g hg
    rw [h68 g hg, row 69 (by omega) (by omega) (by omega), jz 47 (by omega), f12 g hg]
    exact ⟨Or.inl rfl, Or.inl rfl, by rw [if_pos (by omega)]⟩
  · intro g hg
    rw [jz 48 (by omega), f13, row 70 (by omega) (by omega) (by omega)]
    exact ⟨rfl, Or.inl rfl⟩
  · intro p hp
    obtain ⟨c1, c2, c3, c4, c5, c6⟩ := f8 p hp
    rw [jz (4 + 10 * p) (by omega), c1, c2]
    exact ⟨rfl, by omega, by omega, fun t h => by omega⟩
  · intro p hp
    obtain ⟨c1, c2, c3, c4, c5, c6⟩ := f8 p hp
    have e : J (4 + 10 * p + 8) 1 = 0 := by rw [jz _ (by omega)]; exact c6
    rw [ln0 _ e, e]
    exact ⟨hSn _ _ _ (fun i hi => by omega), by omega⟩
  · intro f hf
    obtain ⟨c1, c2⟩ := h75 f hf
    rw [c1, c2, h11]; omega
  · intro g hg h
    rw [h68 g hg] at h; omega
  · intro g h hg hh hgh hp
    rw [h68 g hg] at hp; omega
  · intro p hp
    obtain ⟨c1, c2, c3, c4, c5, c6⟩ := f8 p hp
    have e : J (4 + 10 * p + 4) 1 = 0 := by rw [jz _ (by omega)]; exact c4
    rw [ln0 _ e, e]
    exact ⟨hSn _ _ _ (fun i hi q => by rw [(h75 i hi).1] at q; omega), by omega, by omega⟩
  · have e1 : J 44 1 = 10 := by rw [jz 44 (by omega)]; exact f9
    have e2 : ln J 44 = [0, 1, 2, 3, 4, 5, 6, 7, 8, 9] := by
      unfold ln
      rw [e1, show ((10 : Int)).toNat = 10 from rfl, show (44 + 1) = 45 from rfl, jz 45 (by omega)]
      have : (List.range 10).map (fun i => J0 45 i) = (List.range 10).map (fun i => ((i : Nat) : Int)) := List.map_congr_left (fun i hi => f10 i (List.mem_range.mp hi))
      rw [this]; rfl
    rw [e2]
    refine ⟨fun x hx => ?_, fun i hi _ => ?_, ?_⟩
    · have : 0 ≤ x ∧ x < 10 := by simp at hx; omega
      exact ⟨by omega, by omega, (h75 x.toNat (by omega)).1⟩
    · simp; omega
    · have hv : ∀ i : Nat, i < 10 → J 76 i = i := fun i hi => (h75 i hi).2
      simp [hv]
  · rw [jz 44 (by omega), f9]; omega
  · intro q hq
    obtain ⟨c1, c2, c3, c4, c5, c6⟩ := f8 q hq
    rw [jz (4 + 10 * q + 6) (by omega), c5, row 77 (by omega) (by omega) (by omega)]
    exact ⟨rfl, Or.inl rfl, fun h => by simp at h⟩
  · intro p hp
    obtain ⟨c1, c2, c3, c4, c5, c6⟩ := f8 p hp
    have e : J (4 + 10 * p + 1) 2 = 0 := by rw [jz _ (by omega)]; exact c3
    have e0 : bp J (4 + 10 * p + 1) = [] := by unfold bp; rw [e]; rfl
    have r72 : ∀ i, J 72 i = 0 := fun i => by rw [row 72 (by omega) (by omega) (by omega)]
    rw [e0, e]
    refine ⟨hSn _ _ _ (fun i hi q => ?_), fun i hi => ?_, by omega, by omega, fun g hg => ?_⟩
    · unfold kal at q; rw [r72] at q; omega
    · rw [e] at hi; exact absurd hi (by simp)
    · rw [r72, h11]
      exact ⟨by omega, by omega, fun q => by omega⟩
  · rw [h49 33 (by decide)]; exact Int.le_refl _
  · rw [h49 33 (by decide)]; omega
  · rw [h11]; omega
  · rw [h11]; omega
  · rw [h49 20 (by decide)]; omega
  · rw [row 50 (by omega) (by omega) (by omega), row 51 (by omega) (by omega) (by omega), row 59 (by omega) (by omega) (by omega), row 63 (by omega) (by omega) (by omega)]
    exact ⟨rfl, rfl, rfl, rfl⟩
set_option maxHeartbeats 4000000 in
theorem zlaw : ∀ (L : Nat) (xs : Nat → Int32), L ≤ 2560 → zT 7 109 0 [(0, .inr (some 0))] [] (z0 L xs) (fun r h' => r = some (.inl 1) ∧ h'.2.2.2.1 ≤ 600001 ∧ h'.2.2.2.2 ≤ 7302250) := by
  intro L xs hL
  have hz0 : z0 L xs = ((fun a => if a = 0 then some (.inr (9, L)) else none : Nat → Option ZK), zm (fun a => if a = 0 then (fun j => (xs j).toInt) else fun _ => 0), (fun _ _ => none : Nat → Nat → Option Nat), 1, 0) := by
    unfold z0
    congr 2
    funext a j
    unfold zm
    dsimp only
    by_cases e : a = 0
    · rw [if_pos e, if_pos e]; exact zi_of _
    · rw [if_neg e, if_neg e]; rfl
  rw [hz0]
  have hs : ∀ j, zr ((fun j => (xs j).toInt) j) := fun j => zr_of _
  have r0 : RG (fun a => if a = 0 then (fun j => (xs j).toInt) else fun _ => (0 : Int)) := fun a j => by
    show -2147483648 ≤ (if a = 0 then (fun j => (xs j).toInt) else fun _ => (0 : Int)) j ∧ (if a = 0 then (fun j => (xs j).toInt) else fun _ => (0 : Int)) j < 2147483648
    by_cases e : a = 0
    · rw [if_pos e]; exact hs j
    · rw [if_neg e]; omega
  have k00 : (fun a => if a = 0 then some (.inr (9, L)) else none : Nat → Option ZK) 0 = some (.inr (9, L)) := if_pos rfl
  have j00 : (fun a => if a = 0 then (fun j => (xs j).toInt) else fun _ => (0 : Int)) 0 = (fun j => (xs j).toInt) := if_pos rfl
  generalize (fun j => (xs j).toInt) = s at *
  generalize (fun a => if a = 0 then s else fun _ => (0 : Int)) = J00 at *
  generalize (fun a => if a = 0 then some (.inr (9, L)) else none : Nat → Option ZK) = K00 at *
  generalize (fun _ _ => none : Nat → Nat → Option Nat) = P00 at *
  have z0' : zfn 0 = 10 := rfl
  have z6 : zfn 6 = 34 := rfl
  have k1 : va_up K00 1 (some (.inl 0)) 1 = some (.inl 0) := va_up_self _ _ _
  show zT (0 + 7) 109 0 [(0, .inr (some 0))] [] (K00, zm J00, P00, 1, 0) _
  simp (disch := first | omega | assumption | exact va_up_self _ _ _ | exact Nat.le_of_ble_eq_true rfl) only [zt_109_0, zt_109_3, zt_109_4, zx_const, zx_iload, zx_aload, zx_istore, zx_astore, zx_iinc, zx_add, zx_sub, zx_mul, zx_dup, zx_dup2, zx_pop, zx_cmp, zx_if, zx_goto, zx_ifnull0, zx_ifnull1, zx_ifnn0, zx_ifnn1, zx_null, zx_geti, zx_getr, zx_puti, zx_putr, zx_iald, zx_iast, zx_zald, zx_zast, zx_aald, zx_aast, zx_alen, zx_obj, zx_ret, zx_iret, zx_zret, zx_aret, zo1_s, zo2_s, zget_s, zget_ne, zset_s, zset_ne, zset_0, zc_eq, zc_ne, zc_lt, zc_ge, zc_gt, zc_le, zi_add, zi_sub, zi_mul, zi_lt, zi_le, zi_eq, Nat.reduceBEq, zU_s, zU_k, zU_ne, if_true, if_false, not_true_eq_false, not_false_eq_true, Option.toList_some, Option.toList_none, List.cons_append, List.nil_append, Int.toNat_natCast, and_true, true_and, zcs1_0, zcv1_0, zcs2_0, zcv2_0, zcs3_0, zcv3_0, zcs4_0, zcv4_0, zcs5_0, zcv5_0, zcs6_0, zcv6_0, zcs1_1, zcv1_1, zcs2_1, zcv2_1, zcs3_1, zcv3_1, zcs4_1, zcv4_1, zcs5_1, zcv5_1, zcs6_1, zcv6_1, zcs1_2, zcv1_2, zcs2_2, zcv2_2, zcs3_2, zcv3_2, zcs4_2, zcv4_2, zcs5_2, zcv5_2, zcs6_2, zcv6_2, zcs1_3, zcv1_3, zcs2_3, zcv2_3, zcs3_3, zcv3_3, zcs4_3, zcv4_3, zcs5_3, zcv5_3, zcs6_3, zcv6_3, zcs1_4, zcv1_4, zcs2_4, zcv2_4, zcs3_4, zcv3_4, zcs4_4, zcv4_4, zcs5_4, zcv5_4, zcs6_4, zcv6_4, zx_new, z0']
  refine s_kernelI (d := 2) (k0 := some (.inr (9, L))) (s := s) k1 (by rw [va_up_ne _ _ (by omega)]; exact k00) (by rw [va_up_ne _ _ (by omega)]; exact j00) (RG_up r0) (fun K0 J0 P0 hF => ?_)
  have k6 : va_up K0 49 (some (.inl 6)) 49 = some (.inl 6) := va_up_self _ _ _
  simp (disch := first | omega | assumption | exact va_up_self _ _ _ | exact Nat.le_of_ble_eq_true rfl) only [zt_109_7, zt_109_8, zt_109_11, zt_109_12, zx_const, zx_iload, zx_aload, zx_istore, zx_astore, zx_iinc, zx_add, zx_sub, zx_mul, zx_dup, zx_dup2, zx_pop, zx_cmp, zx_if, zx_goto, zx_ifnull0, zx_ifnull1, zx_ifnn0, zx_ifnn1, zx_null, zx_geti, zx_getr, zx_puti, zx_putr, zx_iald, zx_iast, zx_zald, zx_zast, zx_aald, zx_aast, zx_alen, zx_obj, zx_ret, zx_iret, zx_zret, zx_aret, zo1_s, zo2_s, zget_s, zget_ne, zset_s, zset_ne, zset_0, zc_eq, zc_ne, zc_lt, zc_ge, zc_gt, zc_le, zi_add, zi_sub, zi_mul, zi_lt, zi_le, zi_eq, Nat.reduceBEq, zU_s, zU_k, zU_ne, if_true, if_false, not_true_eq_false, not_false_eq_true, Option.toList_some, Option.toList_none, List.cons_append, List.nil_append, Int.toNat_natCast, and_true, true_and, zcs1_0, zcv1_0, zcs2_0, zcv2_0, zcs3_0, zcv3_0, zcs4_0, zcv4_0, zcs5_0, zcv5_0, zcs6_0, zcv6_0, zcs1_1, zcv1_1, zcs2_1, zcv2_1, zcs3_1, zcv3_1, zcs4_1, zcv4_1, zcs5_1, zcv5_1, zcs6_1, zcv6_1, zcs1_2, zcv1_2, zcs2_2, zcv2_2, zcs3_2, zcv3_2, zcs4_2, zcv4_2, zcs5_2, zcv5_2, zcs6_2, zcv6_2, zcs1_3, zcv1_3, zcs2_3, zcv2_3, zcs3_3, zcv3_3, zcs4_3, zcv4_3, zcs5_3, zcv5_3, zcs6_3, zcv6_3, zcs1_4, zcv1_4, zcs2_4, zcv2_4, zcs3_4, zcv3_4, zcs4_4, zcv4_4, zcs5_4, zcv5_4, zcs6_4, zcv6_4, zx_new, z6]
  refine m_ModelI (d := 5) (K0 := K0) (J0 := J0) (P0 := P0) ⟨fun b hb => ⟨va_up_ne _ _ (by omega), va_up_ne _ _ (by omega), va_up_ne _ _ (by omega)⟩, k6, va_up_self _ _ _, RG_up hF.2.2.1, fun q hq => by omega⟩ (fun K1 J1 P1 hM => ?_)
  have hm := msh_MI hM
  have k49 := hm.1
  simp (disch := first | omega | assumption | exact va_up_self _ _ _ | exact Nat.le_of_ble_eq_true rfl) only [zt_65_233, zt_65_234, zx_const, zx_iload, zx_aload, zx_istore, zx_astore, zx_iinc, zx_add, zx_sub, zx_mul, zx_dup, zx_dup2, zx_pop, zx_cmp, zx_if, zx_goto, zx_ifnull0, zx_ifnull1, zx_ifnn0, zx_ifnn1, zx_null, zx_geti, zx_getr, zx_puti, zx_putr, zx_iald, zx_iast, zx_zald, zx_zast, zx_aald, zx_aast, zx_alen, zx_obj, zx_ret, zx_iret, zx_zret, zx_aret, zo1_s, zo2_s, zget_s, zget_ne, zset_s, zset_ne, zset_0, zc_eq, zc_ne, zc_lt, zc_ge, zc_gt, zc_le, zi_add, zi_sub, zi_mul, zi_lt, zi_le, zi_eq, Nat.reduceBEq, zU_s, zU_k, zU_ne, if_true, if_false, not_true_eq_false, not_false_eq_true, Option.toList_some, Option.toList_none, List.cons_append, List.nil_append, Int.toNat_natCast, and_true, true_and]
  refine m_l1 (d := 5) (J0 := J1) hm (fun J2 a1 a2 a3 => ?_) 16 0 J1 (by omega) (fun _ _ => rfl) (fun j hj => by omega) hM.2.2.2.1
  simp (disch := first | omega | assumption | exact va_up_self _ _ _ | exact Nat.le_of_ble_eq_true rfl) only [zt_65_254, zt_65_255, zx_const, zx_iload, zx_aload, zx_istore, zx_astore, zx_iinc, zx_add, zx_sub, zx_mul, zx_dup, zx_dup2, zx_pop, zx_cmp, zx_if, zx_goto, zx_ifnull0, zx_ifnull1, zx_ifnn0, zx_ifnn1, zx_null, zx_geti, zx_getr, zx_puti, zx_putr, zx_iald, zx_iast, zx_zald, zx_zast, zx_aald, zx_aast, zx_alen, zx_obj, zx_ret, zx_iret, zx_zret, zx_aret, zo1_s, zo2_s, zget_s, zget_ne, zset_s, zset_ne, zset_0, zc_eq, zc_ne, zc_lt, zc_ge, zc_gt, zc_le, zi_add, zi_sub, zi_mul, zi_lt, zi_le, zi_eq, Nat.reduceBEq, zU_s, zU_k, zU_ne, if_true, if_false, not_true_eq_false, not_false_eq_true, Option.toList_some, Option.toList_none, List.cons_append, List.nil_append, Int.toNat_natCast, and_true, true_and]
  refine m_l2 (d := 5) (J0 := J2) hm (fun J3 b1 b2 b3 => ?_) 10 0 J2 (by omega) (fun _ _ _ => rfl) (fun j hj => by omega) a3
  simp (disch := first | omega | assumption | exact va_up_self _ _ _ | exact Nat.le_of_ble_eq_true rfl) only [zt_65_282, zt_65_283, zt_65_285, zt_65_288, zx_const, zx_iload, zx_aload, zx_istore, zx_astore, zx_iinc, zx_add, zx_sub, zx_mul, zx_dup, zx_dup2, zx_pop, zx_cmp, zx_if, zx_goto, zx_ifnull0, zx_ifnull1, zx_ifnn0, zx_ifnn1, zx_null, zx_geti, zx_getr, zx_puti, zx_putr, zx_iald, zx_iast, zx_zald, zx_zast, zx_aald, zx_aast, zx_alen, zx_obj, zx_ret, zx_iret, zx_zret, zx_aret, zo1_s, zo2_s, zget_s, zget_ne, zset_s, zset_ne, zset_0, zc_eq, zc_ne, zc_lt, zc_ge, zc_gt, zc_le, zi_add, zi_sub, zi_mul, zi_lt, zi_le, zi_eq, Nat.reduceBEq, zU_s, zU_k, zU_ne, if_true, if_false, not_true_eq_false, not_false_eq_true, Option.toList_some, Option.toList_none, List.cons_append, List.nil_append, Int.toNat_natCast, and_true, true_and]
  simp (disch := first | omega | assumption | exact va_up_self _ _ _ | exact Nat.le_of_ble_eq_true rfl) only [zt_109_15, zt_109_16, zt_109_17, zx_const, zx_iload, zx_aload, zx_istore, zx_astore, zx_iinc, zx_add, zx_sub, zx_mul, zx_dup, zx_dup2, zx_pop, zx_cmp, zx_if, zx_goto, zx_ifnull0, zx_ifnull1, zx_ifnn0, zx_ifnn1, zx_null, zx_geti, zx_getr, zx_puti, zx_putr, zx_iald, zx_iast, zx_zald, zx_zast, zx_aald, zx_aast, zx_alen, zx_obj, zx_ret, zx_iret, zx_zret, zx_aret, zo1_s, zo2_s, zget_s, zget_ne, zset_s, zset_ne, zset_0, zc_eq, zc_ne, zc_lt, zc_ge, zc_gt, zc_le, zi_add, zi_sub, zi_mul, zi_lt, zi_le, zi_eq, Nat.reduceBEq, zU_s, zU_k, zU_ne, if_true, if_false, not_true_eq_false, not_false_eq_true, Option.toList_some, Option.toList_none, List.cons_append, List.nil_append, Int.toNat_natCast, and_true, true_and]
  refine law_loop (d := 0) hs hL 513 0 _ (by omega) (INV_0 (J := zU J3 49 11 10) hF hM (fun b hb => ?_) (fun k hk => ?_) (zU_s _ _ _ _) (fun j hj => ?_) (fun j hj => ?_) (RG_U b3 (by omega) (by omega)) (by omega))
  · rw [zU_ab _ _ _ (by omega), b1 b (by omega) (by omega), a1 b (by omega)]
  · rw [zU_k _ _ _ hk, b1 49 (by omega) (by omega), a1 49 (by omega), hM.2.2.1]
  · rw [zU_ne (by omega), b1 68 (by omega) (by omega)]; exact a2 j hj
  · rw [zU_ne (by omega), zU_ne (by omega)]; exact b2 j hj

