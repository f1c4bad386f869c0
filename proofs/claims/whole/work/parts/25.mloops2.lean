/-! The reference's other loops. -/
set_option maxHeartbeats 4000000 in
theorem l_framesAt {d : Nat} {K : Nat → Option ZK} {J : Nat → Nat → Int} {P : Nat → Nat → Option Nat} {n w : Nat} {Q : Option ZV → ZH → Prop} {p : Int} (hm : msh K P) (hr : RG J) (hp : zr p) (hQ : Q (some (.inl (zi (cnF (fun i => J 75 i = p) 10)))) (K, zm J, P, n, w)) : ∀ j k : Nat, k + j = 10 → zT d 92 4 [(0, .inr (some 49)), (1, .inl (zi p)), (2, .inl (zi (cnF (fun i => J 75 i = p) k))), (3, .inl (zi k))] [] (K, zm J, P, n, w) Q := by
  have hm0 := hm; obtain ⟨msk49, msp1, msk50, msp2, msk51, msp3, msk52, msp4, msk53, msp5, msk54, msp6, msk55, msp7, msk56, msp8, msk57, msp9, msk58, msp10, msk59, msp12, msk60, msp13, msk61, msp14, msk62, msp15, msk63, msp16, msk64, msp17, msk65, msp18, msk66, msp19, msk67, msp22, msk68, msp23, msk69, msp24, msk70, msp25, msk71, msp26, msk72, msp27, msk73, msp28, msk74, msp29, msk75, msp30, msk76, msp31, msk77, msp32, msk78⟩ := hm0
  obtain ⟨p1, p2⟩ := hp
  intro j
  induction j with
  | zero =>
    intro k hk
    rw [show k = 10 by omega]
    have g : (10 : Int) ≤ ((10 : Nat) : Int) := by omega
    simp (disch := omega) only [zt_92_4, zt_92_5, zt_92_7, zt_92_34, zt_92_35, zx_const, zx_iload, zx_aload, zx_istore, zx_astore, zx_iinc, zx_add, zx_sub, zx_mul, zx_dup, zx_dup2, zx_pop, zx_cmp, zx_if, zx_goto, zx_ifnull0, zx_ifnull1, zx_ifnn0, zx_ifnn1, zx_null, zx_geti, zx_getr, zx_puti, zx_putr, zx_iald, zx_iast, zx_zald, zx_zast, zx_aald, zx_aast, zx_alen, zx_obj, zx_ret, zx_iret, zx_zret, zx_aret, zo1_s, zo2_s, zget_s, zget_ne, zset_s, zset_ne, zset_0, zc_eq, zc_ne, zc_lt, zc_ge, zc_gt, zc_le, zi_add, zi_sub, zi_mul, zi_lt, zi_le, zi_eq, Nat.reduceBEq, zU_s, zU_k, zU_ne, if_true, if_false, not_true_eq_false, not_false_eq_true, Option.toList_some, Option.toList_none, List.cons_append, List.nil_append, Int.toNat_natCast, and_true, true_and, msp1, msp2, msp3, msp4, msp5, msp6, msp7, msp8, msp9, msp10, msp12, msp13, msp14, msp15, msp16, msp17, msp18, msp19, msp22, msp23, msp24, msp25, msp26, msp27, msp28, msp29, msp30, msp31, msp32, g]
    exact hQ
  | succ j ih =>
    intro k hk
    have g : ¬ (10 : Int) ≤ k := by omega
    have r1 := hr 75 k
    have h2 := ih (k + 1) (by omega)
    rw [nat1] at h2
    rw [zt_92_4]
    by_cases c1 : J 75 k = p
    · rw [cnF_t (al := fun i => J 75 i = p) c1] at h2
      simp (disch := omega) only [zt_92_5, zt_92_7, zt_92_10, zt_92_11, zt_92_12, zt_92_15, zt_92_16, zt_92_17, zt_92_18, zt_92_21, zt_92_22, zt_92_25, zt_92_26, zt_92_27, zt_92_28, zt_92_31, zx_const, zx_iload, zx_aload, zx_istore, zx_astore, zx_iinc, zx_add, zx_sub, zx_mul, zx_dup, zx_dup2, zx_pop, zx_cmp, zx_if, zx_goto, zx_ifnull0, zx_ifnull1, zx_ifnn0, zx_ifnn1, zx_null, zx_geti, zx_getr, zx_puti, zx_putr, zx_iald, zx_iast, zx_zald, zx_zast, zx_aald, zx_aast, zx_alen, zx_obj, zx_ret, zx_iret, zx_zret, zx_aret, zo1_s, zo2_s, zget_s, zget_ne, zset_s, zset_ne, zset_0, zc_eq, zc_ne, zc_lt, zc_ge, zc_gt, zc_le, zi_add, zi_sub, zi_mul, zi_lt, zi_le, zi_eq, Nat.reduceBEq, zU_s, zU_k, zU_ne, if_true, if_false, not_true_eq_false, not_false_eq_true, Option.toList_some, Option.toList_none, List.cons_append, List.nil_append, Int.toNat_natCast, and_true, true_and, msp1, msp2, msp3, msp4, msp5, msp6, msp7, msp8, msp9, msp10, msp12, msp13, msp14, msp15, msp16, msp17, msp18, msp19, msp22, msp23, msp24, msp25, msp26, msp27, msp28, msp29, msp30, msp31, msp32, g, c1]
      exact h2
    · rw [cnF_f (al := fun i => J 75 i = p) c1] at h2
      simp (disch := omega) only [zt_92_5, zt_92_7, zt_92_10, zt_92_11, zt_92_12, zt_92_15, zt_92_16, zt_92_17, zt_92_18, zt_92_21, zt_92_22, zt_92_25, zt_92_26, zt_92_27, zt_92_28, zt_92_31, zx_const, zx_iload, zx_aload, zx_istore, zx_astore, zx_iinc, zx_add, zx_sub, zx_mul, zx_dup, zx_dup2, zx_pop, zx_cmp, zx_if, zx_goto, zx_ifnull0, zx_ifnull1, zx_ifnn0, zx_ifnn1, zx_null, zx_geti, zx_getr, zx_puti, zx_putr, zx_iald, zx_iast, zx_zald, zx_zast, zx_aald, zx_aast, zx_alen, zx_obj, zx_ret, zx_iret, zx_zret, zx_aret, zo1_s, zo2_s, zget_s, zget_ne, zset_s, zset_ne, zset_0, zc_eq, zc_ne, zc_lt, zc_ge, zc_gt, zc_le, zi_add, zi_sub, zi_mul, zi_lt, zi_le, zi_eq, Nat.reduceBEq, zU_s, zU_k, zU_ne, if_true, if_false, not_true_eq_false, not_false_eq_true, Option.toList_some, Option.toList_none, List.cons_append, List.nil_append, Int.toNat_natCast, and_true, true_and, msp1, msp2, msp3, msp4, msp5, msp6, msp7, msp8, msp9, msp10, msp12, msp13, msp14, msp15, msp16, msp17, msp18, msp19, msp22, msp23, msp24, msp25, msp26, msp27, msp28, msp29, msp30, msp31, msp32, g, c1]
      exact h2
set_option maxHeartbeats 4000000 in
theorem m_framesAt {d : Nat} {K : Nat → Option ZK} {J : Nat → Nat → Int} {P : Nat → Nat → Option Nat} {n w : Nat} {Q : Option ZV → ZH → Prop} {p : Int} (hm : msh K P) (hr : RG J) (hp : zr p) (hQ : Q (some (.inl (zi (cnF (fun i => J 75 i = p) 10)))) (K, zm J, P, n, w)) : zT d 92 0 [(0, .inr (some 49)), (1, .inl (zi p))] [] (K, zm J, P, n, w) Q := by
  simp (disch := omega) only [zt_92_0, zt_92_1, zt_92_2, zt_92_3, zx_const, zx_iload, zx_aload, zx_istore, zx_astore, zx_iinc, zx_add, zx_sub, zx_mul, zx_dup, zx_dup2, zx_pop, zx_cmp, zx_if, zx_goto, zx_ifnull0, zx_ifnull1, zx_ifnn0, zx_ifnn1, zx_null, zx_geti, zx_getr, zx_puti, zx_putr, zx_iald, zx_iast, zx_zald, zx_zast, zx_aald, zx_aast, zx_alen, zx_obj, zx_ret, zx_iret, zx_zret, zx_aret, zo1_s, zo2_s, zget_s, zget_ne, zset_s, zset_ne, zset_0, zc_eq, zc_ne, zc_lt, zc_ge, zc_gt, zc_le, zi_add, zi_sub, zi_mul, zi_lt, zi_le, zi_eq, Nat.reduceBEq, zU_s, zU_k, zU_ne, if_true, if_false, not_true_eq_false, not_false_eq_true, Option.toList_some, Option.toList_none, List.cons_append, List.nil_append, Int.toNat_natCast, and_true, true_and]
  exact l_framesAt hm hr hp hQ 10 0 (by omega)
/-- the latest laid of those at home p -/
def mxF (J : Nat → Nat → Int) (p : Int) : Nat → Int
  | 0 => -1
  | k + 1 => if J 75 k = p ∧ (mxF J p k < 0 ∨ J 76 (mxF J p k).toNat < J 76 k) then k else mxF J p k
theorem mxF_r (J : Nat → Nat → Int) (p : Int) : ∀ k, -1 ≤ mxF J p k ∧ mxF J p k < k := by
  intro k
  induction k with
  | zero => exact ⟨by unfold mxF; decide, by unfold mxF; decide⟩
  | succ k ih =>
    unfold mxF
    split <;> omega
/-- the earliest laid of those at home p, from b on -/
def mnF (J : Nat → Nat → Int) (p : Int) : Nat → Int
  | 0 => -1
  | k + 1 => if J 75 k = p ∧ (mnF J p k < 0 ∨ J 76 k < J 76 (mnF J p k).toNat) then k else mnF J p k
theorem mnF_r (J : Nat → Nat → Int) (p : Int) : ∀ k, -1 ≤ mnF J p k ∧ mnF J p k < k := by
  intro k
  induction k with
  | zero => exact ⟨by unfold mnF; decide, by unfold mnF; decide⟩
  | succ k ih =>
    unfold mnF
    split <;> omega
def ffF (J : Nat → Nat → Int) (p : Int) : Int := if 0 ≤ mxF J p 10 then mxF J p 10 else mnF J 4 10
set_option maxHeartbeats 4000000 in
theorem l_frameFor2 {d : Nat} {K : Nat → Option ZK} {J : Nat → Nat → Int} {P : Nat → Nat → Option Nat} {n w : Nat} {Q : Option ZV → ZH → Prop} {p : Int} (hm : msh K P) (hr : RG J) (hQ : Q (some (.inl (zi (mnF J 4 10)))) (K, zm J, P, n, w)) : ∀ j k : Nat, k + j = 10 → zT d 95 59 [(0, .inr (some 49)), (1, .inl (zi p)), (2, .inl (zi (mnF J 4 k))), (3, .inl (zi k))] [] (K, zm J, P, n, w) Q := by
  have hm0 := hm; obtain ⟨msk49, msp1, msk50, msp2, msk51, msp3, msk52, msp4, msk53, msp5, msk54, msp6, msk55, msp7, msk56, msp8, msk57, msp9, msk58, msp10, msk59, msp12, msk60, msp13, msk61, msp14, msk62, msp15, msk63, msp16, msk64, msp17, msk65, msp18, msk66, msp19, msk67, msp22, msk68, msp23, msk69, msp24, msk70, msp25, msk71, msp26, msk72, msp27, msk73, msp28, msk74, msp29, msk75, msp30, msk76, msp31, msk77, msp32, msk78⟩ := hm0
  intro j
  induction j with
  | zero =>
    intro k hk
    rw [show k = 10 by omega]
    have g : (10 : Int) ≤ ((10 : Nat) : Int) := by omega
    simp (disch := omega) only [zt_95_59, zt_95_60, zt_95_62, zt_95_106, zt_95_107, zx_const, zx_iload, zx_aload, zx_istore, zx_astore, zx_iinc, zx_add, zx_sub, zx_mul, zx_dup, zx_dup2, zx_pop, zx_cmp, zx_if, zx_goto, zx_ifnull0, zx_ifnull1, zx_ifnn0, zx_ifnn1, zx_null, zx_geti, zx_getr, zx_puti, zx_putr, zx_iald, zx_iast, zx_zald, zx_zast, zx_aald, zx_aast, zx_alen, zx_obj, zx_ret, zx_iret, zx_zret, zx_aret, zo1_s, zo2_s, zget_s, zget_ne, zset_s, zset_ne, zset_0, zc_eq, zc_ne, zc_lt, zc_ge, zc_gt, zc_le, zi_add, zi_sub, zi_mul, zi_lt, zi_le, zi_eq, Nat.reduceBEq, zU_s, zU_k, zU_ne, if_true, if_false, not_true_eq_false, not_false_eq_true, Option.toList_some, Option.toList_none, List.cons_append, List.nil_append, Int.toNat_natCast, and_true, true_and, msp1, msp2, msp3, msp4, msp5, msp6, msp7, msp8, msp9, msp10, msp12, msp13, msp14, msp15, msp16, msp17, msp18, msp19, msp22, msp23, msp24, msp25, msp26, msp27, msp28, msp29, msp30, msp31, msp32, g]
    exact hQ
  | succ j ih =>
    intro k hk
    have g : ¬ (10 : Int) ≤ k := by omega
    have r1 := hr 75 k
    have r2 := hr 76 k
    have r3 := hr 76 (mnF J 4 k).toNat
    have r4 := mnF_r J 4 k
    have h2 := ih (k + 1) (by omega)
    rw [nat1] at h2
    rw [zt_95_59]
    by_cases c1 : J 75 k = 4
    · by_cases c2 : mnF J 4 k < 0
      · rw [show mnF J 4 (k + 1) = k by unfold mnF; rw [if_pos ⟨c1, Or.inl c2⟩]] at h2
        simp (disch := omega) only [zt_95_60, zt_95_62, zt_95_65, zt_95_66, zt_95_69, zt_95_70, zt_95_71, zt_95_72, zt_95_75, zt_95_76, zt_95_79, zt_95_80, zt_95_83, zt_95_84, zt_95_85, zt_95_86, zt_95_89, zt_95_90, zt_95_91, zt_95_94, zt_95_95, zt_95_98, zt_95_99, zt_95_100, zt_95_103, zx_const, zx_iload, zx_aload, zx_istore, zx_astore, zx_iinc, zx_add, zx_sub, zx_mul, zx_dup, zx_dup2, zx_pop, zx_cmp, zx_if, zx_goto, zx_ifnull0, zx_ifnull1, zx_ifnn0, zx_ifnn1, zx_null, zx_geti, zx_getr, zx_puti, zx_putr, zx_iald, zx_iast, zx_zald, zx_zast, zx_aald, zx_aast, zx_alen, zx_obj, zx_ret, zx_iret, zx_zret, zx_aret, zo1_s, zo2_s, zget_s, zget_ne, zset_s, zset_ne, zset_0, zc_eq, zc_ne, zc_lt, zc_ge, zc_gt, zc_le, zi_add, zi_sub, zi_mul, zi_lt, zi_le, zi_eq, Nat.reduceBEq, zU_s, zU_k, zU_ne, if_true, if_false, not_true_eq_false, not_false_eq_true, Option.toList_some, Option.toList_none, List.cons_append, List.nil_append, Int.toNat_natCast, and_true, true_and, msp1, msp2, msp3, msp4, msp5, msp6, msp7, msp8, msp9, msp10, msp12, msp13, msp14, msp15, msp16, msp17, msp18, msp19, msp22, msp23, msp24, msp25, msp26, msp27, msp28, msp29, msp30, msp31, msp32, g, c1, c2]
        exact h2
      · by_cases c3 : J 76 (mnF J 4 k).toNat ≤ J 76 k
        · rw [show mnF J 4 (k + 1) = mnF J 4 k by conv => lhs; unfold mnF; rw [if_neg (fun q => by rcases q.2 with w | w; exact c2 w; omega)]] at h2
          simp (disch := omega) only [zt_95_60, zt_95_62, zt_95_65, zt_95_66, zt_95_69, zt_95_70, zt_95_71, zt_95_72, zt_95_75, zt_95_76, zt_95_79, zt_95_80, zt_95_83, zt_95_84, zt_95_85, zt_95_86, zt_95_89, zt_95_90, zt_95_91, zt_95_94, zt_95_95, zt_95_98, zt_95_99, zt_95_100, zt_95_103, zx_const, zx_iload, zx_aload, zx_istore, zx_astore, zx_iinc, zx_add, zx_sub, zx_mul, zx_dup, zx_dup2, zx_pop, zx_cmp, zx_if, zx_goto, zx_ifnull0, zx_ifnull1, zx_ifnn0, zx_ifnn1, zx_null, zx_geti, zx_getr, zx_puti, zx_putr, zx_iald, zx_iast, zx_zald, zx_zast, zx_aald, zx_aast, zx_alen, zx_obj, zx_ret, zx_iret, zx_zret, zx_aret, zo1_s, zo2_s, zget_s, zget_ne, zset_s, zset_ne, zset_0, zc_eq, zc_ne, zc_lt, zc_ge, zc_gt, zc_le, zi_add, zi_sub, zi_mul, zi_lt, zi_le, zi_eq, Nat.reduceBEq, zU_s, zU_k, zU_ne, if_true, if_false, not_true_eq_false, not_false_eq_true, Option.toList_some, Option.toList_none, List.cons_append, List.nil_append, Int.toNat_natCast, and_true, true_and, msp1, msp2, msp3, msp4, msp5, msp6, msp7, msp8, msp9, msp10, msp12, msp13, msp14, msp15, msp16, msp17, msp18, msp19, msp22, msp23, msp24, msp25, msp26, msp27, msp28, msp29, msp30, msp31, msp32, g, c1, c2, c3]
          exact h2
        · rw [show mnF J 4 (k + 1) = k by unfold mnF; rw [if_pos ⟨c1, Or.inr (by omega)⟩]] at h2
          simp (disch := omega) only [zt_95_60, zt_95_62, zt_95_65, zt_95_66, zt_95_69, zt_95_70, zt_95_71, zt_95_72, zt_95_75, zt_95_76, zt_95_79, zt_95_80, zt_95_83, zt_95_84, zt_95_85, zt_95_86, zt_95_89, zt_95_90, zt_95_91, zt_95_94, zt_95_95, zt_95_98, zt_95_99, zt_95_100, zt_95_103, zx_const, zx_iload, zx_aload, zx_istore, zx_astore, zx_iinc, zx_add, zx_sub, zx_mul, zx_dup, zx_dup2, zx_pop, zx_cmp, zx_if, zx_goto, zx_ifnull0, zx_ifnull1, zx_ifnn0, zx_ifnn1, zx_null, zx_geti, zx_getr, zx_puti, zx_putr, zx_iald, zx_iast, zx_zald, zx_zast, zx_aald, zx_aast, zx_alen, zx_obj, zx_ret, zx_iret, zx_zret, zx_aret, zo1_s, zo2_s, zget_s, zget_ne, zset_s, zset_ne, zset_0, zc_eq, zc_ne, zc_lt, zc_ge, zc_gt, zc_le, zi_add, zi_sub, zi_mul, zi_lt, zi_le, zi_eq, Nat.reduceBEq, zU_s, zU_k, zU_ne, if_true, if_false, not_true_eq_false, not_false_eq_true, Option.toList_some, Option.toList_none, List.cons_append, List.nil_append, Int.toNat_natCast, and_true, true_and, msp1, msp2, msp3, msp4, msp5, msp6, msp7, msp8, msp9, msp10, msp12, msp13, msp14, msp15, msp16, msp17, msp18, msp19, msp22, msp23, msp24, msp25, msp26, msp27, msp28, msp29, msp30, msp31, msp32, g, c1, c2, c3]
          exact h2
    · rw [show mnF J 4 (k + 1) = mnF J 4 k by conv => lhs; unfold mnF; rw [if_neg (fun q => c1 q.1)]] at h2
      simp (disch := omega) only [zt_95_60, zt_95_62, zt_95_65, zt_95_66, zt_95_69, zt_95_70, zt_95_71, zt_95_72, zt_95_75, zt_95_76, zt_95_79, zt_95_80, zt_95_83, zt_95_84, zt_95_85, zt_95_86, zt_95_89, zt_95_90, zt_95_91, zt_95_94, zt_95_95, zt_95_98, zt_95_99, zt_95_100, zt_95_103, zx_const, zx_iload, zx_aload, zx_istore, zx_astore, zx_iinc, zx_add, zx_sub, zx_mul, zx_dup, zx_dup2, zx_pop, zx_cmp, zx_if, zx_goto, zx_ifnull0, zx_ifnull1, zx_ifnn0, zx_ifnn1, zx_null, zx_geti, zx_getr, zx_puti, zx_putr, zx_iald, zx_iast, zx_zald, zx_zast, zx_aald, zx_aast, zx_alen, zx_obj, zx_ret, zx_iret, zx_zret, zx_aret, zo1_s, zo2_s, zget_s, zget_ne, zset_s, zset_ne, zset_0, zc_eq, zc_ne, zc_lt, zc_ge, zc_gt, zc_le, zi_add, zi_sub, zi_mul, zi_lt, zi_le, zi_eq, Nat.reduceBEq, zU_s, zU_k, zU_ne, if_true, if_false, not_true_eq_false, not_false_eq_true, Option.toList_some, Option.toList_none, List.cons_append, List.nil_append, Int.toNat_natCast, and_true, true_and, msp1, msp2, msp3, msp4, msp5, msp6, msp7, msp8, msp9, msp10, msp12, msp13, msp14, msp15, msp16, msp17, msp18, msp19, msp22, msp23, msp24, msp25, msp26, msp27, msp28, msp29, msp30, msp31, msp32, g, c1]
      exact h2
set_option maxHeartbeats 4000000 in
theorem l_frameFor {d : Nat} {K : Nat → Option ZK} {J : Nat → Nat → Int} {P : Nat → Nat → Option Nat} {n w : Nat} {Q : Option ZV → ZH → Prop} {p : Int} (hm : msh K P) (hr : RG J) (hp : zr p) (hQ : Q (some (.inl (zi (ffF J p)))) (K, zm J, P, n, w)) : ∀ j k : Nat, k + j = 10 → zT d 95 4 [(0, .inr (some 49)), (1, .inl (zi p)), (2, .inl (zi (mxF J p k))), (3, .inl (zi k))] [] (K, zm J, P, n, w) Q := by
  have hm0 := hm; obtain ⟨msk49, msp1, msk50, msp2, msk51, msp3, msk52, msp4, msk53, msp5, msk54, msp6, msk55, msp7, msk56, msp8, msk57, msp9, msk58, msp10, msk59, msp12, msk60, msp13, msk61, msp14, msk62, msp15, msk63, msp16, msk64, msp17, msk65, msp18, msk66, msp19, msk67, msp22, msk68, msp23, msk69, msp24, msk70, msp25, msk71, msp26, msk72, msp27, msk73, msp28, msk74, msp29, msk75, msp30, msk76, msp31, msk77, msp32, msk78⟩ := hm0
  obtain ⟨p1, p2⟩ := hp
  intro j
  induction j with
  | zero =>
    intro k hk
    rw [show k = 10 by omega]
    have g : (10 : Int) ≤ ((10 : Nat) : Int) := by omega
    have r4 := mxF_r J p 10
    by_cases c0 : mxF J p 10 < 0
    · have hQ2 : Q (some (.inl (zi (mnF J 4 10)))) (K, zm J, P, n, w) := by
        unfold ffF at hQ; rw [if_neg (by omega)] at hQ; exact hQ
      have h2 := l_frameFor2 (p := p) (d := d) hm hr hQ2 10 0 (by omega)
      have e1 : mxF J p 10 = -1 := by omega
      rw [e1]
      simp (disch := omega) only [zt_95_4, zt_95_5, zt_95_7, zt_95_51, zt_95_52, zt_95_55, zt_95_56, zt_95_57, zt_95_58, zx_const, zx_iload, zx_aload, zx_istore, zx_astore, zx_iinc, zx_add, zx_sub, zx_mul, zx_dup, zx_dup2, zx_pop, zx_cmp, zx_if, zx_goto, zx_ifnull0, zx_ifnull1, zx_ifnn0, zx_ifnn1, zx_null, zx_geti, zx_getr, zx_puti, zx_putr, zx_iald, zx_iast, zx_zald, zx_zast, zx_aald, zx_aast, zx_alen, zx_obj, zx_ret, zx_iret, zx_zret, zx_aret, zo1_s, zo2_s, zget_s, zget_ne, zset_s, zset_ne, zset_0, zc_eq, zc_ne, zc_lt, zc_ge, zc_gt, zc_le, zi_add, zi_sub, zi_mul, zi_lt, zi_le, zi_eq, Nat.reduceBEq, zU_s, zU_k, zU_ne, if_true, if_false, not_true_eq_false, not_false_eq_true, Option.toList_some, Option.toList_none, List.cons_append, List.nil_append, Int.toNat_natCast, and_true, true_and, msp1, msp2, msp3, msp4, msp5, msp6, msp7, msp8, msp9, msp10, msp12, msp13, msp14, msp15, msp16, msp17, msp18, msp19, msp22, msp23, msp24, msp25, msp26, msp27, msp28, msp29, msp30, msp31, msp32, g]
      exact h2
    · have hQ2 : Q (some (.inl (zi (mxF J p 10)))) (K, zm J, P, n, w) := by
        unfold ffF at hQ; rw [if_pos (by omega)] at hQ; exact hQ
      simp (disch := omega) only [zt_95_4, zt_95_5, zt_95_7, zt_95_51, zt_95_52, zt_95_55, zt_95_56, zx_const, zx_iload, zx_aload, zx_istore, zx_astore, zx_iinc, zx_add, zx_sub, zx_mul, zx_dup, zx_dup2, zx_pop, zx_cmp, zx_if, zx_goto, zx_ifnull0, zx_ifnull1, zx_ifnn0, zx_ifnn1, zx_null, zx_geti, zx_getr, zx_puti, zx_putr, zx_iald, zx_iast, zx_zald, zx_zast, zx_aald, zx_aast, zx_alen, zx_obj, zx_ret, zx_iret, zx_zret, zx_aret, zo1_s, zo2_s, zget_s, zget_ne, zset_s, zset_ne, zset_0, zc_eq, zc_ne, zc_lt, zc_ge, zc_gt, zc_le, zi_add, zi_sub, zi_mul, zi_lt, zi_le, zi_eq, Nat.reduceBEq, zU_s, zU_k, zU_ne, if_true, if_false, not_true_eq_false, not_false_eq_true, Option.toList_some, Option.toList_none, List.cons_append, List.nil_append, Int.toNat_natCast, and_true, true_and, msp1, msp2, msp3, msp4, msp5, msp6, msp7, msp8, msp9, msp10, msp12, msp13, msp14, msp15, msp16, msp17, msp18, msp19, msp22, msp23, msp24, msp25, msp26, msp27, msp28, msp29, msp30, msp31, msp32, g, c0]
      exact hQ2
  | succ j ih =>
    intro k hk
    have g : ¬ (10 : Int) ≤ k := by omega
    have r1 := hr 75 k
    have r2 := hr 76 k
    have r3 := hr 76 (mxF J p k).toNat
    have r4 := mxF_r J p k
    have h2 := ih (k + 1) (by omega)
    rw [nat1] at h2
    rw [zt_95_4]
    by_cases c1 : J 75 k = p
    · by_cases c2 : mxF J p k < 0
      · rw [show mxF J p (k + 1) = k by unfold mxF; rw [if_pos ⟨c1, Or.inl c2⟩]] at h2
        simp (disch := omega) only [zt_95_5, zt_95_7, zt_95_10, zt_95_11, zt_95_14, zt_95_15, zt_95_16, zt_95_17, zt_95_20, zt_95_21, zt_95_24, zt_95_25, zt_95_28, zt_95_29, zt_95_30, zt_95_31, zt_95_34, zt_95_35, zt_95_36, zt_95_39, zt_95_40, zt_95_43, zt_95_44, zt_95_45, zt_95_48, zx_const, zx_iload, zx_aload, zx_istore, zx_astore, zx_iinc, zx_add, zx_sub, zx_mul, zx_dup, zx_dup2, zx_pop, zx_cmp, zx_if, zx_goto, zx_ifnull0, zx_ifnull1, zx_ifnn0, zx_ifnn1, zx_null, zx_geti, zx_getr, zx_puti, zx_putr, zx_iald, zx_iast, zx_zald, zx_zast, zx_aald, zx_aast, zx_alen, zx_obj, zx_ret, zx_iret, zx_zret, zx_aret, zo1_s, zo2_s, zget_s, zget_ne, zset_s, zset_ne, zset_0, zc_eq, zc_ne, zc_lt, zc_ge, zc_gt, zc_le, zi_add, zi_sub, zi_mul, zi_lt, zi_le, zi_eq, Nat.reduceBEq, zU_s, zU_k, zU_ne, if_true, if_false, not_true_eq_false, not_false_eq_true, Option.toList_some, Option.toList_none, List.cons_append, List.nil_append, Int.toNat_natCast, and_true, true_and, msp1, msp2, msp3, msp4, msp5, msp6, msp7, msp8, msp9, msp10, msp12, msp13, msp14, msp15, msp16, msp17, msp18, msp19, msp22, msp23, msp24, msp25, msp26, msp27, msp28, msp29, msp30, msp31, msp32, g, c1, c2]
        exact h2
      · by_cases c3 : J 76 k ≤ J 76 (mxF J p k).toNat
        · rw [show mxF J p (k + 1) = mxF J p k by conv => lhs; unfold mxF; rw [if_neg (fun q => by rcases q.2 with w | w; exact c2 w; omega)]] at h2
          simp (disch := omega) only [zt_95_5, zt_95_7, zt_95_10, zt_95_11, zt_95_14, zt_95_15, zt_95_16, zt_95_17, zt_95_20, zt_95_21, zt_95_24, zt_95_25, zt_95_28, zt_95_29, zt_95_30, zt_95_31, zt_95_34, zt_95_35, zt_95_36, zt_95_39, zt_95_40, zt_95_43, zt_95_44, zt_95_45, zt_95_48, zx_const, zx_iload, zx_aload, zx_istore, zx_astore, zx_iinc, zx_add, zx_sub, zx_mul, zx_dup, zx_dup2, zx_pop, zx_cmp, zx_if, zx_goto, zx_ifnull0, zx_ifnull1, zx_ifnn0, zx_ifnn1, zx_null, zx_geti, zx_getr, zx_puti, zx_putr, zx_iald, zx_iast, zx_zald, zx_zast, zx_aald, zx_aast, zx_alen, zx_obj, zx_ret, zx_iret, zx_zret, zx_aret, zo1_s, zo2_s, zget_s, zget_ne, zset_s, zset_ne, zset_0, zc_eq, zc_ne, zc_lt, zc_ge, zc_gt, zc_le, zi_add, zi_sub, zi_mul, zi_lt, zi_le, zi_eq, Nat.reduceBEq, zU_s, zU_k, zU_ne, if_true, if_false, not_true_eq_false, not_false_eq_true, Option.toList_some, Option.toList_none, List.cons_append, List.nil_append, Int.toNat_natCast, and_true, true_and, msp1, msp2, msp3, msp4, msp5, msp6, msp7, msp8, msp9, msp10, msp12, msp13, msp14, msp15, msp16, msp17, msp18, msp19, msp22, msp23, msp24, msp25, msp26, msp27, msp28, msp29, msp30, msp31, msp32, g, c1, c2, c3]
          exact h2
        · rw [show mxF J p (k + 1) = k by unfold mxF; rw [if_pos ⟨c1, Or.inr (by omega)⟩]] at h2
          simp (disch := omega) only [zt_95_5, zt_95_7, zt_95_10, zt_95_11, zt_95_14, zt_95_15, zt_95_16, zt_95_17, zt_95_20, zt_95_21, zt_95_24, zt_95_25, zt_95_28, zt_95_29, zt_95_30, zt_95_31, zt_95_34, zt_95_35, zt_95_36, zt_95_39, zt_95_40, zt_95_43, zt_95_44, zt_95_45, zt_95_48, zx_const, zx_iload, zx_aload, zx_istore, zx_astore, zx_iinc, zx_add, zx_sub, zx_mul, zx_dup, zx_dup2, zx_pop, zx_cmp, zx_if, zx_goto, zx_ifnull0, zx_ifnull1, zx_ifnn0, zx_ifnn1, zx_null, zx_geti, zx_getr, zx_puti, zx_putr, zx_iald, zx_iast, zx_zald, zx_zast, zx_aald, zx_aast, zx_alen, zx_obj, zx_ret, zx_iret, zx_zret, zx_aret, zo1_s, zo2_s, zget_s, zget_ne, zset_s, zset_ne, zset_0, zc_eq, zc_ne, zc_lt, zc_ge, zc_gt, zc_le, zi_add, zi_sub, zi_mul, zi_lt, zi_le, zi_eq, Nat.reduceBEq, zU_s, zU_k, zU_ne, if_true, if_false, not_true_eq_false, not_false_eq_true, Option.toList_some, Option.toList_none, List.cons_append, List.nil_append, Int.toNat_natCast, and_true, true_and, msp1, msp2, msp3, msp4, msp5, msp6, msp7, msp8, msp9, msp10, msp12, msp13, msp14, msp15, msp16, msp17, msp18, msp19, msp22, msp23, msp24, msp25, msp26, msp27, msp28, msp29, msp30, msp31, msp32, g, c1, c2, c3]
          exact h2
    · rw [show mxF J p (k + 1) = mxF J p k by conv => lhs; unfold mxF; rw [if_neg (fun q => c1 q.1)]] at h2
      simp (disch := omega) only [zt_95_5, zt_95_7, zt_95_10, zt_95_11, zt_95_14, zt_95_15, zt_95_16, zt_95_17, zt_95_20, zt_95_21, zt_95_24, zt_95_25, zt_95_28, zt_95_29, zt_95_30, zt_95_31, zt_95_34, zt_95_35, zt_95_36, zt_95_39, zt_95_40, zt_95_43, zt_95_44, zt_95_45, zt_95_48, zx_const, zx_iload, zx_aload, zx_istore, zx_astore, zx_iinc, zx_add, zx_sub, zx_mul, zx_dup, zx_dup2, zx_pop, zx_cmp, zx_if, zx_goto, zx_ifnull0, zx_ifnull1, zx_ifnn0, zx_ifnn1, zx_null, zx_geti, zx_getr, zx_puti, zx_putr, zx_iald, zx_iast, zx_zald, zx_zast, zx_aald, zx_aast, zx_alen, zx_obj, zx_ret, zx_iret, zx_zret, zx_aret, zo1_s, zo2_s, zget_s, zget_ne, zset_s, zset_ne, zset_0, zc_eq, zc_ne, zc_lt, zc_ge, zc_gt, zc_le, zi_add, zi_sub, zi_mul, zi_lt, zi_le, zi_eq, Nat.reduceBEq, zU_s, zU_k, zU_ne, if_true, if_false, not_true_eq_false, not_false_eq_true, Option.toList_some, Option.toList_none, List.cons_append, List.nil_append, Int.toNat_natCast, and_true, true_and, msp1, msp2, msp3, msp4, msp5, msp6, msp7, msp8, msp9, msp10, msp12, msp13, msp14, msp15, msp16, msp17, msp18, msp19, msp22, msp23, msp24, msp25, msp26, msp27, msp28, msp29, msp30, msp31, msp32, g, c1]
      exact h2
set_option maxHeartbeats 4000000 in
theorem m_frameFor {d : Nat} {K : Nat → Option ZK} {J : Nat → Nat → Int} {P : Nat → Nat → Option Nat} {n w : Nat} {Q : Option ZV → ZH → Prop} {p : Int} (hm : msh K P) (hr : RG J) (hp : zr p) (hQ : Q (some (.inl (zi (ffF J p)))) (K, zm J, P, n, w)) : zT d 95 0 [(0, .inr (some 49)), (1, .inl (zi p))] [] (K, zm J, P, n, w) Q := by
  simp (disch := omega) only [zt_95_0, zt_95_1, zt_95_2, zt_95_3, zx_const, zx_iload, zx_aload, zx_istore, zx_astore, zx_iinc, zx_add, zx_sub, zx_mul, zx_dup, zx_dup2, zx_pop, zx_cmp, zx_if, zx_goto, zx_ifnull0, zx_ifnull1, zx_ifnn0, zx_ifnn1, zx_null, zx_geti, zx_getr, zx_puti, zx_putr, zx_iald, zx_iast, zx_zald, zx_zast, zx_aald, zx_aast, zx_alen, zx_obj, zx_ret, zx_iret, zx_zret, zx_aret, zo1_s, zo2_s, zget_s, zget_ne, zset_s, zset_ne, zset_0, zc_eq, zc_ne, zc_lt, zc_ge, zc_gt, zc_le, zi_add, zi_sub, zi_mul, zi_lt, zi_le, zi_eq, Nat.reduceBEq, zU_s, zU_k, zU_ne, if_true, if_false, not_true_eq_false, not_false_eq_true, Option.toList_some, Option.toList_none, List.cons_append, List.nil_append, Int.toNat_natCast, and_true, true_and]
  exact l_frameFor hm hr hp hQ 10 0 (by omega)
/-- longest: the first of the longest of the four -/
def lgF (f : Nat → Nat) : Nat → Nat
  | 0 => 0
  | k + 1 => if f (lgF f k) < f (k + 1) then k + 1 else lgF f k
theorem lgF_r (f : Nat → Nat) : ∀ k, lgF f k ≤ k := by
  intro k
  induction k with
  | zero => exact Nat.le_refl _
  | succ k ih =>
    unfold lgF
    split <;> omega
set_option maxHeartbeats 4000000 in
theorem l_longest {d : Nat} {K : Nat → Option ZK} {J : Nat → Nat → Int} {P : Nat → Nat → Option Nat} {n w : Nat} {Q : Option ZV → ZH → Prop} {nT : Nat} (hm : msh K P) (hr : RG J) (hT : J 49 0 = nT) (hn : nT ≤ 8) (hQ : Q (some (.inl (zi (lgF (fun p => cnF (qal J p) nT) 3)))) (K, zm J, P, n, w)) : ∀ j k : Nat, k + j = 3 → zT (d + 1) 83 4 [(0, .inr (some 49)), (1, .inl (zi (lgF (fun p => cnF (qal J p) nT) k))), (2, .inl (zi (k + 1)))] [] (K, zm J, P, n, w) Q := by
  have hm0 := hm; obtain ⟨msk49, msp1, msk50, msp2, msk51, msp3, msk52, msp4, msk53, msp5, msk54, msp6, msk55, msp7, msk56, msp8, msk57, msp9, msk58, msp10, msk59, msp12, msk60, msp13, msk61, msp14, msk62, msp15, msk63, msp16, msk64, msp17, msk65, msp18, msk66, msp19, msk67, msp22, msk68, msp23, msk69, msp24, msk70, msp25, msk71, msp26, msk72, msp27, msk73, msp28, msk74, msp29, msk75, msp30, msk76, msp31, msk77, msp32, msk78⟩ := hm0
  intro j
  induction j with
  | zero =>
    intro k hk
    rw [show k = 3 by omega]
    have g : (4 : Int) ≤ ((3 : Nat) : Int) + 1 := by omega
    simp (disch := omega) only [zt_83_4, zt_83_5, zt_83_6, zt_83_34, zt_83_35, zx_const, zx_iload, zx_aload, zx_istore, zx_astore, zx_iinc, zx_add, zx_sub, zx_mul, zx_dup, zx_dup2, zx_pop, zx_cmp, zx_if, zx_goto, zx_ifnull0, zx_ifnull1, zx_ifnn0, zx_ifnn1, zx_null, zx_geti, zx_getr, zx_puti, zx_putr, zx_iald, zx_iast, zx_zald, zx_zast, zx_aald, zx_aast, zx_alen, zx_obj, zx_ret, zx_iret, zx_zret, zx_aret, zo1_s, zo2_s, zget_s, zget_ne, zset_s, zset_ne, zset_0, zc_eq, zc_ne, zc_lt, zc_ge, zc_gt, zc_le, zi_add, zi_sub, zi_mul, zi_lt, zi_le, zi_eq, Nat.reduceBEq, zU_s, zU_k, zU_ne, if_true, if_false, not_true_eq_false, not_false_eq_true, Option.toList_some, Option.toList_none, List.cons_append, List.nil_append, Int.toNat_natCast, and_true, true_and, msp1, msp2, msp3, msp4, msp5, msp6, msp7, msp8, msp9, msp10, msp12, msp13, msp14, msp15, msp16, msp17, msp18, msp19, msp22, msp23, msp24, msp25, msp26, msp27, msp28, msp29, msp30, msp31, msp32, g]
    exact hQ
  | succ j ih =>
    intro k hk
    have g : ¬ (4 : Int) ≤ (k : Int) + 1 := by omega
    have h2 := ih (k + 1) (by omega)
    rw [nat1] at h2
    rw [zt_83_4]
    have r1 := lgF_r (fun p => cnF (qal J p) nT) k
    generalize hb : lgF (fun p => cnF (qal J p) nT) k = b at *
    have r2 := cnF_le (qal J ((k : Int) + 1)) nT
    have r3 := cnF_le (qal J ((b : Nat) : Int)) nT
    simp (disch := first | omega | (simp; done)) only [zt_83_5, zt_83_6, zt_83_9, zt_83_10, zt_83_11, zx_const, zx_iload, zx_aload, zx_istore, zx_astore, zx_iinc, zx_add, zx_sub, zx_mul, zx_dup, zx_dup2, zx_pop, zx_cmp, zx_if, zx_goto, zx_ifnull0, zx_ifnull1, zx_ifnn0, zx_ifnn1, zx_null, zx_geti, zx_getr, zx_puti, zx_putr, zx_iald, zx_iast, zx_zald, zx_zast, zx_aald, zx_aast, zx_alen, zx_obj, zx_ret, zx_iret, zx_zret, zx_aret, zo1_s, zo2_s, zget_s, zget_ne, zset_s, zset_ne, zset_0, zc_eq, zc_ne, zc_lt, zc_ge, zc_gt, zc_le, zi_add, zi_sub, zi_mul, zi_lt, zi_le, zi_eq, Nat.reduceBEq, zU_s, zU_k, zU_ne, if_true, if_false, not_true_eq_false, not_false_eq_true, Option.toList_some, Option.toList_none, List.cons_append, List.nil_append, Int.toNat_natCast, and_true, true_and, zx_calls1, zx_calls2, zx_calls3, zx_calls4, zx_calls5, zx_calls6, zx_callv1, zx_callv2, zx_callv3, zx_callv4, zx_callv5, zx_callv6, msp1, msp2, msp3, msp4, msp5, msp6, msp7, msp8, msp9, msp10, msp12, msp13, msp14, msp15, msp16, msp17, msp18, msp19, msp22, msp23, msp24, msp25, msp26, msp27, msp28, msp29, msp30, msp31, msp32, g]
    refine m_lengthOf hm hr ⟨by omega, by omega⟩ hT hn ?_
    simp (disch := first | omega | (simp; done)) only [zt_83_14, zt_83_15, zt_83_16, zx_const, zx_iload, zx_aload, zx_istore, zx_astore, zx_iinc, zx_add, zx_sub, zx_mul, zx_dup, zx_dup2, zx_pop, zx_cmp, zx_if, zx_goto, zx_ifnull0, zx_ifnull1, zx_ifnn0, zx_ifnn1, zx_null, zx_geti, zx_getr, zx_puti, zx_putr, zx_iald, zx_iast, zx_zald, zx_zast, zx_aald, zx_aast, zx_alen, zx_obj, zx_ret, zx_iret, zx_zret, zx_aret, zo1_s, zo2_s, zget_s, zget_ne, zset_s, zset_ne, zset_0, zc_eq, zc_ne, zc_lt, zc_ge, zc_gt, zc_le, zi_add, zi_sub, zi_mul, zi_lt, zi_le, zi_eq, Nat.reduceBEq, zU_s, zU_k, zU_ne, if_true, if_false, not_true_eq_false, not_false_eq_true, Option.toList_some, Option.toList_none, List.cons_append, List.nil_append, Int.toNat_natCast, and_true, true_and, zx_calls1, zx_calls2, zx_calls3, zx_calls4, zx_calls5, zx_calls6, zx_callv1, zx_callv2, zx_callv3, zx_callv4, zx_callv5, zx_callv6, msp1, msp2, msp3, msp4, msp5, msp6, msp7, msp8, msp9, msp10, msp12, msp13, msp14, msp15, msp16, msp17, msp18, msp19, msp22, msp23, msp24, msp25, msp26, msp27, msp28, msp29, msp30, msp31, msp32, g]
    refine m_lengthOf hm hr ⟨by omega, by omega⟩ hT hn ?_
    by_cases c1 : cnF (qal J (b : Int)) nT < cnF (qal J ((k : Int) + 1)) nT
    · have c2 : ¬ ((cnF (qal J ((k : Int) + 1)) nT : Nat) : Int) ≤ (cnF (qal J (b : Int)) nT : Nat) := by omega
      rw [show lgF (fun p => cnF (qal J p) nT) (k + 1) = k + 1 by unfold lgF; rw [hb, nat1, if_pos c1], nat1] at h2
      simp (disch := omega) only [zt_83_19, zt_83_22, zt_83_23, zt_83_26, zt_83_27, zt_83_28, zt_83_31, zx_const, zx_iload, zx_aload, zx_istore, zx_astore, zx_iinc, zx_add, zx_sub, zx_mul, zx_dup, zx_dup2, zx_pop, zx_cmp, zx_if, zx_goto, zx_ifnull0, zx_ifnull1, zx_ifnn0, zx_ifnn1, zx_null, zx_geti, zx_getr, zx_puti, zx_putr, zx_iald, zx_iast, zx_zald, zx_zast, zx_aald, zx_aast, zx_alen, zx_obj, zx_ret, zx_iret, zx_zret, zx_aret, zo1_s, zo2_s, zget_s, zget_ne, zset_s, zset_ne, zset_0, zc_eq, zc_ne, zc_lt, zc_ge, zc_gt, zc_le, zi_add, zi_sub, zi_mul, zi_lt, zi_le, zi_eq, Nat.reduceBEq, zU_s, zU_k, zU_ne, if_true, if_false, not_true_eq_false, not_false_eq_true, Option.toList_some, Option.toList_none, List.cons_append, List.nil_append, Int.toNat_natCast, and_true, true_and, msp1, msp2, msp3, msp4, msp5, msp6, msp7, msp8, msp9, msp10, msp12, msp13, msp14, msp15, msp16, msp17, msp18, msp19, msp22, msp23, msp24, msp25, msp26, msp27, msp28, msp29, msp30, msp31, msp32, c2]
      exact h2
    · have c2 : ((cnF (qal J ((k : Int) + 1)) nT : Nat) : Int) ≤ (cnF (qal J (b : Int)) nT : Nat) := by omega
      rw [show lgF (fun p => cnF (qal J p) nT) (k + 1) = b by unfold lgF; rw [hb, nat1, if_neg c1]] at h2
      simp (disch := omega) only [zt_83_19, zt_83_22, zt_83_23, zt_83_26, zt_83_27, zt_83_28, zt_83_31, zx_const, zx_iload, zx_aload, zx_istore, zx_astore, zx_iinc, zx_add, zx_sub, zx_mul, zx_dup, zx_dup2, zx_pop, zx_cmp, zx_if, zx_goto, zx_ifnull0, zx_ifnull1, zx_ifnn0, zx_ifnn1, zx_null, zx_geti, zx_getr, zx_puti, zx_putr, zx_iald, zx_iast, zx_zald, zx_zast, zx_aald, zx_aast, zx_alen, zx_obj, zx_ret, zx_iret, zx_zret, zx_aret, zo1_s, zo2_s, zget_s, zget_ne, zset_s, zset_ne, zset_0, zc_eq, zc_ne, zc_lt, zc_ge, zc_gt, zc_le, zi_add, zi_sub, zi_mul, zi_lt, zi_le, zi_eq, Nat.reduceBEq, zU_s, zU_k, zU_ne, if_true, if_false, not_true_eq_false, not_false_eq_true, Option.toList_some, Option.toList_none, List.cons_append, List.nil_append, Int.toNat_natCast, and_true, true_and, msp1, msp2, msp3, msp4, msp5, msp6, msp7, msp8, msp9, msp10, msp12, msp13, msp14, msp15, msp16, msp17, msp18, msp19, msp22, msp23, msp24, msp25, msp26, msp27, msp28, msp29, msp30, msp31, msp32, c2]
      exact h2
set_option maxHeartbeats 4000000 in
theorem m_longest {d : Nat} {K : Nat → Option ZK} {J : Nat → Nat → Int} {P : Nat → Nat → Option Nat} {n w : Nat} {Q : Option ZV → ZH → Prop} {nT : Nat} (hm : msh K P) (hr : RG J) (hT : J 49 0 = nT) (hn : nT ≤ 8) (hQ : Q (some (.inl (zi (lgF (fun p => cnF (qal J p) nT) 3)))) (K, zm J, P, n, w)) : zT (d + 1) 83 0 [(0, .inr (some 49))] [] (K, zm J, P, n, w) Q := by
  simp (disch := omega) only [zt_83_0, zt_83_1, zt_83_2, zt_83_3, zx_const, zx_iload, zx_aload, zx_istore, zx_astore, zx_iinc, zx_add, zx_sub, zx_mul, zx_dup, zx_dup2, zx_pop, zx_cmp, zx_if, zx_goto, zx_ifnull0, zx_ifnull1, zx_ifnn0, zx_ifnn1, zx_null, zx_geti, zx_getr, zx_puti, zx_putr, zx_iald, zx_iast, zx_zald, zx_zast, zx_aald, zx_aast, zx_alen, zx_obj, zx_ret, zx_iret, zx_zret, zx_aret, zo1_s, zo2_s, zget_s, zget_ne, zset_s, zset_ne, zset_0, zc_eq, zc_ne, zc_lt, zc_ge, zc_gt, zc_le, zi_add, zi_sub, zi_mul, zi_lt, zi_le, zi_eq, Nat.reduceBEq, zU_s, zU_k, zU_ne, if_true, if_false, not_true_eq_false, not_false_eq_true, Option.toList_some, Option.toList_none, List.cons_append, List.nil_append, Int.toNat_natCast, and_true, true_and]
  exact l_longest hm hr hT hn hQ 3 0 (by omega)
