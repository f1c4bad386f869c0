/-! The reference's loops. -/
def RG (J : Nat → Nat → Int) : Prop := ∀ a j, -2147483648 ≤ J a j ∧ J a j < 2147483648
theorem nat1 (k : Nat) : ((k + 1 : Nat) : Int) = (k : Int) + 1 := by omega
theorem cnF_t {al : Nat → Prop} {k : Nat} (h : al k) : ((cnF al (k + 1) : Nat) : Int) = (cnF al k : Int) + 1 := by
  rw [show cnF al (k + 1) = cnF al k + 1 by conv => lhs; unfold cnF; rw [if_pos h]]
  rfl
theorem cnF_f {al : Nat → Prop} {k : Nat} (h : ¬ al k) : ((cnF al (k + 1) : Nat) : Int) = (cnF al k : Int) + 0 := by
  rw [show cnF al (k + 1) = cnF al k + 0 by conv => lhs; unfold cnF; rw [if_neg h]]
  rfl
theorem cnF_le (al : Nat → Prop) : ∀ n, cnF al n ≤ n := by
  intro n
  induction n with
  | zero => exact Nat.le_refl _
  | succ n ih =>
    by_cases h : al n
    · have := cnF_t h; omega
    · have := cnF_f h; omega
def qal (J : Nat → Nat → Int) (p : Int) (i : Nat) : Prop := J 58 i = 1 ∧ J 57 i = p
set_option maxHeartbeats 4000000 in
theorem l_lengthOf {d : Nat} {K : Nat → Option ZK} {J : Nat → Nat → Int} {P : Nat → Nat → Option Nat} {n w : Nat} {Q : Option ZV → ZH → Prop} {nT : Nat} {p : Int} (hm : msh K P) (hr : RG J) (hp : zr p) (hT : J 49 0 = nT) (hn : nT ≤ 8) (hQ : Q (some (.inl (zi (cnF (qal J p) nT)))) (K, zm J, P, n, w)) : ∀ j k : Nat, k + j = nT → zT d 81 4 [(0, .inr (some 49)), (1, .inl (zi p)), (2, .inl (zi (cnF (qal J p) k))), (3, .inl (zi k))] [] (K, zm J, P, n, w) Q := by
  have hm0 := hm; obtain ⟨msk49, msp1, msk50, msp2, msk51, msp3, msk52, msp4, msk53, msp5, msk54, msp6, msk55, msp7, msk56, msp8, msk57, msp9, msk58, msp10, msk59, msp12, msk60, msp13, msk61, msp14, msk62, msp15, msk63, msp16, msk64, msp17, msk65, msp18, msk66, msp19, msk67, msp22, msk68, msp23, msk69, msp24, msk70, msp25, msk71, msp26, msk72, msp27, msk73, msp28, msk74, msp29, msk75, msp30, msk76, msp31, msk77, msp32, msk78⟩ := hm0
  obtain ⟨p1, p2⟩ := hp
  intro j
  induction j with
  | zero =>
    intro k hk
    have g : (nT : Int) ≤ k := by omega
    rw [show k = nT by omega]
    have g : (nT : Int) ≤ nT := by omega
    simp (disch := omega) only [zt_81_4, zt_81_5, zt_81_6, zt_81_9, zt_81_46, zt_81_47, zx_const, zx_iload, zx_aload, zx_istore, zx_astore, zx_iinc, zx_add, zx_sub, zx_mul, zx_dup, zx_dup2, zx_pop, zx_cmp, zx_if, zx_goto, zx_ifnull0, zx_ifnull1, zx_ifnn0, zx_ifnn1, zx_null, zx_geti, zx_getr, zx_puti, zx_putr, zx_iald, zx_iast, zx_zald, zx_zast, zx_aald, zx_aast, zx_alen, zx_obj, zx_ret, zx_iret, zx_zret, zx_aret, zo1_s, zo2_s, zget_s, zget_ne, zset_s, zset_ne, zset_0, zc_eq, zc_ne, zc_lt, zc_ge, zc_gt, zc_le, zi_add, zi_sub, zi_mul, zi_lt, zi_le, zi_eq, Nat.reduceBEq, zU_s, zU_k, zU_ne, if_true, if_false, not_true_eq_false, not_false_eq_true, Option.toList_some, Option.toList_none, List.cons_append, List.nil_append, Int.toNat_natCast, and_true, true_and, msp1, msp2, msp3, msp4, msp5, msp6, msp7, msp8, msp9, msp10, msp12, msp13, msp14, msp15, msp16, msp17, msp18, msp19, msp22, msp23, msp24, msp25, msp26, msp27, msp28, msp29, msp30, msp31, msp32, hT, g]
    exact hQ
  | succ j ih =>
    intro k hk
    have g : ¬ (nT : Int) ≤ k := by omega
    have r1 := hr 58 k
    have r2 := hr 57 k
    have h2 := ih (k + 1) (by omega)
    rw [nat1] at h2
    rw [zt_81_4]
    by_cases c1 : J 58 k = 1
    · by_cases c2 : J 57 k = p
      · rw [cnF_t (show qal J p k from ⟨c1, c2⟩)] at h2
        simp (disch := omega) only [zt_81_5, zt_81_6, zt_81_9, zt_81_12, zt_81_13, zt_81_14, zt_81_17, zt_81_18, zt_81_19, zt_81_20, zt_81_23, zt_81_24, zt_81_27, zt_81_28, zt_81_29, zt_81_30, zt_81_33, zt_81_34, zt_81_37, zt_81_38, zt_81_39, zt_81_40, zt_81_43, zx_const, zx_iload, zx_aload, zx_istore, zx_astore, zx_iinc, zx_add, zx_sub, zx_mul, zx_dup, zx_dup2, zx_pop, zx_cmp, zx_if, zx_goto, zx_ifnull0, zx_ifnull1, zx_ifnn0, zx_ifnn1, zx_null, zx_geti, zx_getr, zx_puti, zx_putr, zx_iald, zx_iast, zx_zald, zx_zast, zx_aald, zx_aast, zx_alen, zx_obj, zx_ret, zx_iret, zx_zret, zx_aret, zo1_s, zo2_s, zget_s, zget_ne, zset_s, zset_ne, zset_0, zc_eq, zc_ne, zc_lt, zc_ge, zc_gt, zc_le, zi_add, zi_sub, zi_mul, zi_lt, zi_le, zi_eq, Nat.reduceBEq, zU_s, zU_k, zU_ne, if_true, if_false, not_true_eq_false, not_false_eq_true, Option.toList_some, Option.toList_none, List.cons_append, List.nil_append, Int.toNat_natCast, and_true, true_and, msp1, msp2, msp3, msp4, msp5, msp6, msp7, msp8, msp9, msp10, msp12, msp13, msp14, msp15, msp16, msp17, msp18, msp19, msp22, msp23, msp24, msp25, msp26, msp27, msp28, msp29, msp30, msp31, msp32, hT, g, c1, c2]
        exact h2
      · rw [cnF_f (show ¬ qal J p k from fun q => c2 q.2)] at h2
        simp (disch := omega) only [zt_81_5, zt_81_6, zt_81_9, zt_81_12, zt_81_13, zt_81_14, zt_81_17, zt_81_18, zt_81_19, zt_81_20, zt_81_23, zt_81_24, zt_81_27, zt_81_28, zt_81_29, zt_81_30, zt_81_33, zt_81_34, zt_81_37, zt_81_38, zt_81_39, zt_81_40, zt_81_43, zx_const, zx_iload, zx_aload, zx_istore, zx_astore, zx_iinc, zx_add, zx_sub, zx_mul, zx_dup, zx_dup2, zx_pop, zx_cmp, zx_if, zx_goto, zx_ifnull0, zx_ifnull1, zx_ifnn0, zx_ifnn1, zx_null, zx_geti, zx_getr, zx_puti, zx_putr, zx_iald, zx_iast, zx_zald, zx_zast, zx_aald, zx_aast, zx_alen, zx_obj, zx_ret, zx_iret, zx_zret, zx_aret, zo1_s, zo2_s, zget_s, zget_ne, zset_s, zset_ne, zset_0, zc_eq, zc_ne, zc_lt, zc_ge, zc_gt, zc_le, zi_add, zi_sub, zi_mul, zi_lt, zi_le, zi_eq, Nat.reduceBEq, zU_s, zU_k, zU_ne, if_true, if_false, not_true_eq_false, not_false_eq_true, Option.toList_some, Option.toList_none, List.cons_append, List.nil_append, Int.toNat_natCast, and_true, true_and, msp1, msp2, msp3, msp4, msp5, msp6, msp7, msp8, msp9, msp10, msp12, msp13, msp14, msp15, msp16, msp17, msp18, msp19, msp22, msp23, msp24, msp25, msp26, msp27, msp28, msp29, msp30, msp31, msp32, hT, g, c1, c2]
        exact h2
    · rw [cnF_f (show ¬ qal J p k from fun q => c1 q.1)] at h2
      simp (disch := omega) only [zt_81_5, zt_81_6, zt_81_9, zt_81_12, zt_81_13, zt_81_14, zt_81_17, zt_81_18, zt_81_19, zt_81_20, zt_81_23, zt_81_24, zt_81_27, zt_81_28, zt_81_29, zt_81_30, zt_81_33, zt_81_34, zt_81_37, zt_81_38, zt_81_39, zt_81_40, zt_81_43, zx_const, zx_iload, zx_aload, zx_istore, zx_astore, zx_iinc, zx_add, zx_sub, zx_mul, zx_dup, zx_dup2, zx_pop, zx_cmp, zx_if, zx_goto, zx_ifnull0, zx_ifnull1, zx_ifnn0, zx_ifnn1, zx_null, zx_geti, zx_getr, zx_puti, zx_putr, zx_iald, zx_iast, zx_zald, zx_zast, zx_aald, zx_aast, zx_alen, zx_obj, zx_ret, zx_iret, zx_zret, zx_aret, zo1_s, zo2_s, zget_s, zget_ne, zset_s, zset_ne, zset_0, zc_eq, zc_ne, zc_lt, zc_ge, zc_gt, zc_le, zi_add, zi_sub, zi_mul, zi_lt, zi_le, zi_eq, Nat.reduceBEq, zU_s, zU_k, zU_ne, if_true, if_false, not_true_eq_false, not_false_eq_true, Option.toList_some, Option.toList_none, List.cons_append, List.nil_append, Int.toNat_natCast, and_true, true_and, msp1, msp2, msp3, msp4, msp5, msp6, msp7, msp8, msp9, msp10, msp12, msp13, msp14, msp15, msp16, msp17, msp18, msp19, msp22, msp23, msp24, msp25, msp26, msp27, msp28, msp29, msp30, msp31, msp32, hT, g, c1]
      exact h2
set_option maxHeartbeats 4000000 in
theorem m_lengthOf {d : Nat} {K : Nat → Option ZK} {J : Nat → Nat → Int} {P : Nat → Nat → Option Nat} {n w : Nat} {Q : Option ZV → ZH → Prop} {nT : Nat} {p : Int} (hm : msh K P) (hr : RG J) (hp : zr p) (hT : J 49 0 = nT) (hn : nT ≤ 8) (hQ : Q (some (.inl (zi (cnF (qal J p) nT)))) (K, zm J, P, n, w)) : zT d 81 0 [(0, .inr (some 49)), (1, .inl (zi p))] [] (K, zm J, P, n, w) Q := by
  simp (disch := omega) only [zt_81_0, zt_81_1, zt_81_2, zt_81_3, zx_const, zx_iload, zx_aload, zx_istore, zx_astore, zx_iinc, zx_add, zx_sub, zx_mul, zx_dup, zx_dup2, zx_pop, zx_cmp, zx_if, zx_goto, zx_ifnull0, zx_ifnull1, zx_ifnn0, zx_ifnn1, zx_null, zx_geti, zx_getr, zx_puti, zx_putr, zx_iald, zx_iast, zx_zald, zx_zast, zx_aald, zx_aast, zx_alen, zx_obj, zx_ret, zx_iret, zx_zret, zx_aret, zo1_s, zo2_s, zget_s, zget_ne, zset_s, zset_ne, zset_0, zc_eq, zc_ne, zc_lt, zc_ge, zc_gt, zc_le, zi_add, zi_sub, zi_mul, zi_lt, zi_le, zi_eq, Nat.reduceBEq, zU_s, zU_k, zU_ne, if_true, if_false, not_true_eq_false, not_false_eq_true, Option.toList_some, Option.toList_none, List.cons_append, List.nil_append, Int.toNat_natCast, and_true, true_and]
  exact l_lengthOf hm hr hp hT hn hQ nT 0 (by omega)
def aal (J : Nat → Nat → Int) (p : Int) (x : Int) (i : Nat) : Prop := qal J p i ∧ J 59 i < x
set_option maxHeartbeats 4000000 in
theorem l_ahead {d : Nat} {K : Nat → Option ZK} {J : Nat → Nat → Int} {P : Nat → Nat → Option Nat} {n w : Nat} {Q : Option ZV → ZH → Prop} {nT t : Nat} {p : Int} (hm : msh K P) (hr : RG J) (hp : zr p) (hT : J 49 0 = nT) (hn : nT ≤ 8) (ht : t < 8) (hQ : Q (some (.inl (zi (cnF (aal J p (J 59 t)) nT)))) (K, zm J, P, n, w)) : ∀ j k : Nat, k + j = nT → zT d 80 5 [(0, .inr (some 49)), (1, .inl (zi p)), (2, .inl (zi t)), (3, .inl (zi (cnF (aal J p (J 59 t)) k))), (4, .inl (zi k))] [] (K, zm J, P, n, w) Q := by
  have hm0 := hm; obtain ⟨msk49, msp1, msk50, msp2, msk51, msp3, msk52, msp4, msk53, msp5, msk54, msp6, msk55, msp7, msk56, msp8, msk57, msp9, msk58, msp10, msk59, msp12, msk60, msp13, msk61, msp14, msk62, msp15, msk63, msp16, msk64, msp17, msk65, msp18, msk66, msp19, msk67, msp22, msk68, msp23, msk69, msp24, msk70, msp25, msk71, msp26, msk72, msp27, msk73, msp28, msk74, msp29, msk75, msp30, msk76, msp31, msk77, msp32, msk78⟩ := hm0
  obtain ⟨p1, p2⟩ := hp
  intro j
  induction j with
  | zero =>
    intro k hk
    rw [show k = nT by omega]
    have g : (nT : Int) ≤ nT := by omega
    simp (disch := omega) only [zt_80_5, zt_80_7, zt_80_8, zt_80_11, zt_80_66, zt_80_67, zx_const, zx_iload, zx_aload, zx_istore, zx_astore, zx_iinc, zx_add, zx_sub, zx_mul, zx_dup, zx_dup2, zx_pop, zx_cmp, zx_if, zx_goto, zx_ifnull0, zx_ifnull1, zx_ifnn0, zx_ifnn1, zx_null, zx_geti, zx_getr, zx_puti, zx_putr, zx_iald, zx_iast, zx_zald, zx_zast, zx_aald, zx_aast, zx_alen, zx_obj, zx_ret, zx_iret, zx_zret, zx_aret, zo1_s, zo2_s, zget_s, zget_ne, zset_s, zset_ne, zset_0, zc_eq, zc_ne, zc_lt, zc_ge, zc_gt, zc_le, zi_add, zi_sub, zi_mul, zi_lt, zi_le, zi_eq, Nat.reduceBEq, zU_s, zU_k, zU_ne, if_true, if_false, not_true_eq_false, not_false_eq_true, Option.toList_some, Option.toList_none, List.cons_append, List.nil_append, Int.toNat_natCast, and_true, true_and, msp1, msp2, msp3, msp4, msp5, msp6, msp7, msp8, msp9, msp10, msp12, msp13, msp14, msp15, msp16, msp17, msp18, msp19, msp22, msp23, msp24, msp25, msp26, msp27, msp28, msp29, msp30, msp31, msp32, hT, g]
    exact hQ
  | succ j ih =>
    intro k hk
    have g : ¬ (nT : Int) ≤ k := by omega
    have r1 := hr 58 k
    have r2 := hr 57 k
    have r3 := hr 59 k
    have r4 := hr 59 t
    have h2 := ih (k + 1) (by omega)
    rw [nat1] at h2
    rw [zt_80_5]
    by_cases c1 : J 58 k = 1
    · by_cases c2 : J 57 k = p
      · by_cases c3 : J 59 t ≤ J 59 k
        · rw [cnF_f (show ¬ aal J p (J 59 t) k from fun q => by have := q.2; omega)] at h2
          simp (disch := omega) only [zt_80_7, zt_80_8, zt_80_11, zt_80_14, zt_80_15, zt_80_16, zt_80_19, zt_80_21, zt_80_22, zt_80_23, zt_80_26, zt_80_27, zt_80_30, zt_80_32, zt_80_33, zt_80_34, zt_80_37, zt_80_38, zt_80_41, zt_80_43, zt_80_44, zt_80_45, zt_80_48, zt_80_49, zt_80_50, zt_80_53, zt_80_54, zt_80_57, zt_80_58, zt_80_59, zt_80_60, zt_80_63, zx_const, zx_iload, zx_aload, zx_istore, zx_astore, zx_iinc, zx_add, zx_sub, zx_mul, zx_dup, zx_dup2, zx_pop, zx_cmp, zx_if, zx_goto, zx_ifnull0, zx_ifnull1, zx_ifnn0, zx_ifnn1, zx_null, zx_geti, zx_getr, zx_puti, zx_putr, zx_iald, zx_iast, zx_zald, zx_zast, zx_aald, zx_aast, zx_alen, zx_obj, zx_ret, zx_iret, zx_zret, zx_aret, zo1_s, zo2_s, zget_s, zget_ne, zset_s, zset_ne, zset_0, zc_eq, zc_ne, zc_lt, zc_ge, zc_gt, zc_le, zi_add, zi_sub, zi_mul, zi_lt, zi_le, zi_eq, Nat.reduceBEq, zU_s, zU_k, zU_ne, if_true, if_false, not_true_eq_false, not_false_eq_true, Option.toList_some, Option.toList_none, List.cons_append, List.nil_append, Int.toNat_natCast, and_true, true_and, msp1, msp2, msp3, msp4, msp5, msp6, msp7, msp8, msp9, msp10, msp12, msp13, msp14, msp15, msp16, msp17, msp18, msp19, msp22, msp23, msp24, msp25, msp26, msp27, msp28, msp29, msp30, msp31, msp32, hT, g, c1, c2, c3]
          exact h2
        · rw [cnF_t (show aal J p (J 59 t) k from ⟨⟨c1, c2⟩, by omega⟩)] at h2
          simp (disch := omega) only [zt_80_7, zt_80_8, zt_80_11, zt_80_14, zt_80_15, zt_80_16, zt_80_19, zt_80_21, zt_80_22, zt_80_23, zt_80_26, zt_80_27, zt_80_30, zt_80_32, zt_80_33, zt_80_34, zt_80_37, zt_80_38, zt_80_41, zt_80_43, zt_80_44, zt_80_45, zt_80_48, zt_80_49, zt_80_50, zt_80_53, zt_80_54, zt_80_57, zt_80_58, zt_80_59, zt_80_60, zt_80_63, zx_const, zx_iload, zx_aload, zx_istore, zx_astore, zx_iinc, zx_add, zx_sub, zx_mul, zx_dup, zx_dup2, zx_pop, zx_cmp, zx_if, zx_goto, zx_ifnull0, zx_ifnull1, zx_ifnn0, zx_ifnn1, zx_null, zx_geti, zx_getr, zx_puti, zx_putr, zx_iald, zx_iast, zx_zald, zx_zast, zx_aald, zx_aast, zx_alen, zx_obj, zx_ret, zx_iret, zx_zret, zx_aret, zo1_s, zo2_s, zget_s, zget_ne, zset_s, zset_ne, zset_0, zc_eq, zc_ne, zc_lt, zc_ge, zc_gt, zc_le, zi_add, zi_sub, zi_mul, zi_lt, zi_le, zi_eq, Nat.reduceBEq, zU_s, zU_k, zU_ne, if_true, if_false, not_true_eq_false, not_false_eq_true, Option.toList_some, Option.toList_none, List.cons_append, List.nil_append, Int.toNat_natCast, and_true, true_and, msp1, msp2, msp3, msp4, msp5, msp6, msp7, msp8, msp9, msp10, msp12, msp13, msp14, msp15, msp16, msp17, msp18, msp19, msp22, msp23, msp24, msp25, msp26, msp27, msp28, msp29, msp30, msp31, msp32, hT, g, c1, c2, c3]
          exact h2
      · rw [cnF_f (show ¬ aal J p (J 59 t) k from fun q => c2 q.1.2)] at h2
        simp (disch := omega) only [zt_80_7, zt_80_8, zt_80_11, zt_80_14, zt_80_15, zt_80_16, zt_80_19, zt_80_21, zt_80_22, zt_80_23, zt_80_26, zt_80_27, zt_80_30, zt_80_32, zt_80_33, zt_80_34, zt_80_37, zt_80_38, zt_80_41, zt_80_43, zt_80_44, zt_80_45, zt_80_48, zt_80_49, zt_80_50, zt_80_53, zt_80_54, zt_80_57, zt_80_58, zt_80_59, zt_80_60, zt_80_63, zx_const, zx_iload, zx_aload, zx_istore, zx_astore, zx_iinc, zx_add, zx_sub, zx_mul, zx_dup, zx_dup2, zx_pop, zx_cmp, zx_if, zx_goto, zx_ifnull0, zx_ifnull1, zx_ifnn0, zx_ifnn1, zx_null, zx_geti, zx_getr, zx_puti, zx_putr, zx_iald, zx_iast, zx_zald, zx_zast, zx_aald, zx_aast, zx_alen, zx_obj, zx_ret, zx_iret, zx_zret, zx_aret, zo1_s, zo2_s, zget_s, zget_ne, zset_s, zset_ne, zset_0, zc_eq, zc_ne, zc_lt, zc_ge, zc_gt, zc_le, zi_add, zi_sub, zi_mul, zi_lt, zi_le, zi_eq, Nat.reduceBEq, zU_s, zU_k, zU_ne, if_true, if_false, not_true_eq_false, not_false_eq_true, Option.toList_some, Option.toList_none, List.cons_append, List.nil_append, Int.toNat_natCast, and_true, true_and, msp1, msp2, msp3, msp4, msp5, msp6, msp7, msp8, msp9, msp10, msp12, msp13, msp14, msp15, msp16, msp17, msp18, msp19, msp22, msp23, msp24, msp25, msp26, msp27, msp28, msp29, msp30, msp31, msp32, hT, g, c1, c2]
        exact h2
    · rw [cnF_f (show ¬ aal J p (J 59 t) k from fun q => c1 q.1.1)] at h2
      simp (disch := omega) only [zt_80_7, zt_80_8, zt_80_11, zt_80_14, zt_80_15, zt_80_16, zt_80_19, zt_80_21, zt_80_22, zt_80_23, zt_80_26, zt_80_27, zt_80_30, zt_80_32, zt_80_33, zt_80_34, zt_80_37, zt_80_38, zt_80_41, zt_80_43, zt_80_44, zt_80_45, zt_80_48, zt_80_49, zt_80_50, zt_80_53, zt_80_54, zt_80_57, zt_80_58, zt_80_59, zt_80_60, zt_80_63, zx_const, zx_iload, zx_aload, zx_istore, zx_astore, zx_iinc, zx_add, zx_sub, zx_mul, zx_dup, zx_dup2, zx_pop, zx_cmp, zx_if, zx_goto, zx_ifnull0, zx_ifnull1, zx_ifnn0, zx_ifnn1, zx_null, zx_geti, zx_getr, zx_puti, zx_putr, zx_iald, zx_iast, zx_zald, zx_zast, zx_aald, zx_aast, zx_alen, zx_obj, zx_ret, zx_iret, zx_zret, zx_aret, zo1_s, zo2_s, zget_s, zget_ne, zset_s, zset_ne, zset_0, zc_eq, zc_ne, zc_lt, zc_ge, zc_gt, zc_le, zi_add, zi_sub, zi_mul, zi_lt, zi_le, zi_eq, Nat.reduceBEq, zU_s, zU_k, zU_ne, if_true, if_false, not_true_eq_false, not_false_eq_true, Option.toList_some, Option.toList_none, List.cons_append, List.nil_append, Int.toNat_natCast, and_true, true_and, msp1, msp2, msp3, msp4, msp5, msp6, msp7, msp8, msp9, msp10, msp12, msp13, msp14, msp15, msp16, msp17, msp18, msp19, msp22, msp23, msp24, msp25, msp26, msp27, msp28, msp29, msp30, msp31, msp32, hT, g, c1]
      exact h2
set_option maxHeartbeats 4000000 in
theorem m_ahead {d : Nat} {K : Nat → Option ZK} {J : Nat → Nat → Int} {P : Nat → Nat → Option Nat} {n w : Nat} {Q : Option ZV → ZH → Prop} {nT t : Nat} {p : Int} (hm : msh K P) (hr : RG J) (hp : zr p) (hT : J 49 0 = nT) (hn : nT ≤ 8) (ht : t < 8) (hQ : Q (some (.inl (zi (cnF (aal J p (J 59 t)) nT)))) (K, zm J, P, n, w)) : zT d 80 0 [(0, .inr (some 49)), (1, .inl (zi p)), (2, .inl (zi t))] [] (K, zm J, P, n, w) Q := by
  simp (disch := omega) only [zt_80_0, zt_80_1, zt_80_2, zt_80_3, zx_const, zx_iload, zx_aload, zx_istore, zx_astore, zx_iinc, zx_add, zx_sub, zx_mul, zx_dup, zx_dup2, zx_pop, zx_cmp, zx_if, zx_goto, zx_ifnull0, zx_ifnull1, zx_ifnn0, zx_ifnn1, zx_null, zx_geti, zx_getr, zx_puti, zx_putr, zx_iald, zx_iast, zx_zald, zx_zast, zx_aald, zx_aast, zx_alen, zx_obj, zx_ret, zx_iret, zx_zret, zx_aret, zo1_s, zo2_s, zget_s, zget_ne, zset_s, zset_ne, zset_0, zc_eq, zc_ne, zc_lt, zc_ge, zc_gt, zc_le, zi_add, zi_sub, zi_mul, zi_lt, zi_le, zi_eq, Nat.reduceBEq, zU_s, zU_k, zU_ne, if_true, if_false, not_true_eq_false, not_false_eq_true, Option.toList_some, Option.toList_none, List.cons_append, List.nil_append, Int.toNat_natCast, and_true, true_and]
  exact l_ahead hm hr hp hT hn ht hQ nT 0 (by omega)
def curF (J : Nat → Nat → Int) (p : Int) : Nat → Int
  | 0 => -1
  | k + 1 => if J 58 k = 2 ∧ J 57 k = p then k else curF J p k
theorem curF_r (J : Nat → Nat → Int) (p : Int) : ∀ k, -1 ≤ curF J p k ∧ curF J p k < k := by
  intro k
  induction k with
  | zero => exact ⟨by unfold curF; decide, by unfold curF; decide⟩
  | succ k ih =>
    unfold curF
    split <;> omega
set_option maxHeartbeats 4000000 in
theorem l_currentOf {d : Nat} {K : Nat → Option ZK} {J : Nat → Nat → Int} {P : Nat → Nat → Option Nat} {n w : Nat} {Q : Option ZV → ZH → Prop} {nT : Nat} {p : Int} (hm : msh K P) (hr : RG J) (hp : zr p) (hT : J 49 0 = nT) (hn : nT ≤ 8) (hQ : Q (some (.inl (zi (curF J p nT)))) (K, zm J, P, n, w)) : ∀ j k : Nat, k + j = nT → zT d 79 4 [(0, .inr (some 49)), (1, .inl (zi p)), (2, .inl (zi (curF J p k))), (3, .inl (zi k))] [] (K, zm J, P, n, w) Q := by
  have hm0 := hm; obtain ⟨msk49, msp1, msk50, msp2, msk51, msp3, msk52, msp4, msk53, msp5, msk54, msp6, msk55, msp7, msk56, msp8, msk57, msp9, msk58, msp10, msk59, msp12, msk60, msp13, msk61, msp14, msk62, msp15, msk63, msp16, msk64, msp17, msk65, msp18, msk66, msp19, msk67, msp22, msk68, msp23, msk69, msp24, msk70, msp25, msk71, msp26, msk72, msp27, msk73, msp28, msk74, msp29, msk75, msp30, msk76, msp31, msk77, msp32, msk78⟩ := hm0
  obtain ⟨p1, p2⟩ := hp
  intro j
  induction j with
  | zero =>
    intro k hk
    rw [show k = nT by omega]
    have g : (nT : Int) ≤ nT := by omega
    simp (disch := omega) only [zt_79_4, zt_79_5, zt_79_6, zt_79_9, zt_79_44, zt_79_45, zx_const, zx_iload, zx_aload, zx_istore, zx_astore, zx_iinc, zx_add, zx_sub, zx_mul, zx_dup, zx_dup2, zx_pop, zx_cmp, zx_if, zx_goto, zx_ifnull0, zx_ifnull1, zx_ifnn0, zx_ifnn1, zx_null, zx_geti, zx_getr, zx_puti, zx_putr, zx_iald, zx_iast, zx_zald, zx_zast, zx_aald, zx_aast, zx_alen, zx_obj, zx_ret, zx_iret, zx_zret, zx_aret, zo1_s, zo2_s, zget_s, zget_ne, zset_s, zset_ne, zset_0, zc_eq, zc_ne, zc_lt, zc_ge, zc_gt, zc_le, zi_add, zi_sub, zi_mul, zi_lt, zi_le, zi_eq, Nat.reduceBEq, zU_s, zU_k, zU_ne, if_true, if_false, not_true_eq_false, not_false_eq_true, Option.toList_some, Option.toList_none, List.cons_append, List.nil_append, Int.toNat_natCast, and_true, true_and, msp1, msp2, msp3, msp4, msp5, msp6, msp7, msp8, msp9, msp10, msp12, msp13, msp14, msp15, msp16, msp17, msp18, msp19, msp22, msp23, msp24, msp25, msp26, msp27, msp28, msp29, msp30, msp31, msp32, hT, g]
    exact hQ
  | succ j ih =>
    intro k hk
    have g : ¬ (nT : Int) ≤ k := by omega
    have r1 := hr 58 k
    have r2 := hr 57 k
    have h2 := ih (k + 1) (by omega)
    rw [nat1] at h2
    rw [zt_79_4]
    by_cases c1 : J 58 k = 2
    · by_cases c2 : J 57 k = p
      · rw [show curF J p (k + 1) = k by unfold curF; rw [if_pos ⟨c1, c2⟩]] at h2
        simp (disch := omega) only [zt_79_5, zt_79_6, zt_79_9, zt_79_12, zt_79_13, zt_79_16, zt_79_17, zt_79_18, zt_79_19, zt_79_22, zt_79_23, zt_79_26, zt_79_27, zt_79_28, zt_79_29, zt_79_32, zt_79_33, zt_79_36, zt_79_37, zt_79_38, zt_79_41, zx_const, zx_iload, zx_aload, zx_istore, zx_astore, zx_iinc, zx_add, zx_sub, zx_mul, zx_dup, zx_dup2, zx_pop, zx_cmp, zx_if, zx_goto, zx_ifnull0, zx_ifnull1, zx_ifnn0, zx_ifnn1, zx_null, zx_geti, zx_getr, zx_puti, zx_putr, zx_iald, zx_iast, zx_zald, zx_zast, zx_aald, zx_aast, zx_alen, zx_obj, zx_ret, zx_iret, zx_zret, zx_aret, zo1_s, zo2_s, zget_s, zget_ne, zset_s, zset_ne, zset_0, zc_eq, zc_ne, zc_lt, zc_ge, zc_gt, zc_le, zi_add, zi_sub, zi_mul, zi_lt, zi_le, zi_eq, Nat.reduceBEq, zU_s, zU_k, zU_ne, if_true, if_false, not_true_eq_false, not_false_eq_true, Option.toList_some, Option.toList_none, List.cons_append, List.nil_append, Int.toNat_natCast, and_true, true_and, msp1, msp2, msp3, msp4, msp5, msp6, msp7, msp8, msp9, msp10, msp12, msp13, msp14, msp15, msp16, msp17, msp18, msp19, msp22, msp23, msp24, msp25, msp26, msp27, msp28, msp29, msp30, msp31, msp32, hT, g, c1, c2]
        exact h2
      · rw [show curF J p (k + 1) = curF J p k by conv => lhs; unfold curF; rw [if_neg (fun q => c2 q.2)]] at h2
        simp (disch := omega) only [zt_79_5, zt_79_6, zt_79_9, zt_79_12, zt_79_13, zt_79_16, zt_79_17, zt_79_18, zt_79_19, zt_79_22, zt_79_23, zt_79_26, zt_79_27, zt_79_28, zt_79_29, zt_79_32, zt_79_33, zt_79_36, zt_79_37, zt_79_38, zt_79_41, zx_const, zx_iload, zx_aload, zx_istore, zx_astore, zx_iinc, zx_add, zx_sub, zx_mul, zx_dup, zx_dup2, zx_pop, zx_cmp, zx_if, zx_goto, zx_ifnull0, zx_ifnull1, zx_ifnn0, zx_ifnn1, zx_null, zx_geti, zx_getr, zx_puti, zx_putr, zx_iald, zx_iast, zx_zald, zx_zast, zx_aald, zx_aast, zx_alen, zx_obj, zx_ret, zx_iret, zx_zret, zx_aret, zo1_s, zo2_s, zget_s, zget_ne, zset_s, zset_ne, zset_0, zc_eq, zc_ne, zc_lt, zc_ge, zc_gt, zc_le, zi_add, zi_sub, zi_mul, zi_lt, zi_le, zi_eq, Nat.reduceBEq, zU_s, zU_k, zU_ne, if_true, if_false, not_true_eq_false, not_false_eq_true, Option.toList_some, Option.toList_none, List.cons_append, List.nil_append, Int.toNat_natCast, and_true, true_and, msp1, msp2, msp3, msp4, msp5, msp6, msp7, msp8, msp9, msp10, msp12, msp13, msp14, msp15, msp16, msp17, msp18, msp19, msp22, msp23, msp24, msp25, msp26, msp27, msp28, msp29, msp30, msp31, msp32, hT, g, c1, c2]
        exact h2
    · rw [show curF J p (k + 1) = curF J p k by conv => lhs; unfold curF; rw [if_neg (fun q => c1 q.1)]] at h2
      simp (disch := omega) only [zt_79_5, zt_79_6, zt_79_9, zt_79_12, zt_79_13, zt_79_16, zt_79_17, zt_79_18, zt_79_19, zt_79_22, zt_79_23, zt_79_26, zt_79_27, zt_79_28, zt_79_29, zt_79_32, zt_79_33, zt_79_36, zt_79_37, zt_79_38, zt_79_41, zx_const, zx_iload, zx_aload, zx_istore, zx_astore, zx_iinc, zx_add, zx_sub, zx_mul, zx_dup, zx_dup2, zx_pop, zx_cmp, zx_if, zx_goto, zx_ifnull0, zx_ifnull1, zx_ifnn0, zx_ifnn1, zx_null, zx_geti, zx_getr, zx_puti, zx_putr, zx_iald, zx_iast, zx_zald, zx_zast, zx_aald, zx_aast, zx_alen, zx_obj, zx_ret, zx_iret, zx_zret, zx_aret, zo1_s, zo2_s, zget_s, zget_ne, zset_s, zset_ne, zset_0, zc_eq, zc_ne, zc_lt, zc_ge, zc_gt, zc_le, zi_add, zi_sub, zi_mul, zi_lt, zi_le, zi_eq, Nat.reduceBEq, zU_s, zU_k, zU_ne, if_true, if_false, not_true_eq_false, not_false_eq_true, Option.toList_some, Option.toList_none, List.cons_append, List.nil_append, Int.toNat_natCast, and_true, true_and, msp1, msp2, msp3, msp4, msp5, msp6, msp7, msp8, msp9, msp10, msp12, msp13, msp14, msp15, msp16, msp17, msp18, msp19, msp22, msp23, msp24, msp25, msp26, msp27, msp28, msp29, msp30, msp31, msp32, hT, g, c1]
      exact h2
set_option maxHeartbeats 4000000 in
theorem m_currentOf {d : Nat} {K : Nat → Option ZK} {J : Nat → Nat → Int} {P : Nat → Nat → Option Nat} {n w : Nat} {Q : Option ZV → ZH → Prop} {nT : Nat} {p : Int} (hm : msh K P) (hr : RG J) (hp : zr p) (hT : J 49 0 = nT) (hn : nT ≤ 8) (hQ : Q (some (.inl (zi (curF J p nT)))) (K, zm J, P, n, w)) : zT d 79 0 [(0, .inr (some 49)), (1, .inl (zi p))] [] (K, zm J, P, n, w) Q := by
  simp (disch := omega) only [zt_79_0, zt_79_1, zt_79_2, zt_79_3, zx_const, zx_iload, zx_aload, zx_istore, zx_astore, zx_iinc, zx_add, zx_sub, zx_mul, zx_dup, zx_dup2, zx_pop, zx_cmp, zx_if, zx_goto, zx_ifnull0, zx_ifnull1, zx_ifnn0, zx_ifnn1, zx_null, zx_geti, zx_getr, zx_puti, zx_putr, zx_iald, zx_iast, zx_zald, zx_zast, zx_aald, zx_aast, zx_alen, zx_obj, zx_ret, zx_iret, zx_zret, zx_aret, zo1_s, zo2_s, zget_s, zget_ne, zset_s, zset_ne, zset_0, zc_eq, zc_ne, zc_lt, zc_ge, zc_gt, zc_le, zi_add, zi_sub, zi_mul, zi_lt, zi_le, zi_eq, Nat.reduceBEq, zU_s, zU_k, zU_ne, if_true, if_false, not_true_eq_false, not_false_eq_true, Option.toList_some, Option.toList_none, List.cons_append, List.nil_append, Int.toNat_natCast, and_true, true_and]
  exact l_currentOf hm hr hp hT hn hQ nT 0 (by omega)
noncomputable def atF (J : Nat → Nat → Int) (p x : Int) (nT : Nat) : Nat → Int
  | 0 => -1
  | k + 1 => if J 58 k = 1 ∧ J 57 k = p ∧ (cnF (aal J p (J 59 k)) nT : Int) = x then k else atF J p x nT k
theorem atF_r (J : Nat → Nat → Int) (p x : Int) (nT : Nat) : ∀ k, -1 ≤ atF J p x nT k ∧ atF J p x nT k < k := by
  intro k
  induction k with
  | zero => exact ⟨by unfold atF; decide, by unfold atF; decide⟩
  | succ k ih =>
    unfold atF
    split <;> omega
set_option maxHeartbeats 4000000 in
theorem l_at {d : Nat} {K : Nat → Option ZK} {J : Nat → Nat → Int} {P : Nat → Nat → Option Nat} {n w : Nat} {Q : Option ZV → ZH → Prop} {nT : Nat} {p x : Int} (hm : msh K P) (hr : RG J) (hp : zr p) (hx : zr x) (hT : J 49 0 = nT) (hn : nT ≤ 8) (hQ : Q (some (.inl (zi (atF J p x nT nT)))) (K, zm J, P, n, w)) : ∀ j k : Nat, k + j = nT → zT (d + 1) 82 5 [(0, .inr (some 49)), (1, .inl (zi p)), (2, .inl (zi x)), (3, .inl (zi (atF J p x nT k))), (4, .inl (zi k))] [] (K, zm J, P, n, w) Q := by
  have hm0 := hm; obtain ⟨msk49, msp1, msk50, msp2, msk51, msp3, msk52, msp4, msk53, msp5, msk54, msp6, msk55, msp7, msk56, msp8, msk57, msp9, msk58, msp10, msk59, msp12, msk60, msp13, msk61, msp14, msk62, msp15, msk63, msp16, msk64, msp17, msk65, msp18, msk66, msp19, msk67, msp22, msk68, msp23, msk69, msp24, msk70, msp25, msk71, msp26, msk72, msp27, msk73, msp28, msk74, msp29, msk75, msp30, msk76, msp31, msk77, msp32, msk78⟩ := hm0
  obtain ⟨p1, p2⟩ := hp
  obtain ⟨x1, x2⟩ := hx
  intro j
  induction j with
  | zero =>
    intro k hk
    rw [show k = nT by omega]
    have g : (nT : Int) ≤ nT := by omega
    simp (disch := omega) only [zt_82_5, zt_82_7, zt_82_8, zt_82_11, zt_82_60, zt_82_61, zx_const, zx_iload, zx_aload, zx_istore, zx_astore, zx_iinc, zx_add, zx_sub, zx_mul, zx_dup, zx_dup2, zx_pop, zx_cmp, zx_if, zx_goto, zx_ifnull0, zx_ifnull1, zx_ifnn0, zx_ifnn1, zx_null, zx_geti, zx_getr, zx_puti, zx_putr, zx_iald, zx_iast, zx_zald, zx_zast, zx_aald, zx_aast, zx_alen, zx_obj, zx_ret, zx_iret, zx_zret, zx_aret, zo1_s, zo2_s, zget_s, zget_ne, zset_s, zset_ne, zset_0, zc_eq, zc_ne, zc_lt, zc_ge, zc_gt, zc_le, zi_add, zi_sub, zi_mul, zi_lt, zi_le, zi_eq, Nat.reduceBEq, zU_s, zU_k, zU_ne, if_true, if_false, not_true_eq_false, not_false_eq_true, Option.toList_some, Option.toList_none, List.cons_append, List.nil_append, Int.toNat_natCast, and_true, true_and, msp1, msp2, msp3, msp4, msp5, msp6, msp7, msp8, msp9, msp10, msp12, msp13, msp14, msp15, msp16, msp17, msp18, msp19, msp22, msp23, msp24, msp25, msp26, msp27, msp28, msp29, msp30, msp31, msp32, hT, g]
    exact hQ
  | succ j ih =>
    intro k hk
    have g : ¬ (nT : Int) ≤ k := by omega
    have r1 := hr 58 k
    have r2 := hr 57 k
    have h2 := ih (k + 1) (by omega)
    have r5 := cnF_le (aal J p (J 59 k)) nT
    rw [nat1] at h2
    rw [zt_82_5]
    by_cases c1 : J 58 k = 1
    · by_cases c2 : J 57 k = p
      · simp (disch := first | omega | (simp; done)) only [zt_82_7, zt_82_8, zt_82_11, zt_82_14, zt_82_15, zt_82_18, zt_82_20, zt_82_21, zt_82_22, zt_82_25, zt_82_26, zt_82_29, zt_82_31, zt_82_32, zt_82_33, zt_82_36, zt_82_37, zt_82_38, zt_82_40, zx_const, zx_iload, zx_aload, zx_istore, zx_astore, zx_iinc, zx_add, zx_sub, zx_mul, zx_dup, zx_dup2, zx_pop, zx_cmp, zx_if, zx_goto, zx_ifnull0, zx_ifnull1, zx_ifnn0, zx_ifnn1, zx_null, zx_geti, zx_getr, zx_puti, zx_putr, zx_iald, zx_iast, zx_zald, zx_zast, zx_aald, zx_aast, zx_alen, zx_obj, zx_ret, zx_iret, zx_zret, zx_aret, zo1_s, zo2_s, zget_s, zget_ne, zset_s, zset_ne, zset_0, zc_eq, zc_ne, zc_lt, zc_ge, zc_gt, zc_le, zi_add, zi_sub, zi_mul, zi_lt, zi_le, zi_eq, Nat.reduceBEq, zU_s, zU_k, zU_ne, if_true, if_false, not_true_eq_false, not_false_eq_true, Option.toList_some, Option.toList_none, List.cons_append, List.nil_append, Int.toNat_natCast, and_true, true_and, zx_calls1, zx_calls2, zx_calls3, zx_calls4, zx_calls5, zx_calls6, zx_callv1, zx_callv2, zx_callv3, zx_callv4, zx_callv5, zx_callv6, msp1, msp2, msp3, msp4, msp5, msp6, msp7, msp8, msp9, msp10, msp12, msp13, msp14, msp15, msp16, msp17, msp18, msp19, msp22, msp23, msp24, msp25, msp26, msp27, msp28, msp29, msp30, msp31, msp32, hT, g, c1, c2]
        refine m_ahead hm hr ⟨p1, p2⟩ hT hn (by omega) ?_
        by_cases c3 : (cnF (aal J p (J 59 k)) nT : Int) = x
        · rw [show atF J p x nT (k + 1) = k by unfold atF; rw [if_pos ⟨c1, c2, c3⟩]] at h2
          simp (disch := omega) only [zt_82_43, zt_82_44, zt_82_47, zt_82_49, zt_82_52, zt_82_53, zt_82_54, zt_82_57, zx_const, zx_iload, zx_aload, zx_istore, zx_astore, zx_iinc, zx_add, zx_sub, zx_mul, zx_dup, zx_dup2, zx_pop, zx_cmp, zx_if, zx_goto, zx_ifnull0, zx_ifnull1, zx_ifnn0, zx_ifnn1, zx_null, zx_geti, zx_getr, zx_puti, zx_putr, zx_iald, zx_iast, zx_zald, zx_zast, zx_aald, zx_aast, zx_alen, zx_obj, zx_ret, zx_iret, zx_zret, zx_aret, zo1_s, zo2_s, zget_s, zget_ne, zset_s, zset_ne, zset_0, zc_eq, zc_ne, zc_lt, zc_ge, zc_gt, zc_le, zi_add, zi_sub, zi_mul, zi_lt, zi_le, zi_eq, Nat.reduceBEq, zU_s, zU_k, zU_ne, if_true, if_false, not_true_eq_false, not_false_eq_true, Option.toList_some, Option.toList_none, List.cons_append, List.nil_append, Int.toNat_natCast, and_true, true_and, msp1, msp2, msp3, msp4, msp5, msp6, msp7, msp8, msp9, msp10, msp12, msp13, msp14, msp15, msp16, msp17, msp18, msp19, msp22, msp23, msp24, msp25, msp26, msp27, msp28, msp29, msp30, msp31, msp32, hT, g, c1, c2, c3]
          exact h2
        · rw [show atF J p x nT (k + 1) = atF J p x nT k by conv => lhs; unfold atF; rw [if_neg (fun q => c3 q.2.2)]] at h2
          simp (disch := omega) only [zt_82_43, zt_82_44, zt_82_47, zt_82_49, zt_82_52, zt_82_53, zt_82_54, zt_82_57, zx_const, zx_iload, zx_aload, zx_istore, zx_astore, zx_iinc, zx_add, zx_sub, zx_mul, zx_dup, zx_dup2, zx_pop, zx_cmp, zx_if, zx_goto, zx_ifnull0, zx_ifnull1, zx_ifnn0, zx_ifnn1, zx_null, zx_geti, zx_getr, zx_puti, zx_putr, zx_iald, zx_iast, zx_zald, zx_zast, zx_aald, zx_aast, zx_alen, zx_obj, zx_ret, zx_iret, zx_zret, zx_aret, zo1_s, zo2_s, zget_s, zget_ne, zset_s, zset_ne, zset_0, zc_eq, zc_ne, zc_lt, zc_ge, zc_gt, zc_le, zi_add, zi_sub, zi_mul, zi_lt, zi_le, zi_eq, Nat.reduceBEq, zU_s, zU_k, zU_ne, if_true, if_false, not_true_eq_false, not_false_eq_true, Option.toList_some, Option.toList_none, List.cons_append, List.nil_append, Int.toNat_natCast, and_true, true_and, msp1, msp2, msp3, msp4, msp5, msp6, msp7, msp8, msp9, msp10, msp12, msp13, msp14, msp15, msp16, msp17, msp18, msp19, msp22, msp23, msp24, msp25, msp26, msp27, msp28, msp29, msp30, msp31, msp32, hT, g, c1, c2, c3]
          exact h2
      · rw [show atF J p x nT (k + 1) = atF J p x nT k by conv => lhs; unfold atF; rw [if_neg (fun q => c2 q.2.1)]] at h2
        simp (disch := omega) only [zt_82_7, zt_82_8, zt_82_11, zt_82_14, zt_82_15, zt_82_18, zt_82_20, zt_82_21, zt_82_22, zt_82_25, zt_82_26, zt_82_29, zt_82_31, zt_82_32, zt_82_33, zt_82_36, zt_82_37, zt_82_38, zt_82_40, zt_82_43, zt_82_44, zt_82_47, zt_82_49, zt_82_52, zt_82_53, zt_82_54, zt_82_57, zx_const, zx_iload, zx_aload, zx_istore, zx_astore, zx_iinc, zx_add, zx_sub, zx_mul, zx_dup, zx_dup2, zx_pop, zx_cmp, zx_if, zx_goto, zx_ifnull0, zx_ifnull1, zx_ifnn0, zx_ifnn1, zx_null, zx_geti, zx_getr, zx_puti, zx_putr, zx_iald, zx_iast, zx_zald, zx_zast, zx_aald, zx_aast, zx_alen, zx_obj, zx_ret, zx_iret, zx_zret, zx_aret, zo1_s, zo2_s, zget_s, zget_ne, zset_s, zset_ne, zset_0, zc_eq, zc_ne, zc_lt, zc_ge, zc_gt, zc_le, zi_add, zi_sub, zi_mul, zi_lt, zi_le, zi_eq, Nat.reduceBEq, zU_s, zU_k, zU_ne, if_true, if_false, not_true_eq_false, not_false_eq_true, Option.toList_some, Option.toList_none, List.cons_append, List.nil_append, Int.toNat_natCast, and_true, true_and, msp1, msp2, msp3, msp4, msp5, msp6, msp7, msp8, msp9, msp10, msp12, msp13, msp14, msp15, msp16, msp17, msp18, msp19, msp22, msp23, msp24, msp25, msp26, msp27, msp28, msp29, msp30, msp31, msp32, hT, g, c1, c2]
        exact h2
    · rw [show atF J p x nT (k + 1) = atF J p x nT k by conv => lhs; unfold atF; rw [if_neg (fun q => c1 q.1)]] at h2
      simp (disch := omega) only [zt_82_7, zt_82_8, zt_82_11, zt_82_14, zt_82_15, zt_82_18, zt_82_20, zt_82_21, zt_82_22, zt_82_25, zt_82_26, zt_82_29, zt_82_31, zt_82_32, zt_82_33, zt_82_36, zt_82_37, zt_82_38, zt_82_40, zt_82_43, zt_82_44, zt_82_47, zt_82_49, zt_82_52, zt_82_53, zt_82_54, zt_82_57, zx_const, zx_iload, zx_aload, zx_istore, zx_astore, zx_iinc, zx_add, zx_sub, zx_mul, zx_dup, zx_dup2, zx_pop, zx_cmp, zx_if, zx_goto, zx_ifnull0, zx_ifnull1, zx_ifnn0, zx_ifnn1, zx_null, zx_geti, zx_getr, zx_puti, zx_putr, zx_iald, zx_iast, zx_zald, zx_zast, zx_aald, zx_aast, zx_alen, zx_obj, zx_ret, zx_iret, zx_zret, zx_aret, zo1_s, zo2_s, zget_s, zget_ne, zset_s, zset_ne, zset_0, zc_eq, zc_ne, zc_lt, zc_ge, zc_gt, zc_le, zi_add, zi_sub, zi_mul, zi_lt, zi_le, zi_eq, Nat.reduceBEq, zU_s, zU_k, zU_ne, if_true, if_false, not_true_eq_false, not_false_eq_true, Option.toList_some, Option.toList_none, List.cons_append, List.nil_append, Int.toNat_natCast, and_true, true_and, msp1, msp2, msp3, msp4, msp5, msp6, msp7, msp8, msp9, msp10, msp12, msp13, msp14, msp15, msp16, msp17, msp18, msp19, msp22, msp23, msp24, msp25, msp26, msp27, msp28, msp29, msp30, msp31, msp32, hT, g, c1]
      exact h2
set_option maxHeartbeats 4000000 in
theorem m_at {d : Nat} {K : Nat → Option ZK} {J : Nat → Nat → Int} {P : Nat → Nat → Option Nat} {n w : Nat} {Q : Option ZV → ZH → Prop} {nT : Nat} {p x : Int} (hm : msh K P) (hr : RG J) (hp : zr p) (hx : zr x) (hT : J 49 0 = nT) (hn : nT ≤ 8) (hQ : Q (some (.inl (zi (atF J p x nT nT)))) (K, zm J, P, n, w)) : zT (d + 1) 82 0 [(0, .inr (some 49)), (1, .inl (zi p)), (2, .inl (zi x))] [] (K, zm J, P, n, w) Q := by
  simp (disch := omega) only [zt_82_0, zt_82_1, zt_82_2, zt_82_3, zx_const, zx_iload, zx_aload, zx_istore, zx_astore, zx_iinc, zx_add, zx_sub, zx_mul, zx_dup, zx_dup2, zx_pop, zx_cmp, zx_if, zx_goto, zx_ifnull0, zx_ifnull1, zx_ifnn0, zx_ifnn1, zx_null, zx_geti, zx_getr, zx_puti, zx_putr, zx_iald, zx_iast, zx_zald, zx_zast, zx_aald, zx_aast, zx_alen, zx_obj, zx_ret, zx_iret, zx_zret, zx_aret, zo1_s, zo2_s, zget_s, zget_ne, zset_s, zset_ne, zset_0, zc_eq, zc_ne, zc_lt, zc_ge, zc_gt, zc_le, zi_add, zi_sub, zi_mul, zi_lt, zi_le, zi_eq, Nat.reduceBEq, zU_s, zU_k, zU_ne, if_true, if_false, not_true_eq_false, not_false_eq_true, Option.toList_some, Option.toList_none, List.cons_append, List.nil_append, Int.toNat_natCast, and_true, true_and]
  exact l_at hm hr hp hx hT hn hQ nT 0 (by omega)
