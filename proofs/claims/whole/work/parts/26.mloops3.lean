/-! forget, some, know: loops over pages. -/
/-- n places of the row b, from i on, are 0 -/
def zfill (J : Nat → Nat → Int) (b i n : Nat) : Nat → Nat → Int := fun a j => if a = b ∧ i ≤ j ∧ j < i + n then 0 else J a j
theorem zfill_0 (J : Nat → Nat → Int) (b i : Nat) : zfill J b i 0 = J := by
  funext a j; unfold zfill; rw [if_neg (by omega)]
theorem zfill_s (J : Nat → Nat → Int) (b i n : Nat) : zU (zfill J b i n) b (i + n) 0 = zfill J b i (n + 1) := by
  funext a j
  unfold zfill
  by_cases ha : a = b
  · subst ha
    by_cases hj : j = i + n
    · subst hj; rw [zU_s, if_pos ⟨rfl, by omega, by omega⟩]
    · rw [zU_k _ _ _ hj]
      by_cases h1 : i ≤ j ∧ j < i + n
      · rw [if_pos ⟨rfl, h1⟩, if_pos ⟨rfl, by omega, by omega⟩]
      · rw [if_neg (by omega), if_neg (by omega)]
  · rw [zU_ne ha, if_neg (fun q => ha q.1), if_neg (fun q => ha q.1)]
theorem zfill_ne {J : Nat → Nat → Int} {b i n a j : Nat} (h : a ≠ b) : zfill J b i n a j = J a j := by
  unfold zfill; rw [if_neg (fun q => h q.1)]
set_option maxHeartbeats 4000000 in
theorem l_forget {d : Nat} {K : Nat → Option ZK} {J : Nat → Nat → Int} {P : Nat → Nat → Option Nat} {n w : Nat} {Q : Option ZV → ZH → Prop} {p t k f m : Nat} (hm : msh K P) (hp : p < 4) (ht : t < 8) (hk : k < 80) (h53 : J 53 k = f) (h54 : J 54 k = m) (hf : f + m ≤ 16) (hQ : Q none (K, zm (zfill J 72 (16 * p + f) m), P, n, w)) : ∀ j q : Nat, q + j = m → zT d 87 15 [(0, .inr (some 49)), (1, .inl (zi p)), (2, .inl (zi t)), (3, .inl (zi k)), (4, .inl (zi q))] [] (K, zm (zfill J 72 (16 * p + f) q), P, n, w) Q := by
  have hm0 := hm; obtain ⟨msk49, msp1, msk50, msp2, msk51, msp3, msk52, msp4, msk53, msp5, msk54, msp6, msk55, msp7, msk56, msp8, msk57, msp9, msk58, msp10, msk59, msp12, msk60, msp13, msk61, msp14, msk62, msp15, msk63, msp16, msk64, msp17, msk65, msp18, msk66, msp19, msk67, msp22, msk68, msp23, msk69, msp24, msk70, msp25, msk71, msp26, msk72, msp27, msk73, msp28, msk74, msp29, msk75, msp30, msk76, msp31, msk77, msp32, msk78⟩ := hm0
  intro j
  induction j with
  | zero =>
    intro q hq
    rw [show q = m by omega]
    have g : (m : Int) ≤ m := by omega
    simp (disch := omega) only [zt_87_15, zt_87_17, zt_87_18, zt_87_21, zt_87_22, zt_87_23, zt_87_52, zx_const, zx_iload, zx_aload, zx_istore, zx_astore, zx_iinc, zx_add, zx_sub, zx_mul, zx_dup, zx_dup2, zx_pop, zx_cmp, zx_if, zx_goto, zx_ifnull0, zx_ifnull1, zx_ifnn0, zx_ifnn1, zx_null, zx_geti, zx_getr, zx_puti, zx_putr, zx_iald, zx_iast, zx_zald, zx_zast, zx_aald, zx_aast, zx_alen, zx_obj, zx_ret, zx_iret, zx_zret, zx_aret, zo1_s, zo2_s, zget_s, zget_ne, zset_s, zset_ne, zset_0, zc_eq, zc_ne, zc_lt, zc_ge, zc_gt, zc_le, zi_add, zi_sub, zi_mul, zi_lt, zi_le, zi_eq, Nat.reduceBEq, zU_s, zU_k, zU_ne, if_true, if_false, not_true_eq_false, not_false_eq_true, Option.toList_some, Option.toList_none, List.cons_append, List.nil_append, Int.toNat_natCast, and_true, true_and, msp1, msp2, msp3, msp4, msp5, msp6, msp7, msp8, msp9, msp10, msp12, msp13, msp14, msp15, msp16, msp17, msp18, msp19, msp22, msp23, msp24, msp25, msp26, msp27, msp28, msp29, msp30, msp31, msp32, zfill_ne, h53, h54, g]
    exact hQ
  | succ j ih =>
    intro q hq
    have g : ¬ (m : Int) ≤ q := by omega
    have h2 := ih (q + 1) (by omega)
    rw [nat1, ← zfill_s] at h2
    rw [zt_87_15]
    have e1 : (16 * (p : Int) + f + q).toNat = 16 * p + f + q := by omega
    simp (disch := omega) only [zt_87_17, zt_87_18, zt_87_21, zt_87_22, zt_87_23, zt_87_26, zt_87_27, zt_87_30, zt_87_32, zt_87_33, zt_87_34, zt_87_35, zt_87_38, zt_87_39, zt_87_40, zt_87_41, zt_87_43, zt_87_44, zt_87_45, zt_87_46, zt_87_49, zx_const, zx_iload, zx_aload, zx_istore, zx_astore, zx_iinc, zx_add, zx_sub, zx_mul, zx_dup, zx_dup2, zx_pop, zx_cmp, zx_if, zx_goto, zx_ifnull0, zx_ifnull1, zx_ifnn0, zx_ifnn1, zx_null, zx_geti, zx_getr, zx_puti, zx_putr, zx_iald, zx_iast, zx_zald, zx_zast, zx_aald, zx_aast, zx_alen, zx_obj, zx_ret, zx_iret, zx_zret, zx_aret, zo1_s, zo2_s, zget_s, zget_ne, zset_s, zset_ne, zset_0, zc_eq, zc_ne, zc_lt, zc_ge, zc_gt, zc_le, zi_add, zi_sub, zi_mul, zi_lt, zi_le, zi_eq, Nat.reduceBEq, zU_s, zU_k, zU_ne, if_true, if_false, not_true_eq_false, not_false_eq_true, Option.toList_some, Option.toList_none, List.cons_append, List.nil_append, Int.toNat_natCast, and_true, true_and, msp1, msp2, msp3, msp4, msp5, msp6, msp7, msp8, msp9, msp10, msp12, msp13, msp14, msp15, msp16, msp17, msp18, msp19, msp22, msp23, msp24, msp25, msp26, msp27, msp28, msp29, msp30, msp31, msp32, zfill_ne, h53, h54, g, e1]
    exact h2
set_option maxHeartbeats 4000000 in
theorem m_forget {d : Nat} {K : Nat → Option ZK} {J : Nat → Nat → Int} {P : Nat → Nat → Option Nat} {n w : Nat} {Q : Option ZV → ZH → Prop} {p t dn f m : Nat} (hm : msh K P) (hp : p < 4) (ht : t < 8) (hd : dn < 10) (h51 : J 51 t = dn) (h53 : J 53 (10 * t + dn) = f) (h54 : J 54 (10 * t + dn) = m) (hf : f + m ≤ 16) (hQ : Q none (K, zm (zfill J 72 (16 * p + f) m), P, n, w)) : zT d 87 0 [(0, .inr (some 49)), (1, .inl (zi p)), (2, .inl (zi t))] [] (K, zm J, P, n, w) Q := by
  have hm0 := hm; obtain ⟨msk49, msp1, msk50, msp2, msk51, msp3, msk52, msp4, msk53, msp5, msk54, msp6, msk55, msp7, msk56, msp8, msk57, msp9, msk58, msp10, msk59, msp12, msk60, msp13, msk61, msp14, msk62, msp15, msk63, msp16, msk64, msp17, msk65, msp18, msk66, msp19, msk67, msp22, msk68, msp23, msk69, msp24, msk70, msp25, msk71, msp26, msk72, msp27, msk73, msp28, msk74, msp29, msk75, msp30, msk76, msp31, msk77, msp32, msk78⟩ := hm0
  simp (disch := omega) only [zt_87_0, zt_87_2, zt_87_3, zt_87_4, zt_87_5, zt_87_8, zt_87_9, zt_87_10, zt_87_11, zt_87_12, zt_87_13, zx_const, zx_iload, zx_aload, zx_istore, zx_astore, zx_iinc, zx_add, zx_sub, zx_mul, zx_dup, zx_dup2, zx_pop, zx_cmp, zx_if, zx_goto, zx_ifnull0, zx_ifnull1, zx_ifnn0, zx_ifnn1, zx_null, zx_geti, zx_getr, zx_puti, zx_putr, zx_iald, zx_iast, zx_zald, zx_zast, zx_aald, zx_aast, zx_alen, zx_obj, zx_ret, zx_iret, zx_zret, zx_aret, zo1_s, zo2_s, zget_s, zget_ne, zset_s, zset_ne, zset_0, zc_eq, zc_ne, zc_lt, zc_ge, zc_gt, zc_le, zi_add, zi_sub, zi_mul, zi_lt, zi_le, zi_eq, Nat.reduceBEq, zU_s, zU_k, zU_ne, if_true, if_false, not_true_eq_false, not_false_eq_true, Option.toList_some, Option.toList_none, List.cons_append, List.nil_append, Int.toNat_natCast, and_true, true_and, msp1, msp2, msp3, msp4, msp5, msp6, msp7, msp8, msp9, msp10, msp12, msp13, msp14, msp15, msp16, msp17, msp18, msp19, msp22, msp23, msp24, msp25, msp26, msp27, msp28, msp29, msp30, msp31, msp32, h51]
  have h2 := l_forget (d := d) (t := t) (k := 10 * t + dn) hm hp ht (by omega) h53 h54 hf hQ m 0 (by omega)
  rw [zfill_0, show ((10 * t + dn : Nat) : Int) = 10 * (t : Int) + dn by omega] at h2
  exact h2
def smF (J : Nat → Nat → Int) (f : Nat) : Nat → Bool
  | 0 => false
  | q + 1 => smF J f q || decide (0 ≤ J 68 (f + q))
def b2i (b : Bool) : Int := if b = true then 1 else 0
set_option maxHeartbeats 4000000 in
theorem l_some {d : Nat} {K : Nat → Option ZK} {J : Nat → Nat → Int} {P : Nat → Nat → Option Nat} {n w : Nat} {Q : Option ZV → ZH → Prop} {k f m : Nat} (hm : msh K P) (hr : RG J) (hk : k < 80) (h53 : J 53 k = f) (h54 : J 54 k = m) (hf : f + m ≤ 16) (hQ : Q (some (.inl (zi (b2i (smF J f m))))) (K, zm J, P, n, w)) : ∀ j q : Nat, q + j = m → zT d 93 4 [(0, .inr (some 49)), (1, .inl (zi k)), (2, .inl (zi (b2i (smF J f q)))), (3, .inl (zi q))] [] (K, zm J, P, n, w) Q := by
  have hm0 := hm; obtain ⟨msk49, msp1, msk50, msp2, msk51, msp3, msk52, msp4, msk53, msp5, msk54, msp6, msk55, msp7, msk56, msp8, msk57, msp9, msk58, msp10, msk59, msp12, msk60, msp13, msk61, msp14, msk62, msp15, msk63, msp16, msk64, msp17, msk65, msp18, msk66, msp19, msk67, msp22, msk68, msp23, msk69, msp24, msk70, msp25, msk71, msp26, msk72, msp27, msk73, msp28, msk74, msp29, msk75, msp30, msk76, msp31, msk77, msp32, msk78⟩ := hm0
  intro j
  induction j with
  | zero =>
    intro q hq
    rw [show q = m by omega]
    have g : (m : Int) ≤ m := by omega
    have hb : b2i (smF J f m) = 0 ∨ b2i (smF J f m) = 1 := by unfold b2i; split <;> simp
    simp (disch := omega) only [zt_93_4, zt_93_5, zt_93_6, zt_93_9, zt_93_10, zt_93_11, zt_93_46, zt_93_47, zx_const, zx_iload, zx_aload, zx_istore, zx_astore, zx_iinc, zx_add, zx_sub, zx_mul, zx_dup, zx_dup2, zx_pop, zx_cmp, zx_if, zx_goto, zx_ifnull0, zx_ifnull1, zx_ifnn0, zx_ifnn1, zx_null, zx_geti, zx_getr, zx_puti, zx_putr, zx_iald, zx_iast, zx_zald, zx_zast, zx_aald, zx_aast, zx_alen, zx_obj, zx_ret, zx_iret, zx_zret, zx_aret, zo1_s, zo2_s, zget_s, zget_ne, zset_s, zset_ne, zset_0, zc_eq, zc_ne, zc_lt, zc_ge, zc_gt, zc_le, zi_add, zi_sub, zi_mul, zi_lt, zi_le, zi_eq, Nat.reduceBEq, zU_s, zU_k, zU_ne, if_true, if_false, not_true_eq_false, not_false_eq_true, Option.toList_some, Option.toList_none, List.cons_append, List.nil_append, Int.toNat_natCast, and_true, true_and, msp1, msp2, msp3, msp4, msp5, msp6, msp7, msp8, msp9, msp10, msp12, msp13, msp14, msp15, msp16, msp17, msp18, msp19, msp22, msp23, msp24, msp25, msp26, msp27, msp28, msp29, msp30, msp31, msp32, h53, h54, g]
    exact hQ
  | succ j ih =>
    intro q hq
    have g : ¬ (m : Int) ≤ q := by omega
    have h2 := ih (q + 1) (by omega)
    rw [nat1] at h2
    rw [zt_93_4]
    have r1 := hr 68 (f + q)
    have e1 : ((f : Int) + q).toNat = f + q := by omega
    cases hs : smF J f q with
    | true =>
      have e2 : b2i true = 1 := rfl
      have g1 : ¬ (1 : Int) = 0 := by omega
      rw [show smF J f (q + 1) = true by unfold smF; rw [hs]; rfl, e2] at h2
      simp (disch := omega) only [zt_93_5, zt_93_6, zt_93_9, zt_93_10, zt_93_11, zt_93_14, zt_93_15, zt_93_18, zt_93_19, zt_93_22, zt_93_23, zt_93_26, zt_93_27, zt_93_28, zt_93_29, zt_93_30, zt_93_31, zt_93_34, zt_93_35, zt_93_38, zt_93_39, zt_93_40, zt_93_43, zx_const, zx_iload, zx_aload, zx_istore, zx_astore, zx_iinc, zx_add, zx_sub, zx_mul, zx_dup, zx_dup2, zx_pop, zx_cmp, zx_if, zx_goto, zx_ifnull0, zx_ifnull1, zx_ifnn0, zx_ifnn1, zx_null, zx_geti, zx_getr, zx_puti, zx_putr, zx_iald, zx_iast, zx_zald, zx_zast, zx_aald, zx_aast, zx_alen, zx_obj, zx_ret, zx_iret, zx_zret, zx_aret, zo1_s, zo2_s, zget_s, zget_ne, zset_s, zset_ne, zset_0, zc_eq, zc_ne, zc_lt, zc_ge, zc_gt, zc_le, zi_add, zi_sub, zi_mul, zi_lt, zi_le, zi_eq, Nat.reduceBEq, zU_s, zU_k, zU_ne, if_true, if_false, not_true_eq_false, not_false_eq_true, Option.toList_some, Option.toList_none, List.cons_append, List.nil_append, Int.toNat_natCast, and_true, true_and, msp1, msp2, msp3, msp4, msp5, msp6, msp7, msp8, msp9, msp10, msp12, msp13, msp14, msp15, msp16, msp17, msp18, msp19, msp22, msp23, msp24, msp25, msp26, msp27, msp28, msp29, msp30, msp31, msp32, h53, h54, g, e1, e2, g1]
      exact h2
    | false =>
      have e2 : b2i false = 0 := rfl
      by_cases c : J 68 (f + q) < 0
      · rw [show smF J f (q + 1) = false by unfold smF; rw [hs]; simp; omega, e2] at h2
        simp (disch := omega) only [zt_93_5, zt_93_6, zt_93_9, zt_93_10, zt_93_11, zt_93_14, zt_93_15, zt_93_18, zt_93_19, zt_93_22, zt_93_23, zt_93_26, zt_93_27, zt_93_28, zt_93_29, zt_93_30, zt_93_31, zt_93_34, zt_93_35, zt_93_38, zt_93_39, zt_93_40, zt_93_43, zx_const, zx_iload, zx_aload, zx_istore, zx_astore, zx_iinc, zx_add, zx_sub, zx_mul, zx_dup, zx_dup2, zx_pop, zx_cmp, zx_if, zx_goto, zx_ifnull0, zx_ifnull1, zx_ifnn0, zx_ifnn1, zx_null, zx_geti, zx_getr, zx_puti, zx_putr, zx_iald, zx_iast, zx_zald, zx_zast, zx_aald, zx_aast, zx_alen, zx_obj, zx_ret, zx_iret, zx_zret, zx_aret, zo1_s, zo2_s, zget_s, zget_ne, zset_s, zset_ne, zset_0, zc_eq, zc_ne, zc_lt, zc_ge, zc_gt, zc_le, zi_add, zi_sub, zi_mul, zi_lt, zi_le, zi_eq, Nat.reduceBEq, zU_s, zU_k, zU_ne, if_true, if_false, not_true_eq_false, not_false_eq_true, Option.toList_some, Option.toList_none, List.cons_append, List.nil_append, Int.toNat_natCast, and_true, true_and, msp1, msp2, msp3, msp4, msp5, msp6, msp7, msp8, msp9, msp10, msp12, msp13, msp14, msp15, msp16, msp17, msp18, msp19, msp22, msp23, msp24, msp25, msp26, msp27, msp28, msp29, msp30, msp31, msp32, h53, h54, g, e1, e2, c]
        exact h2
      · rw [show smF J f (q + 1) = true by unfold smF; rw [hs]; simp; omega, show b2i true = 1 from rfl] at h2
        simp (disch := omega) only [zt_93_5, zt_93_6, zt_93_9, zt_93_10, zt_93_11, zt_93_14, zt_93_15, zt_93_18, zt_93_19, zt_93_22, zt_93_23, zt_93_26, zt_93_27, zt_93_28, zt_93_29, zt_93_30, zt_93_31, zt_93_34, zt_93_35, zt_93_38, zt_93_39, zt_93_40, zt_93_43, zx_const, zx_iload, zx_aload, zx_istore, zx_astore, zx_iinc, zx_add, zx_sub, zx_mul, zx_dup, zx_dup2, zx_pop, zx_cmp, zx_if, zx_goto, zx_ifnull0, zx_ifnull1, zx_ifnn0, zx_ifnn1, zx_null, zx_geti, zx_getr, zx_puti, zx_putr, zx_iald, zx_iast, zx_zald, zx_zast, zx_aald, zx_aast, zx_alen, zx_obj, zx_ret, zx_iret, zx_zret, zx_aret, zo1_s, zo2_s, zget_s, zget_ne, zset_s, zset_ne, zset_0, zc_eq, zc_ne, zc_lt, zc_ge, zc_gt, zc_le, zi_add, zi_sub, zi_mul, zi_lt, zi_le, zi_eq, Nat.reduceBEq, zU_s, zU_k, zU_ne, if_true, if_false, not_true_eq_false, not_false_eq_true, Option.toList_some, Option.toList_none, List.cons_append, List.nil_append, Int.toNat_natCast, and_true, true_and, msp1, msp2, msp3, msp4, msp5, msp6, msp7, msp8, msp9, msp10, msp12, msp13, msp14, msp15, msp16, msp17, msp18, msp19, msp22, msp23, msp24, msp25, msp26, msp27, msp28, msp29, msp30, msp31, msp32, h53, h54, g, e1, e2, c]
        exact h2
set_option maxHeartbeats 4000000 in
theorem m_some {d : Nat} {K : Nat → Option ZK} {J : Nat → Nat → Int} {P : Nat → Nat → Option Nat} {n w : Nat} {Q : Option ZV → ZH → Prop} {k f m : Nat} (hm : msh K P) (hr : RG J) (hk : k < 80) (h53 : J 53 k = f) (h54 : J 54 k = m) (hf : f + m ≤ 16) (hQ : Q (some (.inl (zi (b2i (smF J f m))))) (K, zm J, P, n, w)) : zT d 93 0 [(0, .inr (some 49)), (1, .inl (zi k))] [] (K, zm J, P, n, w) Q := by
  simp (disch := omega) only [zt_93_0, zt_93_1, zt_93_2, zt_93_3, zx_const, zx_iload, zx_aload, zx_istore, zx_astore, zx_iinc, zx_add, zx_sub, zx_mul, zx_dup, zx_dup2, zx_pop, zx_cmp, zx_if, zx_goto, zx_ifnull0, zx_ifnull1, zx_ifnn0, zx_ifnn1, zx_null, zx_geti, zx_getr, zx_puti, zx_putr, zx_iald, zx_iast, zx_zald, zx_zast, zx_aald, zx_aast, zx_alen, zx_obj, zx_ret, zx_iret, zx_zret, zx_aret, zo1_s, zo2_s, zget_s, zget_ne, zset_s, zset_ne, zset_0, zc_eq, zc_ne, zc_lt, zc_ge, zc_gt, zc_le, zi_add, zi_sub, zi_mul, zi_lt, zi_le, zi_eq, Nat.reduceBEq, zU_s, zU_k, zU_ne, if_true, if_false, not_true_eq_false, not_false_eq_true, Option.toList_some, Option.toList_none, List.cons_append, List.nil_append, Int.toNat_natCast, and_true, true_and]
  exact l_some hm hr hk h53 h54 hf hQ m 0 (by omega)
/-- the earliest known of the sixteen from b on -/
def eaF (J : Nat → Nat → Int) (b : Nat) : Nat → Int
  | 0 => -1
  | i + 1 => if 0 < J 72 (b + i) ∧ (eaF J b i < 0 ∨ J 72 (b + i) < J 72 (eaF J b i).toNat) then ((b + i : Nat) : Int) else eaF J b i
theorem eaF_r (J : Nat → Nat → Int) (b : Nat) : ∀ i, -1 ≤ eaF J b i ∧ eaF J b i < b + i ∧ (eaF J b i < 0 ∨ (b : Int) ≤ eaF J b i) := by
  intro i
  induction i with
  | zero => unfold eaF; omega
  | succ i ih =>
    unfold eaF
    split <;> omega
def kal (J : Nat → Nat → Int) (b i : Nat) : Prop := 0 < J 72 (b + i)
set_option maxHeartbeats 4000000 in
theorem l_know {d : Nat} {K : Nat → Option ZK} {J : Nat → Nat → Int} {P : Nat → Nat → Option Nat} {n w : Nat} {Q : Option ZV → ZH → Prop} {p pg : Nat} (hm : msh K P) (hr : RG J) (hp : p < 4) (hT : zT d 91 73 [(0, .inr (some 49)), (1, .inl (zi p)), (2, .inl (zi pg)), (3, .inl (zi (cnF (kal J (16 * p)) 16))), (4, .inl (zi (eaF J (16 * p) 16))), (5, .inl (zi (16 * p + 16)))] [] (K, zm J, P, n, w) Q) : ∀ j i : Nat, i + j = 16 → zT d 91 11 [(0, .inr (some 49)), (1, .inl (zi p)), (2, .inl (zi pg)), (3, .inl (zi (cnF (kal J (16 * p)) i))), (4, .inl (zi (eaF J (16 * p) i))), (5, .inl (zi (16 * p + i)))] [] (K, zm J, P, n, w) Q := by
  have hm0 := hm; obtain ⟨msk49, msp1, msk50, msp2, msk51, msp3, msk52, msp4, msk53, msp5, msk54, msp6, msk55, msp7, msk56, msp8, msk57, msp9, msk58, msp10, msk59, msp12, msk60, msp13, msk61, msp14, msk62, msp15, msk63, msp16, msk64, msp17, msk65, msp18, msk66, msp19, msk67, msp22, msk68, msp23, msk69, msp24, msk70, msp25, msk71, msp26, msk72, msp27, msk73, msp28, msk74, msp29, msk75, msp30, msk76, msp31, msk77, msp32, msk78⟩ := hm0
  intro j
  induction j with
  | zero =>
    intro i hi
    rw [show i = 16 by omega]
    have g : 16 * (p : Int) + 16 ≤ 16 * p + ((16 : Nat) : Int) := by omega
    simp (disch := omega) only [zt_91_11, zt_91_13, zt_91_15, zt_91_16, zt_91_17, zt_91_19, zt_91_20, zx_const, zx_iload, zx_aload, zx_istore, zx_astore, zx_iinc, zx_add, zx_sub, zx_mul, zx_dup, zx_dup2, zx_pop, zx_cmp, zx_if, zx_goto, zx_ifnull0, zx_ifnull1, zx_ifnn0, zx_ifnn1, zx_null, zx_geti, zx_getr, zx_puti, zx_putr, zx_iald, zx_iast, zx_zald, zx_zast, zx_aald, zx_aast, zx_alen, zx_obj, zx_ret, zx_iret, zx_zret, zx_aret, zo1_s, zo2_s, zget_s, zget_ne, zset_s, zset_ne, zset_0, zc_eq, zc_ne, zc_lt, zc_ge, zc_gt, zc_le, zi_add, zi_sub, zi_mul, zi_lt, zi_le, zi_eq, Nat.reduceBEq, zU_s, zU_k, zU_ne, if_true, if_false, not_true_eq_false, not_false_eq_true, Option.toList_some, Option.toList_none, List.cons_append, List.nil_append, Int.toNat_natCast, and_true, true_and, msp1, msp2, msp3, msp4, msp5, msp6, msp7, msp8, msp9, msp10, msp12, msp13, msp14, msp15, msp16, msp17, msp18, msp19, msp22, msp23, msp24, msp25, msp26, msp27, msp28, msp29, msp30, msp31, msp32, g]
    exact hT
  | succ j ih =>
    intro i hi
    have g : ¬ 16 * (p : Int) + 16 ≤ 16 * p + i := by omega
    have h2 := ih (i + 1) (by omega)
    rw [nat1, ← Int.add_assoc] at h2
    rw [zt_91_11]
    have r1 := hr 72 (16 * p + i)
    have r2 := hr 72 (eaF J (16 * p) i).toNat
    have r3 := eaF_r J (16 * p) i
    have r4 := cnF_le (kal J (16 * p)) i
    have e1 : (16 * (p : Int) + i).toNat = 16 * p + i := by omega
    have e2 : ((16 * p + i : Nat) : Int) = 16 * (p : Int) + i := by omega
    by_cases c1 : J 72 (16 * p + i) ≤ 0
    · rw [cnF_f (show ¬ kal J (16 * p) i from fun q => by unfold kal at q; omega), show eaF J (16 * p) (i + 1) = eaF J (16 * p) i by conv => lhs; unfold eaF; rw [if_neg (fun q => by have := q.1; omega)]] at h2
      rw [Int.add_zero] at h2
      simp (disch := omega) only [zt_91_13, zt_91_15, zt_91_16, zt_91_17, zt_91_19, zt_91_20, zt_91_23, zt_91_24, zt_91_27, zt_91_29, zt_91_30, zt_91_33, zt_91_36, zt_91_38, zt_91_41, zt_91_42, zt_91_45, zt_91_47, zt_91_48, zt_91_49, zt_91_52, zt_91_54, zt_91_55, zt_91_58, zt_91_60, zt_91_63, zt_91_65, zt_91_67, zt_91_70, zx_const, zx_iload, zx_aload, zx_istore, zx_astore, zx_iinc, zx_add, zx_sub, zx_mul, zx_dup, zx_dup2, zx_pop, zx_cmp, zx_if, zx_goto, zx_ifnull0, zx_ifnull1, zx_ifnn0, zx_ifnn1, zx_null, zx_geti, zx_getr, zx_puti, zx_putr, zx_iald, zx_iast, zx_zald, zx_zast, zx_aald, zx_aast, zx_alen, zx_obj, zx_ret, zx_iret, zx_zret, zx_aret, zo1_s, zo2_s, zget_s, zget_ne, zset_s, zset_ne, zset_0, zc_eq, zc_ne, zc_lt, zc_ge, zc_gt, zc_le, zi_add, zi_sub, zi_mul, zi_lt, zi_le, zi_eq, Nat.reduceBEq, zU_s, zU_k, zU_ne, if_true, if_false, not_true_eq_false, not_false_eq_true, Option.toList_some, Option.toList_none, List.cons_append, List.nil_append, Int.toNat_natCast, and_true, true_and, msp1, msp2, msp3, msp4, msp5, msp6, msp7, msp8, msp9, msp10, msp12, msp13, msp14, msp15, msp16, msp17, msp18, msp19, msp22, msp23, msp24, msp25, msp26, msp27, msp28, msp29, msp30, msp31, msp32, g, e1, c1]
      exact h2
    · rw [cnF_t (show kal J (16 * p) i from by unfold kal; omega)] at h2
      by_cases c2 : eaF J (16 * p) i < 0
      · rw [show eaF J (16 * p) (i + 1) = 16 * (p : Int) + i by unfold eaF; rw [if_pos ⟨by omega, Or.inl c2⟩, e2]] at h2
        simp (disch := omega) only [zt_91_13, zt_91_15, zt_91_16, zt_91_17, zt_91_19, zt_91_20, zt_91_23, zt_91_24, zt_91_27, zt_91_29, zt_91_30, zt_91_33, zt_91_36, zt_91_38, zt_91_41, zt_91_42, zt_91_45, zt_91_47, zt_91_48, zt_91_49, zt_91_52, zt_91_54, zt_91_55, zt_91_58, zt_91_60, zt_91_63, zt_91_65, zt_91_67, zt_91_70, zx_const, zx_iload, zx_aload, zx_istore, zx_astore, zx_iinc, zx_add, zx_sub, zx_mul, zx_dup, zx_dup2, zx_pop, zx_cmp, zx_if, zx_goto, zx_ifnull0, zx_ifnull1, zx_ifnn0, zx_ifnn1, zx_null, zx_geti, zx_getr, zx_puti, zx_putr, zx_iald, zx_iast, zx_zald, zx_zast, zx_aald, zx_aast, zx_alen, zx_obj, zx_ret, zx_iret, zx_zret, zx_aret, zo1_s, zo2_s, zget_s, zget_ne, zset_s, zset_ne, zset_0, zc_eq, zc_ne, zc_lt, zc_ge, zc_gt, zc_le, zi_add, zi_sub, zi_mul, zi_lt, zi_le, zi_eq, Nat.reduceBEq, zU_s, zU_k, zU_ne, if_true, if_false, not_true_eq_false, not_false_eq_true, Option.toList_some, Option.toList_none, List.cons_append, List.nil_append, Int.toNat_natCast, and_true, true_and, msp1, msp2, msp3, msp4, msp5, msp6, msp7, msp8, msp9, msp10, msp12, msp13, msp14, msp15, msp16, msp17, msp18, msp19, msp22, msp23, msp24, msp25, msp26, msp27, msp28, msp29, msp30, msp31, msp32, g, e1, c1, c2]
        exact h2
      · by_cases c3 : J 72 (eaF J (16 * p) i).toNat ≤ J 72 (16 * p + i)
        · rw [show eaF J (16 * p) (i + 1) = eaF J (16 * p) i by conv => lhs; unfold eaF; rw [if_neg (fun q => by rcases q.2 with w | w; exact c2 w; omega)]] at h2
          simp (disch := omega) only [zt_91_13, zt_91_15, zt_91_16, zt_91_17, zt_91_19, zt_91_20, zt_91_23, zt_91_24, zt_91_27, zt_91_29, zt_91_30, zt_91_33, zt_91_36, zt_91_38, zt_91_41, zt_91_42, zt_91_45, zt_91_47, zt_91_48, zt_91_49, zt_91_52, zt_91_54, zt_91_55, zt_91_58, zt_91_60, zt_91_63, zt_91_65, zt_91_67, zt_91_70, zx_const, zx_iload, zx_aload, zx_istore, zx_astore, zx_iinc, zx_add, zx_sub, zx_mul, zx_dup, zx_dup2, zx_pop, zx_cmp, zx_if, zx_goto, zx_ifnull0, zx_ifnull1, zx_ifnn0, zx_ifnn1, zx_null, zx_geti, zx_getr, zx_puti, zx_putr, zx_iald, zx_iast, zx_zald, zx_zast, zx_aald, zx_aast, zx_alen, zx_obj, zx_ret, zx_iret, zx_zret, zx_aret, zo1_s, zo2_s, zget_s, zget_ne, zset_s, zset_ne, zset_0, zc_eq, zc_ne, zc_lt, zc_ge, zc_gt, zc_le, zi_add, zi_sub, zi_mul, zi_lt, zi_le, zi_eq, Nat.reduceBEq, zU_s, zU_k, zU_ne, if_true, if_false, not_true_eq_false, not_false_eq_true, Option.toList_some, Option.toList_none, List.cons_append, List.nil_append, Int.toNat_natCast, and_true, true_and, msp1, msp2, msp3, msp4, msp5, msp6, msp7, msp8, msp9, msp10, msp12, msp13, msp14, msp15, msp16, msp17, msp18, msp19, msp22, msp23, msp24, msp25, msp26, msp27, msp28, msp29, msp30, msp31, msp32, g, e1, c1, c2, c3]
          exact h2
        · rw [show eaF J (16 * p) (i + 1) = 16 * (p : Int) + i by unfold eaF; rw [if_pos ⟨by omega, Or.inr (by omega)⟩, e2]] at h2
          simp (disch := omega) only [zt_91_13, zt_91_15, zt_91_16, zt_91_17, zt_91_19, zt_91_20, zt_91_23, zt_91_24, zt_91_27, zt_91_29, zt_91_30, zt_91_33, zt_91_36, zt_91_38, zt_91_41, zt_91_42, zt_91_45, zt_91_47, zt_91_48, zt_91_49, zt_91_52, zt_91_54, zt_91_55, zt_91_58, zt_91_60, zt_91_63, zt_91_65, zt_91_67, zt_91_70, zx_const, zx_iload, zx_aload, zx_istore, zx_astore, zx_iinc, zx_add, zx_sub, zx_mul, zx_dup, zx_dup2, zx_pop, zx_cmp, zx_if, zx_goto, zx_ifnull0, zx_ifnull1, zx_ifnn0, zx_ifnn1, zx_null, zx_geti, zx_getr, zx_puti, zx_putr, zx_iald, zx_iast, zx_zald, zx_zast, zx_aald, zx_aast, zx_alen, zx_obj, zx_ret, zx_iret, zx_zret, zx_aret, zo1_s, zo2_s, zget_s, zget_ne, zset_s, zset_ne, zset_0, zc_eq, zc_ne, zc_lt, zc_ge, zc_gt, zc_le, zi_add, zi_sub, zi_mul, zi_lt, zi_le, zi_eq, Nat.reduceBEq, zU_s, zU_k, zU_ne, if_true, if_false, not_true_eq_false, not_false_eq_true, Option.toList_some, Option.toList_none, List.cons_append, List.nil_append, Int.toNat_natCast, and_true, true_and, msp1, msp2, msp3, msp4, msp5, msp6, msp7, msp8, msp9, msp10, msp12, msp13, msp14, msp15, msp16, msp17, msp18, msp19, msp22, msp23, msp24, msp25, msp26, msp27, msp28, msp29, msp30, msp31, msp32, g, e1, c1, c2, c3]
          exact h2
