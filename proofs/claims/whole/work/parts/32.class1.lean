/-! The class: shapes, Buffer, small methods. -/
def zbuf (K : Nat → Option ZK) (P : Nat → Nat → Option Nat) (b : Nat) : Prop := K b = some (.inl 2) ∧ P b 0 = some (b + 1) ∧ K (b + 1) = some (.inr (0, 3)) ∧ P b 1 = some (b + 2) ∧ K (b + 2) = some (.inr (0, 3))
def prc (K : Nat → Option ZK) (P : Nat → Nat → Option Nat) (y : Nat) : Prop := K y = some (.inl 3) ∧ P y 1 = some (y + 1) ∧ P y 2 = some (y + 4) ∧ P y 3 = some (y + 6) ∧ P y 4 = some (y + 8) ∧ zbuf K P (y + 1) ∧ zline K P (y + 4) 2 ∧ zline K P (y + 6) 8 ∧ zline K P (y + 8) 8
def krn (K : Nat → Option ZK) (P : Nat → Nat → Option Nat) : Prop := K 1 = some (.inl 0) ∧ P 1 0 = some 2 ∧ K 2 = some (.inr (2, 8)) ∧ P 1 2 = some 3 ∧ K 3 = some (.inr (3, 4)) ∧ P 1 3 = some 44 ∧ zline K P 44 10 ∧ P 1 4 = some 46 ∧ K 46 = some (.inr (0, 10)) ∧ P 1 5 = some 47 ∧ K 47 = some (.inr (0, 16)) ∧ P 1 6 = some 48 ∧ K 48 = some (.inr (1, 4)) ∧ (∀ p, p < 4 → P 3 p = some (4 + 10 * p)) ∧ (∀ p, p < 4 → prc K P (4 + 10 * p))
def enF (J : Nat → Nat → Int) (b : Nat) (x : Int) : Nat → Nat → Int
  | _, 0 => -1
  | i, m + 1 => if J (b + 1) i = x then J (b + 2) i else enF J b x (i + 1) m
set_option maxHeartbeats 4000000 in
theorem l_entryOf {d : Nat} {K : Nat → Option ZK} {J : Nat → Nat → Int} {P : Nat → Nat → Option Nat} {n w : Nat} {Q : Option ZV → ZH → Prop} {b c : Nat} {x : Int} (hb : zbuf K P b) (hr : RG J) (hx : zr x) (hc : J b 2 = c) (hc3 : c ≤ 3) : ∀ m i : Nat, i + m = c → Q (some (.inl (zi (enF J b x i m)))) (K, zm J, P, n, w) → zT d 53 2 [(0, .inr (some b)), (1, .inl (zi x)), (2, .inl (zi i))] [] (K, zm J, P, n, w) Q := by
  obtain ⟨b1, b2, b3, b4, b5⟩ := hb
  obtain ⟨x1, x2⟩ := hx
  intro m
  induction m with
  | zero =>
    intro i hi hQ
    have g : (c : Int) ≤ i := by omega
    simp (disch := omega) only [zt_53_2, zt_53_3, zt_53_4, zt_53_7, zt_53_33, zt_53_34, zx_const, zx_iload, zx_aload, zx_istore, zx_astore, zx_iinc, zx_add, zx_sub, zx_mul, zx_dup, zx_dup2, zx_pop, zx_cmp, zx_if, zx_goto, zx_ifnull0, zx_ifnull1, zx_ifnn0, zx_ifnn1, zx_null, zx_geti, zx_getr, zx_puti, zx_putr, zx_iald, zx_iast, zx_zald, zx_zast, zx_aald, zx_aast, zx_alen, zx_obj, zx_ret, zx_iret, zx_zret, zx_aret, zo1_s, zo2_s, zget_s, zget_ne, zset_s, zset_ne, zset_0, zc_eq, zc_ne, zc_lt, zc_ge, zc_gt, zc_le, zi_add, zi_sub, zi_mul, zi_lt, zi_le, zi_eq, Nat.reduceBEq, zU_s, zU_k, zU_ne, if_true, if_false, not_true_eq_false, not_false_eq_true, Option.toList_some, Option.toList_none, List.cons_append, List.nil_append, Int.toNat_natCast, and_true, true_and, b2, b4, hc, g]
    exact hQ
  | succ m ih =>
    intro i hi hQ
    have g : ¬ (c : Int) ≤ i := by omega
    have r1 := hr (b + 1) i
    unfold enF at hQ
    rw [zt_53_2]
    by_cases c1 : J (b + 1) i = x
    · rw [if_pos c1] at hQ
      simp (disch := omega) only [zt_53_3, zt_53_4, zt_53_7, zt_53_10, zt_53_11, zt_53_14, zt_53_15, zt_53_16, zt_53_17, zt_53_20, zt_53_21, zt_53_24, zt_53_25, zt_53_26, zx_const, zx_iload, zx_aload, zx_istore, zx_astore, zx_iinc, zx_add, zx_sub, zx_mul, zx_dup, zx_dup2, zx_pop, zx_cmp, zx_if, zx_goto, zx_ifnull0, zx_ifnull1, zx_ifnn0, zx_ifnn1, zx_null, zx_geti, zx_getr, zx_puti, zx_putr, zx_iald, zx_iast, zx_zald, zx_zast, zx_aald, zx_aast, zx_alen, zx_obj, zx_ret, zx_iret, zx_zret, zx_aret, zo1_s, zo2_s, zget_s, zget_ne, zset_s, zset_ne, zset_0, zc_eq, zc_ne, zc_lt, zc_ge, zc_gt, zc_le, zi_add, zi_sub, zi_mul, zi_lt, zi_le, zi_eq, Nat.reduceBEq, zU_s, zU_k, zU_ne, if_true, if_false, not_true_eq_false, not_false_eq_true, Option.toList_some, Option.toList_none, List.cons_append, List.nil_append, Int.toNat_natCast, and_true, true_and, b2, b4, hc, g, c1]
      exact hQ
    · rw [if_neg c1] at hQ
      have h2 := ih (i + 1) (by omega) hQ
      rw [nat1] at h2
      simp (disch := omega) only [zt_53_3, zt_53_4, zt_53_7, zt_53_10, zt_53_11, zt_53_14, zt_53_15, zt_53_16, zt_53_17, zt_53_20, zt_53_21, zt_53_24, zt_53_25, zt_53_26, zt_53_27, zt_53_30, zx_const, zx_iload, zx_aload, zx_istore, zx_astore, zx_iinc, zx_add, zx_sub, zx_mul, zx_dup, zx_dup2, zx_pop, zx_cmp, zx_if, zx_goto, zx_ifnull0, zx_ifnull1, zx_ifnn0, zx_ifnn1, zx_null, zx_geti, zx_getr, zx_puti, zx_putr, zx_iald, zx_iast, zx_zald, zx_zast, zx_aald, zx_aast, zx_alen, zx_obj, zx_ret, zx_iret, zx_zret, zx_aret, zo1_s, zo2_s, zget_s, zget_ne, zset_s, zset_ne, zset_0, zc_eq, zc_ne, zc_lt, zc_ge, zc_gt, zc_le, zi_add, zi_sub, zi_mul, zi_lt, zi_le, zi_eq, Nat.reduceBEq, zU_s, zU_k, zU_ne, if_true, if_false, not_true_eq_false, not_false_eq_true, Option.toList_some, Option.toList_none, List.cons_append, List.nil_append, Int.toNat_natCast, and_true, true_and, b2, b4, hc, g, c1]
      exact h2
set_option maxHeartbeats 4000000 in
theorem s_entryOf {d : Nat} {K : Nat → Option ZK} {J : Nat → Nat → Int} {P : Nat → Nat → Option Nat} {n w : Nat} {Q : Option ZV → ZH → Prop} {b c : Nat} {x : Int} (hb : zbuf K P b) (hr : RG J) (hx : zr x) (hc : J b 2 = c) (hc3 : c ≤ 3) (hQ : Q (some (.inl (zi (enF J b x 0 c)))) (K, zm J, P, n, w)) : zT d 53 0 [(0, .inr (some b)), (1, .inl (zi x))] [] (K, zm J, P, n, w) Q := by
  simp (disch := omega) only [zt_53_0, zt_53_1, zx_const, zx_iload, zx_aload, zx_istore, zx_astore, zx_iinc, zx_add, zx_sub, zx_mul, zx_dup, zx_dup2, zx_pop, zx_cmp, zx_if, zx_goto, zx_ifnull0, zx_ifnull1, zx_ifnn0, zx_ifnn1, zx_null, zx_geti, zx_getr, zx_puti, zx_putr, zx_iald, zx_iast, zx_zald, zx_zast, zx_aald, zx_aast, zx_alen, zx_obj, zx_ret, zx_iret, zx_zret, zx_aret, zo1_s, zo2_s, zget_s, zget_ne, zset_s, zset_ne, zset_0, zc_eq, zc_ne, zc_lt, zc_ge, zc_gt, zc_le, zi_add, zi_sub, zi_mul, zi_lt, zi_le, zi_eq, Nat.reduceBEq, zU_s, zU_k, zU_ne, if_true, if_false, not_true_eq_false, not_false_eq_true, Option.toList_some, Option.toList_none, List.cons_append, List.nil_append, Int.toNat_natCast, and_true, true_and]
  exact l_entryOf hb hr hx hc hc3 c 0 (by omega) hQ
def drF (b : Nat) (f g : Int) : Nat → Nat → Nat → (Nat → Nat → Int) → (Nat → Nat → Int) × Nat
  | 0, _, kp, J => (J, kp)
  | m + 1, i, kp, J => if J (b + 1) i < f ∨ g ≤ J (b + 1) i then drF b f g m (i + 1) (kp + 1) (zU (zU J (b + 1) kp (J (b + 1) i)) (b + 2) kp (J (b + 2) i)) else drF b f g m (i + 1) kp J
set_option maxHeartbeats 4000000 in
theorem l_dropRange {d : Nat} {K : Nat → Option ZK} {P : Nat → Nat → Option Nat} {n w : Nat} {Q : Option ZV → ZH → Prop} {b c : Nat} {f g : Int} (hb : zbuf K P b) (hf : 0 ≤ f) (hf2 : f < 1000) (hg : 0 ≤ g) (hg2 : g < 1000) (hc3 : c ≤ 3) : ∀ (m i kp : Nat) (J : Nat → Nat → Int), i + m = c → kp ≤ i → RG J → J b 2 = c → Q none (K, zm (zU (drF b f (f + g) m i kp J).1 b 2 (drF b f (f + g) m i kp J).2), P, n, w) → zT d 55 5 [(0, .inr (some b)), (1, .inl (zi f)), (2, .inl (zi g)), (3, .inl (zi kp)), (4, .inl (zi i))] [] (K, zm J, P, n, w) Q := by
  obtain ⟨b1, b2, b3, b4, b5⟩ := hb
  intro m
  induction m with
  | zero =>
    intro i kp J hi hk hr hc hQ
    have q : (c : Int) ≤ i := by omega
    simp (disch := omega) only [zt_55_5, zt_55_7, zt_55_8, zt_55_11, zt_55_73, zt_55_74, zt_55_75, zt_55_78, zx_const, zx_iload, zx_aload, zx_istore, zx_astore, zx_iinc, zx_add, zx_sub, zx_mul, zx_dup, zx_dup2, zx_pop, zx_cmp, zx_if, zx_goto, zx_ifnull0, zx_ifnull1, zx_ifnn0, zx_ifnn1, zx_null, zx_geti, zx_getr, zx_puti, zx_putr, zx_iald, zx_iast, zx_zald, zx_zast, zx_aald, zx_aast, zx_alen, zx_obj, zx_ret, zx_iret, zx_zret, zx_aret, zo1_s, zo2_s, zget_s, zget_ne, zset_s, zset_ne, zset_0, zc_eq, zc_ne, zc_lt, zc_ge, zc_gt, zc_le, zi_add, zi_sub, zi_mul, zi_lt, zi_le, zi_eq, Nat.reduceBEq, zU_s, zU_k, zU_ne, if_true, if_false, not_true_eq_false, not_false_eq_true, Option.toList_some, Option.toList_none, List.cons_append, List.nil_append, Int.toNat_natCast, and_true, true_and, b2, b4, hc, q]
    exact hQ
  | succ m ih =>
    intro i kp J hi hk hr hc hQ
    have q : ¬ (c : Int) ≤ i := by omega
    have r1 := hr (b + 1) i
    have r2 := hr (b + 2) i
    unfold drF at hQ
    rw [zt_55_5]
    by_cases c1 : J (b + 1) i < f
    · rw [if_pos (Or.inl c1)] at hQ
      have h2 := ih (i + 1) (kp + 1) _ (by omega) (by omega) (RG_U (RG_U hr r1.1 r1.2) r2.1 r2.2) (by simp (disch := omega) only [zU_ne]; exact hc) hQ
      rw [nat1, nat1] at h2
      simp (disch := omega) only [zt_55_7, zt_55_8, zt_55_11, zt_55_14, zt_55_15, zt_55_18, zt_55_20, zt_55_21, zt_55_22, zt_55_25, zt_55_26, zt_55_29, zt_55_31, zt_55_32, zt_55_33, zt_55_34, zt_55_35, zt_55_38, zt_55_39, zt_55_42, zt_55_43, zt_55_44, zt_55_47, zt_55_49, zt_55_50, zt_55_51, zt_55_52, zt_55_55, zt_55_56, zt_55_57, zt_55_60, zt_55_62, zt_55_63, zt_55_64, zt_55_67, zt_55_70, zx_const, zx_iload, zx_aload, zx_istore, zx_astore, zx_iinc, zx_add, zx_sub, zx_mul, zx_dup, zx_dup2, zx_pop, zx_cmp, zx_if, zx_goto, zx_ifnull0, zx_ifnull1, zx_ifnn0, zx_ifnn1, zx_null, zx_geti, zx_getr, zx_puti, zx_putr, zx_iald, zx_iast, zx_zald, zx_zast, zx_aald, zx_aast, zx_alen, zx_obj, zx_ret, zx_iret, zx_zret, zx_aret, zo1_s, zo2_s, zget_s, zget_ne, zset_s, zset_ne, zset_0, zc_eq, zc_ne, zc_lt, zc_ge, zc_gt, zc_le, zi_add, zi_sub, zi_mul, zi_lt, zi_le, zi_eq, Nat.reduceBEq, zU_s, zU_k, zU_ne, if_true, if_false, not_true_eq_false, not_false_eq_true, Option.toList_some, Option.toList_none, List.cons_append, List.nil_append, Int.toNat_natCast, and_true, true_and, b2, b4, hc, q, c1]
      exact h2
    · by_cases c2 : J (b + 1) i < f + g
      · rw [if_neg (by omega)] at hQ
        have h2 := ih (i + 1) kp _ (by omega) (by omega) hr hc hQ
        rw [nat1] at h2
        simp (disch := omega) only [zt_55_7, zt_55_8, zt_55_11, zt_55_14, zt_55_15, zt_55_18, zt_55_20, zt_55_21, zt_55_22, zt_55_25, zt_55_26, zt_55_29, zt_55_31, zt_55_32, zt_55_33, zt_55_34, zt_55_35, zt_55_38, zt_55_39, zt_55_42, zt_55_43, zt_55_44, zt_55_47, zt_55_49, zt_55_50, zt_55_51, zt_55_52, zt_55_55, zt_55_56, zt_55_57, zt_55_60, zt_55_62, zt_55_63, zt_55_64, zt_55_67, zt_55_70, zx_const, zx_iload, zx_aload, zx_istore, zx_astore, zx_iinc, zx_add, zx_sub, zx_mul, zx_dup, zx_dup2, zx_pop, zx_cmp, zx_if, zx_goto, zx_ifnull0, zx_ifnull1, zx_ifnn0, zx_ifnn1, zx_null, zx_geti, zx_getr, zx_puti, zx_putr, zx_iald, zx_iast, zx_zald, zx_zast, zx_aald, zx_aast, zx_alen, zx_obj, zx_ret, zx_iret, zx_zret, zx_aret, zo1_s, zo2_s, zget_s, zget_ne, zset_s, zset_ne, zset_0, zc_eq, zc_ne, zc_lt, zc_ge, zc_gt, zc_le, zi_add, zi_sub, zi_mul, zi_lt, zi_le, zi_eq, Nat.reduceBEq, zU_s, zU_k, zU_ne, if_true, if_false, not_true_eq_false, not_false_eq_true, Option.toList_some, Option.toList_none, List.cons_append, List.nil_append, Int.toNat_natCast, and_true, true_and, b2, b4, hc, q, c1, c2]
        exact h2
      · rw [if_pos (Or.inr (by omega))] at hQ
        have h2 := ih (i + 1) (kp + 1) _ (by omega) (by omega) (RG_U (RG_U hr r1.1 r1.2) r2.1 r2.2) (by simp (disch := omega) only [zU_ne]; exact hc) hQ
        rw [nat1, nat1] at h2
        simp (disch := omega) only [zt_55_7, zt_55_8, zt_55_11, zt_55_14, zt_55_15, zt_55_18, zt_55_20, zt_55_21, zt_55_22, zt_55_25, zt_55_26, zt_55_29, zt_55_31, zt_55_32, zt_55_33, zt_55_34, zt_55_35, zt_55_38, zt_55_39, zt_55_42, zt_55_43, zt_55_44, zt_55_47, zt_55_49, zt_55_50, zt_55_51, zt_55_52, zt_55_55, zt_55_56, zt_55_57, zt_55_60, zt_55_62, zt_55_63, zt_55_64, zt_55_67, zt_55_70, zx_const, zx_iload, zx_aload, zx_istore, zx_astore, zx_iinc, zx_add, zx_sub, zx_mul, zx_dup, zx_dup2, zx_pop, zx_cmp, zx_if, zx_goto, zx_ifnull0, zx_ifnull1, zx_ifnn0, zx_ifnn1, zx_null, zx_geti, zx_getr, zx_puti, zx_putr, zx_iald, zx_iast, zx_zald, zx_zast, zx_aald, zx_aast, zx_alen, zx_obj, zx_ret, zx_iret, zx_zret, zx_aret, zo1_s, zo2_s, zget_s, zget_ne, zset_s, zset_ne, zset_0, zc_eq, zc_ne, zc_lt, zc_ge, zc_gt, zc_le, zi_add, zi_sub, zi_mul, zi_lt, zi_le, zi_eq, Nat.reduceBEq, zU_s, zU_k, zU_ne, if_true, if_false, not_true_eq_false, not_false_eq_true, Option.toList_some, Option.toList_none, List.cons_append, List.nil_append, Int.toNat_natCast, and_true, true_and, b2, b4, hc, q, c1, c2]
        exact h2
def drJ (J : Nat → Nat → Int) (b : Nat) (f g : Int) : Nat → Nat → Int := zU (drF b f (f + g) (J b 2).toNat 0 0 J).1 b 2 (drF b f (f + g) (J b 2).toNat 0 0 J).2
set_option maxHeartbeats 4000000 in
theorem s_dropRange {d : Nat} {K : Nat → Option ZK} {J : Nat → Nat → Int} {P : Nat → Nat → Option Nat} {n w : Nat} {Q : Option ZV → ZH → Prop} {b : Nat} {f g : Int} (hb : zbuf K P b) (hr : RG J) (hf : 0 ≤ f) (hf2 : f < 1000) (hg : 0 ≤ g) (hg2 : g < 1000) (hc0 : 0 ≤ J b 2) (hc3 : J b 2 ≤ 3) (hQ : Q none (K, zm (drJ J b f g), P, n, w)) : zT d 55 0 [(0, .inr (some b)), (1, .inl (zi f)), (2, .inl (zi g))] [] (K, zm J, P, n, w) Q := by
  simp (disch := omega) only [zt_55_0, zt_55_1, zt_55_2, zt_55_3, zx_const, zx_iload, zx_aload, zx_istore, zx_astore, zx_iinc, zx_add, zx_sub, zx_mul, zx_dup, zx_dup2, zx_pop, zx_cmp, zx_if, zx_goto, zx_ifnull0, zx_ifnull1, zx_ifnn0, zx_ifnn1, zx_null, zx_geti, zx_getr, zx_puti, zx_putr, zx_iald, zx_iast, zx_zald, zx_zast, zx_aald, zx_aast, zx_alen, zx_obj, zx_ret, zx_iret, zx_zret, zx_aret, zo1_s, zo2_s, zget_s, zget_ne, zset_s, zset_ne, zset_0, zc_eq, zc_ne, zc_lt, zc_ge, zc_gt, zc_le, zi_add, zi_sub, zi_mul, zi_lt, zi_le, zi_eq, Nat.reduceBEq, zU_s, zU_k, zU_ne, if_true, if_false, not_true_eq_false, not_false_eq_true, Option.toList_some, Option.toList_none, List.cons_append, List.nil_append, Int.toNat_natCast, and_true, true_and]
  exact l_dropRange (c := (J b 2).toNat) hb hf hf2 hg hg2 (by omega) (J b 2).toNat 0 0 J (by omega) (by omega) hr (by omega) hQ
def ptJ (J : Nat → Nat → Int) (b : Nat) (x y : Int) : Nat → Nat → Int := zU (zU (zU J (b + 1) (J b 2).toNat x) (b + 2) (J b 2).toNat y) b 2 (J b 2 + 1)
set_option maxHeartbeats 4000000 in
theorem s_putLatest {d : Nat} {K : Nat → Option ZK} {J : Nat → Nat → Int} {P : Nat → Nat → Option Nat} {n w : Nat} {Q : Option ZV → ZH → Prop} {b : Nat} {x y : Int} (hb : zbuf K P b) (hr : RG J) (hc0 : 0 ≤ J b 2) (hc3 : J b 2 ≤ 3) (hp0 : J b 2 = 3 → 0 ≤ J (b + 1) 0 ∧ J (b + 1) 0 < 1000) (hd : J b 2 = 3 → 0 ≤ drJ J b (J (b + 1) 0) 1 b 2 ∧ drJ J b (J (b + 1) 0) 1 b 2 < 3)
    (hQ1 : J b 2 = 3 → Q none (K, zm (ptJ (drJ J b (J (b + 1) 0) 1) b x y), P, n, w)) (hQ2 : ¬ J b 2 = 3 → Q none (K, zm (ptJ J b x y), P, n, w)) : zT (d + 1) 54 0 [(0, .inr (some b)), (1, .inl (zi x)), (2, .inl (zi y))] [] (K, zm J, P, n, w) Q := by
  have hb0 := hb
  obtain ⟨b1, b2, b3, b4, b5⟩ := hb
  have e0 : ((0 : Int)).toNat = 0 := rfl
  by_cases c : J b 2 = 3
  · have hQ := hQ1 c
    obtain ⟨p1, p2⟩ := hp0 c
    obtain ⟨d1, d2⟩ := hd c
    simp (disch := omega) only [zt_54_0, zt_54_1, zt_54_4, zt_54_5, zt_54_8, zt_54_9, zt_54_10, zt_54_13, zt_54_14, zt_54_15, zt_54_16, zx_const, zx_iload, zx_aload, zx_istore, zx_astore, zx_iinc, zx_add, zx_sub, zx_mul, zx_dup, zx_dup2, zx_pop, zx_cmp, zx_if, zx_goto, zx_ifnull0, zx_ifnull1, zx_ifnn0, zx_ifnn1, zx_null, zx_geti, zx_getr, zx_puti, zx_putr, zx_iald, zx_iast, zx_zald, zx_zast, zx_aald, zx_aast, zx_alen, zx_obj, zx_ret, zx_iret, zx_zret, zx_aret, zo1_s, zo2_s, zget_s, zget_ne, zset_s, zset_ne, zset_0, zc_eq, zc_ne, zc_lt, zc_ge, zc_gt, zc_le, zi_add, zi_sub, zi_mul, zi_lt, zi_le, zi_eq, Nat.reduceBEq, zU_s, zU_k, zU_ne, if_true, if_false, not_true_eq_false, not_false_eq_true, Option.toList_some, Option.toList_none, List.cons_append, List.nil_append, Int.toNat_natCast, and_true, true_and, zcs1_0, zcv1_0, zcs2_0, zcv2_0, zcs3_0, zcv3_0, zcs4_0, zcv4_0, zcs5_0, zcv5_0, zcs6_0, zcv6_0, zcs1_1, zcv1_1, zcs2_1, zcv2_1, zcs3_1, zcv3_1, zcs4_1, zcv4_1, zcs5_1, zcv5_1, zcs6_1, zcv6_1, zcs1_2, zcv1_2, zcs2_2, zcv2_2, zcs3_2, zcv3_2, zcs4_2, zcv4_2, zcs5_2, zcv5_2, zcs6_2, zcv6_2, zcs1_3, zcv1_3, zcs2_3, zcv2_3, zcs3_3, zcv3_3, zcs4_3, zcv4_3, zcs5_3, zcv5_3, zcs6_3, zcv6_3, zcs1_4, zcv1_4, zcs2_4, zcv2_4, zcs3_4, zcv3_4, zcs4_4, zcv4_4, zcs5_4, zcv5_4, zcs6_4, zcv6_4, b2, b4, c, e0]
    refine s_dropRange hb0 hr p1 p2 (by omega) (by omega) hc0 hc3 ?_
    have g : ¬ (3 : Int) ≤ drJ J b (J (b + 1) 0) 1 b 2 := by omega
    generalize hJ : drJ J b (J (b + 1) 0) 1 = J2 at *
    simp (disch := omega) only [zt_54_19, zt_54_20, zt_54_23, zt_54_24, zt_54_27, zt_54_28, zt_54_31, zt_54_32, zt_54_35, zt_54_36, zt_54_37, zt_54_38, zt_54_41, zt_54_42, zt_54_45, zt_54_46, zt_54_47, zt_54_48, zt_54_49, zt_54_52, zt_54_53, zt_54_54, zt_54_57, zx_const, zx_iload, zx_aload, zx_istore, zx_astore, zx_iinc, zx_add, zx_sub, zx_mul, zx_dup, zx_dup2, zx_pop, zx_cmp, zx_if, zx_goto, zx_ifnull0, zx_ifnull1, zx_ifnn0, zx_ifnn1, zx_null, zx_geti, zx_getr, zx_puti, zx_putr, zx_iald, zx_iast, zx_zald, zx_zast, zx_aald, zx_aast, zx_alen, zx_obj, zx_ret, zx_iret, zx_zret, zx_aret, zo1_s, zo2_s, zget_s, zget_ne, zset_s, zset_ne, zset_0, zc_eq, zc_ne, zc_lt, zc_ge, zc_gt, zc_le, zi_add, zi_sub, zi_mul, zi_lt, zi_le, zi_eq, Nat.reduceBEq, zU_s, zU_k, zU_ne, if_true, if_false, not_true_eq_false, not_false_eq_true, Option.toList_some, Option.toList_none, List.cons_append, List.nil_append, Int.toNat_natCast, and_true, true_and, b2, b4, g]
    unfold ptJ at hQ
    exact hQ
  · have hQ := hQ2 c
    have g : ¬ (3 : Int) ≤ J b 2 := by omega
    simp (disch := omega) only [zt_54_0, zt_54_1, zt_54_4, zt_54_5, zt_54_19, zt_54_20, zt_54_23, zt_54_24, zt_54_27, zt_54_28, zt_54_31, zt_54_32, zt_54_35, zt_54_36, zt_54_37, zt_54_38, zt_54_41, zt_54_42, zt_54_45, zt_54_46, zt_54_47, zt_54_48, zt_54_49, zt_54_52, zt_54_53, zt_54_54, zt_54_57, zx_const, zx_iload, zx_aload, zx_istore, zx_astore, zx_iinc, zx_add, zx_sub, zx_mul, zx_dup, zx_dup2, zx_pop, zx_cmp, zx_if, zx_goto, zx_ifnull0, zx_ifnull1, zx_ifnn0, zx_ifnn1, zx_null, zx_geti, zx_getr, zx_puti, zx_putr, zx_iald, zx_iast, zx_zald, zx_zast, zx_aald, zx_aast, zx_alen, zx_obj, zx_ret, zx_iret, zx_zret, zx_aret, zo1_s, zo2_s, zget_s, zget_ne, zset_s, zset_ne, zset_0, zc_eq, zc_ne, zc_lt, zc_ge, zc_gt, zc_le, zi_add, zi_sub, zi_mul, zi_lt, zi_le, zi_eq, Nat.reduceBEq, zU_s, zU_k, zU_ne, if_true, if_false, not_true_eq_false, not_false_eq_true, Option.toList_some, Option.toList_none, List.cons_append, List.nil_append, Int.toNat_natCast, and_true, true_and, b2, b4, c, g]
    unfold ptJ at hQ
    exact hQ
theorem zi_bit {x : Int} (h0 : 0 ≤ x) (h1 : x < 2147483648) : zi x &&& zi 1 = zi (x % 2) := by
  have e : zi x = nI x.toNat := by rw [show x = ((x.toNat : Nat) : Int) by omega]; exact (zi_nat _).symm
  rw [e, pk_andN (by omega) (m := zi 1) 1 (by decide)]
  show Int32.ofNat _ = _
  rw [zi_nat]
  congr 1
  omega
theorem zi_half {x : Int} (h0 : 0 ≤ x) (h1 : x < 2147483648) : zi x >>> (zi 1 &&& 31) = zi (x / 2) := by
  have e : zi x = nI x.toNat := by rw [show x = ((x.toNat : Nat) : Int) by omega]; exact (zi_nat _).symm
  rw [e, pk_shrN (by omega) (zi 1 &&& 31) 1 (by decide)]
  show Int32.ofNat _ = _
  rw [zi_nat]
  congr 1
  omega
set_option maxHeartbeats 4000000 in
theorem s_isWritable {d : Nat} {h : ZH} {Q : Option ZV → ZH → Prop} {x : Int} (h0 : 0 ≤ x) (h1 : x < 2147483648) (hQ : Q (some (.inl (zi (x % 2)))) h) : zT d 45 0 [(0, .inl (zi x))] [] h Q := by
  have g := zi_bit h0 h1
  by_cases c : x % 2 = 1
  · rw [c] at hQ
    simp (disch := omega) only [zt_45_0, zt_45_1, zt_45_2, zt_45_3, zt_45_4, zt_45_7, zt_45_8, zt_45_11, zt_45_12, zx_const, zx_iload, zx_aload, zx_istore, zx_astore, zx_iinc, zx_add, zx_sub, zx_mul, zx_dup, zx_dup2, zx_pop, zx_cmp, zx_if, zx_goto, zx_ifnull0, zx_ifnull1, zx_ifnn0, zx_ifnn1, zx_null, zx_geti, zx_getr, zx_puti, zx_putr, zx_iald, zx_iast, zx_zald, zx_zast, zx_aald, zx_aast, zx_alen, zx_obj, zx_ret, zx_iret, zx_zret, zx_aret, zo1_s, zo2_s, zget_s, zget_ne, zset_s, zset_ne, zset_0, zc_eq, zc_ne, zc_lt, zc_ge, zc_gt, zc_le, zi_add, zi_sub, zi_mul, zi_lt, zi_le, zi_eq, Nat.reduceBEq, zU_s, zU_k, zU_ne, if_true, if_false, not_true_eq_false, not_false_eq_true, Option.toList_some, Option.toList_none, List.cons_append, List.nil_append, Int.toNat_natCast, and_true, true_and, zx_and, g, c]
    exact hQ
  · rw [show x % 2 = 0 by omega] at hQ
    simp (disch := omega) only [zt_45_0, zt_45_1, zt_45_2, zt_45_3, zt_45_4, zt_45_7, zt_45_8, zt_45_11, zt_45_12, zx_const, zx_iload, zx_aload, zx_istore, zx_astore, zx_iinc, zx_add, zx_sub, zx_mul, zx_dup, zx_dup2, zx_pop, zx_cmp, zx_if, zx_goto, zx_ifnull0, zx_ifnull1, zx_ifnn0, zx_ifnn1, zx_null, zx_geti, zx_getr, zx_puti, zx_putr, zx_iald, zx_iast, zx_zald, zx_zast, zx_aald, zx_aast, zx_alen, zx_obj, zx_ret, zx_iret, zx_zret, zx_aret, zo1_s, zo2_s, zget_s, zget_ne, zset_s, zset_ne, zset_0, zc_eq, zc_ne, zc_lt, zc_ge, zc_gt, zc_le, zi_add, zi_sub, zi_mul, zi_lt, zi_le, zi_eq, Nat.reduceBEq, zU_s, zU_k, zU_ne, if_true, if_false, not_true_eq_false, not_false_eq_true, Option.toList_some, Option.toList_none, List.cons_append, List.nil_append, Int.toNat_natCast, and_true, true_and, zx_and, g, c]
    exact hQ
set_option maxHeartbeats 4000000 in
theorem s_frameOf {d : Nat} {h : ZH} {Q : Option ZV → ZH → Prop} {x : Int} (h0 : 0 ≤ x) (h1 : x < 2147483648) (hQ : Q (some (.inl (zi (x / 2)))) h) : zT d 46 0 [(0, .inl (zi x))] [] h Q := by
  have g := zi_half h0 h1
  simp (disch := omega) only [zt_46_0, zt_46_1, zt_46_2, zt_46_3, zx_const, zx_iload, zx_aload, zx_istore, zx_astore, zx_iinc, zx_add, zx_sub, zx_mul, zx_dup, zx_dup2, zx_pop, zx_cmp, zx_if, zx_goto, zx_ifnull0, zx_ifnull1, zx_ifnn0, zx_ifnn1, zx_null, zx_geti, zx_getr, zx_puti, zx_putr, zx_iald, zx_iast, zx_zald, zx_zast, zx_aald, zx_aast, zx_alen, zx_obj, zx_ret, zx_iret, zx_zret, zx_aret, zo1_s, zo2_s, zget_s, zget_ne, zset_s, zset_ne, zset_0, zc_eq, zc_ne, zc_lt, zc_ge, zc_gt, zc_le, zi_add, zi_sub, zi_mul, zi_lt, zi_le, zi_eq, Nat.reduceBEq, zU_s, zU_k, zU_ne, if_true, if_false, not_true_eq_false, not_false_eq_true, Option.toList_some, Option.toList_none, List.cons_append, List.nil_append, Int.toNat_natCast, and_true, true_and, zx_shr, g]
  exact hQ
set_option maxHeartbeats 4000000 in
theorem s_findTask {d : Nat} {K : Nat → Option ZK} {J : Nat → Nat → Int} {P : Nat → Nat → Option Nat} {n w : Nat} {Q : Option ZV → ZH → Prop} {nT : Nat} {x : Int} (hk : krn K P) (hx : zr x) (hT : J 1 1 = nT) (hn : nT ≤ 8) (hQ : Q (some (.inr (if 0 ≤ x ∧ x < nT then P 2 x.toNat else none))) (K, zm J, P, n, w)) : zT d 23 0 [(0, .inr (some 1)), (1, .inl (zi x))] [] (K, zm J, P, n, w) Q := by
  obtain ⟨k1, p10, k2, p12, k3, p13, l44, p14, k46, p15, k47, p16, k48, p3, pp⟩ := hk
  obtain ⟨x1, x2⟩ := hx
  by_cases g1 : x < 0
  · rw [if_neg (by omega)] at hQ
    simp (disch := omega) only [zt_23_0, zt_23_1, zt_23_4, zt_23_5, zt_23_6, zt_23_9, zt_23_12, zt_23_13, zt_23_16, zt_23_17, zt_23_18, zt_23_21, zt_23_22, zx_const, zx_iload, zx_aload, zx_istore, zx_astore, zx_iinc, zx_add, zx_sub, zx_mul, zx_dup, zx_dup2, zx_pop, zx_cmp, zx_if, zx_goto, zx_ifnull0, zx_ifnull1, zx_ifnn0, zx_ifnn1, zx_null, zx_geti, zx_getr, zx_puti, zx_putr, zx_iald, zx_iast, zx_zald, zx_zast, zx_aald, zx_aast, zx_alen, zx_obj, zx_ret, zx_iret, zx_zret, zx_aret, zo1_s, zo2_s, zget_s, zget_ne, zset_s, zset_ne, zset_0, zc_eq, zc_ne, zc_lt, zc_ge, zc_gt, zc_le, zi_add, zi_sub, zi_mul, zi_lt, zi_le, zi_eq, Nat.reduceBEq, zU_s, zU_k, zU_ne, if_true, if_false, not_true_eq_false, not_false_eq_true, Option.toList_some, Option.toList_none, List.cons_append, List.nil_append, Int.toNat_natCast, and_true, true_and, p10, hT, g1]
    exact hQ
  · by_cases g2 : (nT : Int) ≤ x
    · rw [if_neg (by omega)] at hQ
      simp (disch := omega) only [zt_23_0, zt_23_1, zt_23_4, zt_23_5, zt_23_6, zt_23_9, zt_23_12, zt_23_13, zt_23_16, zt_23_17, zt_23_18, zt_23_21, zt_23_22, zx_const, zx_iload, zx_aload, zx_istore, zx_astore, zx_iinc, zx_add, zx_sub, zx_mul, zx_dup, zx_dup2, zx_pop, zx_cmp, zx_if, zx_goto, zx_ifnull0, zx_ifnull1, zx_ifnn0, zx_ifnn1, zx_null, zx_geti, zx_getr, zx_puti, zx_putr, zx_iald, zx_iast, zx_zald, zx_zast, zx_aald, zx_aast, zx_alen, zx_obj, zx_ret, zx_iret, zx_zret, zx_aret, zo1_s, zo2_s, zget_s, zget_ne, zset_s, zset_ne, zset_0, zc_eq, zc_ne, zc_lt, zc_ge, zc_gt, zc_le, zi_add, zi_sub, zi_mul, zi_lt, zi_le, zi_eq, Nat.reduceBEq, zU_s, zU_k, zU_ne, if_true, if_false, not_true_eq_false, not_false_eq_true, Option.toList_some, Option.toList_none, List.cons_append, List.nil_append, Int.toNat_natCast, and_true, true_and, p10, hT, g1, g2]
      exact hQ
    · rw [if_pos (by omega)] at hQ
      simp (disch := omega) only [zt_23_0, zt_23_1, zt_23_4, zt_23_5, zt_23_6, zt_23_9, zt_23_12, zt_23_13, zt_23_16, zt_23_17, zt_23_18, zt_23_21, zt_23_22, zx_const, zx_iload, zx_aload, zx_istore, zx_astore, zx_iinc, zx_add, zx_sub, zx_mul, zx_dup, zx_dup2, zx_pop, zx_cmp, zx_if, zx_goto, zx_ifnull0, zx_ifnull1, zx_ifnn0, zx_ifnn1, zx_null, zx_geti, zx_getr, zx_puti, zx_putr, zx_iald, zx_iast, zx_zald, zx_zast, zx_aald, zx_aast, zx_alen, zx_obj, zx_ret, zx_iret, zx_zret, zx_aret, zo1_s, zo2_s, zget_s, zget_ne, zset_s, zset_ne, zset_0, zc_eq, zc_ne, zc_lt, zc_ge, zc_gt, zc_le, zi_add, zi_sub, zi_mul, zi_lt, zi_le, zi_eq, Nat.reduceBEq, zU_s, zU_k, zU_ne, if_true, if_false, not_true_eq_false, not_false_eq_true, Option.toList_some, Option.toList_none, List.cons_append, List.nil_append, Int.toNat_natCast, and_true, true_and, p10, hT, g1, g2]
      exact hQ
