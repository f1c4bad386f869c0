/-! Line: a row of ints and a count; the list that it holds. The row lies behind the object. -/
theorem zU_ne {α : Type} {I : Nat → Nat → α} {a b k j : Nat} {x : α} (h : b ≠ a) : zU I a k x b j = I b j := by simp [zU, h]
theorem zget_ne {L : ZL} {i j : Nat} {v : ZV} (hj : j ≠ i) : zget ((j, v) :: L) i = zget L i := zget_n (by simpa using hj)
theorem zset_ne {L : ZL} {i j : Nat} {u v : ZV} (hj : j ≠ i) : zset ((j, u) :: L) i v = (j, u) :: zset L i v := zset_n (by simpa using hj)
def ln (J : Nat → Nat → Int) (a : Nat) : List Int := (List.range (J a 1).toNat).map (fun i => J (a + 1) i)
def zline (K : Nat → Option ZK) (P : Nat → Nat → Option Nat) (a c : Nat) : Prop := K a = some (.inl 1) ∧ P a 0 = some (a + 1) ∧ K (a + 1) = some (.inr (0, c)) ∧ c < 1000
set_option maxHeartbeats 4000000 in
theorem s_addLast {d : Nat} {K : Nat → Option ZK} {J : Nat → Nat → Int} {P : Nat → Nat → Option Nat} {n w : Nat} {Q : Option ZV → ZH → Prop} {a c : Nat} {x : Int} (hl : zline K P a c) (h0 : 0 ≤ J a 1) (h1 : J a 1 < c) (hQ : Q none (K, zm (zU (zU J (a + 1) (J a 1).toNat x) a 1 (J a 1 + 1)), P, n, w)) : zT d 48 0 [(0, .inr (some a)), (1, .inl (zi x))] [] (K, zm J, P, n, w) Q := by
  obtain ⟨hK, hP, hA, hc⟩ := hl
  have hlt : ¬ ((c : Int) ≤ J a 1) := by omega
  simp (disch := omega) only [zt_48_0, zt_48_1, zt_48_4, zt_48_5, zt_48_8, zt_48_9, zt_48_12, zt_48_13, zt_48_16, zt_48_17, zt_48_20, zt_48_21, zt_48_22, zt_48_23, zt_48_24, zt_48_27, zt_48_28, zt_48_29, zt_48_32, zx_const, zx_iload, zx_aload, zx_istore, zx_astore, zx_iinc, zx_add, zx_sub, zx_mul, zx_dup, zx_dup2, zx_pop, zx_cmp, zx_if, zx_goto, zx_ifnull0, zx_ifnull1, zx_ifnn0, zx_ifnn1, zx_null, zx_geti, zx_getr, zx_puti, zx_putr, zx_iald, zx_iast, zx_zald, zx_zast, zx_aald, zx_aast, zx_alen, zx_obj, zx_ret, zx_iret, zx_zret, zx_aret, zo1_s, zo2_s, zget_s, zget_ne, zset_s, zset_ne, zset_0, zc_eq, zc_ne, zc_lt, zc_ge, zc_gt, zc_le, zi_add, zi_sub, zi_mul, zi_lt, zi_le, zi_eq, Nat.reduceBEq, zU_s, zU_k, zU_ne, if_true, if_false, not_true_eq_false, not_false_eq_true, Option.toList_some, Option.toList_none, List.cons_append, List.nil_append, hK, hP, hA, hlt]
  exact hQ
set_option maxHeartbeats 4000000 in
theorem s_at {d : Nat} {K : Nat → Option ZK} {J : Nat → Nat → Int} {P : Nat → Nat → Option Nat} {n w : Nat} {Q : Option ZV → ZH → Prop} {a c : Nat} {x : Int} (hl : zline K P a c) (hx : zr x) (h0 : 0 ≤ J a 1) (h1 : J a 1 ≤ c) (hQ : Q (some (.inl (zi (if 0 ≤ x ∧ x < J a 1 then J (a + 1) x.toNat else -1)))) (K, zm J, P, n, w)) : zT d 49 0 [(0, .inr (some a)), (1, .inl (zi x))] [] (K, zm J, P, n, w) Q := by
  obtain ⟨hK, hP, hA, hc⟩ := hl
  obtain ⟨hx1, hx2⟩ := hx
  by_cases g1 : x < 0
  · rw [if_neg (by omega)] at hQ
    simp (disch := omega) only [zt_49_0, zt_49_1, zt_49_4, zt_49_5, zt_49_6, zt_49_9, zt_49_12, zt_49_13, zt_49_16, zt_49_17, zt_49_18, zt_49_21, zt_49_22, zx_const, zx_iload, zx_aload, zx_istore, zx_astore, zx_iinc, zx_add, zx_sub, zx_mul, zx_dup, zx_dup2, zx_pop, zx_cmp, zx_if, zx_goto, zx_ifnull0, zx_ifnull1, zx_ifnn0, zx_ifnn1, zx_null, zx_geti, zx_getr, zx_puti, zx_putr, zx_iald, zx_iast, zx_zald, zx_zast, zx_aald, zx_aast, zx_alen, zx_obj, zx_ret, zx_iret, zx_zret, zx_aret, zo1_s, zo2_s, zget_s, zget_ne, zset_s, zset_ne, zset_0, zc_eq, zc_ne, zc_lt, zc_ge, zc_gt, zc_le, zi_add, zi_sub, zi_mul, zi_lt, zi_le, zi_eq, Nat.reduceBEq, zU_s, zU_k, zU_ne, if_true, if_false, not_true_eq_false, not_false_eq_true, Option.toList_some, Option.toList_none, List.cons_append, List.nil_append, hK, hP, hA, g1]
    exact hQ
  · by_cases g2 : J a 1 ≤ x
    · rw [if_neg (by omega)] at hQ
      simp (disch := omega) only [zt_49_0, zt_49_1, zt_49_4, zt_49_5, zt_49_6, zt_49_9, zt_49_12, zt_49_13, zt_49_16, zt_49_17, zt_49_18, zt_49_21, zt_49_22, zx_const, zx_iload, zx_aload, zx_istore, zx_astore, zx_iinc, zx_add, zx_sub, zx_mul, zx_dup, zx_dup2, zx_pop, zx_cmp, zx_if, zx_goto, zx_ifnull0, zx_ifnull1, zx_ifnn0, zx_ifnn1, zx_null, zx_geti, zx_getr, zx_puti, zx_putr, zx_iald, zx_iast, zx_zald, zx_zast, zx_aald, zx_aast, zx_alen, zx_obj, zx_ret, zx_iret, zx_zret, zx_aret, zo1_s, zo2_s, zget_s, zget_ne, zset_s, zset_ne, zset_0, zc_eq, zc_ne, zc_lt, zc_ge, zc_gt, zc_le, zi_add, zi_sub, zi_mul, zi_lt, zi_le, zi_eq, Nat.reduceBEq, zU_s, zU_k, zU_ne, if_true, if_false, not_true_eq_false, not_false_eq_true, Option.toList_some, Option.toList_none, List.cons_append, List.nil_append, hK, hP, hA, g1, g2]
      exact hQ
    · rw [if_pos (by omega)] at hQ
      simp (disch := omega) only [zt_49_0, zt_49_1, zt_49_4, zt_49_5, zt_49_6, zt_49_9, zt_49_12, zt_49_13, zt_49_16, zt_49_17, zt_49_18, zt_49_21, zt_49_22, zx_const, zx_iload, zx_aload, zx_istore, zx_astore, zx_iinc, zx_add, zx_sub, zx_mul, zx_dup, zx_dup2, zx_pop, zx_cmp, zx_if, zx_goto, zx_ifnull0, zx_ifnull1, zx_ifnn0, zx_ifnn1, zx_null, zx_geti, zx_getr, zx_puti, zx_putr, zx_iald, zx_iast, zx_zald, zx_zast, zx_aald, zx_aast, zx_alen, zx_obj, zx_ret, zx_iret, zx_zret, zx_aret, zo1_s, zo2_s, zget_s, zget_ne, zset_s, zset_ne, zset_0, zc_eq, zc_ne, zc_lt, zc_ge, zc_gt, zc_le, zi_add, zi_sub, zi_mul, zi_lt, zi_le, zi_eq, Nat.reduceBEq, zU_s, zU_k, zU_ne, if_true, if_false, not_true_eq_false, not_false_eq_true, Option.toList_some, Option.toList_none, List.cons_append, List.nil_append, hK, hP, hA, g1, g2]
      exact hQ
set_option maxHeartbeats 4000000 in
theorem s_takeLast {d : Nat} {K : Nat → Option ZK} {J : Nat → Nat → Int} {P : Nat → Nat → Option Nat} {n w : Nat} {Q : Option ZV → ZH → Prop} {a c : Nat} (hl : zline K P a c) (h0 : 0 < J a 1) (h1 : J a 1 ≤ c) (hQ : Q (some (.inl (zi (J (a + 1) (J a 1 - 1).toNat)))) (K, zm (zU J a 1 (J a 1 - 1)), P, n, w)) : zT d 51 0 [(0, .inr (some a))] [] (K, zm J, P, n, w) Q := by
  obtain ⟨hK, hP, hA, hc⟩ := hl
  have g1 : ¬ J a 1 = 0 := by omega
  simp (disch := omega) only [zt_51_0, zt_51_1, zt_51_4, zt_51_7, zt_51_8, zt_51_9, zt_51_10, zt_51_11, zt_51_14, zt_51_15, zt_51_16, zt_51_19, zt_51_20, zt_51_23, zt_51_24, zt_51_27, zt_51_28, zx_const, zx_iload, zx_aload, zx_istore, zx_astore, zx_iinc, zx_add, zx_sub, zx_mul, zx_dup, zx_dup2, zx_pop, zx_cmp, zx_if, zx_goto, zx_ifnull0, zx_ifnull1, zx_ifnn0, zx_ifnn1, zx_null, zx_geti, zx_getr, zx_puti, zx_putr, zx_iald, zx_iast, zx_zald, zx_zast, zx_aald, zx_aast, zx_alen, zx_obj, zx_ret, zx_iret, zx_zret, zx_aret, zo1_s, zo2_s, zget_s, zget_ne, zset_s, zset_ne, zset_0, zc_eq, zc_ne, zc_lt, zc_ge, zc_gt, zc_le, zi_add, zi_sub, zi_mul, zi_lt, zi_le, zi_eq, Nat.reduceBEq, zU_s, zU_k, zU_ne, if_true, if_false, not_true_eq_false, not_false_eq_true, Option.toList_some, Option.toList_none, List.cons_append, List.nil_append, hK, hP, hA, g1]
  exact hQ
def zsh (J : Nat → Nat → Int) (b i m : Nat) : Nat → Nat → Int := fun c j => if c = b ∧ i ≤ j ∧ j < m then J b (j + 1) else J c j
theorem zsh_end (J : Nat → Nat → Int) (b m : Nat) : zsh J b m m = J := by
  funext c j
  unfold zsh
  rw [if_neg (by omega)]
theorem zsh_step {J : Nat → Nat → Int} {b i m : Nat} (h : i < m) : zsh (zU J b i (J b (i + 1))) b (i + 1) m = zsh J b i m := by
  funext c j
  unfold zsh
  by_cases hc : c = b
  · subst hc
    by_cases h1 : i + 1 ≤ j ∧ j < m
    · rw [if_pos ⟨rfl, h1⟩, if_pos ⟨rfl, by omega, h1.2⟩, zU_k _ _ _ (by omega)]
    · rw [if_neg (fun q => h1 q.2)]
      by_cases h2 : j = i
      · subst h2
        rw [zU_s, if_pos ⟨rfl, Nat.le_refl _, h⟩]
      · rw [zU_k _ _ _ h2, if_neg (by omega)]
  · rw [if_neg (fun q => hc q.1), if_neg (fun q => hc q.1), zU_ne hc]
set_option maxHeartbeats 4000000 in
theorem l_takeFirst {d : Nat} {K : Nat → Option ZK} {P : Nat → Nat → Option Nat} {n w : Nat} {Q : Option ZV → ZH → Prop} {a c m : Nat} {f : Int} (hl : zline K P a c) (hm : m < c) : ∀ (k i : Nat) (J : Nat → Nat → Int), i + k = m → J a 1 = m → Q (some (.inl (zi f))) (K, zm (zsh J (a + 1) i m), P, n, w) → zT d 50 28 [(0, .inr (some a)), (1, .inl (zi f)), (2, .inl (zi i))] [] (K, zm J, P, n, w) Q := by
  obtain ⟨hK, hP, hA, hc⟩ := hl
  intro k
  induction k with
  | zero =>
    intro i J hi hJ hQ
    have g1 : (m : Int) ≤ i := by omega
    rw [show i = m by omega, zsh_end] at hQ
    simp (disch := omega) only [zt_50_28, zt_50_29, zt_50_30, zt_50_33, zt_50_36, zt_50_37, zt_50_40, zt_50_41, zt_50_42, zt_50_45, zt_50_46, zt_50_47, zt_50_48, zt_50_49, zt_50_50, zt_50_53, zt_50_56, zt_50_57, zx_const, zx_iload, zx_aload, zx_istore, zx_astore, zx_iinc, zx_add, zx_sub, zx_mul, zx_dup, zx_dup2, zx_pop, zx_cmp, zx_if, zx_goto, zx_ifnull0, zx_ifnull1, zx_ifnn0, zx_ifnn1, zx_null, zx_geti, zx_getr, zx_puti, zx_putr, zx_iald, zx_iast, zx_zald, zx_zast, zx_aald, zx_aast, zx_alen, zx_obj, zx_ret, zx_iret, zx_zret, zx_aret, zo1_s, zo2_s, zget_s, zget_ne, zset_s, zset_ne, zset_0, zc_eq, zc_ne, zc_lt, zc_ge, zc_gt, zc_le, zi_add, zi_sub, zi_mul, zi_lt, zi_le, zi_eq, Nat.reduceBEq, zU_s, zU_k, zU_ne, if_true, if_false, not_true_eq_false, not_false_eq_true, Option.toList_some, Option.toList_none, List.cons_append, List.nil_append, hK, hP, hA, hJ, g1]
    exact hQ
  | succ k ih =>
    intro i J hi hJ hQ
    have g1 : ¬ (m : Int) ≤ i := by omega
    have e1 : ((i : Int) + 1).toNat = i + 1 := by omega
    have e2 : ((i : Int)).toNat = i := by omega
    rw [zt_50_28]
    simp (disch := omega) only [zt_50_29, zt_50_30, zt_50_33, zt_50_36, zt_50_37, zt_50_40, zt_50_41, zt_50_42, zt_50_45, zt_50_46, zt_50_47, zt_50_48, zt_50_49, zt_50_50, zt_50_53, zx_const, zx_iload, zx_aload, zx_istore, zx_astore, zx_iinc, zx_add, zx_sub, zx_mul, zx_dup, zx_dup2, zx_pop, zx_cmp, zx_if, zx_goto, zx_ifnull0, zx_ifnull1, zx_ifnn0, zx_ifnn1, zx_null, zx_geti, zx_getr, zx_puti, zx_putr, zx_iald, zx_iast, zx_zald, zx_zast, zx_aald, zx_aast, zx_alen, zx_obj, zx_ret, zx_iret, zx_zret, zx_aret, zo1_s, zo2_s, zget_s, zget_ne, zset_s, zset_ne, zset_0, zc_eq, zc_ne, zc_lt, zc_ge, zc_gt, zc_le, zi_add, zi_sub, zi_mul, zi_lt, zi_le, zi_eq, Nat.reduceBEq, zU_s, zU_k, zU_ne, if_true, if_false, not_true_eq_false, not_false_eq_true, Option.toList_some, Option.toList_none, List.cons_append, List.nil_append, hK, hP, hA, hJ, g1, e1, e2]
    have := ih (i + 1) (zU J (a + 1) i (J (a + 1) (i + 1))) (by omega) (by rw [zU_ne (by omega)]; exact hJ) (by rw [zsh_step (by omega)]; exact hQ)
    rw [show ((i + 1 : Nat) : Int) = (i : Int) + 1 by omega] at this
    exact this
set_option maxHeartbeats 4000000 in
theorem s_takeFirst {d : Nat} {K : Nat → Option ZK} {J : Nat → Nat → Int} {P : Nat → Nat → Option Nat} {n w : Nat} {Q : Option ZV → ZH → Prop} {a c : Nat} (hl : zline K P a c) (h0 : 0 < J a 1) (h1 : J a 1 ≤ c) (hQ : Q (some (.inl (zi (J (a + 1) 0)))) (K, zm (zsh (zU J a 1 (J a 1 - 1)) (a + 1) 0 (J a 1 - 1).toNat), P, n, w)) : zT d 50 0 [(0, .inr (some a))] [] (K, zm J, P, n, w) Q := by
  have hl' := hl
  obtain ⟨hK, hP, hA, hc⟩ := hl
  have g1 : ¬ J a 1 = 0 := by omega
  have e0 : ((0 : Int)).toNat = 0 := rfl
  simp (disch := omega) only [zt_50_0, zt_50_1, zt_50_4, zt_50_7, zt_50_8, zt_50_9, zt_50_10, zt_50_13, zt_50_14, zt_50_15, zt_50_16, zt_50_17, zt_50_18, zt_50_21, zt_50_22, zt_50_23, zt_50_26, zt_50_27, zx_const, zx_iload, zx_aload, zx_istore, zx_astore, zx_iinc, zx_add, zx_sub, zx_mul, zx_dup, zx_dup2, zx_pop, zx_cmp, zx_if, zx_goto, zx_ifnull0, zx_ifnull1, zx_ifnn0, zx_ifnn1, zx_null, zx_geti, zx_getr, zx_puti, zx_putr, zx_iald, zx_iast, zx_zald, zx_zast, zx_aald, zx_aast, zx_alen, zx_obj, zx_ret, zx_iret, zx_zret, zx_aret, zo1_s, zo2_s, zget_s, zget_ne, zset_s, zset_ne, zset_0, zc_eq, zc_ne, zc_lt, zc_ge, zc_gt, zc_le, zi_add, zi_sub, zi_mul, zi_lt, zi_le, zi_eq, Nat.reduceBEq, zU_s, zU_k, zU_ne, if_true, if_false, not_true_eq_false, not_false_eq_true, Option.toList_some, Option.toList_none, List.cons_append, List.nil_append, hK, hP, hA, g1, e0]
  exact l_takeFirst (m := (J a 1 - 1).toNat) hl' (by omega) (J a 1 - 1).toNat 0 _ (by omega) (by rw [zU_s]; omega) hQ
