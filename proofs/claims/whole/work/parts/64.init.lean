/-! The two constructors. -/
theorem RG_up {M : Mem} {x : Nat} (h : RG M) : RG (va_up M x (fun _ => 0)) := fun y j => by
  by_cases e : y = x
  · subst e; rw [va_up_self]; omega
  · rw [va_up_ne _ _ e]; exact h y j
/-- what was there before n is as before -/
def SAM (n : Nat) (K K' : Nat → Option ZK) (J J' : Mem) (P P' : Nat → Nat → Option Nat) : Prop := ∀ b, b < n → K' b = K b ∧ J' b = J b ∧ P' b = P b
section CI
variable {d : Nat} {K : Nat → Option ZK} {J : Nat → Nat → Int} {P : Nat → Nat → Option Nat} {n w : Nat} {Q : Option ZV → ZH → Prop}
set_option maxHeartbeats 1000000 in
theorem s_LineN {c : Nat} (hc : c < 1000) (hr : RG J) (hQ : ∀ K' J' P', SAM n K K' J J' P P' → zline K' P' n c → J' n 1 = 0 → RG J' → Q none (K', zm J', P', n + 2, w + 2 + c)) : zT (d + 1) 47 0 [(0, .inr (some n)), (1, .inl (zi c))] [] (va_up K n (some (.inl 1)), zm (va_up J n (fun _ => 0)), va_up P n (fun _ => none), n + 1, w + 2) Q := by
  refine s_LineI (va_up_self _ _ _) (by omega) (by omega) ?_
  refine hQ _ _ _ (fun b hb => ⟨?_, ?_, ?_⟩) ⟨?_, ?_, ?_, hc⟩ (zU_s _ _ _ _) (RG_U (RG_up (RG_up hr)) (by omega) (by omega))
  · rw [va_up_ne _ _ (by omega), va_up_ne _ _ (by omega)]
  · rw [zU_ab _ _ _ (by omega), va_up_ne _ _ (by omega), va_up_ne _ _ (by omega)]
  · rw [zU_ab _ _ _ (by omega), va_up_ne _ _ (by omega), va_up_ne _ _ (by omega)]
  · rw [va_up_ne _ _ (by omega), va_up_self]
  · exact zU_s _ _ _ _
  · exact va_up_self _ _ _
set_option maxHeartbeats 1000000 in
theorem s_BufN (hr : RG J) (hQ : ∀ K' J' P', SAM n K K' J J' P P' → zbuf K' P' n → J' n 2 = 0 → RG J' → Q none (K', zm J', P', n + 3, w + 3 + 6)) : zT (d + 1) 52 0 [(0, .inr (some n))] [] (va_up K n (some (.inl 2)), zm (va_up J n (fun _ => 0)), va_up P n (fun _ => none), n + 1, w + 3) Q := by
  have e3 : ((3 : Int)).toNat = 3 := rfl
  have k1 : va_up K n (some (.inl 2)) n = some (.inl 2) := va_up_self _ _ _
  have k2 : va_up (va_up K n (some (.inl 2))) (n + 1) (some (.inr (0, 3))) n = some (.inl 2) := by rw [va_up_ne _ _ (by omega)]; exact k1
  have k3 : va_up (va_up (va_up K n (some (.inl 2))) (n + 1) (some (.inr (0, 3)))) (n + 1 + 1) (some (.inr (0, 3))) n = some (.inl 2) := by rw [va_up_ne _ _ (by omega)]; exact k2
  simp (disch := first | omega | assumption | exact va_up_self _ _ _ | exact Nat.le_of_ble_eq_true rfl) only [zt_52_0, zt_52_1, zt_52_4, zt_52_5, zt_52_6, zt_52_8, zt_52_11, zt_52_12, zt_52_13, zt_52_15, zt_52_18, zt_52_19, zt_52_20, zt_52_23, zx_const, zx_iload, zx_aload, zx_istore, zx_astore, zx_iinc, zx_add, zx_sub, zx_mul, zx_dup, zx_dup2, zx_pop, zx_cmp, zx_if, zx_goto, zx_ifnull0, zx_ifnull1, zx_ifnn0, zx_ifnn1, zx_null, zx_geti, zx_getr, zx_puti, zx_putr, zx_iald, zx_iast, zx_zald, zx_zast, zx_aald, zx_aast, zx_alen, zx_obj, zx_ret, zx_iret, zx_zret, zx_aret, zo1_s, zo2_s, zget_s, zget_ne, zset_s, zset_ne, zset_0, zc_eq, zc_ne, zc_lt, zc_ge, zc_gt, zc_le, zi_add, zi_sub, zi_mul, zi_lt, zi_le, zi_eq, Nat.reduceBEq, zU_s, zU_k, zU_ne, if_true, if_false, not_true_eq_false, not_false_eq_true, Option.toList_some, Option.toList_none, List.cons_append, List.nil_append, Int.toNat_natCast, and_true, true_and, zx_newa, e3]
  refine hQ _ _ _ (fun b hb => ⟨?_, ?_, ?_⟩) ⟨k3, ?_, ?_, ?_, ?_⟩ (zU_s _ _ _ _) (RG_U (RG_up (RG_up (RG_up hr))) (by omega) (by omega))
  · rw [va_up_ne _ _ (by omega), va_up_ne _ _ (by omega), va_up_ne _ _ (by omega)]
  · rw [zU_ab _ _ _ (by omega), va_up_ne _ _ (by omega), va_up_ne _ _ (by omega), va_up_ne _ _ (by omega)]
  · rw [zU_ab _ _ _ (by omega), va_up_ne _ _ (by omega), zU_ab _ _ _ (by omega), va_up_ne _ _ (by omega), va_up_ne _ _ (by omega)]
  · rw [zU_k _ _ _ (by decide), va_up_ne _ _ (by omega), zU_s]
  · rw [va_up_ne _ _ (by omega), va_up_self]
  · exact zU_s _ _ _ _
  · exact va_up_self _ _ _
def PVAL (J : Mem) (y : Nat) (x : Int) : Prop := J y 0 = x ∧ J y 5 = -1 ∧ J (y + 1) 2 = 0 ∧ J (y + 4) 1 = 0 ∧ J (y + 6) 1 = 0 ∧ J (y + 8) 1 = 0
set_option maxHeartbeats 4000000 in
theorem s_ProcN {x : Int} (hx : zr x) (hr : RG J) (hQ : ∀ K' J' P', SAM n K K' J J' P P' → prc K' P' n → PVAL J' n x → RG J' → Q none (K', zm J', P', n + 10, w + 39)) : zT (d + 2) 56 0 [(0, .inr (some n)), (1, .inl (zi x))] [] (va_up K n (some (.inl 3)), zm (va_up J n (fun _ => 0)), va_up P n (fun _ => none), n + 1, w + 6) Q := by
  have z1 : zfn 1 = 2 := rfl
  have z2 : zfn 2 = 3 := rfl
  have k0 : va_up K n (some (.inl 3)) n = some (.inl 3) := va_up_self _ _ _
  have k00 : va_up (va_up K n (some (.inl 3))) (n + 1) (some (.inl 2)) (n + 1) = some (.inl 2) := va_up_self _ _ _
  have f0 : SAM n K (va_up K n (some (.inl 3))) J (zU (va_up J n (fun _ => 0)) n 0 x) P (va_up P n (fun _ => none)) := fun b hb => ⟨va_up_ne _ _ (by omega), by rw [zU_ab _ _ _ (by omega), va_up_ne _ _ (by omega)], va_up_ne _ _ (by omega)⟩
  have j0 : zU (va_up J n (fun _ => 0)) n 0 x n 0 = x := zU_s _ _ _ _
  have r0 : RG (zU (va_up J n (fun _ => 0)) n 0 x) := RG_U (RG_up hr) hx.1 hx.2
  simp (disch := first | omega | assumption | exact va_up_self _ _ _ | exact Nat.le_of_ble_eq_true rfl) only [zt_56_0, zt_56_1, zt_56_4, zt_56_5, zt_56_6, zx_const, zx_iload, zx_aload, zx_istore, zx_astore, zx_iinc, zx_add, zx_sub, zx_mul, zx_dup, zx_dup2, zx_pop, zx_cmp, zx_if, zx_goto, zx_ifnull0, zx_ifnull1, zx_ifnn0, zx_ifnn1, zx_null, zx_geti, zx_getr, zx_puti, zx_putr, zx_iald, zx_iast, zx_zald, zx_zast, zx_aald, zx_aast, zx_alen, zx_obj, zx_ret, zx_iret, zx_zret, zx_aret, zo1_s, zo2_s, zget_s, zget_ne, zset_s, zset_ne, zset_0, zc_eq, zc_ne, zc_lt, zc_ge, zc_gt, zc_le, zi_add, zi_sub, zi_mul, zi_lt, zi_le, zi_eq, Nat.reduceBEq, zU_s, zU_k, zU_ne, if_true, if_false, not_true_eq_false, not_false_eq_true, Option.toList_some, Option.toList_none, List.cons_append, List.nil_append, Int.toNat_natCast, and_true, true_and]
  generalize va_up K n (some (.inl 3)) = K0 at *
  generalize zU (va_up J n (fun _ => 0)) n 0 x = J0 at *
  generalize va_up P n (fun _ => none) = P0 at *
  simp (disch := first | omega | assumption | exact va_up_self _ _ _ | exact Nat.le_of_ble_eq_true rfl) only [zt_56_9, zt_56_10, zt_56_13, zt_56_14, zx_const, zx_iload, zx_aload, zx_istore, zx_astore, zx_iinc, zx_add, zx_sub, zx_mul, zx_dup, zx_dup2, zx_pop, zx_cmp, zx_if, zx_goto, zx_ifnull0, zx_ifnull1, zx_ifnn0, zx_ifnn1, zx_null, zx_geti, zx_getr, zx_puti, zx_putr, zx_iald, zx_iast, zx_zald, zx_zast, zx_aald, zx_aast, zx_alen, zx_obj, zx_ret, zx_iret, zx_zret, zx_aret, zo1_s, zo2_s, zget_s, zget_ne, zset_s, zset_ne, zset_0, zc_eq, zc_ne, zc_lt, zc_ge, zc_gt, zc_le, zi_add, zi_sub, zi_mul, zi_lt, zi_le, zi_eq, Nat.reduceBEq, zU_s, zU_k, zU_ne, if_true, if_false, not_true_eq_false, not_false_eq_true, Option.toList_some, Option.toList_none, List.cons_append, List.nil_append, Int.toNat_natCast, and_true, true_and, zcs1_0, zcv1_0, zcs2_0, zcv2_0, zcs3_0, zcv3_0, zcs4_0, zcv4_0, zcs5_0, zcv5_0, zcs6_0, zcv6_0, zcs1_1, zcv1_1, zcs2_1, zcv2_1, zcs3_1, zcv3_1, zcs4_1, zcv4_1, zcs5_1, zcv5_1, zcs6_1, zcv6_1, zcs1_2, zcv1_2, zcs2_2, zcv2_2, zcs3_2, zcv3_2, zcs4_2, zcv4_2, zcs5_2, zcv5_2, zcs6_2, zcv6_2, zcs1_3, zcv1_3, zcs2_3, zcv2_3, zcs3_3, zcv3_3, zcs4_3, zcv4_3, zcs5_3, zcv5_3, zcs6_3, zcv6_3, zcs1_4, zcv1_4, zcs2_4, zcv2_4, zcs3_4, zcv3_4, zcs4_4, zcv4_4, zcs5_4, zcv5_4, zcs6_4, zcv6_4, zx_new, z2]
  refine s_BufN (n := n + 1) r0 (fun K1 J1 P1 f1 b1 v1 r1 => ?_)
  have k1 : K1 n = some (.inl 3) := by rw [(f1 n (by omega)).1]; exact k0
  simp (disch := first | omega | assumption | exact va_up_self _ _ _ | exact Nat.le_of_ble_eq_true rfl) only [zt_56_17, zx_const, zx_iload, zx_aload, zx_istore, zx_astore, zx_iinc, zx_add, zx_sub, zx_mul, zx_dup, zx_dup2, zx_pop, zx_cmp, zx_if, zx_goto, zx_ifnull0, zx_ifnull1, zx_ifnn0, zx_ifnn1, zx_null, zx_geti, zx_getr, zx_puti, zx_putr, zx_iald, zx_iast, zx_zald, zx_zast, zx_aald, zx_aast, zx_alen, zx_obj, zx_ret, zx_iret, zx_zret, zx_aret, zo1_s, zo2_s, zget_s, zget_ne, zset_s, zset_ne, zset_0, zc_eq, zc_ne, zc_lt, zc_ge, zc_gt, zc_le, zi_add, zi_sub, zi_mul, zi_lt, zi_le, zi_eq, Nat.reduceBEq, zU_s, zU_k, zU_ne, if_true, if_false, not_true_eq_false, not_false_eq_true, Option.toList_some, Option.toList_none, List.cons_append, List.nil_append, Int.toNat_natCast, and_true, true_and]
  have g1 : ∀ b, b < n → zU P1 n 1 (some (n + 1)) b = P b := fun b hb => by rw [zU_ab _ _ _ (by omega), (f1 b (by omega)).2.2, (f0 b hb).2.2]
  have g2 : zU P1 n 1 (some (n + 1)) n 1 = some (n + 1) := zU_s _ _ _ _
  have b1' : zbuf K1 (zU P1 n 1 (some (n + 1))) (n + 1) := by
    obtain ⟨a1, a2, a3, a4, a5⟩ := b1
    exact ⟨a1, by rw [zU_ne (by omega)]; exact a2, a3, by rw [zU_ne (by omega)]; exact a4, a5⟩
  generalize zU P1 n 1 (some (n + 1)) = P1' at *
  have z10 : K1 n = some (.inl 3) := k1
  simp (disch := first | omega | assumption | exact va_up_self _ _ _ | exact Nat.le_of_ble_eq_true rfl) only [zt_56_20, zt_56_21, zt_56_24, zt_56_25, zt_56_26, zx_const, zx_iload, zx_aload, zx_istore, zx_astore, zx_iinc, zx_add, zx_sub, zx_mul, zx_dup, zx_dup2, zx_pop, zx_cmp, zx_if, zx_goto, zx_ifnull0, zx_ifnull1, zx_ifnn0, zx_ifnn1, zx_null, zx_geti, zx_getr, zx_puti, zx_putr, zx_iald, zx_iast, zx_zald, zx_zast, zx_aald, zx_aast, zx_alen, zx_obj, zx_ret, zx_iret, zx_zret, zx_aret, zo1_s, zo2_s, zget_s, zget_ne, zset_s, zset_ne, zset_0, zc_eq, zc_ne, zc_lt, zc_ge, zc_gt, zc_le, zi_add, zi_sub, zi_mul, zi_lt, zi_le, zi_eq, Nat.reduceBEq, zU_s, zU_k, zU_ne, if_true, if_false, not_true_eq_false, not_false_eq_true, Option.toList_some, Option.toList_none, List.cons_append, List.nil_append, Int.toNat_natCast, and_true, true_and, zcs1_0, zcv1_0, zcs2_0, zcv2_0, zcs3_0, zcv3_0, zcs4_0, zcv4_0, zcs5_0, zcv5_0, zcs6_0, zcv6_0, zcs1_1, zcv1_1, zcs2_1, zcv2_1, zcs3_1, zcv3_1, zcs4_1, zcv4_1, zcs5_1, zcv5_1, zcs6_1, zcv6_1, zcs1_2, zcv1_2, zcs2_2, zcv2_2, zcs3_2, zcv3_2, zcs4_2, zcv4_2, zcs5_2, zcv5_2, zcs6_2, zcv6_2, zcs1_3, zcv1_3, zcs2_3, zcv2_3, zcs3_3, zcv3_3, zcs4_3, zcv4_3, zcs5_3, zcv5_3, zcs6_3, zcv6_3, zcs1_4, zcv1_4, zcs2_4, zcv2_4, zcs3_4, zcv3_4, zcs4_4, zcv4_4, zcs5_4, zcv5_4, zcs6_4, zcv6_4, zx_new, z1]
  refine s_LineN (n := n + 1 + 3) (c := 2) (by omega) r1 (fun K2 J2 P2 f2 b2 v2 r2 => ?_)
  have k2 : K2 n = some (.inl 3) := by rw [(f2 n (by omega)).1]; exact k1
  simp (disch := first | omega | assumption | exact va_up_self _ _ _ | exact Nat.le_of_ble_eq_true rfl) only [zt_56_29, zx_const, zx_iload, zx_aload, zx_istore, zx_astore, zx_iinc, zx_add, zx_sub, zx_mul, zx_dup, zx_dup2, zx_pop, zx_cmp, zx_if, zx_goto, zx_ifnull0, zx_ifnull1, zx_ifnn0, zx_ifnn1, zx_null, zx_geti, zx_getr, zx_puti, zx_putr, zx_iald, zx_iast, zx_zald, zx_zast, zx_aald, zx_aast, zx_alen, zx_obj, zx_ret, zx_iret, zx_zret, zx_aret, zo1_s, zo2_s, zget_s, zget_ne, zset_s, zset_ne, zset_0, zc_eq, zc_ne, zc_lt, zc_ge, zc_gt, zc_le, zi_add, zi_sub, zi_mul, zi_lt, zi_le, zi_eq, Nat.reduceBEq, zU_s, zU_k, zU_ne, if_true, if_false, not_true_eq_false, not_false_eq_true, Option.toList_some, Option.toList_none, List.cons_append, List.nil_append, Int.toNat_natCast, and_true, true_and]
  have h1 : ∀ b, b < n → zU P2 n 2 (some (n + 1 + 3)) b = P b := fun b hb => by rw [zU_ab _ _ _ (by omega), (f2 b (by omega)).2.2, g1 b hb]
  have h2 : zU P2 n 2 (some (n + 1 + 3)) n 1 = some (n + 1) := by rw [zU_k _ _ _ (by decide), (f2 n (by omega)).2.2]; exact g2
  have h3 : zU P2 n 2 (some (n + 1 + 3)) n 2 = some (n + 1 + 3) := zU_s _ _ _ _
  have h4 : ∀ b, n < b → zU P2 n 2 (some (n + 1 + 3)) b = P2 b := fun b hb => zU_ab _ _ _ (by omega)
  generalize zU P2 n 2 (some (n + 1 + 3)) = P2' at *
  simp (disch := first | omega | assumption | exact va_up_self _ _ _ | exact Nat.le_of_ble_eq_true rfl) only [zt_56_32, zt_56_33, zt_56_36, zt_56_37, zt_56_39, zx_const, zx_iload, zx_aload, zx_istore, zx_astore, zx_iinc, zx_add, zx_sub, zx_mul, zx_dup, zx_dup2, zx_pop, zx_cmp, zx_if, zx_goto, zx_ifnull0, zx_ifnull1, zx_ifnn0, zx_ifnn1, zx_null, zx_geti, zx_getr, zx_puti, zx_putr, zx_iald, zx_iast, zx_zald, zx_zast, zx_aald, zx_aast, zx_alen, zx_obj, zx_ret, zx_iret, zx_zret, zx_aret, zo1_s, zo2_s, zget_s, zget_ne, zset_s, zset_ne, zset_0, zc_eq, zc_ne, zc_lt, zc_ge, zc_gt, zc_le, zi_add, zi_sub, zi_mul, zi_lt, zi_le, zi_eq, Nat.reduceBEq, zU_s, zU_k, zU_ne, if_true, if_false, not_true_eq_false, not_false_eq_true, Option.toList_some, Option.toList_none, List.cons_append, List.nil_append, Int.toNat_natCast, and_true, true_and, zcs1_0, zcv1_0, zcs2_0, zcv2_0, zcs3_0, zcv3_0, zcs4_0, zcv4_0, zcs5_0, zcv5_0, zcs6_0, zcv6_0, zcs1_1, zcv1_1, zcs2_1, zcv2_1, zcs3_1, zcv3_1, zcs4_1, zcv4_1, zcs5_1, zcv5_1, zcs6_1, zcv6_1, zcs1_2, zcv1_2, zcs2_2, zcv2_2, zcs3_2, zcv3_2, zcs4_2, zcv4_2, zcs5_2, zcv5_2, zcs6_2, zcv6_2, zcs1_3, zcv1_3, zcs2_3, zcv2_3, zcs3_3, zcv3_3, zcs4_3, zcv4_3, zcs5_3, zcv5_3, zcs6_3, zcv6_3, zcs1_4, zcv1_4, zcs2_4, zcv2_4, zcs3_4, zcv3_4, zcs4_4, zcv4_4, zcs5_4, zcv5_4, zcs6_4, zcv6_4, zx_new, z1]
  refine s_LineN (n := n + 1 + 3 + 2) (c := 8) (by omega) r2 (fun K3 J3 P3 f3 b3 v3 r3 => ?_)
  have k3 : K3 n = some (.inl 3) := by rw [(f3 n (by omega)).1]; exact k2
  simp (disch := first | omega | assumption | exact va_up_self _ _ _ | exact Nat.le_of_ble_eq_true rfl) only [zt_56_42, zx_const, zx_iload, zx_aload, zx_istore, zx_astore, zx_iinc, zx_add, zx_sub, zx_mul, zx_dup, zx_dup2, zx_pop, zx_cmp, zx_if, zx_goto, zx_ifnull0, zx_ifnull1, zx_ifnn0, zx_ifnn1, zx_null, zx_geti, zx_getr, zx_puti, zx_putr, zx_iald, zx_iast, zx_zald, zx_zast, zx_aald, zx_aast, zx_alen, zx_obj, zx_ret, zx_iret, zx_zret, zx_aret, zo1_s, zo2_s, zget_s, zget_ne, zset_s, zset_ne, zset_0, zc_eq, zc_ne, zc_lt, zc_ge, zc_gt, zc_le, zi_add, zi_sub, zi_mul, zi_lt, zi_le, zi_eq, Nat.reduceBEq, zU_s, zU_k, zU_ne, if_true, if_false, not_true_eq_false, not_false_eq_true, Option.toList_some, Option.toList_none, List.cons_append, List.nil_append, Int.toNat_natCast, and_true, true_and]
  have i1 : ∀ b, b < n → zU P3 n 3 (some (n + 1 + 3 + 2)) b = P b := fun b hb => by rw [zU_ab _ _ _ (by omega), (f3 b (by omega)).2.2, h1 b hb]
  have i2 : zU P3 n 3 (some (n + 1 + 3 + 2)) n 1 = some (n + 1) := by rw [zU_k _ _ _ (by decide), (f3 n (by omega)).2.2]; exact h2
  have i3 : zU P3 n 3 (some (n + 1 + 3 + 2)) n 2 = some (n + 1 + 3) := by rw [zU_k _ _ _ (by decide), (f3 n (by omega)).2.2]; exact h3
  have i4 : zU P3 n 3 (some (n + 1 + 3 + 2)) n 3 = some (n + 1 + 3 + 2) := zU_s _ _ _ _
  have i5 : ∀ b, n < b → zU P3 n 3 (some (n + 1 + 3 + 2)) b = P3 b := fun b hb => zU_ab _ _ _ (by omega)
  generalize zU P3 n 3 (some (n + 1 + 3 + 2)) = P3' at *
  simp (disch := first | omega | assumption | exact va_up_self _ _ _ | exact Nat.le_of_ble_eq_true rfl) only [zt_56_45, zt_56_46, zt_56_49, zt_56_50, zt_56_52, zx_const, zx_iload, zx_aload, zx_istore, zx_astore, zx_iinc, zx_add, zx_sub, zx_mul, zx_dup, zx_dup2, zx_pop, zx_cmp, zx_if, zx_goto, zx_ifnull0, zx_ifnull1, zx_ifnn0, zx_ifnn1, zx_null, zx_geti, zx_getr, zx_puti, zx_putr, zx_iald, zx_iast, zx_zald, zx_zast, zx_aald, zx_aast, zx_alen, zx_obj, zx_ret, zx_iret, zx_zret, zx_aret, zo1_s, zo2_s, zget_s, zget_ne, zset_s, zset_ne, zset_0, zc_eq, zc_ne, zc_lt, zc_ge, zc_gt, zc_le, zi_add, zi_sub, zi_mul, zi_lt, zi_le, zi_eq, Nat.reduceBEq, zU_s, zU_k, zU_ne, if_true, if_false, not_true_eq_false, not_false_eq_true, Option.toList_some, Option.toList_none, List.cons_append, List.nil_append, Int.toNat_natCast, and_true, true_and, zcs1_0, zcv1_0, zcs2_0, zcv2_0, zcs3_0, zcv3_0, zcs4_0, zcv4_0, zcs5_0, zcv5_0, zcs6_0, zcv6_0, zcs1_1, zcv1_1, zcs2_1, zcv2_1, zcs3_1, zcv3_1, zcs4_1, zcv4_1, zcs5_1, zcv5_1, zcs6_1, zcv6_1, zcs1_2, zcv1_2, zcs2_2, zcv2_2, zcs3_2, zcv3_2, zcs4_2, zcv4_2, zcs5_2, zcv5_2, zcs6_2, zcv6_2, zcs1_3, zcv1_3, zcs2_3, zcv2_3, zcs3_3, zcv3_3, zcs4_3, zcv4_3, zcs5_3, zcv5_3, zcs6_3, zcv6_3, zcs1_4, zcv1_4, zcs2_4, zcv2_4, zcs3_4, zcv3_4, zcs4_4, zcv4_4, zcs5_4, zcv5_4, zcs6_4, zcv6_4, zx_new, z1]
  refine s_LineN (n := n + 1 + 3 + 2 + 2) (c := 8) (by omega) r3 (fun K4 J4 P4 f4 b4 v4 r4 => ?_)
  have k4 : K4 n = some (.inl 3) := by rw [(f4 n (by omega)).1]; exact k3
  simp (disch := first | omega | assumption | exact va_up_self _ _ _ | exact Nat.le_of_ble_eq_true rfl) only [zt_56_55, zt_56_58, zt_56_59, zt_56_60, zt_56_63, zx_const, zx_iload, zx_aload, zx_istore, zx_astore, zx_iinc, zx_add, zx_sub, zx_mul, zx_dup, zx_dup2, zx_pop, zx_cmp, zx_if, zx_goto, zx_ifnull0, zx_ifnull1, zx_ifnn0, zx_ifnn1, zx_null, zx_geti, zx_getr, zx_puti, zx_putr, zx_iald, zx_iast, zx_zald, zx_zast, zx_aald, zx_aast, zx_alen, zx_obj, zx_ret, zx_iret, zx_zret, zx_aret, zo1_s, zo2_s, zget_s, zget_ne, zset_s, zset_ne, zset_0, zc_eq, zc_ne, zc_lt, zc_ge, zc_gt, zc_le, zi_add, zi_sub, zi_mul, zi_lt, zi_le, zi_eq, Nat.reduceBEq, zU_s, zU_k, zU_ne, if_true, if_false, not_true_eq_false, not_false_eq_true, Option.toList_some, Option.toList_none, List.cons_append, List.nil_append, Int.toNat_natCast, and_true, true_and]
  have up4 : ∀ b, b < n + 1 + 3 + 2 + 2 → P4 b = P3' b := fun b hb => (f4 b hb).2.2
  have kk : ∀ b, b < n + 1 + 3 → K4 b = K1 b := fun b hb => by rw [(f4 b (by omega)).1, (f3 b (by omega)).1, (f2 b (by omega)).1]
  have kk2 : ∀ b, b < n + 1 + 3 + 2 → K4 b = K2 b := fun b hb => by rw [(f4 b (by omega)).1, (f3 b (by omega)).1]
  have kk3 : ∀ b, b < n + 1 + 3 + 2 + 2 → K4 b = K3 b := fun b hb => (f4 b hb).1
  have jj : ∀ b, b < n + 1 + 3 → J4 b = J1 b := fun b hb => by rw [(f4 b (by omega)).2.1, (f3 b (by omega)).2.1, (f2 b (by omega)).2.1]
  have q0 : ∀ b, n < b → zU P4 n 4 (some (n + 1 + 3 + 2 + 2)) b = P4 b := fun b hb => zU_ab _ _ _ (by omega)
  have e31 : n + 1 + 3 + 2 + 2 + 2 = n + 10 := by omega
  have q1 : ∀ b, n < b → b < n + 1 + 3 → zU P4 n 4 (some (n + 1 + 3 + 2 + 2)) b = P1' b := fun b h1' h2' => by rw [q0 b h1', up4 b (by omega), i5 b h1', (f3 b (by omega)).2.2, h4 b h1', (f2 b (by omega)).2.2]
  have hfin := hQ K4 (zU J4 n 5 (-1)) (zU P4 n 4 (some (n + 1 + 3 + 2 + 2))) (fun b hb => ⟨by rw [kk b (by omega), (f1 b (by omega)).1, (f0 b hb).1], by rw [zU_ab _ _ _ (by omega), jj b (by omega), (f1 b (by omega)).2.1, (f0 b hb).2.1], by rw [zU_ab _ _ _ (by omega), up4 b (by omega), i1 b hb]⟩) ?_ ?_ (RG_U r4 (by omega) (by omega))
  · rw [← e31, show w + 39 = w + 6 + 3 + 6 + 2 + 2 + 2 + 8 + 2 + 8 by omega] at hfin
    exact hfin
  · refine ⟨k4, ?_, ?_, ?_, zU_s _ _ _ _, ?_, ?_, ?_, ?_⟩
    · rw [zU_k _ _ _ (by decide), up4 n (by omega)]; exact i2
    · rw [zU_k _ _ _ (by decide), up4 n (by omega)]; exact i3
    · rw [zU_k _ _ _ (by decide), up4 n (by omega)]; exact i4
    · obtain ⟨a1, a2, a3, a4, a5⟩ := b1'
      exact ⟨by rw [kk _ (by omega)]; exact a1, by rw [q1 _ (by omega) (by omega)]; exact a2, by rw [kk _ (by omega)]; exact a3, by rw [q1 _ (by omega) (by omega)]; exact a4, by rw [kk _ (by omega)]; exact a5⟩
    · obtain ⟨a1, a2, a3, a4⟩ := b2
      exact ⟨by rw [kk2 _ (by omega)]; exact a1, by rw [q0 _ (by omega), up4 _ (by omega), i5 _ (by omega), (f3 _ (by omega)).2.2, h4 _ (by omega)]; exact a2, by rw [kk2 _ (by omega)]; exact a3, a4⟩
    · obtain ⟨a1, a2, a3, a4⟩ := b3
      exact ⟨by rw [kk3 _ (by omega)]; exact a1, by rw [q0 _ (by omega), up4 _ (by omega), i5 _ (by omega)]; exact a2, by rw [kk3 _ (by omega)]; exact a3, a4⟩
    · obtain ⟨a1, a2, a3, a4⟩ := b4
      exact ⟨a1, by rw [q0 _ (by omega)]; exact a2, a3, a4⟩
  · refine ⟨?_, zU_s _ _ _ _, ?_, ?_, ?_, ?_⟩
    · rw [zU_k _ _ _ (by decide), jj n (by omega), (f1 n (by omega)).2.1]; exact j0
    · rw [zU_ne (by omega), jj _ (by omega)]; exact v1
    · rw [zU_ne (by omega), (f4 _ (by omega)).2.1, (f3 _ (by omega)).2.1]; exact v2
    · rw [zU_ne (by omega), (f4 _ (by omega)).2.1]; exact v3
    · rw [zU_ne (by omega)]; exact v4
theorem prc_c {K K' : Nat → Option ZK} {P P' : Nat → Nat → Option Nat} {y : Nat} (hK : ∀ a, y ≤ a → a < y + 10 → K' a = K a) (hP : ∀ a, y ≤ a → a < y + 10 → P' a = P a) (h : prc K P y) : prc K' P' y := by
  obtain ⟨ky, py1, py2, py3, py4, ⟨b1, b2, b3, b4, b5⟩, ⟨m1, m2, m3, m4⟩, ⟨q1, q2, q3, q4⟩, ⟨r1, r2, r3, r4⟩⟩ := h
  refine ⟨?_, ?_, ?_, ?_, ?_, ⟨?_, ?_, ?_, ?_, ?_⟩, ⟨?_, ?_, ?_, m4⟩, ⟨?_, ?_, ?_, q4⟩, ⟨?_, ?_, ?_, r4⟩⟩
  · rw [hK _ (by omega) (by omega)]; exact ky
  · rw [hP _ (by omega) (by omega)]; exact py1
  · rw [hP _ (by omega) (by omega)]; exact py2
  · rw [hP _ (by omega) (by omega)]; exact py3
  · rw [hP _ (by omega) (by omega)]; exact py4
  · rw [hK _ (by omega) (by omega)]; exact b1
  · rw [hP _ (by omega) (by omega)]; exact b2
  · rw [hK _ (by omega) (by omega)]; exact b3
  · rw [hP _ (by omega) (by omega)]; exact b4
  · rw [hK _ (by omega) (by omega)]; exact b5
  · rw [hK _ (by omega) (by omega)]; exact m1
  · rw [hP _ (by omega) (by omega)]; exact m2
  · rw [hK _ (by omega) (by omega)]; exact m3
  · rw [hK _ (by omega) (by omega)]; exact q1
  · rw [hP _ (by omega) (by omega)]; exact q2
  · rw [hK _ (by omega) (by omega)]; exact q3
  · rw [hK _ (by omega) (by omega)]; exact r1
  · rw [hP _ (by omega) (by omega)]; exact r2
  · rw [hK _ (by omega) (by omega)]; exact r3
/-- the class's own, with i processors made -/
def KI (k0 : Option ZK) (s : Nat → Int) (i : Nat) (K : Nat → Option ZK) (J : Mem) (P : Nat → Nat → Option Nat) : Prop := K 0 = k0 ∧ J 0 = s ∧ RG J ∧ K 1 = some (.inl 0) ∧ P 1 0 = some 2 ∧ K 2 = some (.inr (2, 8)) ∧ P 1 2 = some 3 ∧ K 3 = some (.inr (3, 4)) ∧ J 1 1 = 0 ∧ ∀ p, p < i → P 3 p = some (4 + 10 * p) ∧ prc K P (4 + 10 * p) ∧ PVAL J (4 + 10 * p) p
theorem KI_c {k0 : Option ZK} {s : Nat → Int} {i : Nat} {K K' : Nat → Option ZK} {J J' : Mem} {P P' : Nat → Nat → Option Nat} (h : KI k0 s i K J P) (hS : SAM (4 + 10 * i) K K' J J' P P') (r : RG J') : KI k0 s i K' J' P' := by
  obtain ⟨h0, h1, h2, h3, h4, h5, h6, h7, h8, h9⟩ := h
  refine ⟨by rw [(hS 0 (by omega)).1]; exact h0, by rw [(hS 0 (by omega)).2.1]; exact h1, r, by rw [(hS 1 (by omega)).1]; exact h3, by rw [(hS 1 (by omega)).2.2]; exact h4, by rw [(hS 2 (by omega)).1]; exact h5, by rw [(hS 1 (by omega)).2.2]; exact h6, by rw [(hS 3 (by omega)).1]; exact h7, by rw [(hS 1 (by omega)).2.1]; exact h8, fun p hp => ?_⟩
  obtain ⟨a1, a2, b1, b2, b3, b4, b5, b6⟩ := h9 p hp
  refine ⟨by rw [(hS 3 (by omega)).2.2]; exact a1, prc_c (fun a g1 g2 => (hS a (by omega)).1) (fun a g1 g2 => (hS a (by omega)).2.2) a2, ?_, ?_, ?_, ?_, ?_, ?_⟩
  · rw [(hS _ (by omega)).2.1]; exact b1
  · rw [(hS _ (by omega)).2.1]; exact b2
  · rw [(hS _ (by omega)).2.1]; exact b3
  · rw [(hS _ (by omega)).2.1]; exact b4
  · rw [(hS _ (by omega)).2.1]; exact b5
  · rw [(hS _ (by omega)).2.1]; exact b6
set_option maxHeartbeats 4000000 in
theorem k_procs {k0 : Option ZK} {s : Nat → Int} (hQ : ∀ K' J' P', KI k0 s 4 K' J' P' → zT (d + 4) 0 53 [(0, .inr (some 1)), (1, .inl (zi 4))] [] (K', zm J', P', 44, w + 39 * 4) Q) : ∀ (m i : Nat) (K : Nat → Option ZK) (J : Mem) (P : Nat → Nat → Option Nat), i + m = 4 → KI k0 s i K J P → zT (d + 4) 0 28 [(0, .inr (some 1)), (1, .inl (zi i))] [] (K, zm J, P, 4 + 10 * i, w + 39 * i) Q := by
  intro m
  induction m with
  | zero =>
    intro i K J P hi hI
    have e : i = 4 := by omega
    subst e
    have c : (4 : Int) ≤ ((4 : Nat) : Int) := by omega
    simp (disch := first | omega | assumption) only [zt_0_28, zt_0_29, zt_0_30, zx_const, zx_iload, zx_aload, zx_istore, zx_astore, zx_iinc, zx_add, zx_sub, zx_mul, zx_dup, zx_dup2, zx_pop, zx_cmp, zx_if, zx_goto, zx_ifnull0, zx_ifnull1, zx_ifnn0, zx_ifnn1, zx_null, zx_geti, zx_getr, zx_puti, zx_putr, zx_iald, zx_iast, zx_zald, zx_zast, zx_aald, zx_aast, zx_alen, zx_obj, zx_ret, zx_iret, zx_zret, zx_aret, zo1_s, zo2_s, zget_s, zget_ne, zset_s, zset_ne, zset_0, zc_eq, zc_ne, zc_lt, zc_ge, zc_gt, zc_le, zi_add, zi_sub, zi_mul, zi_lt, zi_le, zi_eq, Nat.reduceBEq, zU_s, zU_k, zU_ne, if_true, if_false, not_true_eq_false, not_false_eq_true, Option.toList_some, Option.toList_none, List.cons_append, List.nil_append, Int.toNat_natCast, and_true, true_and, c]
    exact hQ K J P hI
  | succ m ih =>
    intro i K J P hi hI
    have hI0 := hI
    obtain ⟨h0, h1, h2, h3, h4, h5, h6, h7, h8, h9⟩ := hI
    have c : ¬ (4 : Int) ≤ (i : Int) := by omega
    have z3 : zfn 3 = 6 := rfl
    have k1' : va_up K (4 + 10 * i) (some (.inl 3)) 1 = some (.inl 0) := by rw [va_up_ne _ _ (by omega)]; exact h3
    have kn' : va_up K (4 + 10 * i) (some (.inl 3)) (4 + 10 * i) = some (.inl 3) := va_up_self _ _ _
    simp (disch := first | omega | assumption | exact va_up_self _ _ _ | exact Nat.le_of_ble_eq_true rfl) only [zt_0_28, zt_0_29, zt_0_30, zt_0_33, zt_0_34, zt_0_37, zt_0_38, zt_0_41, zt_0_42, zt_0_43, zx_const, zx_iload, zx_aload, zx_istore, zx_astore, zx_iinc, zx_add, zx_sub, zx_mul, zx_dup, zx_dup2, zx_pop, zx_cmp, zx_if, zx_goto, zx_ifnull0, zx_ifnull1, zx_ifnn0, zx_ifnn1, zx_null, zx_geti, zx_getr, zx_puti, zx_putr, zx_iald, zx_iast, zx_zald, zx_zast, zx_aald, zx_aast, zx_alen, zx_obj, zx_ret, zx_iret, zx_zret, zx_aret, zo1_s, zo2_s, zget_s, zget_ne, zset_s, zset_ne, zset_0, zc_eq, zc_ne, zc_lt, zc_ge, zc_gt, zc_le, zi_add, zi_sub, zi_mul, zi_lt, zi_le, zi_eq, Nat.reduceBEq, zU_s, zU_k, zU_ne, if_true, if_false, not_true_eq_false, not_false_eq_true, Option.toList_some, Option.toList_none, List.cons_append, List.nil_append, Int.toNat_natCast, and_true, true_and, zcs1_0, zcv1_0, zcs2_0, zcv2_0, zcs3_0, zcv3_0, zcs4_0, zcv4_0, zcs5_0, zcv5_0, zcs6_0, zcv6_0, zcs1_1, zcv1_1, zcs2_1, zcv2_1, zcs3_1, zcv3_1, zcs4_1, zcv4_1, zcs5_1, zcv5_1, zcs6_1, zcv6_1, zcs1_2, zcv1_2, zcs2_2, zcv2_2, zcs3_2, zcv3_2, zcs4_2, zcv4_2, zcs5_2, zcv5_2, zcs6_2, zcv6_2, zcs1_3, zcv1_3, zcs2_3, zcv2_3, zcs3_3, zcv3_3, zcs4_3, zcv4_3, zcs5_3, zcv5_3, zcs6_3, zcv6_3, zcs1_4, zcv1_4, zcs2_4, zcv2_4, zcs3_4, zcv3_4, zcs4_4, zcv4_4, zcs5_4, zcv5_4, zcs6_4, zcv6_4, zx_new, z3, h6, c]
    refine s_ProcN (n := 4 + 10 * i) (w := w + 39 * i) ⟨by omega, by omega⟩ h2 (fun K1 J1 P1 f1 b1 v1 r1 => ?_)
    have hI1 := KI_c hI0 f1 r1
    obtain ⟨g0, g1, g2, g3, g4, g5, g6, g7, g8, g9⟩ := hI1
    have ky := b1.1
    simp (disch := first | omega | assumption | exact va_up_self _ _ _ | exact Nat.le_of_ble_eq_true rfl) only [zt_0_46, zt_0_47, zt_0_50, zx_const, zx_iload, zx_aload, zx_istore, zx_astore, zx_iinc, zx_add, zx_sub, zx_mul, zx_dup, zx_dup2, zx_pop, zx_cmp, zx_if, zx_goto, zx_ifnull0, zx_ifnull1, zx_ifnn0, zx_ifnn1, zx_null, zx_geti, zx_getr, zx_puti, zx_putr, zx_iald, zx_iast, zx_zald, zx_zast, zx_aald, zx_aast, zx_alen, zx_obj, zx_ret, zx_iret, zx_zret, zx_aret, zo1_s, zo2_s, zget_s, zget_ne, zset_s, zset_ne, zset_0, zc_eq, zc_ne, zc_lt, zc_ge, zc_gt, zc_le, zi_add, zi_sub, zi_mul, zi_lt, zi_le, zi_eq, Nat.reduceBEq, zU_s, zU_k, zU_ne, if_true, if_false, not_true_eq_false, not_false_eq_true, Option.toList_some, Option.toList_none, List.cons_append, List.nil_append, Int.toNat_natCast, and_true, true_and]
    have p3 : ∀ a, a ≠ 3 → zU P1 3 i (some (4 + 10 * i)) a = P1 a := fun a ha => zU_ab _ _ _ ha
    have := ih (i + 1) K1 J1 (zU P1 3 i (some (4 + 10 * i))) (by omega) ⟨g0, g1, g2, g3, by rw [p3 1 (by omega)]; exact g4, g5, by rw [p3 1 (by omega)]; exact g6, g7, g8, fun p hp => ?_⟩
    · rw [nat1, show 4 + 10 * (i + 1) = 4 + 10 * i + 10 by omega, show w + 39 * (i + 1) = w + 39 * i + 39 by omega] at this
      exact this
    · by_cases e : p = i
      · subst e
        exact ⟨zU_s _ _ _ _, prc_c (fun a _ _ => rfl) (fun a q1 q2 => p3 a (by omega)) b1, v1⟩
      · obtain ⟨a1, a2, a3⟩ := g9 p (by omega)
        exact ⟨by rw [zU_k _ _ _ e]; exact a1, prc_c (fun a _ _ => rfl) (fun a q1 q2 => p3 a (by omega)) a2, a3⟩
end CI
