/-! Every call of the law, on both sides, from one memory to one memory. -/
def INV (L : Nat) (s : Nat → Int) (c : Nat) (h : ZH) : Prop := ∃ (K : Nat → Option ZK) (Z : Mem) (P : Nat → Nat → Option Nat) (n w nT : Nat) (ta : Nat → Nat) (oa : Nat → Nat → Nat), h = (K, zm Z, P, n, w) ∧ K 0 = some (.inr (9, L)) ∧ Z 0 = s ∧ SH K P n nT ta oa Z ∧ RR (50 * c) nT ta oa Z Z ∧ (∀ u, nT ≤ u → Z 50 u = 0 ∧ Z 51 u = 0 ∧ Z 59 u = 0 ∧ Z 63 u = 0) ∧ n ≤ 79 + 4 * c ∧ w ≤ 10000 + 50 * c
def BOTH (L : Nat) (s : Nat → Int) (c : Nat) (mc mr e : Nat) (Lc Lr : ZL) (h : ZH) : Prop := ∃ (K1 : Nat → Option ZK) (J1 : Mem) (P1 : Nat → Nat → Option Nat) (n1 w1 : Nat) (h2 : ZH) (r : Int32), K1 0 = some (.inr (9, L)) ∧ J1 0 = s ∧ K1 49 = some (.inl 6) ∧ INV L s (c + 1) h2 ∧ (∀ (d : Nat) (Q : Option ZV → ZH → Prop), Q (some (.inl r)) (K1, zm J1, P1, n1, w1) → zT (d + e) mc 0 ((0, .inr (some 1)) :: Lc) [] h Q) ∧ ∀ (d : Nat) (Q : Option ZV → ZH → Prop), Q (some (.inl r)) h2 → zT (d + e) mr 0 ((0, .inr (some 49)) :: Lr) [] (K1, zm J1, P1, n1, w1) Q
section BT
variable {L c : Nat} {s : Nat → Int} {h : ZH} {a b : Int}
theorem INV_up (h0 : INV L s c h) : INV L s (c + 1) h := by
  obtain ⟨K, Z, P, n, w, nT, ta, oa, rfl, k0, z0s, hs, hR, hu, hn, hw⟩ := h0
  exact ⟨K, Z, P, n, w, nT, ta, oa, rfl, k0, z0s, hs, RR_mono hR (by omega), hu, by omega, by omega⟩
theorem B_none {K : Nat → Option ZK} {Z : Mem} {P : Nat → Nat → Option Nat} {n w mc mr e : Nat} {Lc Lr : ZL} (hI : INV L s c (K, zm Z, P, n, w)) (k0 : K 0 = some (.inr (9, L))) (z0s : Z 0 = s) (k49 : K 49 = some (.inl 6)) (r : Int32) (h1 : ∀ (d : Nat) (Q : Option ZV → ZH → Prop), Q (some (.inl r)) (K, zm Z, P, n, w) → zT (d + e) mc 0 ((0, .inr (some 1)) :: Lc) [] (K, zm Z, P, n, w) Q) (h2 : ∀ (d : Nat) (Q : Option ZV → ZH → Prop), Q (some (.inl r)) (K, zm Z, P, n, w) → zT (d + e) mr 0 ((0, .inr (some 49)) :: Lr) [] (K, zm Z, P, n, w) Q) : BOTH L s c mc mr e Lc Lr (K, zm Z, P, n, w) := ⟨K, Z, P, n, w, _, r, k0, z0s, k49, INV_up hI, h1, h2⟩
theorem B_same {mc mr : Nat} {Ls : ZL} (hI : INV L s c h) (hq : ∀ (K : Nat → Option ZK) (Z : Mem) (P : Nat → Nat → Option Nat) (n w B nT : Nat) (ta : Nat → Nat) (oa : Nat → Nat → Nat), SH K P n nT ta oa Z → RR B nT ta oa Z Z → SAME mc mr Ls (K, zm Z, P, n, w)) : BOTH L s c mc mr 6 Ls Ls h := by
  have hI0 := hI
  obtain ⟨K, Z, P, n, w, nT, ta, oa, rfl, k0, z0s, hs, hR, hu, hn, hw⟩ := hI
  obtain ⟨r, h1, h2⟩ := hq K Z P n w (50 * c) nT ta oa hs hR
  exact B_none hI0 k0 z0s hs.2.1.1 r h1 h2
theorem INV_st {K : Nat → Option ZK} {Z J' X' Y' : Mem} {P : Nat → Nat → Option Nat} {n w nT B : Nat} {ta : Nat → Nat} {oa : Nat → Nat → Nat} (k0 : K 0 = some (.inr (9, L))) (z0s : Z 0 = s) (hs : SH K P n nT ta oa Z) (hu : ∀ u, nT ≤ u → Z 50 u = 0 ∧ Z 51 u = 0 ∧ Z 59 u = 0 ∧ Z 63 u = 0) (hn : n ≤ 79 + 4 * c) (hw : w ≤ 10000 + 50 * c) (hR : RR B nT ta oa J' X') (hB : B ≤ 50 * (c + 1)) (x50 : X' 50 = Z 50) (hC : CFR J' Z) (hKP : KP nT X' Z) (h1 : AG Y' X') (h2 : FRm Y' J') : INV L s (c + 1) (K, zm Y', P, n, w) := by
  have hs1 : SH K P n nT ta oa X' := SH_c hs x50
  have y50 : Y' 50 = Z 50 := by rw [h1 50 (by decide) (by decide), x50]
  refine ⟨K, Y', P, n, w, nT, ta, oa, rfl, k0, ?_, SH_c hs y50, RR_mono (RR_one hs1 hR h1 h2) hB, fun u hun => ?_, by omega, by omega⟩
  · rw [h2 0 (by omega), hC 0 (by omega) (by omega)]; exact z0s
  · obtain ⟨e1, e2, e3, e4⟩ := hu u hun
    rw [y50, h1 51 (by decide) (by decide), h1 59 (by decide) (by decide), h1 63 (by decide) (by decide), hKP.1 u hun, hKP.2.1 u hun, hKP.2.2 u hun]
    exact ⟨e1, e2, e3, e4⟩
theorem AG_CF {J Z : Mem} (h : CFR J Z) : AG J Z := fun a h1 h2 => h a (by omega) h2
theorem B_step (hI : INV L s c h) (hc : c ≤ 513) (ha : zr a) : BOTH L s c 8 85 6 [(1, .inl (zi a))] [(1, .inl (zi a))] h := by
  have hI0 := hI
  obtain ⟨K, Z, P, n, w, nT, ta, oa, rfl, k0, z0s, hs, hR, hu, hn, hw⟩ := hI
  by_cases c1 : 0 ≤ a ∧ a < 4
  · obtain ⟨p, rfl⟩ : ∃ p : Nat, a = p := ⟨a.toNat, by omega⟩
    have hp : p < 4 := by omega
    obtain ⟨J', X', v, r1, r2, r3, rK, r4, r5, r6⟩ := st_all (w := w) hs hR hp (by omega)
    have rZ := r1.2.2.2.2.2.2.2.2.2.2.2.2.2.2.2.2.2.2.2
    obtain ⟨Y', v1, v2, v3⟩ := r6 J' (AG_CF r3) rZ.1
    refine ⟨K, J', P, n, w, _, zi v, k0, by rw [r3 0 (by omega) (by omega)]; exact z0s, hs.2.1.1, INV_st k0 z0s hs hu hn hw r1 (by omega) r2 r3 rK v1 v2, fun d Q hQ => ?_, fun d Q hQ => v3 (d + 2) Q hQ⟩
    exact s_step (d := d + 5) hs.1 hp (r5 (d + 1) _ ⟨_, rfl, hQ⟩)
  · exact B_none hI0 k0 z0s hs.2.1.1 (zi (-1)) (fun d Q hQ => s_stepN (d := d + 5) ha c1 hQ) (fun d Q hQ => m_stepN (d := d + 2) hs.2.1 ha c1 hQ)
set_option maxHeartbeats 1000000 in
theorem B_run (hI : INV L s c h) (hc : c ≤ 513) (ha : zr a) (hb : zr b) : BOTH L s c 9 86 6 [(1, .inl (zi a)), (2, .inl (zi b))] [(1, .inl (zi a)), (2, .inl (zi b))] h := by
  have hI0 := hI
  obtain ⟨K, Z, P, n, w, nT, ta, oa, rfl, k0, z0s, hs, hR, hu, hn, hw⟩ := hI
  obtain ⟨b1, b2⟩ := hb
  by_cases c1 : b < 1
  · refine B_none hI0 k0 z0s hs.2.1.1 (zi (-1)) (fun d Q hQ => ?_) (fun d Q hQ => ?_)
    · simp (disch := omega) only [zt_9_0, zt_9_1, zt_9_2, zt_9_5, zt_9_6, zt_9_8, zt_9_11, zt_9_12, zx_const, zx_iload, zx_aload, zx_istore, zx_astore, zx_iinc, zx_add, zx_sub, zx_mul, zx_dup, zx_dup2, zx_pop, zx_cmp, zx_if, zx_goto, zx_ifnull0, zx_ifnull1, zx_ifnn0, zx_ifnn1, zx_null, zx_geti, zx_getr, zx_puti, zx_putr, zx_iald, zx_iast, zx_zald, zx_zast, zx_aald, zx_aast, zx_alen, zx_obj, zx_ret, zx_iret, zx_zret, zx_aret, zo1_s, zo2_s, zget_s, zget_ne, zset_s, zset_ne, zset_0, zc_eq, zc_ne, zc_lt, zc_ge, zc_gt, zc_le, zi_add, zi_sub, zi_mul, zi_lt, zi_le, zi_eq, Nat.reduceBEq, zU_s, zU_k, zU_ne, if_true, if_false, not_true_eq_false, not_false_eq_true, Option.toList_some, Option.toList_none, List.cons_append, List.nil_append, Int.toNat_natCast, and_true, true_and, c1]
      exact hQ
    · simp (disch := omega) only [zt_86_0, zt_86_1, zt_86_2, zt_86_5, zt_86_6, zt_86_8, zt_86_11, zt_86_12, zx_const, zx_iload, zx_aload, zx_istore, zx_astore, zx_iinc, zx_add, zx_sub, zx_mul, zx_dup, zx_dup2, zx_pop, zx_cmp, zx_if, zx_goto, zx_ifnull0, zx_ifnull1, zx_ifnn0, zx_ifnn1, zx_null, zx_geti, zx_getr, zx_puti, zx_putr, zx_iald, zx_iast, zx_zald, zx_zast, zx_aald, zx_aast, zx_alen, zx_obj, zx_ret, zx_iret, zx_zret, zx_aret, zo1_s, zo2_s, zget_s, zget_ne, zset_s, zset_ne, zset_0, zc_eq, zc_ne, zc_lt, zc_ge, zc_gt, zc_le, zi_add, zi_sub, zi_mul, zi_lt, zi_le, zi_eq, Nat.reduceBEq, zU_s, zU_k, zU_ne, if_true, if_false, not_true_eq_false, not_false_eq_true, Option.toList_some, Option.toList_none, List.cons_append, List.nil_append, Int.toNat_natCast, and_true, true_and, c1]
      exact hQ
  · by_cases c2 : b ≤ 16
    · obtain ⟨k, rfl⟩ : ∃ k : Nat, b = k := ⟨b.toNat, by omega⟩
      obtain ⟨J', X', v, r1, r2, r3, rK, r5, r6⟩ := run_loop (w := w) (k := k) (x := zi a) (by omega) k 0 (50 * c) 0 Z Z (by omega) (by omega) (by omega) hs hR (by omega)
      have rZ := r1.2.2.2.2.2.2.2.2.2.2.2.2.2.2.2.2.2.2.2
      obtain ⟨Y', v1, v2, v3⟩ := r6 J' (AG_CF r3) rZ.1
      refine ⟨K, J', P, n, w, _, zi v, k0, by rw [r3 0 (by omega) (by omega)]; exact z0s, hs.2.1.1, INV_st k0 z0s hs hu hn hw r1 (by omega) r2 r3 rK v1 v2, fun d Q hQ => ?_, fun d Q hQ => ?_⟩
      · simp (disch := omega) only [zt_9_0, zt_9_1, zt_9_2, zt_9_5, zt_9_6, zt_9_8, zt_9_13, zt_9_14, zt_9_15, zt_9_16, zx_const, zx_iload, zx_aload, zx_istore, zx_astore, zx_iinc, zx_add, zx_sub, zx_mul, zx_dup, zx_dup2, zx_pop, zx_cmp, zx_if, zx_goto, zx_ifnull0, zx_ifnull1, zx_ifnn0, zx_ifnn1, zx_null, zx_geti, zx_getr, zx_puti, zx_putr, zx_iald, zx_iast, zx_zald, zx_zast, zx_aald, zx_aast, zx_alen, zx_obj, zx_ret, zx_iret, zx_zret, zx_aret, zo1_s, zo2_s, zget_s, zget_ne, zset_s, zset_ne, zset_0, zc_eq, zc_ne, zc_lt, zc_ge, zc_gt, zc_le, zi_add, zi_sub, zi_mul, zi_lt, zi_le, zi_eq, Nat.reduceBEq, zU_s, zU_k, zU_ne, if_true, if_false, not_true_eq_false, not_false_eq_true, Option.toList_some, Option.toList_none, List.cons_append, List.nil_append, Int.toNat_natCast, and_true, true_and, c1, c2]
        exact r5 (d + 1) [] Q (fun v => zset_0) hQ
      · simp (disch := omega) only [zt_86_0, zt_86_1, zt_86_2, zt_86_5, zt_86_6, zt_86_8, zt_86_13, zt_86_14, zt_86_15, zt_86_16, zx_const, zx_iload, zx_aload, zx_istore, zx_astore, zx_iinc, zx_add, zx_sub, zx_mul, zx_dup, zx_dup2, zx_pop, zx_cmp, zx_if, zx_goto, zx_ifnull0, zx_ifnull1, zx_ifnn0, zx_ifnn1, zx_null, zx_geti, zx_getr, zx_puti, zx_putr, zx_iald, zx_iast, zx_zald, zx_zast, zx_aald, zx_aast, zx_alen, zx_obj, zx_ret, zx_iret, zx_zret, zx_aret, zo1_s, zo2_s, zget_s, zget_ne, zset_s, zset_ne, zset_0, zc_eq, zc_ne, zc_lt, zc_ge, zc_gt, zc_le, zi_add, zi_sub, zi_mul, zi_lt, zi_le, zi_eq, Nat.reduceBEq, zU_s, zU_k, zU_ne, if_true, if_false, not_true_eq_false, not_false_eq_true, Option.toList_some, Option.toList_none, List.cons_append, List.nil_append, Int.toNat_natCast, and_true, true_and, c1, c2]
        exact v3 (d + 1) [] Q (fun v => zset_0) hQ
    · refine B_none hI0 k0 z0s hs.2.1.1 (zi (-1)) (fun d Q hQ => ?_) (fun d Q hQ => ?_)
      · simp (disch := omega) only [zt_9_0, zt_9_1, zt_9_2, zt_9_5, zt_9_6, zt_9_8, zt_9_11, zt_9_12, zx_const, zx_iload, zx_aload, zx_istore, zx_astore, zx_iinc, zx_add, zx_sub, zx_mul, zx_dup, zx_dup2, zx_pop, zx_cmp, zx_if, zx_goto, zx_ifnull0, zx_ifnull1, zx_ifnn0, zx_ifnn1, zx_null, zx_geti, zx_getr, zx_puti, zx_putr, zx_iald, zx_iast, zx_zald, zx_zast, zx_aald, zx_aast, zx_alen, zx_obj, zx_ret, zx_iret, zx_zret, zx_aret, zo1_s, zo2_s, zget_s, zget_ne, zset_s, zset_ne, zset_0, zc_eq, zc_ne, zc_lt, zc_ge, zc_gt, zc_le, zi_add, zi_sub, zi_mul, zi_lt, zi_le, zi_eq, Nat.reduceBEq, zU_s, zU_k, zU_ne, if_true, if_false, not_true_eq_false, not_false_eq_true, Option.toList_some, Option.toList_none, List.cons_append, List.nil_append, Int.toNat_natCast, and_true, true_and, c1, c2]
        exact hQ
      · simp (disch := omega) only [zt_86_0, zt_86_1, zt_86_2, zt_86_5, zt_86_6, zt_86_8, zt_86_11, zt_86_12, zx_const, zx_iload, zx_aload, zx_istore, zx_astore, zx_iinc, zx_add, zx_sub, zx_mul, zx_dup, zx_dup2, zx_pop, zx_cmp, zx_if, zx_goto, zx_ifnull0, zx_ifnull1, zx_ifnn0, zx_ifnn1, zx_null, zx_geti, zx_getr, zx_puti, zx_putr, zx_iald, zx_iast, zx_zald, zx_zast, zx_aald, zx_aast, zx_alen, zx_obj, zx_ret, zx_iret, zx_zret, zx_aret, zo1_s, zo2_s, zget_s, zget_ne, zset_s, zset_ne, zset_0, zc_eq, zc_ne, zc_lt, zc_ge, zc_gt, zc_le, zi_add, zi_sub, zi_mul, zi_lt, zi_le, zi_eq, Nat.reduceBEq, zU_s, zU_k, zU_ne, if_true, if_false, not_true_eq_false, not_false_eq_true, Option.toList_some, Option.toList_none, List.cons_append, List.nil_append, Int.toNat_natCast, and_true, true_and, c1, c2]
        exact hQ
set_option maxHeartbeats 2000000 in
theorem B_thread (hI : INV L s c h) (hc : c ≤ 513) (ha : zr a) : BOTH L s c 1 68 6 [(1, .inl (zi a))] [(1, .inl (zi a))] h := by
  have hI0 := hI
  obtain ⟨K, Z, P, n, w, nT, ta, oa, rfl, k0, z0s, hs, hR, hu, hn, hw⟩ := hI
  have h11 := hR.1.1
  have h490 := hR.1.2.1
  have n8 := hs.2.2.1
  have n79 := hs.2.2.2.1
  by_cases c1 : (0 ≤ a ∧ a < 4) ∧ nT < 8
  · obtain ⟨c1, c2⟩ := c1
    obtain ⟨p, rfl⟩ : ∃ p : Nat, a = p := ⟨a.toNat, by omega⟩
    have hp : p < 4 := by omega
    have rZ := hR.2.2.2.2.2.2.2.2.2.2.2.2.2.2.2.2.2.2.2
    obtain ⟨u50, u51, u59, u63⟩ := hu nT (Nat.le_refl _)
    have kk : ∀ a, a < n → thK (va_up K n (some (.inl 5))) (n + 1) a = K a := fun a ha => by
      unfold thK; rw [va_up_ne _ _ (by omega), va_up_ne _ _ (by omega), va_up_ne _ _ (by omega), va_up_ne _ _ (by omega)]
    have kn0 : thK (va_up K n (some (.inl 5))) (n + 1) n = some (.inl 5) := by
      unfold thK; rw [va_up_ne _ _ (by omega), va_up_ne _ _ (by omega), va_up_ne _ _ (by omega), va_up_self]
    have kn1 : thK (va_up K n (some (.inl 5))) (n + 1) (n + 1) = some (.inr (4, 10)) := by
      unfold thK; rw [va_up_ne _ _ (by omega), va_up_ne _ _ (by omega), va_up_self]
    have kn2 : thK (va_up K n (some (.inl 5))) (n + 1) (n + 2) = some (.inl 1) := by
      unfold thK; rw [va_up_ne _ _ (by omega), show n + 2 = n + 1 + 1 from rfl, va_up_self]
    have kn3 : thK (va_up K n (some (.inl 5))) (n + 1) (n + 2 + 1) = some (.inr (0, 4)) := by
      unfold thK; rw [show n + 2 + 1 = n + 1 + 1 + 1 from rfl, va_up_self]
    have jj : ∀ a, a ≠ 1 → a < n → zU (thJ (va_up Z n (fun _ => 0)) n (n + 1) nT p) 1 1 (nT + 1) a = Z a := fun a h1 ha => by
      unfold thJ thJ0
      rw [zU_ab _ _ _ h1, zU_ab _ _ _ (by omega), zU_ab _ _ _ (by omega), zU_ab _ _ _ (by omega), zU_ab _ _ _ (by omega), zU_ab _ _ _ (by omega), zU_ab _ _ _ (by omega), zU_ab _ _ _ (by omega), zU_ab _ _ _ (by omega), va_up_ne _ _ (by omega), va_up_ne _ _ (by omega), va_up_ne _ _ (by omega), zU_ab _ _ _ (by omega), zU_ab _ _ _ (by omega), va_up_ne _ _ (by omega)]
    have jhi : ∀ a, n + 4 ≤ a → zU (thJ (va_up Z n (fun _ => 0)) n (n + 1) nT p) 1 1 (nT + 1) a = Z a := fun a ha => by
      unfold thJ thJ0
      rw [zU_ab _ _ _ (by omega), zU_ab _ _ _ (by omega), zU_ab _ _ _ (by omega), zU_ab _ _ _ (by omega), zU_ab _ _ _ (by omega), zU_ab _ _ _ (by omega), zU_ab _ _ _ (by omega), zU_ab _ _ _ (by omega), zU_ab _ _ _ (by omega), va_up_ne _ _ (by omega), va_up_ne _ _ (by omega), va_up_ne _ _ (by omega), zU_ab _ _ _ (by omega), zU_ab _ _ _ (by omega), va_up_ne _ _ (by omega)]
    have j1k : ∀ k, k ≠ 1 → zU (thJ (va_up Z n (fun _ => 0)) n (n + 1) nT p) 1 1 (nT + 1) 1 k = Z 1 k := fun k h1 => by
      unfold thJ thJ0
      rw [zU_k _ _ _ h1, zU_ne (by omega), zU_ne (by omega), zU_ne (by omega), zU_ne (by omega), zU_ne (by omega), zU_ne (by omega), zU_ne (by omega), zU_ne (by omega), va_up_ne _ _ (by omega), va_up_ne _ _ (by omega), va_up_ne _ _ (by omega), zU_ne (by omega), zU_ne (by omega), va_up_ne _ _ (by omega)]
    have jn0 : zU (thJ (va_up Z n (fun _ => 0)) n (n + 1) nT p) 1 1 (nT + 1) n 0 = nT := by
      unfold thJ thJ0
      rw [zU_ne (by omega), zU_k _ _ _ (by decide), zU_k _ _ _ (by decide), zU_k _ _ _ (by decide), zU_k _ _ _ (by decide), zU_k _ _ _ (by decide), zU_k _ _ _ (by decide), zU_k _ _ _ (by decide), zU_ne (by omega), va_up_ne _ _ (by omega), va_up_ne _ _ (by omega), va_up_ne _ _ (by omega), zU_k _ _ _ (by decide), zU_s]
    have jn4 : zU (thJ (va_up Z n (fun _ => 0)) n (n + 1) nT p) 1 1 (nT + 1) n 4 = p := by
      unfold thJ thJ0
      rw [zU_ne (by omega), zU_k _ _ _ (by decide), zU_k _ _ _ (by decide), zU_k _ _ _ (by decide), zU_k _ _ _ (by decide), zU_k _ _ _ (by decide), zU_k _ _ _ (by decide), zU_k _ _ _ (by decide), zU_ne (by omega), va_up_ne _ _ (by omega), va_up_ne _ _ (by omega), va_up_ne _ _ (by omega), zU_s]
    have jn2 : zU (thJ (va_up Z n (fun _ => 0)) n (n + 1) nT p) 1 1 (nT + 1) n 2 = 0 := by
      unfold thJ
      rw [zU_ne (by omega), zU_k _ _ _ (by decide), zU_k _ _ _ (by decide), zU_k _ _ _ (by decide), zU_k _ _ _ (by decide), zU_k _ _ _ (by decide), zU_k _ _ _ (by decide), zU_s]
    have jn3 : zU (thJ (va_up Z n (fun _ => 0)) n (n + 1) nT p) 1 1 (nT + 1) n 3 = 0 := by
      unfold thJ
      rw [zU_ne (by omega), zU_k _ _ _ (by decide), zU_k _ _ _ (by decide), zU_k _ _ _ (by decide), zU_k _ _ _ (by decide), zU_k _ _ _ (by decide), zU_s]
    have jn8 : zU (thJ (va_up Z n (fun _ => 0)) n (n + 1) nT p) 1 1 (nT + 1) n 8 = 0 := by
      unfold thJ
      rw [zU_ne (by omega), zU_k _ _ _ (by decide), zU_s]
    have jk1 : zU (thJ (va_up Z n (fun _ => 0)) n (n + 1) nT p) 1 1 (nT + 1) (n + 2) 1 = 0 := by
      unfold thJ thJ0
      rw [zU_ne (by omega), zU_ne (by omega), zU_ne (by omega), zU_ne (by omega), zU_ne (by omega), zU_ne (by omega), zU_ne (by omega), zU_ne (by omega), show n + 2 = n + 1 + 1 from rfl, zU_s]
    have rJ0 : RG (va_up Z n (fun _ => 0)) := fun x j => by
      by_cases e : x = n
      · subst e; rw [va_up_self]; omega
      · rw [va_up_ne _ _ e]; exact rZ.1 x j
    have rup : ∀ (M : Mem) (x : Nat), RG M → RG (va_up M x (fun _ => 0)) := fun M x hM y j => by
      by_cases e : y = x
      · subst e; rw [va_up_self]; omega
      · rw [va_up_ne _ _ e]; exact hM y j
    have rJ : RG (zU (thJ (va_up Z n (fun _ => 0)) n (n + 1) nT p) 1 1 (nT + 1)) := by
      unfold thJ thJ0
      refine RG_U (RG_U (RG_U (RG_U (RG_U (RG_U (RG_U (RG_U (RG_U (rup _ _ (rup _ _ (rup _ _ (RG_U (RG_U rJ0 ?_ ?_) ?_ ?_)))) ?_ ?_) ?_ ?_) ?_ ?_) ?_ ?_) ?_ ?_) ?_ ?_) ?_ ?_) ?_ ?_) ?_ ?_ <;> omega
    have pp0 : ∀ a, a < n → a ≠ 2 → zU (thP (va_up P n (fun _ => none)) n (n + 1)) 2 nT (some n) a = P a := fun a ha h2 => by
      unfold thP
      rw [zU_ab _ _ _ h2, zU_ab _ _ _ (by omega), zU_ab _ _ _ (by omega), va_up_ne _ _ (by omega), va_up_ne _ _ (by omega), zU_ab _ _ _ (by omega), va_up_ne _ _ (by omega), va_up_ne _ _ (by omega)]
    have pp2 : ∀ k, k ≠ nT → zU (thP (va_up P n (fun _ => none)) n (n + 1)) 2 nT (some n) 2 k = P 2 k := fun k hk => by
      unfold thP
      rw [zU_k _ _ _ hk, zU_ne (by omega), zU_ne (by omega), va_up_ne _ _ (by omega), va_up_ne _ _ (by omega), zU_ne (by omega), va_up_ne _ _ (by omega), va_up_ne _ _ (by omega)]
    have ppn : zU (thP (va_up P n (fun _ => none)) n (n + 1)) 2 nT (some n) 2 nT = some n := zU_s _ _ _ _
    have pn1 : zU (thP (va_up P n (fun _ => none)) n (n + 1)) 2 nT (some n) n 1 = some (n + 1) := by
      unfold thP
      rw [zU_ne (by omega), zU_k _ _ _ (by decide), zU_ne (by omega), va_up_ne _ _ (by omega), va_up_ne _ _ (by omega), zU_s]
    have pn10 : zU (thP (va_up P n (fun _ => none)) n (n + 1)) 2 nT (some n) n 10 = some (n + 2) := by
      unfold thP
      rw [zU_ne (by omega), zU_s]
    have pn2 : zU (thP (va_up P n (fun _ => none)) n (n + 1)) 2 nT (some n) (n + 2) 0 = some (n + 2 + 1) := by
      unfold thP
      rw [zU_ne (by omega), zU_ne (by omega), show n + 2 = n + 1 + 1 from rfl, zU_s]
    have j11 : zU (thJ (va_up Z n (fun _ => 0)) n (n + 1) nT p) 1 1 (nT + 1) 1 1 = nT + 1 := zU_s _ _ _ _
    have hz : ztask (thK (va_up K n (some (.inl 5))) (n + 1)) (zU (thP (va_up P n (fun _ => none)) n (n + 1)) 2 nT (some n)) n := ⟨kn0, pn1, kn1, pn10, kn2, pn2, kn3, by omega⟩
    have hcl : ∀ (d : Nat) (Q : Option ZV → ZH → Prop), Q (some (.inl (zi nT))) (thK (va_up K n (some (.inl 5))) (n + 1), zm (zU (thJ (va_up Z n (fun _ => 0)) n (n + 1) nT p) 1 1 (nT + 1)), zU (thP (va_up P n (fun _ => none)) n (n + 1)) 2 nT (some n), n + 4, w + 27) → zT (d + 6) 1 0 [(0, .inr (some 1)), (1, .inl (zi p))] [] (K, zm Z, P, n, w) Q := fun d Q hQ => s_thread (d := d + 2) hs.1 h11 ha n79 c1 c2 hQ
    generalize zU (thJ (va_up Z n (fun _ => 0)) n (n + 1) nT p) 1 1 (nT + 1) = J1 at *
    generalize zU (thP (va_up P n (fun _ => none)) n (n + 1)) 2 nT (some n) = P1 at *
    generalize thK (va_up K n (some (.inl 5))) (n + 1) = K1 at *
    have hX : ∀ b, ¬ (b = 57 ∨ b = 58 ∨ b = 49) → zU (zU (zU Z 57 nT p) 58 nT 0) 49 0 (nT + 1) b = Z b := fun b hb => by rw [zU_ab _ _ _ (by omega), zU_ab _ _ _ (by omega), zU_ab _ _ _ (by omega)]
    have ht1 : (fun u => if u = nT then n else ta u) nT = n := if_pos rfl
    have ht2 : ∀ u, u < nT → (fun u => if u = nT then n else ta u) u = ta u := fun u hu => if_neg (by omega)
    have hR1 := S_thr (p := p) (J' := J1) (X' := zU (zU (zU Z 57 nT p) 58 nT 0) 49 0 (nT + 1)) (ta' := fun u => if u = nT then n else ta u) hs hR hp (fun a h => by
      by_cases e : a < n
      · exact jj a (by omega) e
      · exact jhi a (by omega)) j11 j1k jn0 jn2 jn3 jn4 jn8 jk1 hX (fun b u hb hu => by rw [zU_ne hb, zU_u hu, zU_u hu]) (fun k hk => by rw [zU_k _ _ _ hk, zU_ne (by decide), zU_ne (by decide)]) (zU_s _ _ _ _) (by rw [zU_ne (by decide), zU_ne (by decide), zU_s]) (by rw [zU_ne (by decide), zU_s]) u50 u51 u59 u63 ht1 ht2 ⟨rJ, RG_U (RG_U (RG_U rZ.1 (by omega) (by omega)) (by omega) (by omega)) (by omega) (by omega)⟩
    have hs1 := SH_thr (X' := zU (zU (zU Z 57 nT p) 58 nT 0) 49 0 (nT + 1)) (K' := K1) (P' := P1) (ta' := fun u => if u = nT then n else ta u) hs c2 kk pp0 pp2 ppn hz (hX 50 (by omega)) u50 ht1 ht2
    have jz : ∀ b, 49 ≤ b → b ≤ 78 → J1 b = Z b := fun b h1 h2 => jj b (by omega) (by omega)
    have aY : AG (zU (zU (zU J1 57 nT p) 58 nT 0) 49 0 (nT + 1)) (zU (zU (zU Z 57 nT p) 58 nT 0) 49 0 (nT + 1)) := AG_U (AG_U (AG_U jz rfl) rfl) rfl
    have fY : FRm (zU (zU (zU J1 57 nT p) 58 nT 0) 49 0 (nT + 1)) J1 := FR_U (FR_U (FR_U (FR_r J1) (by omega) (by omega)) (by omega) (by omega)) (by omega) (by omega)
    have yb : ∀ b, ¬ (b = 57 ∨ b = 58 ∨ b = 49) → 49 ≤ b → b ≤ 78 → zU (zU (zU J1 57 nT p) 58 nT 0) 49 0 (nT + 1) b = Z b := fun b hb h1 h2 => by rw [aY b h1 h2, hX b hb]
    refine ⟨K1, J1, P1, n + 4, w + 27, (K1, zm (zU (zU (zU J1 57 nT p) 58 nT 0) 49 0 (nT + 1)), P1, n + 4, w + 27), zi nT, by rw [kk 0 (by omega)]; exact k0, by rw [jj 0 (by omega) (by omega)]; exact z0s, by rw [kk 49 (by omega)]; exact hs.2.1.1, ⟨K1, _, P1, n + 4, w + 27, nT + 1, _, oa, rfl, by rw [kk 0 (by omega)]; exact k0, by rw [fY 0 (by omega), jj 0 (by omega) (by omega)]; exact z0s, SH_c hs1 (by rw [yb 50 (by omega) (by omega) (by omega), hX 50 (by omega)]), RR_mono (RR_one hs1 hR1 aY fY) (by omega), fun u hun => ?_, by omega, by omega⟩, hcl, fun d Q hQ => ?_⟩
    · rw [yb 50 (by omega) (by omega) (by omega), yb 51 (by omega) (by omega) (by omega), yb 59 (by omega) (by omega) (by omega), yb 63 (by omega) (by omega) (by omega)]
      exact hu u (by omega)
    · exact m_thread (d := d + 2) hs1.2.1 (by rw [jz 49 (by omega) (by omega)]; exact h490) ha c1 c2 hQ
  · have hor : ¬ (0 ≤ a ∧ a < 4) ∨ nT = 8 := by omega
    exact B_none hI0 k0 z0s hs.2.1.1 (zi (-1)) (fun d Q hQ => s_threadN (d := d + 2) hs.1 h11 n8 ha hor hQ) (fun d Q hQ => m_threadN (d := d + 2) hs.2.1 h490 n8 ha hor hQ)
theorem zU_comm {M : Mem} {a b k l : Nat} {x y : Int} (h : a ≠ b) : zU (zU M a k x) b l y = zU (zU M b l y) a k x := by
  funext e j
  by_cases h1 : e = a
  · subst h1
    rw [zU_ne h]
    by_cases h2 : j = k
    · subst h2; rw [zU_s, zU_s]
    · rw [zU_k _ _ _ h2, zU_k _ _ _ h2, zU_ne h]
  · rw [zU_ne (b := e) (a := a) h1]
    by_cases h3 : e = b
    · subst h3
      by_cases h2 : j = l
      · subst h2; rw [zU_s, zU_s]
      · rw [zU_k _ _ _ h2, zU_k _ _ _ h2, zU_ne h1]
    · rw [zU_ne h3, zU_ne h3, zU_ne h1]
theorem be_U {M : Mem} {t a k : Nat} {x y : Int} (h : ¬ (a = 60 ∨ a = 62 ∨ a = 63 ∨ a = 64 ∨ a = 65 ∨ a = 67)) : beJ (zU M a k y) t x = zU (beJ M t x) a k y := by
  unfold beJ
  rw [zU_comm (a := a) (b := 60) (by omega), zU_comm (a := a) (b := 62) (by omega), zU_comm (a := a) (b := 63) (by omega), zU_comm (a := a) (b := 64) (by omega), zU_comm (a := a) (b := 67) (by omega), zU_comm (a := a) (b := 65) (by omega)]
theorem be_en {M : Mem} {t : Nat} {x : Int} : beJ (enJ M t) t x = enJ (beJ M t x) t := by
  have e : beJ M t x 49 11 = M 49 11 := by unfold beJ; rw [zU_ne (by decide), zU_ne (by decide), zU_ne (by decide), zU_ne (by decide), zU_ne (by decide), zU_ne (by decide)]
  unfold enJ
  rw [be_U (by omega), be_U (by omega), be_U (by omega), e]
theorem zfp_k {k : Int} (h0 : 0 ≤ k) (h5 : k ≤ 5) : (zfp k < 10 ∨ zfp k = 15) ∧ 0 ≤ zfp k ∧ zfp k ≤ 15 := by unfold zfp; split <;> (try split) <;> omega
set_option maxHeartbeats 4000000 in
theorem B_ord {k x m v x' m' v' : Int} (hI : INV L s c h) (hc : c ≤ 513) (ha : zr a) (hk0 : 0 ≤ k) (hk5 : k ≤ 5) (hx : zr x) (hm : zr m) (hv : zr v) (hx' : zr x') (hm' : zr m') (hv' : zr v') (ho5 : k = 5 → v = x' ∧ 0 ≤ x' ∧ x' < 4) (ho : ¬ k = 5 → x = x' ∧ m = m' ∧ v = v' ∧ 1 ≤ m' ∧ m' ≤ 4 ∧ 0 ≤ x' ∧ x' + m' ≤ 16) (ho2 : k = 2 → v' = 0 ∨ v' = 1) : BOTH L s c 24 69 4 [(1, .inl (zi a)), (2, .inl (zi k)), (3, .inl (zi x)), (4, .inl (zi m)), (5, .inl (zi v))] [(1, .inl (zi a)), (2, .inl (zi k)), (3, .inl (zi x')), (4, .inl (zi m')), (5, .inl (zi v'))] h := by
  have hI0 := hI
  obtain ⟨K, Z, P, n, w, nT, ta, oa, rfl, k0, z0s, hs, hR, hu, hn, hw⟩ := hI
  have h11 := hR.1.1
  have h490 := hR.1.2.1
  have n8 := hs.2.2.1
  have n79 := hs.2.2.2.1
  have rN := hR.2.2.2.2.1
  by_cases c1 : ∃ t : Nat, a = t ∧ t < nT ∧ Z 50 t < 10
  · obtain ⟨t, rfl, ht, h50⟩ := c1
    obtain ⟨n1, n2, n3, n4, n5, n6⟩ := rN t ht
    obtain ⟨cc, hcc⟩ : ∃ cc : Nat, Z 50 t = cc := ⟨(Z 50 t).toNat, by omega⟩
    have hc10 : cc < 10 := by omega
    obtain ⟨t1, t2, t3, t4⟩ := hs.2.2.2.2.1 t ht
    obtain ⟨hF, hT⟩ := RF_of hR ht
    have hT' := hT
    obtain ⟨T1, T2, T3, T4, T5⟩ := hT
    have hH := hR.2.2.2.2.2.2.1 t ht
    have rQ := hR.2.2.2.2.2.2.2.2.1.1
    have rZ := hR.2.2.2.2.2.2.2.2.2.2.2.2.2.2.2.2.2.2.2
    have s7 := hs.2.2.2.2.2.2.1 t ht
    have kk : ∀ a, a ≠ n → va_up K n (some (.inl 4)) a = K a := fun a ha => va_up_ne _ _ ha
    have kn : va_up K n (some (.inl 4)) n = some (.inl 4) := va_up_self _ _ _
    have jj : ∀ a, a ≠ n → a ≠ ta t → apJ Z n (ta t) k x m v a = Z a := fun a h1 h2 => by
      unfold apJ odJ; rw [zU_ab _ _ _ h2, zU_ab _ _ _ h1, zU_ab _ _ _ h1, zU_ab _ _ _ h1, zU_ab _ _ _ h1, zU_ab _ _ _ h1, va_up_ne _ _ h1]
    have jt2 : apJ Z n (ta t) k x m v (ta t) 2 = cc + 1 := by unfold apJ; rw [zU_s]; omega
    have jtk : ∀ i, i ≠ 2 → apJ Z n (ta t) k x m v (ta t) i = Z (ta t) i := fun i hi => by
      unfold apJ odJ; rw [zU_k _ _ _ hi, zU_ne (by omega), zU_ne (by omega), zU_ne (by omega), zU_ne (by omega), zU_ne (by omega), va_up_ne _ _ (by omega)]
    have jo : apJ Z n (ta t) k x m v n 0 = k ∧ apJ Z n (ta t) k x m v n 1 = x ∧ apJ Z n (ta t) k x m v n 2 = m ∧ apJ Z n (ta t) k x m v n 3 = v := by
      unfold apJ odJ
      refine ⟨?_, ?_, ?_, ?_⟩
      · rw [zU_ne (by omega), zU_k _ _ _ (by decide), zU_k _ _ _ (by decide), zU_k _ _ _ (by decide), zU_k _ _ _ (by decide), zU_s]
      · rw [zU_ne (by omega), zU_k _ _ _ (by decide), zU_k _ _ _ (by decide), zU_k _ _ _ (by decide), zU_s]
      · rw [zU_ne (by omega), zU_k _ _ _ (by decide), zU_k _ _ _ (by decide), zU_s]
      · rw [zU_ne (by omega), zU_k _ _ _ (by decide), zU_s]
    have rA : RG (apJ Z n (ta t) k x m v) := by
      unfold apJ odJ
      refine RG_U (RG_U (RG_U (RG_U (RG_U (RG_U (fun y j => ?_) ?_ ?_) hx.1 hx.2) hm.1 hm.2) hv.1 hv.2) ?_ ?_) ?_ ?_
      · by_cases e : y = n
        · subst e; rw [va_up_self]; omega
        · rw [va_up_ne _ _ e]; exact rZ.1 y j
      all_goals omega
    have ap1 : apP P n (ta t) cc (ta t + 1) cc = some n := by unfold apP; exact zU_s _ _ _ _
    have ap2 : ∀ i, i ≠ cc → apP P n (ta t) cc (ta t + 1) i = P (ta t + 1) i := fun i hi => by unfold apP; rw [zU_k _ _ _ hi, va_up_ne _ _ (by omega)]
    have ap3 : ∀ a, ¬ (a = n ∨ a = ta t + 1) → apP P n (ta t) cc a = P a := fun a ha => by unfold apP; rw [zU_ab _ _ _ (by omega), va_up_ne _ _ (by omega)]
    have oX : ∀ b, ¬ (b = 50 ∨ b = 52 ∨ b = 53 ∨ b = 54 ∨ b = 55) → orJ Z t cc k x' m' v' b = Z b := fun b hb => by
      unfold orJ; rw [zU_ab _ _ _ (by omega), zU_ab _ _ _ (by omega), zU_ab _ _ _ (by omega), zU_ab _ _ _ (by omega), zU_ab _ _ _ (by omega)]
    have oXi : ∀ b i, b ≠ 50 → i ≠ 10 * t + cc → orJ Z t cc k x' m' v' b i = Z b i := fun b i hb hi => by
      unfold orJ; rw [zU_ne hb, zU_u hi, zU_u hi, zU_u hi, zU_u hi]
    have o50 : orJ Z t cc k x' m' v' 50 t = cc + 1 := by unfold orJ; exact zU_s _ _ _ _
    have o50u : ∀ u, u ≠ t → orJ Z t cc k x' m' v' 50 u = Z 50 u := fun u hu => by
      unfold orJ; rw [zU_k _ _ _ hu, zU_ne (by decide), zU_ne (by decide), zU_ne (by decide), zU_ne (by decide)]
    have o52 : orJ Z t cc k x' m' v' 52 (10 * t + cc) = k ∧ orJ Z t cc k x' m' v' 53 (10 * t + cc) = x' ∧ orJ Z t cc k x' m' v' 54 (10 * t + cc) = m' ∧ orJ Z t cc k x' m' v' 55 (10 * t + cc) = v' := by
      unfold orJ
      refine ⟨?_, ?_, ?_, ?_⟩
      · rw [zU_ne (by decide), zU_ne (by decide), zU_ne (by decide), zU_ne (by decide), zU_s]
      · rw [zU_ne (by decide), zU_ne (by decide), zU_ne (by decide), zU_s]
      · rw [zU_ne (by decide), zU_ne (by decide), zU_s]
      · rw [zU_ne (by decide), zU_s]
    have rX : RG (orJ Z t cc k x' m' v') := by
      unfold orJ
      exact RG_U (RG_U (RG_U (RG_U (RG_U rZ.1 (by omega) (by omega)) hx'.1 hx'.2) hm'.1 hm'.2) hv'.1 hv'.2) (by omega) (by omega)
    have jz : AG (apJ Z n (ta t) k x m v) Z := fun b h1 h2 => jj b (by omega) (by omega)
    have hnew : ∃ oa' : Nat → Nat → Nat, oa' t cc = n ∧ ∀ u i, ¬ (u = t ∧ i = cc) → oa' u i = oa u i := ⟨fun u i => if u = t ∧ i = cc then n else oa u i, if_pos ⟨rfl, rfl⟩, fun u i h => if_neg h⟩
    obtain ⟨oa', ho1, hoo⟩ := hnew
    have hOR : OR (apJ Z n (ta t) k x m v) (orJ Z t cc k x' m' v') n (10 * t + cc) := by
      unfold OR
      obtain ⟨a1, a2, a3, a4⟩ := jo
      obtain ⟨b1, b2, b3, b4⟩ := o52
      rw [a1, a2, a3, a4, b1, b2, b3, b4]
      exact ⟨rfl, hk0, hk5, ho5, ho, ho2⟩
    have h58c : Z 58 t = 0 ∨ Z 51 t < cc := by
      by_cases e : Z 58 t = 0
      · exact Or.inl e
      · have : ¬ Z 51 t = Z 50 t := fun q => e (T1.1.mpr q)
        clear T1 hH
        right; omega
    have hA := S_app (c := cc) (J' := apJ Z n (ta t) k x m v) (X' := orJ Z t cc k x' m' v') (oa' := oa') hs hF ht hcc hc10 h58c (fun a h => jj a (fun q => h (Or.inl q)) (fun q => h (Or.inr q))) jt2 jtk oX oXi o50 o50u hOR ho1 hoo ⟨rA, rX⟩
    have hsA : ∀ X', X' 50 = orJ Z t cc k x' m' v' 50 → SH (va_up K n (some (.inl 4))) (apP P n (ta t) cc) (n + 1) nT ta oa' X' := fun X' e => SH_app (X' := X') (c := cc) hs ht hcc kk kn ap3 ap1 ap2 (by rw [e]; exact o50) (fun u hu => by rw [e]; exact o50u u hu) ho1 hoo
    have fin : ∀ (J1 X' Y : Mem), RR (50 * c + 1) nT ta oa' J1 X' → X' 50 = orJ Z t cc k x' m' v' 50 → AG Y X' → FRm Y J1 → J1 0 = Z 0 → (∀ u, nT ≤ u → X' 51 u = Z 51 u ∧ X' 59 u = Z 59 u ∧ X' 63 u = Z 63 u) → INV L s (c + 1) (va_up K n (some (.inl 4)), zm Y, apP P n (ta t) cc, n + 1, w + 5) := fun J1 X' Y r1 r2 r3 r4 r5 r6 => by
      have y50 : Y 50 = orJ Z t cc k x' m' v' 50 := by rw [r3 50 (by decide) (by decide), r2]
      refine ⟨_, Y, _, n + 1, w + 5, nT, ta, oa', rfl, by rw [kk 0 (by omega)]; exact k0, by rw [r4 0 (by omega), r5]; exact z0s, hsA Y y50, RR_mono (RR_one (hsA X' r2) r1 r3 r4) (by omega), fun u hun => ?_, by omega, by omega⟩
      obtain ⟨q1, q2, q3, q4⟩ := hu u hun
      obtain ⟨p1, p2, p3⟩ := r6 u hun
      rw [y50, r3 51 (by decide) (by decide), r3 59 (by decide) (by decide), r3 63 (by decide) (by decide), p1, p2, p3, o50u u (by omega)]
      exact ⟨q1, q2, q3, q4⟩
    have h5750 : ∃ hh : Nat, Z 57 t = hh ∧ hh < 4 := ⟨(Z 57 t).toNat, by clear T1; omega, by clear T1; omega⟩
    obtain ⟨hh, hhe, hh4⟩ := h5750
    have aga : ∀ Y, AG Y Z → AG (orJ Y t cc k x' m' v') (orJ Z t cc k x' m' v') := fun Y hY => AG_U (AG_U (AG_U (AG_U (AG_U hY rfl) rfl) rfl) rfl) rfl
    have fra : ∀ Y, FRm (orJ Y t cc k x' m' v') Y := fun Y => FR_U (FR_U (FR_U (FR_U (FR_U (FR_r Y) (by omega) (by omega)) (by omega) (by omega)) (by omega) (by omega)) (by omega) (by omega)) (by omega) (by omega)
    have hm1 := (hsA _ rfl).2.1
    by_cases c5 : Z 58 t = 0
    · have e51 : Z 51 t = Z 50 t := T1.1.mp c5
      have e4 : Z (ta t) 4 = hh := by rw [T1.2 c5]; exact hhe
      clear T1 hH
      have hnm : ∀ q : Nat, q < 4 → Z 77 q = 1 → Z 78 q = t → False := fun q hq a b => (T5 q hq a b).1 c5
      have h63 : Z 63 t = 0 := by
        have rA' := hR.2.2.2.2.2.2.2.2.2.2.2.2.2.2.2.1 t ht
        have h0 : ∀ i, i ≤ 4 → cnF (oal Z t) i = 0 := fun i => by
          induction i with
          | zero => intro _; rfl
          | succ i ih =>
            intro hi
            have := cnF_f (al := oal Z t) (k := i) (fun h => hnm i (by omega) h.1 h.2)
            have := ih (by omega)
            omega
        rw [rA'.2, h0 4 (by omega)]; rfl
      obtain ⟨zf1, zf2, zf3⟩ := zfp_k hk0 hk5
      obtain ⟨b1, b60, b62, b64, b65, b67, bX⟩ := S_begin0 (x := zfp k) (hsA _ rfl) hA ht (by rw [oX 63 (by omega)]; exact h63) (by rw [oX 58 (by omega)]; exact c5) zf1 zf2
      obtain ⟨q1, q2⟩ := rQ hh hh4
      have q3 := SL_len nT _ q1
      rw [ln_len] at q3
      have q4 := cnF_lt (al := qal Z hh) (i := t) (N := nT) ht (fun q => by have := q.1; omega)
      have jb8 : ∀ i, zU (zU (zU (apJ Z n (ta t) k x m v) (ta t) 9 0) (ta t) 5 (zfp k)) (ta t) 6 0 (4 + 10 * hh + 8) i = Z (4 + 10 * hh + 8) i := fun i => by
        rw [zU_ne (by omega), zU_ne (by omega), zU_ne (by omega), jj _ (by omega) (by omega)]
      have hE := S_enq (q := hh) (hsA _ (bX 50 (by omega))) b1 ht (by omega) (by rw [bX 58 (by omega), oX 58 (by omega)]; exact c5) hh4 (by rw [bX 57 (by omega), oX 57 (by omega)]; exact hhe) (by rw [b60]; omega) (by rw [jb8]; omega)
      have hX' : zU (zU (zU (beJ (orJ Z t cc k x' m' v') t (zfp k)) 58 t 1) 49 11 (beJ (orJ Z t cc k x' m' v') t (zfp k) 49 11 + 1)) 59 t (beJ (orJ Z t cc k x' m' v') t (zfp k) 49 11 + 1) = beJ (enJ (orJ Z t cc k x' m' v') t) t (zfp k) := by rw [be_en]; rfl
      rw [hX'] at hE
      have eX : ∀ b, ¬ (b = 49 ∨ b = 58 ∨ b = 59) → beJ (enJ (orJ Z t cc k x' m' v') t) t (zfp k) b = beJ (orJ Z t cc k x' m' v') t (zfp k) b := fun b hb => by
        rw [be_en]; unfold enJ; rw [zU_ab _ _ _ (by omega), zU_ab _ _ _ (by omega), zU_ab _ _ _ (by omega)]
      have eX58 : beJ (enJ (orJ Z t cc k x' m' v') t) t (zfp k) 58 t = 1 := by
        rw [be_en]; unfold enJ; rw [zU_ne (by decide), zU_ne (by decide), zU_s]
      have eX59 : ∀ u, u ≠ t → beJ (enJ (orJ Z t cc k x' m' v') t) t (zfp k) 59 u = Z 59 u := fun u hu => by
        rw [be_en]; unfold enJ; rw [zU_k _ _ _ hu, zU_ne (by decide), zU_ne (by decide), bX 59 (by omega), oX 59 (by omega)]
      have hJ1t : ∀ i, adJ (zU (zU (zU (apJ Z n (ta t) k x m v) (ta t) 9 0) (ta t) 5 (zfp k)) (ta t) 6 0) (4 + 10 * hh + 8) t (ta t) i = zU (zU (zU (apJ Z n (ta t) k x m v) (ta t) 9 0) (ta t) 5 (zfp k)) (ta t) 6 0 (ta t) i := fun i => adJ_ne (by omega) (by omega)
      have hoi : oi (beJ (enJ (orJ Z t cc k x' m' v') t) t (zfp k)) t = 10 * t + cc := by
        unfold oi; rw [eX 51 (by omega), bX 51 (by omega), oX 51 (by omega), e51, hcc]; omega
      have hTT : TT nT t ta (adJ (zU (zU (zU (apJ Z n (ta t) k x m v) (ta t) 9 0) (ta t) 5 (zfp k)) (ta t) 6 0) (4 + 10 * hh + 8) t) (beJ (enJ (orJ Z t cc k x' m' v') t) t (zfp k)) := by
        have e52 : beJ (enJ (orJ Z t cc k x' m' v') t) t (zfp k) 52 (10 * t + cc) = k := by rw [eX 52 (by omega), bX 52 (by omega)]; exact o52.1
        refine TT_new (by rw [eX58]; omega) ?_ ?_ ?_ ?_ ?_ ?_ ?_ ?_ ?_ ?_ ?_ (fun q hq a b => ?_)
        · rw [eX 51 (by omega), eX 50 (by omega), bX 51 (by omega), bX 50 (by omega), oX 51 (by omega), o50, e51, hcc]; omega
        · rw [hJ1t, zU_k _ _ _ (by decide), zU_s, eX 60 (by omega), b60]
        · rw [hoi, e52, eX 60 (by omega), b60]
        · rw [hoi, e52]; exact hk0
        · rw [hoi, e52]; exact hk5
        · rw [hJ1t, zU_s]
        · rw [eX 62 (by omega), b62]
        · rw [hJ1t, zU_k _ _ _ (by decide), zU_k _ _ _ (by decide), zU_s]
        · rw [eX 64 (by omega), b64]
        · rw [eX 65 (by omega), b65]
        · rw [eX 67 (by omega), b67]
        · rw [eX 77 (by omega), bX 77 (by omega), oX 77 (by omega)] at a
          rw [eX 78 (by omega), bX 78 (by omega), oX 78 (by omega)] at b
          exact hnm q hq a b
      have hRR := RR_of hE ht hTT
      have jz1 : AG (adJ (zU (zU (zU (apJ Z n (ta t) k x m v) (ta t) 9 0) (ta t) 5 (zfp k)) (ta t) 6 0) (4 + 10 * hh + 8) t) Z := fun b h1 h2 => by
        funext i; rw [adJ_ne (by omega) (by omega), zU_ne (by omega), zU_ne (by omega), zU_ne (by omega), jz b h1 h2]
      have j10 : adJ (zU (zU (zU (apJ Z n (ta t) k x m v) (ta t) 9 0) (ta t) 5 (zfp k)) (ta t) 6 0) (4 + 10 * hh + 8) t 0 = Z 0 := by
        funext i; rw [adJ_ne (by omega) (by omega), zU_ne (by omega), zU_ne (by omega), zU_ne (by omega), jj 0 (by omega) (by omega)]
      have rJ1 := hRR.2.2.2.2.2.2.2.2.2.2.2.2.2.2.2.2.2.2.2.1
      have hcl : ∀ (d : Nat) (Q : Option ZV → ZH → Prop), Q (some (.inl (zi cc))) (va_up K n (some (.inl 4)), zm (adJ (zU (zU (zU (apJ Z n (ta t) k x m v) (ta t) 9 0) (ta t) 5 (zfp k)) (ta t) 6 0) (4 + 10 * hh + 8) t), apP P n (ta t) cc, n + 1, w + 5) → zT (d + 4) 24 0 [(0, .inr (some 1)), (1, .inl (zi t)), (2, .inl (zi k)), (3, .inl (zi x)), (4, .inl (zi m)), (5, .inl (zi v))] [] (K, zm Z, P, n, w) Q := fun d Q hQ => s_addOrder (nT := nT) (T := ta t) (c := cc) (h := hh) hs.1 n79 h11 n8 ht t1 t2 t3 t4 (by omega) (by omega) (by omega) hc10 (fun q => by omega) ⟨by omega, by omega⟩ (fun _ => ⟨e4, hh4, q2, by omega⟩) n1 (fun q => by omega) (fun _ => hQ)
      generalize adJ (zU (zU (zU (apJ Z n (ta t) k x m v) (ta t) 9 0) (ta t) 5 (zfp k)) (ta t) 6 0) (4 + 10 * hh + 8) t = J1 at *
      have j49 : J1 49 = Z 49 := jz1 49 (by decide) (by decide)
      refine ⟨_, J1, _, n + 1, w + 5, (_, zm (beJ (enJ (orJ J1 t cc k x' m' v') t) t (zfp k)), _, n + 1, w + 5), zi cc, by rw [kk 0 (by omega)]; exact k0, by rw [j10]; exact z0s, by rw [kk 49 (by omega)]; exact hs.2.1.1, fin J1 _ _ hRR (by rw [eX 50 (by omega), bX 50 (by omega)]) (AG_be ?_ rfl) (FR_be ?_) j10 (fun u hun => ⟨by rw [eX 51 (by omega), bX 51 (by omega), oX 51 (by omega)], eX59 u (by omega), by rw [eX 63 (by omega), bX 63 (by omega), oX 63 (by omega)]⟩), hcl, fun d Q hQ => ?_⟩
      · have g := aga J1 jz1
        unfold enJ
        exact AG_U (AG_U (AG_U g rfl) (by rw [g 49 (by decide) (by decide)])) (by rw [g 49 (by decide) (by decide)])
      · unfold enJ
        exact FR_U (FR_U (FR_U (fra J1) (by omega) (by omega)) (by omega) (by omega)) (by omega) (by omega)
      · exact m_order (d := d) (nT := nT) (c := cc) hm1 rJ1 (by rw [j49]; exact h490) n8 ht (by rw [jz1 50 (by decide) (by decide)]; exact hcc) hc10 hk0 hk5 (fun _ => by rw [jz1 51 (by decide) (by decide), e51]; exact hcc) (fun q => absurd (by rw [jz1 58 (by decide) (by decide)]; exact c5) q) (fun _ => hQ)
    · have hlt : Z 51 t < cc := h58c.resolve_left c5
      clear hH
      obtain ⟨q1, q2⟩ := rQ hh hh4
      have q3 := SL_len nT _ q1
      rw [ln_len] at q3
      have hoiz : oi Z t ≠ 10 * t + cc := by unfold oi; clear T1; omega
      have hoi : oi (orJ Z t cc k x' m' v') t = oi Z t := oi_c (by rw [oX 51 (by omega)])
      have T3' := T3 c5
      have hTT : TT nT t ta (apJ Z n (ta t) k x m v) (orJ Z t cc k x' m' v') := by
        refine ⟨⟨⟨fun q => ?_, fun q => ?_⟩, fun q => ?_⟩, fun _ => ?_, fun _ => ?_, fun _ q1 q2 => ?_, fun q hq a b => ?_⟩
        · rw [oX 58 (by omega)] at q; exact absurd q c5
        · rw [oX 51 (by omega), o50] at q; clear T1; omega
        · rw [oX 58 (by omega)] at q; exact absurd q c5
        · rw [hoi]
          exact TH_c (T2 c5) (jtk 5 (by decide)) (jtk 6 (by decide)) (jtk 7 (by decide)) (jtk 9 (by decide)) (by rw [oX 49 (by omega)]; exact Int.le_refl _) (by rw [oX 49 (by omega)]) (oXi 52 _ (by decide) hoiz) (oXi 54 _ (by decide) hoiz) (by rw [oX 58 (by omega)]) (by rw [oX 60 (by omega)]) (by rw [oX 61 (by omega)]) (by rw [oX 62 (by omega)]) (by rw [oX 64 (by omega)]) (by rw [oX 65 (by omega)]) (by rw [oX 67 (by omega)]) (fun _ q => by rw [oX 72 (by omega), oX 57 (by omega), oXi 53 _ (by decide) hoiz]; exact q)
        · unfold tD at T3' ⊢
          rw [oX 58 (by omega), oX 60 (by omega), oX 61 (by omega)]; exact T3'
        · rw [oX 60 (by omega)] at q1
          rw [hoi, oXi 52 _ (by decide) hoiz] at q2
          rw [hoi, oXi 54 _ (by decide) hoiz, oX 62 (by omega), oX 57 (by omega), hhe, Int.toNat_natCast, jj (4 + 10 * hh + 4) (by omega) (by omega), jj 44 (by omega) (by omega)]
          have := T4 c5 q1 q2
          rw [hhe, Int.toNat_natCast] at this
          exact this
        · rw [oX 77 (by omega)] at a
          rw [oX 78 (by omega)] at b
          rw [oX 58 (by omega), oX 60 (by omega), oX 62 (by omega)]
          exact T5 q hq a b
      clear T1
      have hRR := RR_mono (RR_of hA ht hTT) (Nat.le_succ (50 * c))
      have rJ1 := hRR.2.2.2.2.2.2.2.2.2.2.2.2.2.2.2.2.2.2.2.1
      have hcl : ∀ (d : Nat) (Q : Option ZV → ZH → Prop), Q (some (.inl (zi cc))) (va_up K n (some (.inl 4)), zm (apJ Z n (ta t) k x m v), apP P n (ta t) cc, n + 1, w + 5) → zT (d + 4) 24 0 [(0, .inr (some 1)), (1, .inl (zi t)), (2, .inl (zi k)), (3, .inl (zi x)), (4, .inl (zi m)), (5, .inl (zi v))] [] (K, zm Z, P, n, w) Q := fun d Q hQ => s_addOrder (nT := nT) (T := ta t) (c := cc) (h := hh) hs.1 n79 h11 n8 ht t1 t2 t3 t4 (by omega) (by omega) (by omega) hc10 (fun _ e => by
        have := (s7 (Z (ta t) 3).toNat (by omega)).1
        rw [this] at e; cases e) ⟨by omega, by omega⟩ (fun q => by omega) n1 (fun _ => hQ) (fun q => by omega)
      have j10 : apJ Z n (ta t) k x m v 0 = Z 0 := jj 0 (by omega) (by omega)
      generalize apJ Z n (ta t) k x m v = J1 at *
      have j49 : J1 49 = Z 49 := jz 49 (by decide) (by decide)
      refine ⟨_, J1, _, n + 1, w + 5, (_, zm (orJ J1 t cc k x' m' v'), _, n + 1, w + 5), zi cc, by rw [kk 0 (by omega)]; exact k0, by rw [j10]; exact z0s, by rw [kk 49 (by omega)]; exact hs.2.1.1, fin J1 _ _ hRR rfl (aga J1 jz) (fra J1) j10 (fun u hun => ⟨by rw [oX 51 (by omega)], by rw [oX 59 (by omega)], by rw [oX 63 (by omega)]⟩), hcl, fun d Q hQ => ?_⟩
      exact m_order (d := d) (nT := nT) (c := cc) hm1 rJ1 (by rw [j49]; exact h490) n8 ht (by rw [jz 50 (by decide) (by decide)]; exact hcc) hc10 hk0 hk5 (fun q => absurd (by rw [← jz 58 (by decide) (by decide)]; exact q) c5) (fun _ => hQ) (fun q => absurd (by rw [← jz 58 (by decide) (by decide)]; exact q) c5)
  · exact B_none hI0 k0 z0s hs.2.1.1 (zi (-1)) (fun d Q hQ => s_addOrderN (nT := nT) hs.1 h11 n8 ha (fun t e ht => by
      obtain ⟨n1, n2, n3, n4, n5, n6⟩ := rN t ht
      obtain ⟨t1, t2, t3, t4⟩ := hs.2.2.2.2.1 t ht
      have : ¬ Z 50 t < 10 := fun q => c1 ⟨t, e, ht, q⟩
      exact ⟨ta t, t1, t2.1, by omega⟩) hQ) (fun d Q hQ => m_orderN (nT := nT) hs.2.1 h490 n8 ha (fun t e ht => by
      obtain ⟨n1, n2, n3, n4, n5, n6⟩ := rN t ht
      have : ¬ Z 50 t < 10 := fun q => c1 ⟨t, e, ht, q⟩
      omega) hQ)
end BT
