/-! The walk in integers: zi x is the int of value x; a store of integers zm J. -/
def zi (x : Int) : Int32 := Int32.ofInt x
def zr (x : Int) : Prop := -2147483648 ≤ x ∧ x < 2147483648
theorem zi_add (x y : Int) : zi x + zi y = zi (x + y) := (Int32.ofInt_add x y).symm
theorem zi_sub (x y : Int) : zi x - zi y = zi (x - y) := (Int32.ofInt_sub x y).symm
theorem zi_mul (x y : Int) : zi x * zi y = zi (x * y) := (Int32.ofInt_mul x y).symm
theorem zi_to {x : Int} (h : zr x) : (zi x).toInt = x := Int32.toInt_ofInt_of_le (by have := h.1; omega) (by have := h.2; omega)
theorem zi_of (x : Int32) : x = zi x.toInt := (Int32.ofInt_toInt x).symm
theorem zr_of (x : Int32) : zr x.toInt := ⟨Int32.le_toInt x, Int32.toInt_lt x⟩
theorem zi_lt {x y : Int} (x1 : -2147483648 ≤ x) (x2 : x < 2147483648) (y1 : -2147483648 ≤ y) (y2 : y < 2147483648) : (zi x < zi y) = (x < y) := by rw [Int32.lt_iff_toInt_lt, zi_to ⟨x1, x2⟩, zi_to ⟨y1, y2⟩]
theorem zi_le {x y : Int} (x1 : -2147483648 ≤ x) (x2 : x < 2147483648) (y1 : -2147483648 ≤ y) (y2 : y < 2147483648) : (zi x ≤ zi y) = (x ≤ y) := by rw [Int32.le_iff_toInt_le, zi_to ⟨x1, x2⟩, zi_to ⟨y1, y2⟩]
theorem zi_eq {x y : Int} (x1 : -2147483648 ≤ x) (x2 : x < 2147483648) (y1 : -2147483648 ≤ y) (y2 : y < 2147483648) : (zi x = zi y) = (x = y) := by
  have hx : zr x := ⟨x1, x2⟩
  have hy : zr y := ⟨y1, y2⟩
  apply propext
  constructor
  · intro h
    rw [← zi_to hx, ← zi_to hy, h]
  · intro h; rw [h]
theorem zi_clamp {x : Int} (hx : zr x) : (zi x).toNatClampNeg = x.toNat := Int32.toNatClampNeg_ofInt_of_le (by have := hx.1; omega) (by have := hx.2; omega)
theorem zi_0 : zi 0 = 0 := rfl
theorem zi_1 : zi 1 = 1 := rfl
theorem zi_in {x : Int} {n : Nat} (h0 : 0 ≤ x) (h1 : x < n) (hn : n < 2147483648) : zin (zi x) n = true := by
  have hr : zr x := ⟨by omega, by omega⟩
  apply decide_eq_true
  rw [zi_clamp hr, show ((zi x < 0) = (x < 0)) by rw [← zi_0, zi_lt hr.1 hr.2 (by decide) (by decide)]]
  omega
theorem zi_nat (n : Nat) : Int32.ofNat n = zi n := Int32.ofInt_eq_ofNat.symm
def zm (J : Nat → Nat → Int) : Nat → Nat → Int32 := fun a k => zi (J a k)
theorem zm_U (J : Nat → Nat → Int) (a k : Nat) (x : Int) : zU (zm J) a k (zi x) = zm (zU J a k x) := by
  funext b j
  by_cases hb : b = a
  · by_cases hj : j = k <;> simp [zU, zm, hb, hj]
  · simp [zU, zm, hb]
theorem zm_new (J : Nat → Nat → Int) (n : Nat) : va_up (zm J) n (fun _ => (0 : Int32)) = zm (va_up J n (fun _ => 0)) := by
  funext b j
  by_cases hb : b = n
  · subst hb; simp [va_up, zm, zi_0]
  · simp [va_up, zm, hb]
theorem zm_at (J : Nat → Nat → Int) (a k : Nat) : zm J a k = zi (J a k) := rfl
/-! Walking in the small machine: zT d M pc L st h Q: from there it ends, and Q holds of answer and heap. Every row is an equation, for simp. -/
def zT (d M pc : Nat) (L : ZL) (st : List ZV) (h : ZH) (Q : Option ZV → ZH → Prop) : Prop := ∃ (n : Nat) (r : Option ZV) (h' : ZH), zev zcd zfn n d M pc L st h = some (r, h') ∧ Q r h'
def zX (q : Option (ZI × Nat)) (d M : Nat) (L : ZL) (st : List ZV) (h : ZH) (Q : Option ZV → ZH → Prop) : Prop := ∃ (n : Nat) (r : Option ZV) (h' : ZH), zb zfn (zev zcd zfn n) q d M L st h = some (r, h') ∧ Q r h'
theorem zT_eq {d M pc : Nat} {L : ZL} {st : List ZV} {h : ZH} {Q : Option ZV → ZH → Prop} {q : Option (ZI × Nat)} (hq : zcd M pc = q) : zT d M pc L st h Q = zX q d M L st h Q := by
  subst hq
  apply propext
  constructor
  · rintro ⟨n, r, h', e, hQ⟩
    cases n with
    | zero => cases e
    | succ n => exact ⟨n, r, h', e, hQ⟩
  · rintro ⟨n, r, h', e, hQ⟩
    exact ⟨n + 1, r, h', e, hQ⟩
theorem zT_mono {d M pc : Nat} {L : ZL} {st : List ZV} {h : ZH} {Q Q' : Option ZV → ZH → Prop} (t : zT d M pc L st h Q) (hQ : ∀ r h', Q r h' → Q' r h') : zT d M pc L st h Q' := by
  obtain ⟨n, r, h', e, q⟩ := t
  exact ⟨n, r, h', e, hQ r h' q⟩
def zno (k : Nat) : Prop := k ≠ 40 ∧ k ≠ 41 ∧ k ≠ 50 ∧ k ≠ 51 ∧ k ≠ 52
section ZW
variable {d M nx a b : Nat} {x0 : Int} {f : List Nat} {L : ZL} {st : List ZV} {h : ZH} {Q : Option ZV → ZH → Prop} {K : Nat → Option ZK} {J : Nat → Nat → Int} {P : Nat → Nat → Option Nat} {n w : Nat}
theorem zX_st {i : ZI} {pc' : Nat} {L' : ZL} {st' : List ZV} {h' : ZH} (hi : zno i.1) (hz : zst zfn i nx L st h = some (pc', L', st', h')) : zX (some (i, nx)) d M L st h Q = zT d M pc' L' st' h' Q := by
  obtain ⟨h1, h2, h3, h4, h5⟩ := hi
  have hh : ∀ k, zb zfn (zev zcd zfn k) (some (i, nx)) d M L st h = zev zcd zfn k d M pc' L' st' h' := fun k => by
    unfold zb
    dsimp only
    rw [if_neg h1, if_neg h2, if_neg h3, if_neg h4, if_neg h5, hz]
  unfold zX zT
  simp only [hh]
def zo1 (o : Option ZV) (k : Int32 → Prop) : Prop := ∃ x, o = some (.inl x) ∧ k x
def zo2 (o : Option ZV) (k : Option Nat → Prop) : Prop := ∃ x, o = some (.inr x) ∧ k x
theorem zo1_s {x : Int32} {k : Int32 → Prop} : zo1 (some (.inl x)) k = k x := propext ⟨fun ⟨_, e, q⟩ => by cases e; exact q, fun q => ⟨_, rfl, q⟩⟩
theorem zo2_s {x : Option Nat} {k : Option Nat → Prop} : zo2 (some (.inr x)) k = k x := propext ⟨fun ⟨_, e, q⟩ => by cases e; exact q, fun q => ⟨_, rfl, q⟩⟩
theorem zget_s {i : Nat} {v : ZV} : zget ((i, v) :: L) i = some v := by simp [zget]
theorem zget_n {i j : Nat} {v : ZV} (hj : (j == i) = false) : zget ((j, v) :: L) i = zget L i := by simp [zget, hj]
theorem zset_s {i : Nat} {u v : ZV} : zset ((i, u) :: L) i v = (i, v) :: L := by simp [zset]
theorem zset_n {i j : Nat} {u v : ZV} (hj : (j == i) = false) : zset ((j, u) :: L) i v = (j, u) :: zset L i v := by
  have h : ¬ j = i := by simpa using hj
  simp [zset, h]
theorem zset_0 {i : Nat} {v : ZV} : zset [] i v = [(i, v)] := rfl
theorem zx_const : zX (some ((0, a, b, x0, f), nx)) d M L st h Q = zT d M nx L (.inl (zi x0) :: st) h Q := zX_st (by simp [zno]) (by simp [zst, zi])
theorem zx_iload : zX (some ((1, a, b, x0, f), nx)) d M L st h Q = zo1 (zget L a) (fun x => zT d M nx L (.inl x :: st) h Q) := by
  cases hg : zget L a with
  | none =>
    apply propext
    constructor
    · rintro ⟨n, r, h', e, -⟩; simp [zb, zst, hg] at e
    · rintro ⟨x, e, -⟩; cases e
  | some v =>
    cases v with
    | inl x => rw [zo1_s]; exact zX_st (by simp [zno]) (by simp [zst, hg])
    | inr x =>
      apply propext
      constructor
      · rintro ⟨n, r, h', e, -⟩; simp [zb, zst, hg] at e
      · rintro ⟨x, e, -⟩; cases e
theorem zx_aload : zX (some ((2, a, b, x0, f), nx)) d M L st h Q = zo2 (zget L a) (fun x => zT d M nx L (.inr x :: st) h Q) := by
  cases hg : zget L a with
  | none =>
    apply propext
    constructor
    · rintro ⟨n, r, h', e, -⟩; simp [zb, zst, hg] at e
    · rintro ⟨x, e, -⟩; cases e
  | some v =>
    cases v with
    | inr x => rw [zo2_s]; exact zX_st (by simp [zno]) (by simp [zst, hg])
    | inl x =>
      apply propext
      constructor
      · rintro ⟨n, r, h', e, -⟩; simp [zb, zst, hg] at e
      · rintro ⟨x, e, -⟩; cases e
theorem zx_istore {x : Int32} : zX (some ((3, a, b, x0, f), nx)) d M L (.inl x :: st) h Q = zT d M nx (zset L a (.inl x)) st h Q := zX_st (by simp [zno]) (by simp [zst])
theorem zx_astore {x : Option Nat} : zX (some ((4, a, b, x0, f), nx)) d M L (.inr x :: st) h Q = zT d M nx (zset L a (.inr x)) st h Q := zX_st (by simp [zno]) (by simp [zst])
theorem zx_iinc : zX (some ((5, a, b, x0, f), nx)) d M L st h Q = zo1 (zget L a) (fun x => zT d M nx (zset L a (.inl (x + zi x0))) st h Q) := by
  cases hg : zget L a with
  | none =>
    apply propext
    constructor
    · rintro ⟨n, r, h', e, -⟩; simp [zb, zst, hg] at e
    · rintro ⟨x, e, -⟩; cases e
  | some v =>
    cases v with
    | inl x => rw [zo1_s]; exact zX_st (by simp [zno]) (by simp [zst, hg, zi])
    | inr x =>
      apply propext
      constructor
      · rintro ⟨n, r, h', e, -⟩; simp [zb, zst, hg] at e
      · rintro ⟨x, e, -⟩; cases e
theorem zx_add {x y : Int} : zX (some ((6, a, 0, x0, f), nx)) d M L (.inl (zi y) :: .inl (zi x) :: st) h Q = zT d M nx L (.inl (zi (x + y)) :: st) h Q := zX_st (by simp [zno]) (by simp [zst, zar, zi_add])
theorem zx_sub {x y : Int} : zX (some ((6, a, 1, x0, f), nx)) d M L (.inl (zi y) :: .inl (zi x) :: st) h Q = zT d M nx L (.inl (zi (x - y)) :: st) h Q := zX_st (by simp [zno]) (by simp [zst, zar, zi_sub])
theorem zx_mul {x y : Int} : zX (some ((6, a, 2, x0, f), nx)) d M L (.inl (zi y) :: .inl (zi x) :: st) h Q = zT d M nx L (.inl (zi (x * y)) :: st) h Q := zX_st (by simp [zno]) (by simp [zst, zar, zi_mul])
theorem zx_div {x y : Int32} (hy : ¬ y = 0) : zX (some ((6, a, 3, x0, f), nx)) d M L (.inl y :: .inl x :: st) h Q = zT d M nx L (.inl (x / y) :: st) h Q := zX_st (by simp [zno]) (by simp [zst, zar, hy])
theorem zx_and {x y : Int32} : zX (some ((6, a, 4, x0, f), nx)) d M L (.inl y :: .inl x :: st) h Q = zT d M nx L (.inl (x &&& y) :: st) h Q := zX_st (by simp [zno]) (by simp [zst, zar])
theorem zx_shr {x y : Int32} : zX (some ((6, a, 5, x0, f), nx)) d M L (.inl y :: .inl x :: st) h Q = zT d M nx L (.inl (x >>> (y &&& 31)) :: st) h Q := zX_st (by simp [zno]) (by simp [zst, zar])
theorem zx_ushr {x y : Int32} : zX (some ((6, a, 6, x0, f), nx)) d M L (.inl y :: .inl x :: st) h Q = zT d M nx L (.inl ((x.toUInt32 >>> (y.toUInt32 &&& Int32.toUInt32 31)).toInt32) :: st) h Q := zX_st (by simp [zno]) (by simp [zst, zar])
theorem zx_dup {v : ZV} : zX (some ((7, a, b, x0, f), nx)) d M L (v :: st) h Q = zT d M nx L (v :: v :: st) h Q := zX_st (by simp [zno]) (by simp [zst])
theorem zx_dup2 {v u : ZV} : zX (some ((8, a, b, x0, f), nx)) d M L (v :: u :: st) h Q = zT d M nx L (v :: u :: v :: u :: st) h Q := zX_st (by simp [zno]) (by simp [zst])
theorem zx_dupx1 {v u : ZV} : zX (some ((9, a, b, x0, f), nx)) d M L (v :: u :: st) h Q = zT d M nx L (v :: u :: v :: st) h Q := zX_st (by simp [zno]) (by simp [zst])
theorem zx_pop {v : ZV} : zX (some ((10, a, b, x0, f), nx)) d M L (v :: st) h Q = zT d M nx L st h Q := zX_st (by simp [zno]) (by simp [zst])
theorem zx_cmp {x y : Int32} : zX (some ((11, a, b, x0, f), nx)) d M L (.inl y :: .inl x :: st) h Q = if zcp b x y = true then zT d M a L st h Q else zT d M nx L st h Q := by
  by_cases hc : zcp b x y = true
  · rw [if_pos hc]; exact zX_st (by simp [zno]) (by simp [zst, hc, zi_0.symm])
  · rw [if_neg hc]; exact zX_st (by simp [zno]) (by simp [zst, hc, zi_0.symm])
theorem zx_if {x : Int32} : zX (some ((12, a, b, x0, f), nx)) d M L (.inl x :: st) h Q = if zcp b x (zi 0) = true then zT d M a L st h Q else zT d M nx L st h Q := by
  by_cases hc : zcp b x (zi 0) = true
  · rw [if_pos hc]; exact zX_st (by simp [zno]) (by simp [zst, hc, zi_0.symm])
  · rw [if_neg hc]; exact zX_st (by simp [zno]) (by simp [zst, hc, zi_0.symm])
theorem zc_eq {x y : Int32} : (zcp 0 x y = true) = (x = y) := by simp [zcp]
theorem zc_ne {x y : Int32} : (zcp 1 x y = true) = ¬ (x = y) := by simp [zcp]
theorem zc_lt {x y : Int32} : (zcp 2 x y = true) = (x < y) := by simp [zcp]
theorem zc_ge {x y : Int32} : (zcp 3 x y = true) = (y ≤ x) := by simp [zcp]
theorem zc_gt {x y : Int32} : (zcp 4 x y = true) = (y < x) := by simp [zcp]
theorem zc_le {x y : Int32} : (zcp 5 x y = true) = (x ≤ y) := by simp [zcp]
theorem zx_goto : zX (some ((13, a, b, x0, f), nx)) d M L st h Q = zT d M a L st h Q := zX_st (by simp [zno]) (by simp [zst])
theorem zx_ifnull0 : zX (some ((14, a, b, x0, f), nx)) d M L (.inr none :: st) h Q = zT d M a L st h Q := zX_st (by simp [zno]) (by simp [zst])
theorem zx_ifnull1 {y : Nat} : zX (some ((14, a, b, x0, f), nx)) d M L (.inr (some y) :: st) h Q = zT d M nx L st h Q := zX_st (by simp [zno]) (by simp [zst])
theorem zx_ifnn0 : zX (some ((15, a, b, x0, f), nx)) d M L (.inr none :: st) h Q = zT d M nx L st h Q := zX_st (by simp [zno]) (by simp [zst])
theorem zx_ifnn1 {y : Nat} : zX (some ((15, a, b, x0, f), nx)) d M L (.inr (some y) :: st) h Q = zT d M a L st h Q := zX_st (by simp [zno]) (by simp [zst])
theorem zx_null : zX (some ((17, a, b, x0, f), nx)) d M L st h Q = zT d M nx L (.inr none :: st) h Q := zX_st (by simp [zno]) (by simp [zst])
theorem zx_geti {o : Nat} (hk : K o = some (.inl a)) : zX (some ((20, a, b, x0, f), nx)) d M L (.inr (some o) :: st) (K, zm J, P, n, w) Q = zT d M nx L (.inl (zi (J o b)) :: st) (K, zm J, P, n, w) Q := zX_st (by simp [zno]) (by simp [zst, hk, zm])
theorem zx_getr {o : Nat} (hk : K o = some (.inl a)) : zX (some ((21, a, b, x0, f), nx)) d M L (.inr (some o) :: st) (K, zm J, P, n, w) Q = zT d M nx L (.inr (P o b) :: st) (K, zm J, P, n, w) Q := zX_st (by simp [zno]) (by simp [zst, hk])
theorem zx_puti {o : Nat} {x : Int} (hk : K o = some (.inl a)) : zX (some ((22, a, b, x0, f), nx)) d M L (.inl (zi x) :: .inr (some o) :: st) (K, zm J, P, n, w) Q = zT d M nx L st (K, zm (zU J o b x), P, n, w) Q := zX_st (by simp [zno]) (by simp [zst, hk, zm_U])
theorem zx_putr {o : Nat} {x : Option Nat} (hk : K o = some (.inl a)) : zX (some ((23, a, b, x0, f), nx)) d M L (.inr x :: .inr (some o) :: st) (K, zm J, P, n, w) Q = zT d M nx L st (K, zm J, zU P o b x, n, w) Q := zX_st (by simp [zno]) (by simp [zst, hk])
theorem zx_iald {o u : Nat} {j : Int} (hk : K o = some (.inr (0, u))) (h0 : 0 ≤ j) (h1 : j < u) (hu : u < 2147483648) : zX (some ((24, a, b, x0, f), nx)) d M L (.inl (zi j) :: .inr (some o) :: st) (K, zm J, P, n, w) Q = zT d M nx L (.inl (zi (J o j.toNat)) :: st) (K, zm J, P, n, w) Q := zX_st (by simp [zno]) (by simp [zst, hk, zi_in h0 h1 hu, zi_clamp (show zr j from ⟨by omega, by omega⟩), zm])
theorem zx_sald {u : Nat} {j : Int} (hk : K 0 = some (.inr (9, u))) (h0 : 0 ≤ j) (h1 : j < u) (hu : u < 2147483648) : zX (some ((24, a, b, x0, f), nx)) d M L (.inl (zi j) :: .inr (some 0) :: st) (K, zm J, P, n, w) Q = zT d M nx L (.inl (zi (J 0 j.toNat)) :: st) (K, zm J, P, n, w) Q := zX_st (by simp [zno]) (by simp [zst, hk, zi_in h0 h1 hu, zi_clamp (show zr j from ⟨by omega, by omega⟩), zm])
theorem zx_iast {o u : Nat} {j x : Int} (hk : K o = some (.inr (0, u))) (h0 : 0 ≤ j) (h1 : j < u) (hu : u < 2147483648) : zX (some ((25, a, b, x0, f), nx)) d M L (.inl (zi x) :: .inl (zi j) :: .inr (some o) :: st) (K, zm J, P, n, w) Q = zT d M nx L st (K, zm (zU J o j.toNat x), P, n, w) Q := zX_st (by simp [zno]) (by simp [zst, hk, zi_in h0 h1 hu, zi_clamp (show zr j from ⟨by omega, by omega⟩), zm_U])
theorem zx_zald {o u : Nat} {j : Int} (hk : K o = some (.inr (1, u))) (h0 : 0 ≤ j) (h1 : j < u) (hu : u < 2147483648) : zX (some ((26, a, b, x0, f), nx)) d M L (.inl (zi j) :: .inr (some o) :: st) (K, zm J, P, n, w) Q = zT d M nx L (.inl (zi (J o j.toNat)) :: st) (K, zm J, P, n, w) Q := zX_st (by simp [zno]) (by simp [zst, hk, zi_in h0 h1 hu, zi_clamp (show zr j from ⟨by omega, by omega⟩), zm])
theorem zx_zast {o u : Nat} {j x : Int} (hk : K o = some (.inr (1, u))) (h0 : 0 ≤ j) (h1 : j < u) (hu : u < 2147483648) (hx : x = 0 ∨ x = 1) : zX (some ((27, a, b, x0, f), nx)) d M L (.inl (zi x) :: .inl (zi j) :: .inr (some o) :: st) (K, zm J, P, n, w) Q = zT d M nx L st (K, zm (zU J o j.toNat x), P, n, w) Q := zX_st (by simp [zno]) (by
  have hx' : zi x = 0 ∨ zi x = 1 := by
    rcases hx with rfl | rfl
    · exact Or.inl rfl
    · exact Or.inr rfl
  simp [zst, hk, zi_in h0 h1 hu, zi_clamp (show zr j from ⟨by omega, by omega⟩), zm_U, hx'])
theorem zx_aald {o u : Nat} {j : Int} (hk : K o = some (.inr (a, u))) (h0 : 0 ≤ j) (h1 : j < u) (hu : u < 2147483648) : zX (some ((28, a, b, x0, f), nx)) d M L (.inl (zi j) :: .inr (some o) :: st) (K, zm J, P, n, w) Q = zT d M nx L (.inr (P o j.toNat) :: st) (K, zm J, P, n, w) Q := zX_st (by simp [zno]) (by simp [zst, hk, zi_in h0 h1 hu, zi_clamp (show zr j from ⟨by omega, by omega⟩)])
theorem zx_aast {o u v : Nat} {j : Int} (hk : K o = some (.inr (a, u))) (h0 : 0 ≤ j) (h1 : j < u) (hu : u < 2147483648) (hv : K v = some (.inl b)) : zX (some ((29, a, b, x0, f), nx)) d M L (.inr (some v) :: .inl (zi j) :: .inr (some o) :: st) (K, zm J, P, n, w) Q = zT d M nx L st (K, zm J, zU P o j.toNat (some v), n, w) Q := zX_st (by simp [zno]) (by simp [zst, hk, zi_in h0 h1 hu, zi_clamp (show zr j from ⟨by omega, by omega⟩), hv])
theorem zx_alen {o t u : Nat} (hk : K o = some (.inr (t, u))) (ht : t < 5) : zX (some ((30, a, b, x0, f), nx)) d M L (.inr (some o) :: st) (K, zm J, P, n, w) Q = zT d M nx L (.inl (zi u) :: st) (K, zm J, P, n, w) Q := zX_st (by simp [zno]) (by simp [zst, hk, ht, zi_nat])
theorem zx_slen {u : Nat} (hk : K 0 = some (.inr (9, u))) : zX (some ((30, a, b, x0, f), nx)) d M L (.inr (some 0) :: st) (K, zm J, P, n, w) Q = zT d M nx L (.inl (zi u) :: st) (K, zm J, P, n, w) Q := zX_st (by simp [zno]) (by simp [zst, hk, zi_nat])
theorem zx_new : zX (some ((31, a, b, x0, f), nx)) d M L st (K, zm J, P, n, w) Q = zT d M nx L (.inr (some n) :: st) (va_up K n (some (.inl a)), zm (va_up J n (fun _ => 0)), va_up P n (fun _ => none), n + 1, w + zfn a) Q := zX_st (by simp [zno]) (by simp [zst, zm_new])
theorem zx_newa {x : Int} (h0 : 0 ≤ x) (h1 : x ≤ 1000) : zX (some ((32, a, b, x0, f), nx)) d M L (.inl (zi x) :: st) (K, zm J, P, n, w) Q = zT d M nx L (.inr (some n) :: st) (va_up K n (some (.inr (a, x.toNat))), zm (va_up J n (fun _ => 0)), va_up P n (fun _ => none), n + 1, w + x.toNat) Q := by
  have hr : zr x := ⟨by omega, by omega⟩
  have g0 : ¬ zi x < 0 := by rw [← zi_0, zi_lt hr.1 hr.2 (by decide) (by decide)]; omega
  have g1 : (zi x).toNatClampNeg ≤ 1000 := by rw [zi_clamp hr]; omega
  rw [← zi_clamp hr]
  exact zX_st (by simp [zno]) (by simp [zst, g0, g1, zm_new])
theorem zx_obj {o : Nat} (hl : st.length ≤ 8) : zX (some ((41, a, b, x0, f), nx)) (d + 1) M L (.inr (some o) :: st) h Q = zT (d + 1) M nx L st h Q := by
  have hh : ∀ k, zb zfn (zev zcd zfn k) (some ((41, a, b, x0, f), nx)) (d + 1) M L (.inr (some o) :: st) h = zev zcd zfn k (d + 1) M nx L st h := fun k => by simp [zb, hl]
  unfold zX zT
  simp only [hh]
theorem zx_ret : zX (some ((50, a, b, x0, f), nx)) d M L [] h Q = Q none h := by
  apply propext
  constructor
  · rintro ⟨n, r, h', e, q⟩; simp [zb] at e; obtain ⟨rfl, rfl⟩ := e; exact q
  · intro q; exact ⟨0, none, h, by simp [zb], q⟩
theorem zx_iret {x : Int32} : zX (some ((51, a, 0, x0, f), nx)) d M L [.inl x] h Q = Q (some (.inl x)) h := by
  apply propext
  constructor
  · rintro ⟨n, r, h', e, q⟩; simp [zb] at e; obtain ⟨rfl, rfl⟩ := e; exact q
  · intro q; exact ⟨0, some (.inl x), h, by simp [zb], q⟩
theorem zx_zret {x : Int} (hx : x = 0 ∨ x = 1) : zX (some ((51, a, b, x0, f), nx)) d M L [.inl (zi x)] h Q = Q (some (.inl (zi x))) h := by
  have hx : zi x = 0 ∨ zi x = 1 := by
    rcases hx with rfl | rfl
    · exact Or.inl rfl
    · exact Or.inr rfl
  apply propext
  constructor
  · rintro ⟨n, r, h', e, q⟩; simp [zb, hx] at e; obtain ⟨rfl, rfl⟩ := e; exact q
  · intro q; exact ⟨0, some (.inl (zi x)), h, by simp [zb, hx], q⟩
theorem zx_aret {x : Option Nat} : zX (some ((52, a, b, x0, f), nx)) d M L [.inr x] h Q = Q (some (.inr x)) h := by
  apply propext
  constructor
  · rintro ⟨n, r, h', e, q⟩; simp [zb] at e; obtain ⟨rfl, rfl⟩ := e; exact q
  · intro q; exact ⟨0, some (.inr x), h, by simp [zb], q⟩
/-- a call: the callee's run, then the caller's -/
theorem zx_call {as rest : List ZV} (hb : as.length = b) (hr : rest.length ≤ 8) (hc : zcb f as h = true) (hs : st = as.reverse ++ rest) : zX (some ((40, a, b, x0, f), nx)) (d + 1) M L st h Q = zT d a 0 (zen 0 as) [] h (fun r h' => zT (d + 1) M nx L (r.toList ++ rest) h' Q) := by
  subst hs
  have ht : (as.reverse ++ rest).take b = as.reverse := by rw [← hb]; simp
  have hd : (as.reverse ++ rest).drop b = rest := by rw [← hb]; simp
  have hh : ∀ k, zb zfn (zev zcd zfn k) (some ((40, a, b, x0, f), nx)) (d + 1) M L (as.reverse ++ rest) h = (match zev zcd zfn k d a 0 (zen 0 as) [] h with | none => none | some (r, h1) => zev zcd zfn k (d + 1) M nx L (r.toList ++ rest) h1) := fun k => by
    unfold zb
    dsimp only
    rw [if_pos rfl, ht, hd, List.reverse_reverse, if_pos ⟨by simp [← hb], hr, hc⟩]
    cases zev zcd zfn k d a 0 (zen 0 as) [] h <;> rfl
  unfold zX
  simp only [hh]
  apply propext
  constructor
  · rintro ⟨n, r, h', e, q⟩
    cases h1 : zev zcd zfn n d a 0 (zen 0 as) [] h with
    | none => rw [h1] at e; cases e
    | some y =>
      obtain ⟨r1, h2⟩ := y
      rw [h1] at e
      exact ⟨n, r1, h2, h1, n, r, h', e, q⟩
  · rintro ⟨n1, r1, h2, e1, n2, r, h', e2, q⟩
    refine ⟨n1 + n2, r, h', ?_, q⟩
    rw [zev_le (Nat.le_add_right n1 n2) e1]
    exact zev_le (Nat.le_add_left n2 n1) e2
theorem zcb_0 {c : Nat} {as : List ZV} : zcb [0, c] as h = true := rfl
theorem zcb_v {k c o : Nat} {as : List ZV} (hk : K o = some (.inl c)) : zcb [k, c] (.inr (some o) :: as) (K, zm J, P, n, w) = true := by
  cases k <;> simp [zcb, hk]
theorem zx_calls1 {v0 : ZV} {c : Nat} (hr : st.length ≤ 8) : zX (some ((40, a, 1, x0, [0, c]), nx)) (d + 1) M L (v0 :: st) h Q = zT d a 0 [(0, v0)] [] h (fun r h' => zT (d + 1) M nx L (r.toList ++ st) h' Q) := zx_call (as := [v0]) rfl hr rfl rfl
theorem zx_callv1 {o k c : Nat} (hr : st.length ≤ 8) (hk : K o = some (.inl c)) : zX (some ((40, a, 1, x0, [k, c]), nx)) (d + 1) M L (Sum.inr (some o) :: st) (K, zm J, P, n, w) Q = zT d a 0 [(0, .inr (some o))] [] (K, zm J, P, n, w) (fun r h' => zT (d + 1) M nx L (r.toList ++ st) h' Q) := zx_call (as := [.inr (some o)]) rfl hr (zcb_v hk) rfl
theorem zx_calls2 {v0 v1 : ZV} {c : Nat} (hr : st.length ≤ 8) : zX (some ((40, a, 2, x0, [0, c]), nx)) (d + 1) M L (v1 :: v0 :: st) h Q = zT d a 0 [(0, v0), (1, v1)] [] h (fun r h' => zT (d + 1) M nx L (r.toList ++ st) h' Q) := zx_call (as := [v0, v1]) rfl hr rfl rfl
theorem zx_callv2 {v1 : ZV} {o k c : Nat} (hr : st.length ≤ 8) (hk : K o = some (.inl c)) : zX (some ((40, a, 2, x0, [k, c]), nx)) (d + 1) M L (v1 :: Sum.inr (some o) :: st) (K, zm J, P, n, w) Q = zT d a 0 [(0, .inr (some o)), (1, v1)] [] (K, zm J, P, n, w) (fun r h' => zT (d + 1) M nx L (r.toList ++ st) h' Q) := zx_call (as := [.inr (some o), v1]) rfl hr (zcb_v hk) rfl
theorem zx_calls3 {v0 v1 v2 : ZV} {c : Nat} (hr : st.length ≤ 8) : zX (some ((40, a, 3, x0, [0, c]), nx)) (d + 1) M L (v2 :: v1 :: v0 :: st) h Q = zT d a 0 [(0, v0), (1, v1), (2, v2)] [] h (fun r h' => zT (d + 1) M nx L (r.toList ++ st) h' Q) := zx_call (as := [v0, v1, v2]) rfl hr rfl rfl
theorem zx_callv3 {v1 v2 : ZV} {o k c : Nat} (hr : st.length ≤ 8) (hk : K o = some (.inl c)) : zX (some ((40, a, 3, x0, [k, c]), nx)) (d + 1) M L (v2 :: v1 :: Sum.inr (some o) :: st) (K, zm J, P, n, w) Q = zT d a 0 [(0, .inr (some o)), (1, v1), (2, v2)] [] (K, zm J, P, n, w) (fun r h' => zT (d + 1) M nx L (r.toList ++ st) h' Q) := zx_call (as := [.inr (some o), v1, v2]) rfl hr (zcb_v hk) rfl
theorem zx_calls4 {v0 v1 v2 v3 : ZV} {c : Nat} (hr : st.length ≤ 8) : zX (some ((40, a, 4, x0, [0, c]), nx)) (d + 1) M L (v3 :: v2 :: v1 :: v0 :: st) h Q = zT d a 0 [(0, v0), (1, v1), (2, v2), (3, v3)] [] h (fun r h' => zT (d + 1) M nx L (r.toList ++ st) h' Q) := zx_call (as := [v0, v1, v2, v3]) rfl hr rfl rfl
theorem zx_callv4 {v1 v2 v3 : ZV} {o k c : Nat} (hr : st.length ≤ 8) (hk : K o = some (.inl c)) : zX (some ((40, a, 4, x0, [k, c]), nx)) (d + 1) M L (v3 :: v2 :: v1 :: Sum.inr (some o) :: st) (K, zm J, P, n, w) Q = zT d a 0 [(0, .inr (some o)), (1, v1), (2, v2), (3, v3)] [] (K, zm J, P, n, w) (fun r h' => zT (d + 1) M nx L (r.toList ++ st) h' Q) := zx_call (as := [.inr (some o), v1, v2, v3]) rfl hr (zcb_v hk) rfl
theorem zx_calls5 {v0 v1 v2 v3 v4 : ZV} {c : Nat} (hr : st.length ≤ 8) : zX (some ((40, a, 5, x0, [0, c]), nx)) (d + 1) M L (v4 :: v3 :: v2 :: v1 :: v0 :: st) h Q = zT d a 0 [(0, v0), (1, v1), (2, v2), (3, v3), (4, v4)] [] h (fun r h' => zT (d + 1) M nx L (r.toList ++ st) h' Q) := zx_call (as := [v0, v1, v2, v3, v4]) rfl hr rfl rfl
theorem zx_callv5 {v1 v2 v3 v4 : ZV} {o k c : Nat} (hr : st.length ≤ 8) (hk : K o = some (.inl c)) : zX (some ((40, a, 5, x0, [k, c]), nx)) (d + 1) M L (v4 :: v3 :: v2 :: v1 :: Sum.inr (some o) :: st) (K, zm J, P, n, w) Q = zT d a 0 [(0, .inr (some o)), (1, v1), (2, v2), (3, v3), (4, v4)] [] (K, zm J, P, n, w) (fun r h' => zT (d + 1) M nx L (r.toList ++ st) h' Q) := zx_call (as := [.inr (some o), v1, v2, v3, v4]) rfl hr (zcb_v hk) rfl
theorem zx_calls6 {v0 v1 v2 v3 v4 v5 : ZV} {c : Nat} (hr : st.length ≤ 8) : zX (some ((40, a, 6, x0, [0, c]), nx)) (d + 1) M L (v5 :: v4 :: v3 :: v2 :: v1 :: v0 :: st) h Q = zT d a 0 [(0, v0), (1, v1), (2, v2), (3, v3), (4, v4), (5, v5)] [] h (fun r h' => zT (d + 1) M nx L (r.toList ++ st) h' Q) := zx_call (as := [v0, v1, v2, v3, v4, v5]) rfl hr rfl rfl
theorem zx_callv6 {v1 v2 v3 v4 v5 : ZV} {o k c : Nat} (hr : st.length ≤ 8) (hk : K o = some (.inl c)) : zX (some ((40, a, 6, x0, [k, c]), nx)) (d + 1) M L (v5 :: v4 :: v3 :: v2 :: v1 :: Sum.inr (some o) :: st) (K, zm J, P, n, w) Q = zT d a 0 [(0, .inr (some o)), (1, v1), (2, v2), (3, v3), (4, v4), (5, v5)] [] (K, zm J, P, n, w) (fun r h' => zT (d + 1) M nx L (r.toList ++ st) h' Q) := zx_call (as := [.inr (some o), v1, v2, v3, v4, v5]) rfl hr (zcb_v hk) rfl
end ZW
