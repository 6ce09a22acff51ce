/-! Own rows: numbers of keys, keys as longs -/
def zf_n (x : Int32) : Bool := decide (¬ x < 0) && decide (¬ (1048575 : Int32) < x)
theorem zf_n_of {x : Int32} (h : zf_n x = true) : ∃ j : Nat, j < 1048576 ∧ x = nI j := by
  unfold zf_n at h
  rw [Bool.and_eq_true, decide_eq_true_eq, decide_eq_true_eq] at h
  obtain ⟨j, hj, e⟩ := nI_of2 (x := x) (M := 1048575) (n := 1048575) (by decide) h.1 (by
    have := h.2
    rw [Int32.lt_iff_toInt_lt] at this
    rw [Int32.le_iff_toInt_le]
    omega)
  exact ⟨j, by omega, e⟩
theorem zf_n_nI {j : Nat} (h : j < 1048576) : zf_n (nI j) = true := by
  unfold zf_n
  rw [Bool.and_eq_true, decide_eq_true_eq, decide_eq_true_eq]
  refine ⟨nI_pos (by omega), ?_⟩
  rw [show (1048575 : Int32) = nI 1048575 from rfl]
  exact nI_nlt (by omega) (by omega)
def zk_K (a b c : Nat) : Nat := a * 1099511627776 + b * 1048576 + c
theorem zk_K_lt {a b c : Nat} (ha : a < 1048576) (hb : b < 1048576) (hc : c < 1048576) : zk_K a b c < 1152921504606846976 := by unfold zk_K; omega
theorem zk_or3 {a b c : Nat} (ha : a < 1048576) (hb : b < 1048576) (hc : c < 1048576) : (lN (a * 1099511627776) ||| lN (b * 1048576)) ||| lN c = lN (zk_K a b c) := by
  rw [g_or (k := 40) (p := 1099511627776) (a := b * 1048576) (b := a) (by decide) (by omega) (by omega)]
  rw [show a * 1099511627776 + b * 1048576 = (a * 1048576 + b) * 1048576 by omega]
  rw [g_or (k := 20) (p := 1048576) (a := c) (b := a * 1048576 + b) (by decide) hc (by omega)]
  exact congrArg lN (by unfold zk_K; omega)
theorem zk_sh0 {x : Nat} : lN x <<< ((nI 0).toInt64 &&& 63) = lN x := by rw [wb_shl x (k := 0) (by decide), Nat.pow_zero, Nat.mul_one]
theorem zk_sh1 {x : Nat} : lN x <<< ((nI 20).toInt64 &&& 63) = lN (x * 1048576) := by rw [wb_shl x (k := 20) (by decide)]
theorem zk_sh2 {x : Nat} : lN x <<< ((nI 40).toInt64 &&& 63) = lN (x * 1099511627776) := by rw [wb_shl x (k := 40) (by decide)]
def zf_sh (p : Int32) : Int32 := 20 * (2 - p)
theorem zf_sh0 : zf_sh 0 = nI 40 := by decide
theorem zf_sh1 : zf_sh 1 = nI 20 := by decide
theorem zf_sh2 : zf_sh 2 = nI 0 := by decide
def zf_key (a b c : Int32) : Int64 := ((Int32.toInt64 a <<< (Int32.toInt64 (zf_sh 0) &&& 63)) ||| (Int32.toInt64 b <<< (Int32.toInt64 (zf_sh 1) &&& 63))) ||| Int32.toInt64 c
theorem zf_key_nI {a b c : Nat} (ha : a < 1048576) (hb : b < 1048576) (hc : c < 1048576) : zf_key (nI a) (nI b) (nI c) = lN (zk_K a b c) := by
  unfold zf_key
  rw [zf_sh0, zf_sh1, nI_l (n := a) (by omega), nI_l (n := b) (by omega), nI_l (n := c) (by omega), zk_sh2, zk_sh1]
  exact zk_or3 ha hb hc
def zf_kt (px py pz x y z : Int32) : Int64 := ((Int32.toInt64 x <<< (Int32.toInt64 (zf_sh px) &&& 63)) ||| (Int32.toInt64 y <<< (Int32.toInt64 (zf_sh py) &&& 63))) ||| (Int32.toInt64 z <<< (Int32.toInt64 (zf_sh pz) &&& 63))
/-- at which place of the key x, y and z stand -/
def zk_px (o : Nat) : Nat := match o with | 0 => 0 | 1 => 0 | 2 => 1 | 3 => 2 | 4 => 1 | _ => 2
def zk_py (o : Nat) : Nat := match o with | 0 => 1 | 1 => 2 | 2 => 0 | 3 => 0 | 4 => 2 | _ => 1
def zk_pz (o : Nat) : Nat := match o with | 0 => 2 | 1 => 1 | 2 => 2 | 3 => 1 | 4 => 0 | _ => 0
def zk_key (o x y z : Nat) : Nat := match o with
  | 0 => zk_K x y z | 1 => zk_K x z y | 2 => zk_K y x z | 3 => zk_K y z x | 4 => zk_K z x y | _ => zk_K z y x
theorem zf_kt_nI {o x y z : Nat} (ho : o < 6) (ha : x < 1048576) (hb : y < 1048576) (hc : z < 1048576) : zf_kt (nI (zk_px o)) (nI (zk_py o)) (nI (zk_pz o)) (nI x) (nI y) (nI z) = lN (zk_key o x y z) := by
  have s0 : zf_sh (nI 0) = nI 40 := by decide
  have s1 : zf_sh (nI 1) = nI 20 := by decide
  have s2 : zf_sh (nI 2) = nI 0 := by decide
  unfold zf_kt
  rw [nI_l (n := x) (by omega), nI_l (n := y) (by omega), nI_l (n := z) (by omega)]
  match o, ho with
  | 0, _ =>
    simp only [zk_px, zk_py, zk_pz, zk_key, s0, s1, s2, zk_sh0, zk_sh1, zk_sh2]
    exact zk_or3 ha hb hc
  | 1, _ =>
    simp only [zk_px, zk_py, zk_pz, zk_key, s0, s1, s2, zk_sh0, zk_sh1, zk_sh2]
    rw [← zk_or3 ha hc hb, Int64.or_assoc, Int64.or_comm (lN y), ← Int64.or_assoc]
  | 2, _ =>
    simp only [zk_px, zk_py, zk_pz, zk_key, s0, s1, s2, zk_sh0, zk_sh1, zk_sh2]
    rw [← zk_or3 hb ha hc, Int64.or_comm (lN (x * 1048576))]
  | 3, _ =>
    simp only [zk_px, zk_py, zk_pz, zk_key, s0, s1, s2, zk_sh0, zk_sh1, zk_sh2]
    rw [← zk_or3 hb hc ha, Int64.or_assoc, Int64.or_comm (lN x)]
  | 4, _ =>
    simp only [zk_px, zk_py, zk_pz, zk_key, s0, s1, s2, zk_sh0, zk_sh1, zk_sh2]
    rw [← zk_or3 hc ha hb, Int64.or_comm (lN (x * 1048576) ||| lN y), ← Int64.or_assoc]
  | 5, _ =>
    simp only [zk_px, zk_py, zk_pz, zk_key, s0, s1, s2, zk_sh0, zk_sh1, zk_sh2]
    rw [← zk_or3 hc hb ha, Int64.or_comm (lN x ||| lN (y * 1048576)), Int64.or_comm (lN x), ← Int64.or_assoc]
theorem zk_key_lt {o x y z : Nat} (ha : x < 1048576) (hb : y < 1048576) (hc : z < 1048576) : zk_key o x y z < 1152921504606846976 := by
  unfold zk_key
  split <;> exact zk_K_lt (by assumption) (by assumption) (by assumption)
/-- a key's numbers -/
def zk_at (k p : Nat) : Nat := match p with | 0 => k / 1099511627776 | 1 => k / 1048576 % 1048576 | _ => k % 1048576
def zf_cn (cur : Int64) (p : Int32) : Int32 := Int64.toInt32 (cur >>> (Int32.toInt64 (zf_sh p) &&& 63)) &&& 1048575
theorem zf_and20 (n : Nat) : nI n &&& 1048575 = nI (n % 1048576) := by
  rw [pk_and (nI n) (m := 1048575) 20 (by decide)]
  refine congrArg nI ?_
  show (BitVec.ofNat 32 n).toNat % 2 ^ 20 = n % 1048576
  rw [BitVec.toNat_ofNat]
  omega
theorem zf_cn_nI {k p : Nat} (hk : k < 1152921504606846976) (hp : p < 3) : zf_cn (lN k) (nI p) = nI (zk_at k p) := by
  unfold zf_cn
  match p, hp with
  | 0, _ =>
    rw [show zf_sh (nI 0) = nI 40 by decide, pf_shr (d := 40) (by decide) (by omega), lN_i, zf_and20]
    refine congrArg nI ?_
    show k / 1099511627776 % 1048576 = k / 1099511627776
    omega
  | 1, _ =>
    rw [show zf_sh (nI 1) = nI 20 by decide, pf_shr (d := 20) (by decide) (by omega), lN_i, zf_and20]
    rfl
  | 2, _ =>
    rw [show zf_sh (nI 2) = nI 0 by decide, pf_shr (d := 0) (by decide) (by omega), lN_i, zf_and20]
    refine congrArg nI ?_
    show k / 1 % 1048576 = k % 1048576
    omega
theorem zk_at_K {a b c : Nat} (ha : a < 1048576) (hb : b < 1048576) (hc : c < 1048576) : zk_at (zk_K a b c) 0 = a ∧ zk_at (zk_K a b c) 1 = b ∧ zk_at (zk_K a b c) 2 = c := by
  unfold zk_at zk_K
  simp only
  omega
theorem zk_K_at {k : Nat} (hk : k < 1152921504606846976) : zk_K (zk_at k 0) (zk_at k 1) (zk_at k 2) = k ∧ zk_at k 0 < 1048576 ∧ zk_at k 1 < 1048576 ∧ zk_at k 2 < 1048576 := by
  unfold zk_at zk_K
  simp only
  omega
theorem zk_K_inj {a b c d e f : Nat} (ha : a < 1048576) (hb : b < 1048576) (hc : c < 1048576) (hd : d < 1048576) (he : e < 1048576) (hf : f < 1048576) (h : zk_K a b c = zk_K d e f) : a = d ∧ b = e ∧ c = f := by
  unfold zk_K at h
  omega
/-! Own rows: which keys begin with the first n of a, b, c; the stretch of the row that they are -/
theorem zk_mem_iff {ks : List Nat} {k : Nat} (hp : ks.Pairwise (· < ·)) : k ∈ ks ↔ (zk_c ks k < ks.length ∧ ks.getD (zk_c ks k) 0 = k) := by
  constructor
  · intro h
    obtain ⟨j, hj, e⟩ := List.mem_iff_getElem.mp h
    have e : ks.getD j 0 = k := by rw [List.getD_eq_getElem?_getD, List.getElem?_eq_getElem hj]; exact e
    have h1 := zk_lt ks k hp j hj
    rw [e] at h1
    have h2 : zk_c ks k ≤ j := by omega
    have h3 := zk_lt ks k hp (zk_c ks k) (by omega)
    have h4 := zk_lt ks (k + 1) hp j hj
    rw [e] at h4
    have h5 := zk_lt ks (k + 1) hp (zk_c ks k) (by omega)
    exact ⟨by omega, by omega⟩
  · intro h
    rw [← h.2]
    exact zk_mem_getD h.1
def zf_nn (a b c : Int32) : Bool := zf_n a && (zf_n b && zf_n c)
def zf_fn (n a b c : Int32) : Bool := (decide (n < 1) || zf_n a) && ((decide (n < 2) || zf_n b) && (decide (n < 3) || zf_n c))
def zf_first (n a b c : Int32) : Int64 := zf_key (if 1 ≤ n then a else 0) (if 2 ≤ n then b else 0) (if 3 ≤ n then c else 0)
def zf_all (n : Int32) : Int64 := (1 : Int64) <<< (Int32.toInt64 (20 * (3 - n)) &&& 63)
/-- the key k begins with the first i of a, b, c -/
def zk_m (i : Nat) (a b c : Int32) (k : Nat) : Bool := (decide (i < 1) || decide (nI (zk_at k 0) = a)) && ((decide (i < 2) || decide (nI (zk_at k 1) = b)) && (decide (i < 3) || decide (nI (zk_at k 2) = c)))
def zk_w (i : Nat) : Nat := match i with | 0 => 1152921504606846976 | 1 => 1099511627776 | 2 => 1048576 | _ => 1
theorem zf_all_nI {i : Nat} (hi : i ≤ 3) : zf_all (nI i) = lN (zk_w i) := by
  unfold zf_all
  match i, hi with
  | 0, _ => decide
  | 1, _ => decide
  | 2, _ => decide
  | 3, _ => decide
theorem zk_at_n {k : Nat} (hk : k < 1152921504606846976) (p : Nat) : zf_n (nI (zk_at k p)) = true := by
  apply zf_n_nI
  unfold zk_at
  split <;> omega
theorem zf_fn_no {i : Nat} {a b c : Int32} (hi : i ≤ 3) (h : zf_fn (nI i) a b c = false) {k : Nat} (hk : k < 1152921504606846976) : zk_m i a b c k = false := by
  cases hm : zk_m i a b c k with
  | false => rfl
  | true =>
    exfalso
    have h0 := zk_at_n hk 0
    have h1 := zk_at_n hk 1
    have h2 := zk_at_n hk 2
    unfold zk_m at hm
    simp only [Bool.and_eq_true, Bool.or_eq_true, decide_eq_true_eq] at hm
    obtain ⟨q0, q1, q2⟩ := hm
    have e : zf_fn (nI i) a b c = true := by
      unfold zf_fn
      simp only [Bool.and_eq_true, Bool.or_eq_true, decide_eq_true_eq]
      refine ⟨?_, ?_, ?_⟩
      · rcases q0 with q | q
        · exact Or.inl (nI_lt (b := 1) q (by omega))
        · exact Or.inr (q ▸ h0)
      · rcases q1 with q | q
        · exact Or.inl (nI_lt (b := 2) q (by omega))
        · exact Or.inr (q ▸ h1)
      · rcases q2 with q | q
        · exact Or.inl (nI_lt (b := 3) q (by omega))
        · exact Or.inr (q ▸ h2)
    rw [e] at h
    cases h
theorem zk_nI_at {k p : Nat} {x : Nat} (hk : k < 1152921504606846976) (hx : x < 1048576) : nI (zk_at k p) = nI x ↔ zk_at k p = x := by
  apply nI_eq
  · unfold zk_at
    split <;> omega
  · omega
theorem zf_first_ok {i : Nat} {a b c : Int32} (hi : i ≤ 3) (h : zf_fn (nI i) a b c = true) : ∃ lo, zf_first (nI i) a b c = lN lo ∧ lo + zk_w i ≤ 1152921504606846976 ∧ ∀ k, k < 1152921504606846976 → (zk_m i a b c k = (decide (lo ≤ k) && decide (k < lo + zk_w i))) := by
  unfold zf_fn at h
  simp only [Bool.and_eq_true, Bool.or_eq_true, decide_eq_true_eq] at h
  obtain ⟨h0, h1, h2⟩ := h
  match i, hi with
  | 0, _ =>
    refine ⟨0, ?_, by decide, ?_⟩
    · show zf_key 0 0 0 = lN 0
      decide
    · intro k hk
      unfold zk_m zk_w
      simp [hk]
  | 1, _ =>
    have h0 : zf_n a = true := by rcases h0 with q | q; exact absurd q (by decide); exact q
    obtain ⟨x, hx, rfl⟩ := zf_n_of h0
    refine ⟨zk_K x 0 0, ?_, ?_, ?_⟩
    · show zf_key (nI x) 0 0 = _
      exact zf_key_nI (b := 0) (c := 0) hx (by omega) (by omega)
    · unfold zk_K zk_w; simp only; omega
    · intro k hk
      rw [Bool.eq_iff_iff]
      unfold zk_m
      simp only [Bool.and_eq_true, Bool.or_eq_true, decide_eq_true_eq, zk_nI_at hk hx]
      unfold zk_K zk_w zk_at
      simp only
      omega
  | 2, _ =>
    have h0 : zf_n a = true := by rcases h0 with q | q; exact absurd q (by decide); exact q
    have h1 : zf_n b = true := by rcases h1 with q | q; exact absurd q (by decide); exact q
    obtain ⟨x, hx, rfl⟩ := zf_n_of h0
    obtain ⟨y, hy, rfl⟩ := zf_n_of h1
    refine ⟨zk_K x y 0, ?_, ?_, ?_⟩
    · show zf_key (nI x) (nI y) 0 = _
      exact zf_key_nI (c := 0) hx hy (by omega)
    · unfold zk_K zk_w; simp only; omega
    · intro k hk
      rw [Bool.eq_iff_iff]
      unfold zk_m
      simp only [Bool.and_eq_true, Bool.or_eq_true, decide_eq_true_eq, zk_nI_at hk hx, zk_nI_at hk hy]
      unfold zk_K zk_w zk_at
      simp only
      omega
  | 3, _ =>
    have h0 : zf_n a = true := by rcases h0 with q | q; exact absurd q (by decide); exact q
    have h1 : zf_n b = true := by rcases h1 with q | q; exact absurd q (by decide); exact q
    have h2 : zf_n c = true := by rcases h2 with q | q; exact absurd q (by decide); exact q
    obtain ⟨x, hx, rfl⟩ := zf_n_of h0
    obtain ⟨y, hy, rfl⟩ := zf_n_of h1
    obtain ⟨z, hz, rfl⟩ := zf_n_of h2
    refine ⟨zk_K x y z, ?_, ?_, ?_⟩
    · show zf_key (nI x) (nI y) (nI z) = _
      exact zf_key_nI hx hy hz
    · unfold zk_K zk_w; simp only; omega
    · intro k hk
      rw [Bool.eq_iff_iff]
      unfold zk_m
      simp only [Bool.and_eq_true, Bool.or_eq_true, decide_eq_true_eq, zk_nI_at hk hx, zk_nI_at hk hy, zk_nI_at hk hz]
      unfold zk_K zk_w zk_at
      simp only
      omega
theorem zk_nd_congr {l : List Nat} {f g : Nat → Nat} (h : ∀ x ∈ l, ∀ y ∈ l, (f x = f y ↔ g x = g y)) : zk_nd (l.map f) = zk_nd (l.map g) := by
  induction l with
  | nil => rfl
  | cons x xs ih =>
    have ih := ih (fun a ha b hb => h a (List.mem_cons_of_mem _ ha) b (List.mem_cons_of_mem _ hb))
    simp only [List.map_cons, zk_nd, ih]
    congr 1
    have e : (f x ∈ xs.map f) ↔ (g x ∈ xs.map g) := by
      simp only [List.mem_map]
      constructor
      · rintro ⟨y, hy, q⟩
        exact ⟨y, hy, (h y (List.mem_cons_of_mem _ hy) x List.mem_cons_self).mp q⟩
      · rintro ⟨y, hy, q⟩
        exact ⟨y, hy, (h y (List.mem_cons_of_mem _ hy) x List.mem_cons_self).mpr q⟩
    simp only [e]
