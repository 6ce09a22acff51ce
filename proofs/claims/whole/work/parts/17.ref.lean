/-! Own rows: the reference's numbers are the class' numbers -/
/-- the reference's array f holds the sorted keys ks -/
def zk_R (ks : List Nat) (f : Nat → Int64) : Prop := ks.Pairwise (· < ·) ∧ (∀ k ∈ ks, k < 1152921504606846976) ∧ ks.length ≤ 1024 ∧ ∀ j, j < ks.length → f j = lN (ks.getD j 0)
theorem zf_up {v : Int32} : (1048576 : Int32) ≤ v ↔ (1048575 : Int32) < v := by
  rw [Int32.le_iff_toInt_le, Int32.lt_iff_toInt_lt]
  have e1 : (1048576 : Int32).toInt = 1048576 := by decide
  have e2 : (1048575 : Int32).toInt = 1048575 := by decide
  omega
theorem zf_fn3 {a b d : Int32} : zf_fn 3 a b d = zf_nn a b d := by
  unfold zf_fn zf_nn
  rw [show decide ((3 : Int32) < 1) = false by decide, show decide ((3 : Int32) < 2) = false by decide, show decide ((3 : Int32) < 3) = false by decide]
  rfl
def zf_pk (a b d : Int64) : Int64 := (a * 1048576 + b) * 1048576 + d
theorem zf_pk_lN (a b d : Nat) : zf_pk (lN a) (lN b) (lN d) = lN (zk_K a b d) := by
  unfold zf_pk
  rw [show (1048576 : Int64) = lN 1048576 from rfl, lN_mul, lN_add, lN_mul, lN_add]
  exact congrArg lN (by unfold zk_K; omega)
theorem zf_pk_nI {a b d : Nat} (ha : a < 1048576) (hb : b < 1048576) (hd : d < 1048576) : zf_pk (Int32.toInt64 (nI a)) (Int32.toInt64 (nI b)) (Int32.toInt64 (nI d)) = lN (zk_K a b d) := by
  rw [nI_l (by omega), nI_l (by omega), nI_l (by omega)]
  exact zf_pk_lN a b d
def zf_ky (o : Nat) (x y z : Int32) : Int64 := match o with
  | 0 => zf_pk (Int32.toInt64 x) (Int32.toInt64 y) (Int32.toInt64 z)
  | 1 => zf_pk (Int32.toInt64 x) (Int32.toInt64 z) (Int32.toInt64 y)
  | 2 => zf_pk (Int32.toInt64 y) (Int32.toInt64 x) (Int32.toInt64 z)
  | 3 => zf_pk (Int32.toInt64 y) (Int32.toInt64 z) (Int32.toInt64 x)
  | 4 => zf_pk (Int32.toInt64 z) (Int32.toInt64 x) (Int32.toInt64 y)
  | _ => zf_pk (Int32.toInt64 z) (Int32.toInt64 y) (Int32.toInt64 x)
theorem zf_ky_nI {o x y z : Nat} (ho : o < 6) (hx : x < 1048576) (hy : y < 1048576) (hz : z < 1048576) : zf_ky o (nI x) (nI y) (nI z) = lN (zk_key o x y z) := by
  match o, ho with
  | 0, _ => exact zf_pk_nI hx hy hz
  | 1, _ => exact zf_pk_nI hx hz hy
  | 2, _ => exact zf_pk_nI hy hx hz
  | 3, _ => exact zf_pk_nI hy hz hx
  | 4, _ => exact zf_pk_nI hz hx hy
  | 5, _ => exact zf_pk_nI hz hy hx
def zf_bg (v a b d : Int32) : Int64 := zf_pk (if v ≤ 0 then 0 else Int32.toInt64 a) (if v ≤ 1 then 0 else Int32.toInt64 b) (if v ≤ 2 then 0 else Int32.toInt64 d)
theorem zf_bg_first {i : Nat} {a b d : Int32} (hi : i ≤ 3) (h : zf_fn (nI i) a b d = true) : zf_bg (nI i) a b d = zf_first (nI i) a b d := by
  unfold zf_fn at h
  simp only [Bool.and_eq_true, Bool.or_eq_true, decide_eq_true_eq] at h
  obtain ⟨h0, h1, h2⟩ := h
  match i, hi with
  | 0, _ =>
    show zf_pk 0 0 0 = zf_key 0 0 0
    decide
  | 1, _ =>
    have h0 : zf_n a = true := by rcases h0 with q | q; exact absurd q (by decide); exact q
    obtain ⟨x, hx, rfl⟩ := zf_n_of h0
    show zf_pk (Int32.toInt64 (nI x)) (Int32.toInt64 (nI 0)) (Int32.toInt64 (nI 0)) = zf_key (nI x) (nI 0) (nI 0)
    rw [zf_pk_nI hx (by omega) (by omega), zf_key_nI hx (by omega) (by omega)]
  | 2, _ =>
    have h0 : zf_n a = true := by rcases h0 with q | q; exact absurd q (by decide); exact q
    have h1 : zf_n b = true := by rcases h1 with q | q; exact absurd q (by decide); exact q
    obtain ⟨x, hx, rfl⟩ := zf_n_of h0
    obtain ⟨y, hy, rfl⟩ := zf_n_of h1
    show zf_pk (Int32.toInt64 (nI x)) (Int32.toInt64 (nI y)) (Int32.toInt64 (nI 0)) = zf_key (nI x) (nI y) (nI 0)
    rw [zf_pk_nI hx hy (by omega), zf_key_nI hx hy (by omega)]
  | 3, _ =>
    have h0 : zf_n a = true := by rcases h0 with q | q; exact absurd q (by decide); exact q
    have h1 : zf_n b = true := by rcases h1 with q | q; exact absurd q (by decide); exact q
    have h2 : zf_n d = true := by rcases h2 with q | q; exact absurd q (by decide); exact q
    obtain ⟨x, hx, rfl⟩ := zf_n_of h0
    obtain ⟨y, hy, rfl⟩ := zf_n_of h1
    obtain ⟨z, hz, rfl⟩ := zf_n_of h2
    show zf_pk (Int32.toInt64 (nI x)) (Int32.toInt64 (nI y)) (Int32.toInt64 (nI z)) = zf_key (nI x) (nI y) (nI z)
    rw [zf_pk_nI hx hy hz, zf_key_nI hx hy hz]
/-- a key with what comes behind its first i numbers taken off -/
def zk_fst (i q : Nat) : Nat := match i with | 0 => 0 | 1 => q - q % 1099511627776 | 2 => q - q % 1048576 | _ => q - q % 1
theorem zk_fst_le (i q : Nat) : zk_fst i q ≤ q := by
  unfold zk_fst
  split <;> omega
theorem zk_fst_m {i q : Nat} {a b d : Int32} (hi : i ≤ 3) (h : zf_fn (nI i) a b d = true) (hq : q < 1152921504606846976) : lN (zk_fst i q) = zf_bg (nI i) a b d ↔ zk_m i a b d q = true := by
  rw [zf_bg_first hi h]
  unfold zf_fn at h
  simp only [Bool.and_eq_true, Bool.or_eq_true, decide_eq_true_eq] at h
  obtain ⟨h0, h1, h2⟩ := h
  have hf := zk_fst_le i q
  match i, hi with
  | 0, _ =>
    constructor
    · intro _
      unfold zk_m
      simp
    · intro _
      show lN 0 = zf_key 0 0 0
      decide
  | 1, _ =>
    have h0 : zf_n a = true := by rcases h0 with q | q; exact absurd q (by decide); exact q
    obtain ⟨x, hx, rfl⟩ := zf_n_of h0
    have e : zf_first (nI 1) (nI x) b d = lN (zk_K x 0 0) := zf_key_nI (b := 0) (c := 0) hx (by omega) (by omega)
    have hl := zk_K_lt hx (show 0 < 1048576 by omega) (show 0 < 1048576 by omega)
    rw [e, pk_lEQ (by omega) (by omega)]
    unfold zk_m
    simp only [Bool.and_eq_true, Bool.or_eq_true, decide_eq_true_eq, zk_nI_at hq hx]
    unfold zk_K zk_at zk_fst
    simp only
    omega
  | 2, _ =>
    have h0 : zf_n a = true := by rcases h0 with q | q; exact absurd q (by decide); exact q
    have h1 : zf_n b = true := by rcases h1 with q | q; exact absurd q (by decide); exact q
    obtain ⟨x, hx, rfl⟩ := zf_n_of h0
    obtain ⟨y, hy, rfl⟩ := zf_n_of h1
    have e : zf_first (nI 2) (nI x) (nI y) d = lN (zk_K x y 0) := zf_key_nI (c := 0) hx hy (by omega)
    have hl := zk_K_lt hx hy (show 0 < 1048576 by omega)
    rw [e, pk_lEQ (by omega) (by omega)]
    unfold zk_m
    simp only [Bool.and_eq_true, Bool.or_eq_true, decide_eq_true_eq, zk_nI_at hq hx, zk_nI_at hq hy]
    unfold zk_K zk_at zk_fst
    simp only
    omega
  | 3, _ =>
    have h0 : zf_n a = true := by rcases h0 with q | q; exact absurd q (by decide); exact q
    have h1 : zf_n b = true := by rcases h1 with q | q; exact absurd q (by decide); exact q
    have h2 : zf_n d = true := by rcases h2 with q | q; exact absurd q (by decide); exact q
    obtain ⟨x, hx, rfl⟩ := zf_n_of h0
    obtain ⟨y, hy, rfl⟩ := zf_n_of h1
    obtain ⟨z, hz, rfl⟩ := zf_n_of h2
    have e : zf_first (nI 3) (nI x) (nI y) (nI z) = lN (zk_K x y z) := zf_key_nI hx hy hz
    have hl := zk_K_lt hx hy hz
    rw [e, pk_lEQ (by omega) (by omega)]
    unfold zk_m
    simp only [Bool.and_eq_true, Bool.or_eq_true, decide_eq_true_eq, zk_nI_at hq hx, zk_nI_at hq hy, zk_nI_at hq hz]
    unfold zk_K zk_at zk_fst
    simp only
    omega
theorem zk_fst_same {i x y : Nat} {a b d : Int32} (hi : i ≤ 2) (hx : x < 1152921504606846976) (hy : y < 1152921504606846976) (hmx : zk_m i a b d x = true) (hmy : zk_m i a b d y = true) : zk_fst (i + 1) x = zk_fst (i + 1) y ↔ zk_at x i = zk_at y i := by
  have ex := fun (p : Nat) (q : Int32) (h1 : nI (zk_at x p) = q) (h2 : nI (zk_at y p) = q) => (nI_eq (by have := zk_at_lt hx p; omega) (by have := zk_at_lt hy p; omega)).mp (h1.trans h2.symm)
  unfold zk_m at hmx hmy
  simp only [Bool.and_eq_true, Bool.or_eq_true, decide_eq_true_eq] at hmx hmy
  match i, hi with
  | 0, _ =>
    show x - x % 1099511627776 = y - y % 1099511627776 ↔ x / 1099511627776 = y / 1099511627776
    omega
  | 1, _ =>
    have e0 : x / 1099511627776 = y / 1099511627776 := ex 0 a (by simpa using hmx.1) (by simpa using hmy.1)
    show x - x % 1048576 = y - y % 1048576 ↔ x / 1048576 % 1048576 = y / 1048576 % 1048576
    omega
  | 2, _ =>
    have e0 : x / 1099511627776 = y / 1099511627776 := ex 0 a (by simpa using hmx.1) (by simpa using hmy.1)
    have e1 : x / 1048576 % 1048576 = y / 1048576 % 1048576 := ex 1 b (by simpa using hmx.2.1) (by simpa using hmy.2.1)
    show x - x % 1 = y - y % 1 ↔ x % 1048576 = y % 1048576
    omega
theorem zk_fst_mono {i x y : Nat} (h : x ≤ y) : zk_fst i x ≤ zk_fst i y := by
  unfold zk_fst
  split <;> omega
def zf_pl (o : Nat) (v : Int32) : Int32 := match o with
  | 0 => v
  | 1 => if v = 0 then 0 else 3 - v
  | 2 => if v = 2 then 2 else 1 - v
  | 3 => if v = 0 then 2 else v - 1
  | 4 => if v = 2 then 0 else v + 1
  | _ => 2 - v
theorem zf_pl_0 {o : Nat} (ho : o < 6) : zf_pl o (nI 0) = nI (zk_px o) := by
  match o, ho with
  | 0, _ => decide
  | 1, _ => decide
  | 2, _ => decide
  | 3, _ => decide
  | 4, _ => decide
  | 5, _ => decide
theorem zf_pl_1 {o : Nat} (ho : o < 6) : zf_pl o (nI 1) = nI (zk_py o) := by
  match o, ho with
  | 0, _ => decide
  | 1, _ => decide
  | 2, _ => decide
  | 3, _ => decide
  | 4, _ => decide
  | 5, _ => decide
theorem zf_pl_2 {o : Nat} (ho : o < 6) : zf_pl o (nI 2) = nI (zk_pz o) := by
  match o, ho with
  | 0, _ => decide
  | 1, _ => decide
  | 2, _ => decide
  | 3, _ => decide
  | 4, _ => decide
  | 5, _ => decide
theorem zk_px_lt (o : Nat) : zk_px o < 3 := by unfold zk_px; split <;> decide
theorem zk_py_lt (o : Nat) : zk_py o < 3 := by unfold zk_py; split <;> decide
theorem zk_pz_lt (o : Nat) : zk_pz o < 3 := by unfold zk_pz; split <;> decide
theorem zk_at_0 {z : Nat} : nI (z / 1048576 / 1048576) = nI (zk_at z 0) := by
  refine congrArg nI ?_
  show z / 1048576 / 1048576 = z / 1099511627776
  omega
theorem zk_at_1 {z : Nat} : nI (z / 1048576 % 1048576) = nI (zk_at z 1) := rfl
theorem zk_at_2 {z : Nat} : nI (z % 1048576) = nI (zk_at z 2) := rfl
theorem zf_told_out {px py pz : Int32} {cur : Int64} {v : Int32} (h : ¬ cur = -1) (hv : v < 0 ∨ ¬ v ≤ 5) : (-1 : Int32) = zf_told px py pz cur v := by
  have e : ∀ j : Int32, 0 ≤ j → j ≤ 5 → ¬ v = j := by
    intro j h0 h5 q
    subst q
    rcases hv with q | q
    · rw [Int32.lt_iff_toInt_lt] at q
      rw [Int32.le_iff_toInt_le] at h0
      omega
    · exact q h5
  have e0 := e 0 (by decide) (by decide)
  have e1 := e 1 (by decide) (by decide)
  have e2 := e 2 (by decide) (by decide)
  have e3 := e 3 (by decide) (by decide)
  have e4 := e 4 (by decide) (by decide)
  have e5 := e 5 (by decide) (by decide)
  simp [zf_told, h, e0, e1, e2, e3, e4, e5]
theorem zf_told_0 {px py pz : Int32} {cur : Int64} {v : Int32} (h : ¬ cur = -1) (e : v = nI 0) : zf_cn cur (nI 0) = zf_told px py pz cur v := by
  subst e
  rw [zf_told, if_neg h, if_pos (by decide)]
theorem zf_told_1 {px py pz : Int32} {cur : Int64} {v : Int32} (h : ¬ cur = -1) (e : v = nI 1) : zf_cn cur (nI 1) = zf_told px py pz cur v := by
  subst e
  rw [zf_told, if_neg h, if_pos (by decide)]
theorem zf_told_2 {px py pz : Int32} {cur : Int64} {v : Int32} (h : ¬ cur = -1) (e : v = nI 2) : zf_cn cur (nI 2) = zf_told px py pz cur v := by
  subst e
  rw [zf_told, if_neg h, if_pos (by decide)]
theorem zf_told_3 {px py pz : Int32} {cur : Int64} {v : Int32} (h : ¬ cur = -1) (e : v = nI 3) : zf_cn cur px = zf_told px py pz cur v := by
  subst e
  rw [zf_told, if_neg h, if_neg (by decide), if_pos (by decide)]
theorem zf_told_4 {px py pz : Int32} {cur : Int64} {v : Int32} (h : ¬ cur = -1) (e : v = nI 4) : zf_cn cur py = zf_told px py pz cur v := by
  subst e
  rw [zf_told, if_neg h, if_neg (by decide), if_neg (by decide), if_pos (by decide)]
theorem zf_told_5 {px py pz : Int32} {cur : Int64} {v : Int32} (h : ¬ cur = -1) (e : v = nI 5) : zf_cn cur pz = zf_told px py pz cur v := by
  subst e
  rw [zf_told, if_neg h, if_neg (by decide), if_neg (by decide), if_neg (by decide), if_pos (by decide)]
theorem zs_count_nI {ks : List Nat} {i : Nat} {v a b d : Int32} (hi : i ≤ 3) (ev : v = nI i) : nI (ks.countP (zk_m i a b d)) = zs_count ks v a b d := by
  rw [zs_count, if_neg, ev, nI_clamp (by omega)]
  rw [ev]
  rintro (q | q)
  · exact nI_pos (by omega) q
  · exact q (nI_le (b := 3) hi (by omega))
theorem zs_count_no {ks : List Nat} {i : Nat} {v a b d : Int32} (h60 : ∀ k ∈ ks, k < 1152921504606846976) (hi : i ≤ 3) (ev : v = nI i) (h : zf_fn v a b d = false) : (0 : Int32) = zs_count ks v a b d := by
  rw [← zs_count_nI hi ev, List.countP_eq_zero.mpr (fun k hk => by rw [zf_fn_no hi (ev ▸ h) (h60 k hk)]; decide)]
  rfl
theorem zk_drop_cons {ks : List Nat} {j : Nat} (h : j < ks.length) : ks.drop j = ks.getD j 0 :: ks.drop (j + 1) := by
  rw [List.drop_eq_getElem_cons h]
  congr 1
  rw [List.getD_eq_getElem?_getD, List.getElem?_eq_getElem h]
  rfl
theorem zs_dif_nI {ks : List Nat} {i : Nat} {v a b : Int32} (hs : ks.Pairwise (· < ·)) (h60 : ∀ k ∈ ks, k < 1152921504606846976) (hi : i ≤ 2) (ev : v = nI i) : nI (zk_ch none ((ks.filter (zk_m i a b 0)).map (zk_fst (i + 1)))) = zs_dif ks v a b := by
  rw [zs_dif, if_neg (by
    rw [ev]
    rintro (q | q)
    · exact nI_pos (by omega) q
    · exact q (nI_le (b := 2) hi (by omega))), ev, nI_clamp (by omega)]
  congr 1
  have hl60 : ∀ k ∈ ks.filter (zk_m i a b 0), k < 1152921504606846976 := fun k hk => h60 k (List.mem_filter.mp hk).1
  rw [zk_ch_none]
  · exact zk_nd_congr (fun x hx y hy => zk_fst_same hi (hl60 x hx) (hl60 y hy) (List.mem_filter.mp hx).2 (List.mem_filter.mp hy).2)
  · rw [List.pairwise_map]
    exact (hs.filter _).imp (fun {x y} h => zk_fst_mono (Nat.le_of_lt h))
theorem zs_dif_no {ks : List Nat} {i : Nat} {v a b : Int32} (hs : ks.Pairwise (· < ·)) (h60 : ∀ k ∈ ks, k < 1152921504606846976) (hi : i ≤ 2) (ev : v = nI i) (h : zf_fn v a b 0 = false) : (0 : Int32) = zs_dif ks v a b := by
  rw [← zs_dif_nI hs h60 hi ev, List.filter_eq_nil_iff.mpr (fun k hk => by rw [zf_fn_no (by omega) (ev ▸ h) (h60 k hk)]; decide)]
  rfl
theorem zk_R_del {ks : List Nat} {f : Nat → Int64} {a b : Nat} (hG : zk_R ks f) (h : a ≤ b) (hb : b ≤ ks.length) : zk_R (zk_del ks a b) (va_cpy f f b a (ks.length - b)) := by
  obtain ⟨hs, h60, hn, hf⟩ := hG
  have hl := zk_del_len h hb
  refine ⟨?_, ?_, by omega, ?_⟩
  · unfold zk_del
    rw [List.pairwise_append]
    refine ⟨hs.sublist (List.take_sublist _ _), hs.sublist (List.drop_sublist _ _), ?_⟩
    intro x hx y hy
    obtain ⟨i, hi, rfl⟩ := List.mem_iff_getElem.mp hx
    obtain ⟨j, hj, rfl⟩ := List.mem_iff_getElem.mp hy
    rw [List.getElem_take, List.getElem_drop]
    rw [List.length_take] at hi
    exact List.pairwise_iff_getElem.mp hs _ _ _ _ (by omega)
  · intro k hk
    unfold zk_del at hk
    rcases List.mem_append.mp hk with q | q
    · exact h60 k (List.mem_of_mem_take q)
    · exact h60 k (List.mem_of_mem_drop q)
  · intro j hj
    rw [zk_del_get h hb]
    rw [hl] at hj
    by_cases hja : j < a
    · rw [pk_cpy_out (Or.inl hja), if_pos hja]
      exact hf j (by omega)
    · rw [pk_cpy_in (by omega) (by omega), if_neg hja]
      exact hf _ (by omega)
theorem zk_R_ins {ks : List Nat} {f : Nat → Int64} {k : Nat} (hG : zk_R ks f) (hk : k ∉ ks) (hk60 : k < 1152921504606846976) (hn2 : ks.length + 1 ≤ 1024) : zk_R (zk_ins ks k) (vp_updL (va_cpy f f (zk_c ks k) (zk_c ks k + 1) (ks.length - zk_c ks k)) (zk_c ks k) (lN k)) := by
  obtain ⟨hs, h60, hn, hf⟩ := hG
  have hl := zk_ins_len ks k
  have hc := zk_c_le ks k
  refine ⟨zk_ins_sorted hs hk, ?_, by omega, ?_⟩
  · intro q hq
    rcases List.mem_cons.mp ((zk_ins_perm ks k).mem_iff.mp hq) with e | e
    · rw [e]; exact hk60
    · exact h60 q e
  · intro j hj
    rw [zk_ins_get]
    by_cases h1 : j < zk_c ks k
    · rw [if_pos h1, pk_uLn (by omega), pk_cpy_out (Or.inl (by omega))]
      exact hf j (by omega)
    · rw [if_neg h1]
      by_cases h2 : j = zk_c ks k
      · rw [if_pos h2, h2, pk_uLs]
      · rw [if_neg h2, pk_uLn h2, pk_cpy_in (by omega) (by omega), show zk_c ks k + (j - (zk_c ks k + 1)) = j - 1 by omega]
        exact hf _ (by omega)
/-- one step down of a row: place i gets what is at i + 1 -/
theorem zk_down {f : Nat → Int64} {C i : Nat} (h : C ≤ i) : vp_updL (va_cpy f f (C + 1) C (i - C)) i (va_cpy f f (C + 1) C (i - C) (i + 1)) = va_cpy f f (C + 1) C (i + 1 - C) := by
  funext j
  by_cases e : j = i
  · subst e
    rw [pk_uLs, pk_cpy_out (Or.inr (by omega)), pk_cpy_in (by omega) (by omega)]
    congr 1
    omega
  · rw [pk_uLn e]
    by_cases h2 : C ≤ j ∧ j < i
    · rw [pk_cpy_in (by omega) (by omega), pk_cpy_in (by omega) (by omega)]
    · rw [pk_cpy_out (by omega), pk_cpy_out (by omega)]
/-- one step up: place i gets what is at i - 1 -/
theorem zk_upw {f : Nat → Int64} {N i : Nat} (h0 : 0 < i) (h : i ≤ N) : vp_updL (va_cpy f f i (i + 1) (N - i)) i (va_cpy f f i (i + 1) (N - i) (i - 1)) = va_cpy f f (i - 1) (i - 1 + 1) (N - (i - 1)) := by
  funext j
  by_cases e : j = i
  · subst e
    rw [pk_uLs, pk_cpy_out (Or.inl (by omega)), pk_cpy_in (by omega) (by omega)]
    congr 1
    omega
  · rw [pk_uLn e]
    by_cases h2 : i + 1 ≤ j ∧ j < N + 1
    · rw [pk_cpy_in (by omega) (by omega), pk_cpy_in (by omega) (by omega)]
      congr 1
      omega
    · rw [pk_cpy_out (by omega), pk_cpy_out (by omega)]
