/-! Own rows: the row of keys that an object holds, and what its calls answer, said of the keys alone -/
/-- the array f of n places holds the sorted keys ks -/
def zk_G (ks : List Nat) (n : Nat) (f : Nat → Int64) : Prop := ks.Pairwise (· < ·) ∧ (∀ k ∈ ks, k < 1152921504606846976) ∧ ks.length ≤ n ∧ (64 ≤ n ∧ n ≤ 1024) ∧ ∀ j, j < ks.length → f j = lN (ks.getD j 0)
theorem zk_mem_b {ks : List Nat} {k : Nat} (hs : ks.Pairwise (· < ·)) : (decide (zk_c ks k < ks.length) && decide (ks.getD (zk_c ks k) 0 = k)) = decide (k ∈ ks) := by
  rw [Bool.eq_iff_iff]
  simp only [Bool.and_eq_true, decide_eq_true_eq]
  exact (zk_mem_iff hs).symm
theorem zk_toN {q : Nat} (h : q < 9223372036854775808) : Int.toNat (Int64.toInt (lN q)) = q := by
  rw [pk_lT (by omega)]
  rfl
theorem zk_first_N {i : Nat} {v a b d : Int32} (hi : i ≤ 3) (ev : v = nI i) (h : zf_fn v a b d = true) : zf_first v a b d = lN (Int.toNat (Int64.toInt (zf_first v a b d))) ∧ Int.toNat (Int64.toInt (zf_first v a b d)) ≤ 1152921504606846976 := by
  subst ev
  obtain ⟨lo, e, hle, -⟩ := zf_first_ok hi h
  rw [e, zk_toN (by omega)]
  exact ⟨rfl, by omega⟩
theorem zk_past_N {i : Nat} {v a b d : Int32} (hi : i ≤ 3) (ev : v = nI i) (h : zf_fn v a b d = true) : zf_first v a b d + zf_all v = lN (Int.toNat (Int64.toInt (zf_first v a b d + zf_all v))) ∧ Int.toNat (Int64.toInt (zf_first v a b d + zf_all v)) ≤ 1152921504606846976 := by
  subst ev
  obtain ⟨lo, e, hle, -⟩ := zf_first_ok hi h
  rw [e, zf_all_nI hi, lN_add, zk_toN (by omega)]
  exact ⟨rfl, by omega⟩
def zk_st (ks : List Nat) (v a b d : Int32) : Nat := if zf_fn v a b d then zk_c ks (Int.toNat (Int64.toInt (zf_first v a b d))) else 0
def zk_en (ks : List Nat) (v a b d : Int32) : Nat := if zf_fn v a b d then zk_c ks (Int.toNat (Int64.toInt (zf_first v a b d + zf_all v))) else 0
theorem zk_se {ks : List Nat} {i : Nat} {v a b d : Int32} (hs : ks.Pairwise (· < ·)) (h60 : ∀ k ∈ ks, k < 1152921504606846976) (hi : i ≤ 3) (ev : v = nI i) : zk_st ks v a b d ≤ zk_en ks v a b d ∧ zk_en ks v a b d ≤ ks.length ∧ zk_en ks v a b d - zk_st ks v a b d = ks.countP (zk_m i a b d) ∧ zk_del ks (zk_st ks v a b d) (zk_en ks v a b d) = ks.filter (fun k => !zk_m i a b d k) ∧ (ks.take (zk_en ks v a b d)).drop (zk_st ks v a b d) = ks.filter (zk_m i a b d) := by
  subst ev
  unfold zk_st zk_en
  cases h : zf_fn (nI i) a b d with
  | false =>
    have hm : ∀ k ∈ ks, zk_m i a b d k = false := fun k hk => zf_fn_no hi h (h60 k hk)
    simp only [Bool.false_eq_true, if_false]
    refine ⟨Nat.le_refl _, Nat.zero_le _, ?_, ?_, ?_⟩
    · symm
      rw [Nat.sub_self, List.countP_eq_zero]
      intro k hk
      rw [hm k hk]
      decide
    · symm
      unfold zk_del
      rw [List.take_zero, List.drop_zero, List.nil_append, List.filter_eq_self]
      intro k hk
      rw [hm k hk]
      rfl
    · symm
      rw [List.take_zero, List.drop_zero, List.filter_eq_nil_iff]
      intro k hk
      rw [hm k hk]
      decide
  | true =>
    obtain ⟨lo, e, hle, hm⟩ := zf_first_ok hi h
    simp only [if_true]
    rw [e, zf_all_nI hi, lN_add, zk_toN (by omega), zk_toN (by omega)]
    have hlh : lo ≤ lo + zk_w i := Nat.le_add_right _ _
    refine ⟨zk_c_mono ks hlh, zk_c_le _ _, ?_, ?_, ?_⟩
    · rw [zk_c_sub ks hlh]
      apply List.countP_congr
      intro k hk
      rw [hm k (h60 k hk)]
    · rw [zk_del_eq hs hlh]
      apply List.filter_congr
      intro k hk
      rw [hm k (h60 k hk)]
    · rw [zk_mid_eq hs hlh]
      apply List.filter_congr
      intro k hk
      rw [hm k (h60 k hk)]
def zs_count (ks : List Nat) (v a b d : Int32) : Int32 := if v < 0 ∨ ¬ v ≤ 3 then -1 else nI (ks.countP (zk_m v.toNatClampNeg a b d))
theorem zs_count_bad {ks : List Nat} {v a b d : Int32} (h : v < 0 ∨ ¬ v ≤ 3) : (-1 : Int32) = zs_count ks v a b d := by rw [zs_count, if_pos h]
theorem zs_count_ok {ks : List Nat} {i : Nat} {v a b d : Int32} (hs : ks.Pairwise (· < ·)) (h60 : ∀ k ∈ ks, k < 1152921504606846976) (hi : i ≤ 3) (ev : v = nI i) : nI (zk_en ks v a b d) - nI (zk_st ks v a b d) = zs_count ks v a b d := by
  have h := zk_se (a := a) (b := b) (d := d) hs h60 hi ev
  rw [pk_sub h.1, h.2.2.1, zs_count, if_neg, ev, nI_clamp (by omega)]
  rw [ev]
  rintro (q | q)
  · exact nI_pos (by omega) q
  · exact q (nI_le (b := 3) hi (by omega))
/-- the loop of beginnings -/
def zk_lp (f : Nat → Int64) (sh : Int32) : Nat → Nat → Int64 → Nat
  | 0, _, _ => 0
  | r + 1, i, last => (if f i >>> (Int32.toInt64 sh &&& 63) = last then 0 else 1) + zk_lp f sh r (i + 1) (f i >>> (Int32.toInt64 sh &&& 63))
def zk_o (o : Option Nat) : Int64 := match o with | none => -1 | some q => lN q
theorem zk_o_eq {o : Option Nat} {q : Nat} (hq : q < 9223372036854775808) (ho : ∀ z, o = some z → z < 9223372036854775808) : lN q = zk_o o ↔ some q = o := by
  cases o with
  | none =>
    constructor
    · intro h
      have h : lN q = -1 := h
      have := congrArg Int64.toInt h
      rw [pk_lT (by omega)] at this
      have e : (-1 : Int64).toInt = -1 := by decide
      omega
    · intro h
      cases h
  | some z =>
    show lN q = lN z ↔ _
    rw [pk_lEQ (by omega) (by have := ho z rfl; omega)]
    constructor
    · intro h; rw [h]
    · intro h; exact Option.some.inj h
theorem zk_lp_list {f : Nat → Int64} {sh : Int32} {s : Nat} (hs : ((Int32.toInt64 sh &&& 63).toBitVec.smod 64).toNat = s) (l : List Nat) (h60 : ∀ k ∈ l, k < 1152921504606846976) : ∀ (i : Nat) (o : Option Nat), (∀ z, o = some z → z < 9223372036854775808) → (∀ j, j < l.length → f (i + j) = lN (l.getD j 0)) → zk_lp f sh l.length i (zk_o o) = zk_ch o (l.map (fun k => k / 2 ^ s)) := by
  induction l with
  | nil => intro i o _ _; rfl
  | cons x xs ih =>
    intro i o ho hf
    have hx := h60 x List.mem_cons_self
    have h0 : f i = lN x := hf 0 (by simp)
    have hd : x / 2 ^ s ≤ x := Nat.div_le_self _ _
    rw [List.length_cons, zk_lp, h0, pf_shr hs (by omega), List.map_cons, zk_ch]
    rw [show lN (x / 2 ^ s) = zk_o (some (x / 2 ^ s)) from rfl]
    rw [ih (fun k hk => h60 k (List.mem_cons_of_mem _ hk)) (i + 1) (some (x / 2 ^ s)) (fun z hz => by cases hz; omega) (fun j hj => by
      have := hf (j + 1) (by rw [List.length_cons]; omega)
      rw [List.getD_cons_succ] at this
      rw [← this]
      congr 1
      omega)]
    congr 1
    have e := zk_o_eq (o := o) (q := x / 2 ^ s) (by omega) ho
    by_cases hc : some (x / 2 ^ s) = o
    · rw [if_pos hc, if_pos (show zk_o (some (x / 2 ^ s)) = zk_o o from e.mpr hc)]
    · rw [if_neg hc, if_neg (show ¬ zk_o (some (x / 2 ^ s)) = zk_o o from fun z => hc (e.mp z))]
def zs_dif (ks : List Nat) (v a b : Int32) : Int32 := if v < 0 ∨ ¬ v ≤ 2 then -1 else nI (zk_nd ((ks.filter (zk_m v.toNatClampNeg a b 0)).map (fun k => zk_at k v.toNatClampNeg)))
theorem zs_dif_bad {ks : List Nat} {v a b : Int32} (h : v < 0 ∨ ¬ v ≤ 2) : (-1 : Int32) = zs_dif ks v a b := by rw [zs_dif, if_pos h]
theorem zk_at_lt {k : Nat} (hk : k < 1152921504606846976) (p : Nat) : zk_at k p < 1048576 := by
  unfold zk_at
  split <;> omega
theorem zk_same {i s x y : Nat} {a b d : Int32} (hx : x < 1152921504606846976) (hy : y < 1152921504606846976) (hmx : zk_m i a b d x = true) (hmy : zk_m i a b d y = true) (h : i = 0 ∧ s = 40 ∨ i = 1 ∧ s = 20 ∨ i = 2 ∧ s = 0) : x / 2 ^ s = y / 2 ^ s ↔ zk_at x i = zk_at y i := by
  have ex := fun (p : Nat) (q : Int32) (h1 : nI (zk_at x p) = q) (h2 : nI (zk_at y p) = q) => (nI_eq (by have := zk_at_lt hx p; omega) (by have := zk_at_lt hy p; omega)).mp (h1.trans h2.symm)
  unfold zk_m at hmx hmy
  simp only [Bool.and_eq_true, Bool.or_eq_true, decide_eq_true_eq] at hmx hmy
  rcases h with ⟨rfl, rfl⟩ | ⟨rfl, rfl⟩ | ⟨rfl, rfl⟩
  · show x / 1099511627776 = y / 1099511627776 ↔ x / 1099511627776 = y / 1099511627776
    exact Iff.rfl
  · have e0 : x / 1099511627776 = y / 1099511627776 := ex 0 a (by simpa using hmx.1) (by simpa using hmy.1)
    show x / 1048576 = y / 1048576 ↔ x / 1048576 % 1048576 = y / 1048576 % 1048576
    omega
  · have e0 : x / 1099511627776 = y / 1099511627776 := ex 0 a (by simpa using hmx.1) (by simpa using hmy.1)
    have e1 : x / 1048576 % 1048576 = y / 1048576 % 1048576 := ex 1 b (by simpa using hmx.2.1) (by simpa using hmy.2.1)
    show x / 1 = y / 1 ↔ x % 1048576 = y % 1048576
    omega
theorem zs_dif_ok {ks : List Nat} {n : Nat} {f : Nat → Int64} {i : Nat} {v a b : Int32} (hG : zk_G ks n f) (hi : i ≤ 2) (ev : v = nI i) : nI (zk_lp f (zf_sh v) (zk_en ks v a b 0 - zk_st ks v a b 0) (zk_st ks v a b 0) (-1)) = zs_dif ks v a b := by
  obtain ⟨hs, h60, hn, hn2, hf⟩ := hG
  have h := zk_se (a := a) (b := b) (d := 0) hs h60 (show i ≤ 3 by omega) ev
  rw [zs_dif, if_neg (by
    rw [ev]
    rintro (q | q)
    · exact nI_pos (by omega) q
    · exact q (nI_le (b := 2) hi (by omega))), ev, nI_clamp (by omega)]
  rw [← ev]
  congr 1
  generalize zk_st ks v a b 0 = A at h
  generalize zk_en ks v a b 0 = B at h
  obtain ⟨h1, h2, h3, -, h5⟩ := h
  have hl : (ks.filter (zk_m i a b 0)).length = B - A := by rw [h3, List.countP_eq_length_filter]
  obtain ⟨s, hsh, his⟩ : ∃ s, ((Int32.toInt64 (zf_sh v) &&& 63).toBitVec.smod 64).toNat = s ∧ (i = 0 ∧ s = 40 ∨ i = 1 ∧ s = 20 ∨ i = 2 ∧ s = 0) := by
    rw [ev]
    match i, hi with
    | 0, _ => exact ⟨40, by decide, by omega⟩
    | 1, _ => exact ⟨20, by decide, by omega⟩
    | 2, _ => exact ⟨0, by decide, by omega⟩
  have hl60 : ∀ k ∈ ks.filter (zk_m i a b 0), k < 1152921504606846976 := fun k hk => h60 k (List.mem_filter.mp hk).1
  have e := zk_lp_list (f := f) hsh (ks.filter (zk_m i a b 0)) hl60 A none (fun z hz => by cases hz) (fun j hj => by
    rw [hl] at hj
    rw [hf (A + j) (by omega), ← h5]
    congr 1
    simp only [List.getD_eq_getElem?_getD]
    rw [List.getElem?_drop, List.getElem?_take, if_pos (by omega)])
  rw [hl] at e
  rw [show (-1 : Int64) = zk_o none from rfl, e, zk_ch_none]
  · exact zk_nd_congr (fun x hx y hy => zk_same (hl60 x hx) (hl60 y hy) (List.mem_filter.mp hx).2 (List.mem_filter.mp hy).2 his)
  · rw [List.pairwise_map]
    exact (hs.filter _).imp (fun {x y} h => Nat.div_le_div_right (Nat.le_of_lt h))
def zf_told (px py pz : Int32) (cur : Int64) (i : Int32) : Int32 := if cur = -1 then -1 else if i = 0 ∨ i = 1 ∨ i = 2 then zf_cn cur i else if i = 3 then zf_cn cur px else if i = 4 then zf_cn cur py else if i = 5 then zf_cn cur pz else -1
/-- where the cursor comes to: the key at place v of the row -/
def zs_at (ks : List Nat) (v : Int32) : Option Nat := if v < 0 then none else ks[v.toNatClampNeg]?
theorem zs_at_neg {ks : List Nat} {v : Int32} (h : v < 0) : none = zs_at ks v := by rw [zs_at, if_pos h]
theorem zs_at_out {ks : List Nat} {v : Int32} (h : ¬ v < 0) (h2 : nI ks.length ≤ v) (hl : ks.length ≤ 1024) : none = zs_at ks v := by
  rw [zs_at, if_neg h]
  symm
  rw [List.getElem?_eq_none_iff]
  obtain ⟨j, hj, rfl⟩ := nI_of h
  rw [nI_clamp hj]
  exact (nI_leI (by omega) hj).mp h2
theorem zs_at_in {ks : List Nat} {v : Int32} {j : Nat} (e : v = nI j) (h : j < ks.length) (hl : ks.length ≤ 1024) : some (ks.getD j 0) = zs_at ks v := by
  subst e
  rw [zs_at, if_neg (nI_pos (by omega)), nI_clamp (by omega), List.getD_eq_getElem?_getD, List.getElem?_eq_getElem h]
  rfl
theorem zs_at_nI {ks : List Nat} {j : Nat} (h : j < 2147483648) : zs_at ks (nI j) = ks[j]? := by
  rw [zs_at, if_neg (nI_pos (by omega)), nI_clamp (by omega)]
theorem zs_at_pred {ks : List Nat} {j : Nat} (h : j < 2147483648) : zs_at ks (nI j - 1) = if j = 0 then none else ks[j - 1]? := by
  by_cases e : j = 0
  · subst e
    rw [if_pos rfl]
    exact (zs_at_neg (by decide)).symm
  · rw [if_neg e, ← zs_at_nI (by omega)]
    congr 1
    exact pk_sub (a := j) (b := 1) (by omega)
def zk_nx (o : Option Nat) : Nat := match o with | none => 0 | some z => z + 1
theorem zk_o_succ (o : Option Nat) : zk_o o + 1 = lN (zk_nx o) := by
  cases o with
  | none => decide
  | some z => exact lN_1 z
def zk_pv (ks : List Nat) (o : Option Nat) : Nat := match o with | none => ks.length | some z => zk_c ks z
def zs_bad (v : Int32) : Bool := decide (v < 0) || decide (¬ v ≤ 3)
theorem zk_G_del {ks : List Nat} {n : Nat} {f : Nat → Int64} {a b : Nat} (hG : zk_G ks n f) (h : a ≤ b) (hb : b ≤ ks.length) : zk_G (zk_del ks a b) n (va_cpy f f b a (ks.length - b)) := by
  obtain ⟨hs, h60, hn, hn2, hf⟩ := hG
  have hl := zk_del_len h hb
  refine ⟨?_, ?_, by omega, hn2, ?_⟩
  · unfold zk_del
    rw [List.pairwise_append]
    refine ⟨hs.sublist (List.take_sublist _ _), hs.sublist (List.drop_sublist _ _), ?_⟩
    intro x hx y hy
    obtain ⟨i, hi, rfl⟩ := List.mem_iff_getElem.mp hx
    obtain ⟨j, hj, rfl⟩ := List.mem_iff_getElem.mp hy
    rw [List.getElem_take, List.getElem_drop]
    rw [List.length_take] at hi
    exact List.pairwise_iff_getElem.mp hs _ _ _ _ (by omega)
  · intro k hk
    unfold zk_del at hk
    rcases List.mem_append.mp hk with q | q
    · exact h60 k (List.mem_of_mem_take q)
    · exact h60 k (List.mem_of_mem_drop q)
  · intro j hj
    rw [zk_del_get h hb]
    rw [hl] at hj
    by_cases hja : j < a
    · rw [pk_cpy_out (Or.inl hja), if_pos hja]
      exact hf j (by omega)
    · rw [pk_cpy_in (by omega) (by omega), if_neg hja]
      exact hf _ (by omega)
theorem zk_G_ins {ks : List Nat} {n n2 : Nat} {f f2 : Nat → Int64} {k : Nat} (hG : zk_G ks n f) (hk : k ∉ ks) (hk60 : k < 1152921504606846976) (hn2 : ks.length + 1 ≤ n2) (hn3 : 64 ≤ n2 ∧ n2 ≤ 1024) (hf2 : ∀ j, j < ks.length → f2 j = f j) : zk_G (zk_ins ks k) n2 (vp_updL (va_cpy f2 f2 (zk_c ks k) (zk_c ks k + 1) (ks.length - zk_c ks k)) (zk_c ks k) (lN k)) := by
  obtain ⟨hs, h60, hn, hn2', hf⟩ := hG
  have hl := zk_ins_len ks k
  have hc := zk_c_le ks k
  refine ⟨zk_ins_sorted hs hk, ?_, by omega, hn3, ?_⟩
  · intro q hq
    rcases List.mem_cons.mp ((zk_ins_perm ks k).mem_iff.mp hq) with e | e
    · rw [e]; exact hk60
    · exact h60 q e
  · intro j hj
    rw [zk_ins_get]
    by_cases h1 : j < zk_c ks k
    · rw [if_pos h1, pk_uLn (by omega), pk_cpy_out (Or.inl (by omega)), hf2 j (by omega)]
      exact hf j (by omega)
    · rw [if_neg h1]
      by_cases h2 : j = zk_c ks k
      · rw [if_pos h2, h2, pk_uLs]
      · rw [if_neg h2, pk_uLn h2, pk_cpy_in (by omega) (by omega), show zk_c ks k + (j - (zk_c ks k + 1)) = j - 1 by omega, hf2 _ (by omega)]
        exact hf _ (by omega)
theorem zk_nx_le {o : Option Nat} (ho : ∀ z, o = some z → z < 1152921504606846976) : zk_nx o ≤ 1152921504606846976 := by
  cases o with
  | none => exact Nat.zero_le _
  | some z => exact ho z rfl
theorem zk_o_ne {z : Nat} (h : z < 1152921504606846976) : ¬ zk_o (some z) = -1 := by
  intro q
  have e := (zk_o_eq (o := none) (q := z) (by omega) (fun _ h => by cases h)).mp q
  cases e
