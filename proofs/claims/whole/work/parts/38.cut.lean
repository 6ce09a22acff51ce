/-! Own rows: the reference's cut goes through the row and keeps what doesn't begin so -/
theorem zk_cpy0 {f g : Nat → Int64} {a b : Nat} : va_cpy f g a b 0 = g := by
  funext j
  exact pk_cpy_out (by omega)
theorem zk_take_1 {ks : List Nat} {j : Nat} (h : j < ks.length) : ks.take (j + 1) = ks.take j ++ [ks.getD j 0] := by
  rw [List.take_add_one, List.getD_eq_getElem?_getD, List.getElem?_eq_getElem h]
  rfl
def zk_cu (ks : List Nat) (m : Nat → Bool) (f fk : Nat → Int64) (j kp : Nat) : Prop := kp = ((ks.take j).filter (fun k => !m k)).length ∧ (∀ t, t < kp → fk t = lN (((ks.take j).filter (fun k => !m k)).getD t 0)) ∧ ∀ t, j ≤ t → fk t = f t
theorem zk_cu_0 (ks : List Nat) (m : Nat → Bool) (f : Nat → Int64) : zk_cu ks m f f 0 0 := ⟨rfl, fun t h => absurd h (Nat.not_lt_zero t), fun _ _ => rfl⟩
theorem zk_cu_le {ks : List Nat} {m : Nat → Bool} {f fk : Nat → Int64} {j kp : Nat} (h : zk_cu ks m f fk j kp) : kp ≤ j := by
  rw [h.1]
  refine Nat.le_trans (List.length_filter_le _ _) ?_
  rw [List.length_take]
  exact Nat.min_le_left _ _
theorem zk_cu_skip {ks : List Nat} {m : Nat → Bool} {f fk : Nat → Int64} {j kp : Nat} (h : zk_cu ks m f fk j kp) (hj : j < ks.length) (hm : m (ks.getD j 0) = true) : zk_cu ks m f fk (j + 1) kp := by
  have e : (ks.take (j + 1)).filter (fun k => !m k) = (ks.take j).filter (fun k => !m k) := by
    rw [zk_take_1 hj, List.filter_append, List.filter_cons_of_neg (by rw [hm]; decide), List.filter_nil, List.append_nil]
  unfold zk_cu
  rw [e]
  exact ⟨h.1, h.2.1, fun t ht => h.2.2 t (by omega)⟩
theorem zk_cu_keep {ks : List Nat} {m : Nat → Bool} {f fk : Nat → Int64} {j kp : Nat} (h : zk_cu ks m f fk j kp) (hj : j < ks.length) (hm : m (ks.getD j 0) = false) : zk_cu ks m f (vp_updL fk kp (lN (ks.getD j 0))) (j + 1) (kp + 1) := by
  have hle := zk_cu_le h
  have e : (ks.take (j + 1)).filter (fun k => !m k) = (ks.take j).filter (fun k => !m k) ++ [ks.getD j 0] := by
    rw [zk_take_1 hj, List.filter_append, List.filter_cons_of_pos (by rw [hm]; decide), List.filter_nil]
  unfold zk_cu
  rw [e]
  generalize ks.getD j 0 = x
  refine ⟨by rw [List.length_append, ← h.1]; rfl, ?_, ?_⟩
  · intro t ht
    rw [List.getD_eq_getElem?_getD, List.getElem?_append]
    by_cases q : t = kp
    · subst q
      rw [pk_uLs, if_neg (by rw [← h.1]; omega), ← h.1, Nat.sub_self]
      rfl
    · rw [pk_uLn q, if_pos (by rw [← h.1]; omega), h.2.1 t (by omega), List.getD_eq_getElem?_getD]
  · intro t ht
    rw [pk_uLn (by omega)]
    exact h.2.2 t (by omega)
theorem zk_cu_end {ks : List Nat} {m : Nat → Bool} {f fk : Nat → Int64} {kp : Nat} (hG : zk_R ks f) (h : zk_cu ks m f fk ks.length kp) : kp = (ks.filter (fun k => !m k)).length ∧ ks.length - kp = ks.countP m ∧ zk_R (ks.filter (fun k => !m k)) fk := by
  obtain ⟨hs, h60, hn, hf⟩ := hG
  obtain ⟨h1, h2, h3⟩ := h
  rw [List.take_length] at h1 h2
  have hl := List.length_filter_le (fun k => !m k) ks
  refine ⟨h1, ?_, hs.filter _, fun k hk => h60 k (List.mem_filter.mp hk).1, by omega, fun j hj => h2 j (by omega)⟩
  rw [h1, ← List.countP_eq_length_filter]
  have e := List.length_eq_countP_add_countP (p := m) (l := ks)
  have e2 : ks.countP (fun k => !m k) = ks.countP (fun a => decide ¬ m a = true) := List.countP_congr (fun x _ => by simp)
  omega
theorem zk_cut_no {ks : List Nat} {i : Nat} {v a b d : Int32} (h60 : ∀ k ∈ ks, k < 1152921504606846976) (hi : i ≤ 3) (ev : v = nI i) (h : zf_fn v a b d = false) : ks.filter (fun k => !zk_m i a b d k) = ks ∧ ks.countP (zk_m i a b d) = 0 := by
  have hm : ∀ k ∈ ks, zk_m i a b d k = false := fun k hk => zf_fn_no hi (ev ▸ h) (h60 k hk)
  constructor
  · rw [List.filter_eq_self]
    intro k hk
    rw [hm k hk]
    rfl
  · rw [List.countP_eq_zero]
    intro k hk
    rw [hm k hk]
    decide
