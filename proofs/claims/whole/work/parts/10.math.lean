/-! Own rows: sorted lists of keys, how many lie before a key, the row with one more or some fewer, how many different beginnings. -/
/-- how many keys lie before k -/
def zk_c (ks : List Nat) (k : Nat) : Nat := ks.countP (fun x => decide (x < k))
theorem zk_c_le (ks : List Nat) (k : Nat) : zk_c ks k ≤ ks.length := List.countP_le_length
theorem zk_c_cons (x : Nat) (ks : List Nat) (k : Nat) : zk_c (x :: ks) k = zk_c ks k + if x < k then 1 else 0 := by
  simp [zk_c, List.countP_cons]
theorem zk_c_0 {x : Nat} {ks : List Nat} {k : Nat} (h : ∀ y ∈ ks, x < y) (hk : k ≤ x) : zk_c ks k = 0 := by
  unfold zk_c
  rw [List.countP_eq_zero]
  intro a ha
  have := h a ha
  simp only [decide_eq_true_eq]
  omega
theorem zk_mem_getD {ks : List Nat} {j : Nat} (h : j < ks.length) : ks.getD j 0 ∈ ks := by
  rw [List.getD_eq_getElem?_getD, List.getElem?_eq_getElem h]
  exact List.getElem_mem h
theorem zk_lt (ks : List Nat) (k : Nat) (hp : ks.Pairwise (· < ·)) : ∀ j, j < ks.length → (ks.getD j 0 < k ↔ j < zk_c ks k) := by
  induction ks with
  | nil => intro j h; simp at h
  | cons x xs ih =>
    intro j h
    rw [List.pairwise_cons] at hp
    rw [zk_c_cons]
    by_cases hx : x < k
    · rw [if_pos hx]
      cases j with
      | zero => simp [hx]
      | succ j =>
        have h2 := ih hp.2 j (by simpa using h)
        rw [List.getD_cons_succ, h2]
        omega
    · rw [if_neg hx, zk_c_0 hp.1 (by omega)]
      cases j with
      | zero => simp only [List.getD_cons_zero]; omega
      | succ j =>
        have hj : j < xs.length := by simpa using h
        have h2 := hp.1 _ (zk_mem_getD hj)
        rw [List.getD_cons_succ]
        omega
theorem zk_take (ks : List Nat) (k : Nat) (hp : ks.Pairwise (· < ·)) : ks.take (zk_c ks k) = ks.filter (fun x => decide (x < k)) := by
  induction ks with
  | nil => simp
  | cons x xs ih =>
    rw [List.pairwise_cons] at hp
    rw [zk_c_cons]
    by_cases hx : x < k
    · rw [if_pos hx, List.take_succ_cons, ih hp.2, List.filter_cons_of_pos (by simpa using hx)]
    · rw [if_neg hx, zk_c_0 hp.1 (by omega), List.filter_cons_of_neg (by simpa using hx)]
      symm
      rw [show 0 + 0 = 0 from rfl, List.take_zero, List.filter_eq_nil_iff]
      intro a ha
      have := hp.1 a ha
      simp only [decide_eq_true_eq]
      omega
theorem zk_drop (ks : List Nat) (k : Nat) (hp : ks.Pairwise (· < ·)) : ks.drop (zk_c ks k) = ks.filter (fun x => decide (k ≤ x)) := by
  induction ks with
  | nil => simp
  | cons x xs ih =>
    rw [List.pairwise_cons] at hp
    rw [zk_c_cons]
    by_cases hx : x < k
    · rw [if_pos hx, List.drop_succ_cons, ih hp.2, List.filter_cons_of_neg (by simp only [decide_eq_true_eq]; omega)]
    · rw [if_neg hx, zk_c_0 hp.1 (by omega)]
      symm
      rw [show 0 + 0 = 0 from rfl, List.drop_zero, List.filter_eq_self]
      intro a ha
      simp only [decide_eq_true_eq]
      rcases List.mem_cons.mp ha with rfl | h
      · omega
      · have := hp.1 a h; omega
/-- a key comes -/
def zk_ins (ks : List Nat) (k : Nat) : List Nat := ks.take (zk_c ks k) ++ k :: ks.drop (zk_c ks k)
theorem zk_ins_len (ks : List Nat) (k : Nat) : (zk_ins ks k).length = ks.length + 1 := by
  have := zk_c_le ks k
  simp only [zk_ins, List.length_append, List.length_take, List.length_cons, List.length_drop]
  omega
theorem zk_ins_perm (ks : List Nat) (k : Nat) : (zk_ins ks k).Perm (k :: ks) := by
  unfold zk_ins
  refine List.perm_middle.trans ?_
  rw [List.take_append_drop]
theorem zk_ins_sorted {ks : List Nat} {k : Nat} (hp : ks.Pairwise (· < ·)) (hk : k ∉ ks) : (zk_ins ks k).Pairwise (· < ·) := by
  unfold zk_ins
  rw [zk_take ks k hp, zk_drop ks k hp, List.pairwise_append]
  refine ⟨hp.filter _, ?_, ?_⟩
  · rw [List.pairwise_cons]
    refine ⟨fun a ha => ?_, hp.filter _⟩
    rw [List.mem_filter, decide_eq_true_eq] at ha
    have : a ≠ k := fun e => hk (e ▸ ha.1)
    omega
  · intro a ha b hb
    rw [List.mem_filter, decide_eq_true_eq] at ha
    rcases List.mem_cons.mp hb with rfl | hb
    · exact ha.2
    · rw [List.mem_filter, decide_eq_true_eq] at hb
      omega
theorem zk_ins_get {ks : List Nat} {k j : Nat} : (zk_ins ks k).getD j 0 = if j < zk_c ks k then ks.getD j 0 else if j = zk_c ks k then k else ks.getD (j - 1) 0 := by
  have hc := zk_c_le ks k
  generalize hC : zk_c ks k = C at hc
  unfold zk_ins
  rw [hC]
  simp only [List.getD_eq_getElem?_getD]
  rw [List.getElem?_append, List.length_take, Nat.min_eq_left hc]
  by_cases h1 : j < C
  · rw [if_pos h1, if_pos h1, List.getElem?_take, if_pos h1]
  · rw [if_neg h1, if_neg h1]
    by_cases h2 : j = C
    · rw [if_pos h2, h2, Nat.sub_self, List.getElem?_cons_zero]; rfl
    · rw [if_neg h2]
      obtain ⟨i, hi⟩ : ∃ i, j - C = i + 1 := ⟨j - C - 1, by omega⟩
      rw [hi, List.getElem?_cons_succ, List.getElem?_drop]
      congr 2
      omega
/-- the keys from lo on, ahead of hi, go -/
def zk_del (ks : List Nat) (a b : Nat) : List Nat := ks.take a ++ ks.drop b
theorem zk_del_len {ks : List Nat} {a b : Nat} (h : a ≤ b) (hb : b ≤ ks.length) : (zk_del ks a b).length = ks.length - (b - a) := by
  simp only [zk_del, List.length_append, List.length_take, List.length_drop]
  omega
theorem zk_del_get {ks : List Nat} {a b j : Nat} (h : a ≤ b) (hb : b ≤ ks.length) : (zk_del ks a b).getD j 0 = if j < a then ks.getD j 0 else ks.getD (b + (j - a)) 0 := by
  unfold zk_del
  simp only [List.getD_eq_getElem?_getD]
  rw [List.getElem?_append, List.length_take, Nat.min_eq_left (by omega)]
  by_cases h1 : j < a
  · rw [if_pos h1, if_pos h1, List.getElem?_take, if_pos h1]
  · rw [if_neg h1, if_neg h1, List.getElem?_drop]
theorem zk_del_eq {ks : List Nat} {lo hi : Nat} (hp : ks.Pairwise (· < ·)) (hlh : lo ≤ hi) : zk_del ks (zk_c ks lo) (zk_c ks hi) = ks.filter (fun x => !(decide (lo ≤ x) && decide (x < hi))) := by
  unfold zk_del
  rw [zk_take ks lo hp, zk_drop ks hi hp]
  induction ks with
  | nil => rfl
  | cons x xs ih =>
    rw [List.pairwise_cons] at hp
    have ih := ih hp.2
    by_cases h1 : x < lo
    · rw [List.filter_cons_of_pos (by simpa using h1), List.filter_cons_of_neg (by simp only [decide_eq_true_eq]; omega), List.filter_cons_of_pos (by simp; omega), List.cons_append, ih]
    · have e1 : xs.filter (fun x => decide (x < lo)) = [] := by
        rw [List.filter_eq_nil_iff]
        intro a ha
        have := hp.1 a ha
        simp only [decide_eq_true_eq]
        omega
      rw [List.filter_cons_of_neg (by simpa using h1), e1, List.nil_append]
      rw [e1, List.nil_append] at ih
      by_cases h2 : hi ≤ x
      · rw [List.filter_cons_of_pos (by simpa using h2), List.filter_cons_of_pos (by simp; omega), ih]
      · rw [List.filter_cons_of_neg (by simpa using h2), List.filter_cons_of_neg (by simp; omega), ih]
theorem zk_mid_eq {ks : List Nat} {lo hi : Nat} (hp : ks.Pairwise (· < ·)) (hlh : lo ≤ hi) : (ks.take (zk_c ks hi)).drop (zk_c ks lo) = ks.filter (fun x => decide (lo ≤ x) && decide (x < hi)) := by
  rw [zk_take ks hi hp]
  have e : zk_c ks lo = zk_c (ks.filter (fun x => decide (x < hi))) lo := by
    unfold zk_c
    rw [List.countP_filter]
    apply List.countP_congr
    intro x _
    simp only [decide_eq_true_eq, Bool.and_eq_true]
    omega
  rw [e, zk_drop _ lo (hp.filter _), List.filter_filter]
theorem zk_c_mono (ks : List Nat) {a b : Nat} (h : a ≤ b) : zk_c ks a ≤ zk_c ks b := by
  unfold zk_c
  apply List.countP_mono_left
  intro x _
  simp only [decide_eq_true_eq]
  omega
theorem zk_c_sub (ks : List Nat) {lo hi : Nat} (h : lo ≤ hi) : zk_c ks hi - zk_c ks lo = ks.countP (fun x => decide (lo ≤ x) && decide (x < hi)) := by
  have e : zk_c ks hi = zk_c ks lo + ks.countP (fun x => decide (lo ≤ x) && decide (x < hi)) := by
    induction ks with
    | nil => rfl
    | cons x xs ih =>
      rw [zk_c_cons, zk_c_cons, List.countP_cons, ih]
      simp only [Bool.and_eq_true, decide_eq_true_eq]
      split <;> split <;> split <;> omega
  omega
/-- how many different numbers a list has -/
def zk_nd : List Nat → Nat
  | [] => 0
  | x :: xs => zk_nd xs + if x ∈ xs then 0 else 1
theorem zk_nd_perm {a b : List Nat} (h : a.Perm b) : zk_nd a = zk_nd b := by
  induction h with
  | nil => rfl
  | cons x p ih => simp only [zk_nd, ih, p.mem_iff]
  | swap x y l =>
    simp only [zk_nd, List.mem_cons]
    by_cases e : x = y
    · subst e; rfl
    · have e' : ¬ y = x := fun h => e h.symm
      simp only [e, e', false_or]
      omega
  | trans _ _ ih1 ih2 => rw [ih1, ih2]
/-- how often a number comes that isn't the last one -/
def zk_ch : Option Nat → List Nat → Nat
  | _, [] => 0
  | o, b :: l => (if some b = o then 0 else 1) + zk_ch (some b) l
theorem zk_ch_some (b : Nat) (l : List Nat) (h : (b :: l).Pairwise (· ≤ ·)) : zk_ch (some b) l + 1 = zk_nd (b :: l) := by
  induction l generalizing b with
  | nil => rfl
  | cons d l ih =>
    rw [List.pairwise_cons] at h
    have ih := ih d h.2
    have h2 := List.pairwise_cons.mp h.2
    rw [zk_nd, ← ih, zk_ch]
    have hd := h.1 d (List.mem_cons_self)
    by_cases e : d = b
    · subst e
      simp
    · have hn : b ∉ d :: l := by
        intro hm
        rcases List.mem_cons.mp hm with q | q
        · exact e q.symm
        · have := h2.1 b q; omega
      rw [if_neg (by intro q; exact e (Option.some.inj q)), if_neg hn]
      omega
theorem zk_ch_none (l : List Nat) (h : l.Pairwise (· ≤ ·)) : zk_ch none l = zk_nd l := by
  cases l with
  | nil => rfl
  | cons b l =>
    rw [← zk_ch_some b l h, zk_ch, if_neg (by simp)]
    omega
