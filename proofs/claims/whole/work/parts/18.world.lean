/-! Own rows: the cells of the class' object, and what a call leaves -/
abbrev zx_w (h0 ha : Nat) (cA : ClassId) (n : Nat) (f : Nat → Int64) (px py pz : Int32) (N : Nat) (cur : Int64) : va_W := [(h0, .inr (0, [.int px, .int py, .int pz, .ref ha, .int (nI N), .long cur])), (ha, .inl (cA, n, .inr (.inl f)))]
abbrev zx_S : Type := Nat × ClassId × Nat × (Nat → Int64)
abbrev zx_wu (h0 : Nat) (px py pz : Int32) (ks : List Nat) (cur : Int64) (u : zx_S) : va_W := zx_w h0 u.1 u.2.1 u.2.2.1 u.2.2.2 px py pz ks.length cur
abbrev zx_t (u : zx_S) : List (ClassId × FieldType) := [(u.2.1, .long)]
abbrev zx_Q (dC : Nat → ClassId) (dI : Nat → Nat → Nat) (h0 : Nat) (px py pz : Int32) (v : Option Value) (ks : List Nat) (cur : Int64) (A : Nat → Prop) : Array Value → State → Outcome → State → Prop := zw_Qw (S := zx_S) (fun _ => v) (fun u => zk_G ks u.2.2.1 u.2.2.2) (dC, dI) vwCl (zx_wu h0 px py pz ks cur) zx_t A
/-- the cells of the reference's object -/
abbrev zy_w (h0 ha : Nat) (cA : ClassId) (f : Nat → Int64) (o : Nat) (N : Nat) (cur : Int64) : va_W := [(h0, .inr (1, [.ref ha, .int (nI N), .int (nI o), .long cur])), (ha, .inl (cA, 20000, .inr (.inl f)))]
abbrev zy_Q (dC : Nat → ClassId) (dI : Nat → Nat → Nat) (h0 ha : Nat) (cA : ClassId) (o : Nat) (v : Option Value) (ks : List Nat) (cur : Int64) (A : Nat → Prop) : Array Value → State → Outcome → State → Prop := zw_Qw (S := Nat → Int64) (fun _ => v) (fun u => zk_R ks u) (dC, dI) vwCl (fun u => zy_w h0 ha cA u o ks.length cur) (fun _ => [(cA, .long)]) A
