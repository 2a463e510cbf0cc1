/-! ROWS OF ONE INSTRUCTION -/
def zPu (S : zS) (pc pc' : Nat) (v : Int32) : Prop := ∀ (w : zN) (x : zK), zOk w S x → ∀ (H : Heap) (ls : Array Slot) (lo : List Loc) (st : List Value), zW S x H lo pc' ls (.int v :: st) → zW S x H lo pc ls st
def zOp (S : zS) (pc pc' : Nat) (o : Int32 → Int32 → Int32) : Prop := ∀ (w : zN) (x : zK), zOk w S x → ∀ (a b : Int32) (H : Heap) (ls : Array Slot) (lo : List Loc) (st : List Value), zW S x H lo pc' ls (.int (o a b) :: st) → zW S x H lo pc ls (.int b :: .int a :: st)
def zOm (S : zS) (pc pc' : Nat) (o : Int32 → Int32 → Int32) : Prop := ∀ (w : zN) (x : zK), zOk w S x → ∀ (a b : Int32) (H : Heap) (ls : Array Slot) (lo : List Loc) (st : List Value), ls.size = S.2.1 → zc st ≤ 20 → zW S x H lo pc' ls (.int (o a b) :: st) → zW S x H lo pc ls (.int b :: .int a :: st)
def zOq (S : zS) (pc : Nat) (o : Int32 → Int32 → Int32) : Prop := ∀ (w : zN) (x : zK), zOk w S x → ∀ (a b : Int32), ¬ b = 0 → ∀ (H : Heap) (ls : Array Slot) (lo : List Loc) (st : List Value), zW S x H lo (pc + 1) ls (.int (o a b) :: st) → zW S x H lo pc ls (.int b :: .int a :: st)
/-- a jump: taken if the relation is j -/
def zJ2 (S : zS) (pc T : Nat) (j : Bool) (o : Int32 → Int32 → Bool) : Prop := ∀ (w : zN) (x : zK), zOk w S x → ∀ (a b : Int32) (H : Heap) (ls : Array Slot) (lo : List Loc) (st : List Value), (o a b = j → zW S x H lo T ls st) → (o a b = (!j) → zW S x H lo (pc + 3) ls st) → zW S x H lo pc ls (.int b :: .int a :: st)
def zJ1 (S : zS) (pc T : Nat) (j : Bool) (o : Int32 → Bool) : Prop := ∀ (w : zN) (x : zK), zOk w S x → ∀ (a : Int32) (H : Heap) (ls : Array Slot) (lo : List Loc) (st : List Value), (o a = j → zW S x H lo T ls st) → (o a = (!j) → zW S x H lo (pc + 3) ls st) → zW S x H lo pc ls (.int a :: st)
theorem zpu_iconst {S : zS} {pc : Nat} {n : Int} {v : Int32} (d : decode S.1 pc = .ok (.iconst n, 1)) (hv : Int32.ofInt n = v) : zPu S pc (pc + 1) v := by
  intro w x hO H ls lo st k
  obtain ⟨p, l, e, s, m, args, below, meth, c, Q⟩ := x
  exact lv_iconst hO.1 hO.2.1 d hv k
theorem zpu_bipush {S : zS} {pc : Nat} {n : Int} {v : Int32} (d : decode S.1 pc = .ok (.bipush n, 2)) (hv : (Int8.ofInt n).toInt32 = v) : zPu S pc (pc + 2) v := by
  intro w x hO H ls lo st k
  obtain ⟨p, l, e, s, m, args, below, meth, c, Q⟩ := x
  exact lv_bipush hO.1 hO.2.1 d hv k
theorem zpu_sipush {S : zS} {pc : Nat} {n : Int} {v : Int32} (d : decode S.1 pc = .ok (.sipush n, 3)) (hv : (Int16.ofInt n).toInt32 = v) : zPu S pc (pc + 3) v := by
  intro w x hO H ls lo st k
  obtain ⟨p, l, e, s, m, args, below, meth, c, Q⟩ := x
  exact lv_sipush hO.1 hO.2.1 d hv k
theorem zpu_ldc {S : zS} {pc : Nat} {n : Nat} {v : Int32} (d : decode S.1 pc = .ok (.ldc n, 2)) (hw : Cond.constant S.2.2.1 n v ∈ S.2.2.2.1) : zPu S pc (pc + 2) v := by
  intro w x hO H ls lo st k
  obtain ⟨p, l, e, s, m, args, below, meth, c, Q⟩ := x
  exact lv_ldc hO.1 hO.2.1 hO.2.2.2.1 (hO.2.2.2.2.1 _ hw) d k
abbrev ziadd (a b : Int32) : Int32 := a + b
theorem zop_iadd {S : zS} {pc : Nat} (d : decode S.1 pc = .ok (.iadd, 1)) : zOp S pc (pc + 1) ziadd := by
  intro w x hO a b H ls lo st k
  obtain ⟨p, l, e, s, m, args, below, meth, c, Q⟩ := x
  exact lv_iadd hO.1 hO.2.1 d k
abbrev zisub (a b : Int32) : Int32 := a - b
theorem zop_isub {S : zS} {pc : Nat} (d : decode S.1 pc = .ok (.isub, 1)) : zOp S pc (pc + 1) zisub := by
  intro w x hO a b H ls lo st k
  obtain ⟨p, l, e, s, m, args, below, meth, c, Q⟩ := x
  exact lv_isub hO.1 hO.2.1 d k
abbrev zimul (a b : Int32) : Int32 := a * b
theorem zop_imul {S : zS} {pc : Nat} (d : decode S.1 pc = .ok (.imul, 1)) : zOp S pc (pc + 1) zimul := by
  intro w x hO a b H ls lo st k
  obtain ⟨p, l, e, s, m, args, below, meth, c, Q⟩ := x
  exact lv_imul hO.1 hO.2.1 d k
abbrev ziand (a b : Int32) : Int32 := a &&& b
theorem zop_iand {S : zS} {pc : Nat} (d : decode S.1 pc = .ok (.iand, 1)) : zOp S pc (pc + 1) ziand := by
  intro w x hO a b H ls lo st k
  obtain ⟨p, l, e, s, m, args, below, meth, c, Q⟩ := x
  exact lv_iand hO.1 hO.2.1 d k
abbrev zior (a b : Int32) : Int32 := a ||| b
theorem zop_ior {S : zS} {pc : Nat} (d : decode S.1 pc = .ok (.ior, 1)) : zOp S pc (pc + 1) zior := by
  intro w x hO a b H ls lo st k
  obtain ⟨p, l, e, s, m, args, below, meth, c, Q⟩ := x
  exact lv_ior hO.1 hO.2.1 d k
abbrev zixor (a b : Int32) : Int32 := a ^^^ b
theorem zop_ixor {S : zS} {pc : Nat} (d : decode S.1 pc = .ok (.ixor, 1)) : zOp S pc (pc + 1) zixor := by
  intro w x hO a b H ls lo st k
  obtain ⟨p, l, e, s, m, args, below, meth, c, Q⟩ := x
  exact lv_ixor hO.1 hO.2.1 d k
abbrev zishl (a b : Int32) : Int32 := a <<< (b &&& 31)
theorem zop_ishl {S : zS} {pc : Nat} (d : decode S.1 pc = .ok (.ishl, 1)) : zOp S pc (pc + 1) zishl := by
  intro w x hO a b H ls lo st k
  obtain ⟨p, l, e, s, m, args, below, meth, c, Q⟩ := x
  exact lv_ishl hO.1 hO.2.1 d k
abbrev zishr (a b : Int32) : Int32 := a >>> (b &&& 31)
theorem zop_ishr {S : zS} {pc : Nat} (d : decode S.1 pc = .ok (.ishr, 1)) : zOp S pc (pc + 1) zishr := by
  intro w x hO a b H ls lo st k
  obtain ⟨p, l, e, s, m, args, below, meth, c, Q⟩ := x
  exact lv_ishr hO.1 hO.2.1 d k
abbrev ziushr (a b : Int32) : Int32 := (a.toUInt32 >>> (b.toUInt32 &&& Int32.toUInt32 31)).toInt32
theorem zop_iushr {S : zS} {pc : Nat} (d : decode S.1 pc = .ok (.iushr, 1)) : zOp S pc (pc + 1) ziushr := by
  intro w x hO a b H ls lo st k
  obtain ⟨p, l, e, s, m, args, below, meth, c, Q⟩ := x
  exact lv_iushr hO.1 hO.2.1 d rfl k
abbrev zidiv (a b : Int32) : Int32 := a / b
theorem zoq_idiv {S : zS} {pc : Nat} (d : decode S.1 pc = .ok (.idiv, 1)) : zOq S pc zidiv := by
  intro w x hO a b hb H ls lo st k
  obtain ⟨p, l, e, s, m, args, below, meth, c, Q⟩ := x
  exact lv_idiv hO.1 hO.2.1 d hb k
abbrev zirem (a b : Int32) : Int32 := a - a / b * b
theorem zoq_irem {S : zS} {pc : Nat} (d : decode S.1 pc = .ok (.irem, 1)) : zOq S pc zirem := by
  intro w x hO a b hb H ls lo st k
  obtain ⟨p, l, e, s, m, args, below, meth, c, Q⟩ := x
  exact lv_irem hO.1 hO.2.1 d hb k
abbrev zmax (a b : Int32) : Int32 := if a < b then b else a
abbrev zmin (a b : Int32) : Int32 := if b < a then b else a
theorem zcat_le (st : List Value) : (st.map fun v => v.category).sum = zc st := rfl
/-- Math.max, Math.min -/
theorem zop_max {S : zS} {pc n : Nat} (d : decode S.1 pc = .ok (.invokestatic n, 3)) (h1 : Cond.methodLink S.2.2.1 n Lib.Math.max.name ∈ S.2.2.2.1) (h2 : Cond.static Lib.Math.max.name ∈ S.2.2.2.1) (h3 : Cond.initialized "java/lang/Math" ∈ S.2.2.2.1) (h4 : Cond.code Lib.Math.max.name Lib.Math.max.code 2 (some .int) ∈ S.2.2.2.1) (hf : 1 ≤ S.2.2.2.2.frames) (hl : 33 ≤ S.2.2.2.2.locals) : zOm S pc (pc + 3) zmax := by
  intro w x hO a b H ls lo st hz hc k
  obtain ⟨p, l, e, s, m, args, below, meth, c, Q⟩ := x
  obtain ⟨hx, hb, hml, hown, hts, -, hk, -⟩ := hO
  exact va_mmax hx hb (hml.trans hz.symm) hown (hts _ h1) (hts _ h2) (hts _ h3) (hts _ h4) hf (by rw [zcat_le]; omega) hk.2.1 hk.2.2 d k
theorem zop_min {S : zS} {pc n : Nat} (d : decode S.1 pc = .ok (.invokestatic n, 3)) (h1 : Cond.methodLink S.2.2.1 n Lib.Math.min.name ∈ S.2.2.2.1) (h2 : Cond.static Lib.Math.min.name ∈ S.2.2.2.1) (h3 : Cond.initialized "java/lang/Math" ∈ S.2.2.2.1) (h4 : Cond.code Lib.Math.min.name Lib.Math.min.code 2 (some .int) ∈ S.2.2.2.1) (hf : 1 ≤ S.2.2.2.2.frames) (hl : 33 ≤ S.2.2.2.2.locals) : zOm S pc (pc + 3) zmin := by
  intro w x hO a b H ls lo st hz hc k
  obtain ⟨p, l, e, s, m, args, below, meth, c, Q⟩ := x
  obtain ⟨hx, hb, hml, hown, hts, -, hk, -⟩ := hO
  exact va_mmin hx hb (hml.trans hz.symm) hown (hts _ h1) (hts _ h2) (hts _ h3) (hts _ h4) hf (by rw [zcat_le]; omega) hk.2.1 hk.2.2 d k
abbrev zeq (a b : Int32) : Bool := decide (a = b)
abbrev zne (a b : Int32) : Bool := decide (a ≠ b)
abbrev zlt (a b : Int32) : Bool := decide (a < b)
abbrev zge (a b : Int32) : Bool := decide (b ≤ a)
abbrev zgt (a b : Int32) : Bool := decide (b < a)
abbrev zle (a b : Int32) : Bool := decide (a ≤ b)
theorem zlt_n (a b : Int32) : (¬ a < b) ↔ b ≤ a := Int32.not_lt
theorem zle_n (a b : Int32) : (¬ a ≤ b) ↔ b < a := Int32.not_le
theorem zd_t {P : Prop} [Decidable P] (h : decide P = true) : P := of_decide_eq_true h
theorem zd_f {P : Prop} [Decidable P] (h : decide P = false) : ¬ P := of_decide_eq_false h
theorem zj2_eq {S : zS} {pc T : Nat} {off : Int} (d : decode S.1 pc = .ok (.if_icmp .eq off, 3)) (ht : (pc : Int) + off = (T : Int)) : zJ2 S pc T true zeq := by
  intro w x hO a b H ls lo st k1 k2
  obtain ⟨p, l, e, s, m, args, below, meth, c, Q⟩ := x
  exact lv_icmp_eq hO.1 hO.2.1 d ht (fun h => k1 (decide_eq_true h)) (fun h => k2 (decide_eq_false h))
theorem zj1_eq {S : zS} {pc T : Nat} {off : Int} (d : decode S.1 pc = .ok (.ifCond .eq off, 3)) (ht : (pc : Int) + off = (T : Int)) : zJ1 S pc T true (fun a => zeq a 0) := by
  intro w x hO a H ls lo st k1 k2
  obtain ⟨p, l, e, s, m, args, below, meth, c, Q⟩ := x
  exact lv_if_eq hO.1 hO.2.1 d ht (fun h => k1 (decide_eq_true h)) (fun h => k2 (decide_eq_false h))
theorem zj2n_eq {S : zS} {pc T : Nat} {off : Int} (d : decode S.1 pc = .ok (.if_icmp .eq off, 3)) (ht : (pc : Int) + off = (T : Int)) : zJ2 S pc T false zne := by
  intro w x hO a b H ls lo st k1 k2
  obtain ⟨p, l, e, s, m, args, below, meth, c, Q⟩ := x
  exact lv_icmp_eq hO.1 hO.2.1 d ht (fun h => k1 (decide_eq_false (fun q => q h))) (fun h => k2 (decide_eq_true h))
theorem zj1n_eq {S : zS} {pc T : Nat} {off : Int} (d : decode S.1 pc = .ok (.ifCond .eq off, 3)) (ht : (pc : Int) + off = (T : Int)) : zJ1 S pc T false (fun a => zne a 0) := by
  intro w x hO a H ls lo st k1 k2
  obtain ⟨p, l, e, s, m, args, below, meth, c, Q⟩ := x
  exact lv_if_eq hO.1 hO.2.1 d ht (fun h => k1 (decide_eq_false (fun q => q h))) (fun h => k2 (decide_eq_true h))
theorem zj2_ne {S : zS} {pc T : Nat} {off : Int} (d : decode S.1 pc = .ok (.if_icmp .ne off, 3)) (ht : (pc : Int) + off = (T : Int)) : zJ2 S pc T true zne := by
  intro w x hO a b H ls lo st k1 k2
  obtain ⟨p, l, e, s, m, args, below, meth, c, Q⟩ := x
  exact lv_icmp_ne hO.1 hO.2.1 d ht (fun h => k1 (decide_eq_true h)) (fun h => k2 (decide_eq_false (fun q => q h)))
theorem zj1_ne {S : zS} {pc T : Nat} {off : Int} (d : decode S.1 pc = .ok (.ifCond .ne off, 3)) (ht : (pc : Int) + off = (T : Int)) : zJ1 S pc T true (fun a => zne a 0) := by
  intro w x hO a H ls lo st k1 k2
  obtain ⟨p, l, e, s, m, args, below, meth, c, Q⟩ := x
  exact lv_if_ne hO.1 hO.2.1 d ht (fun h => k1 (decide_eq_true h)) (fun h => k2 (decide_eq_false (fun q => q h)))
theorem zj2n_ne {S : zS} {pc T : Nat} {off : Int} (d : decode S.1 pc = .ok (.if_icmp .ne off, 3)) (ht : (pc : Int) + off = (T : Int)) : zJ2 S pc T false zeq := by
  intro w x hO a b H ls lo st k1 k2
  obtain ⟨p, l, e, s, m, args, below, meth, c, Q⟩ := x
  exact lv_icmp_ne hO.1 hO.2.1 d ht (fun h => k1 (decide_eq_false h)) (fun h => k2 (decide_eq_true h))
theorem zj1n_ne {S : zS} {pc T : Nat} {off : Int} (d : decode S.1 pc = .ok (.ifCond .ne off, 3)) (ht : (pc : Int) + off = (T : Int)) : zJ1 S pc T false (fun a => zeq a 0) := by
  intro w x hO a H ls lo st k1 k2
  obtain ⟨p, l, e, s, m, args, below, meth, c, Q⟩ := x
  exact lv_if_ne hO.1 hO.2.1 d ht (fun h => k1 (decide_eq_false h)) (fun h => k2 (decide_eq_true h))
theorem zj2_lt {S : zS} {pc T : Nat} {off : Int} (d : decode S.1 pc = .ok (.if_icmp .lt off, 3)) (ht : (pc : Int) + off = (T : Int)) : zJ2 S pc T true zlt := by
  intro w x hO a b H ls lo st k1 k2
  obtain ⟨p, l, e, s, m, args, below, meth, c, Q⟩ := x
  exact lv_icmp_lt hO.1 hO.2.1 d ht (fun h => k1 (decide_eq_true h)) (fun h => k2 (decide_eq_false h))
theorem zj1_lt {S : zS} {pc T : Nat} {off : Int} (d : decode S.1 pc = .ok (.ifCond .lt off, 3)) (ht : (pc : Int) + off = (T : Int)) : zJ1 S pc T true (fun a => zlt a 0) := by
  intro w x hO a H ls lo st k1 k2
  obtain ⟨p, l, e, s, m, args, below, meth, c, Q⟩ := x
  exact lv_if_lt hO.1 hO.2.1 d ht (fun h => k1 (decide_eq_true h)) (fun h => k2 (decide_eq_false h))
theorem zj2n_lt {S : zS} {pc T : Nat} {off : Int} (d : decode S.1 pc = .ok (.if_icmp .lt off, 3)) (ht : (pc : Int) + off = (T : Int)) : zJ2 S pc T false zge := by
  intro w x hO a b H ls lo st k1 k2
  obtain ⟨p, l, e, s, m, args, below, meth, c, Q⟩ := x
  exact lv_icmp_lt hO.1 hO.2.1 d ht (fun h => k1 (decide_eq_false (fun q => zlt_n _ _ |>.mpr q h))) (fun h => k2 (decide_eq_true ((zlt_n _ _).mp h)))
theorem zj1n_lt {S : zS} {pc T : Nat} {off : Int} (d : decode S.1 pc = .ok (.ifCond .lt off, 3)) (ht : (pc : Int) + off = (T : Int)) : zJ1 S pc T false (fun a => zge a 0) := by
  intro w x hO a H ls lo st k1 k2
  obtain ⟨p, l, e, s, m, args, below, meth, c, Q⟩ := x
  exact lv_if_lt hO.1 hO.2.1 d ht (fun h => k1 (decide_eq_false (fun q => zlt_n _ _ |>.mpr q h))) (fun h => k2 (decide_eq_true ((zlt_n _ _).mp h)))
theorem zj2_ge {S : zS} {pc T : Nat} {off : Int} (d : decode S.1 pc = .ok (.if_icmp .ge off, 3)) (ht : (pc : Int) + off = (T : Int)) : zJ2 S pc T true zge := by
  intro w x hO a b H ls lo st k1 k2
  obtain ⟨p, l, e, s, m, args, below, meth, c, Q⟩ := x
  exact lv_icmp_ge hO.1 hO.2.1 d ht (fun h => k1 (decide_eq_true h)) (fun h => k2 (decide_eq_false h))
theorem zj1_ge {S : zS} {pc T : Nat} {off : Int} (d : decode S.1 pc = .ok (.ifCond .ge off, 3)) (ht : (pc : Int) + off = (T : Int)) : zJ1 S pc T true (fun a => zge a 0) := by
  intro w x hO a H ls lo st k1 k2
  obtain ⟨p, l, e, s, m, args, below, meth, c, Q⟩ := x
  exact lv_if_ge hO.1 hO.2.1 d ht (fun h => k1 (decide_eq_true h)) (fun h => k2 (decide_eq_false h))
theorem zj2n_ge {S : zS} {pc T : Nat} {off : Int} (d : decode S.1 pc = .ok (.if_icmp .ge off, 3)) (ht : (pc : Int) + off = (T : Int)) : zJ2 S pc T false zlt := by
  intro w x hO a b H ls lo st k1 k2
  obtain ⟨p, l, e, s, m, args, below, meth, c, Q⟩ := x
  exact lv_icmp_ge hO.1 hO.2.1 d ht (fun h => k1 (decide_eq_false (fun q => zlt_n _ _ |>.mpr h q))) (fun h => k2 (decide_eq_true (Decidable.byContradiction (fun q => h ((zlt_n _ _).mp q)))))
theorem zj1n_ge {S : zS} {pc T : Nat} {off : Int} (d : decode S.1 pc = .ok (.ifCond .ge off, 3)) (ht : (pc : Int) + off = (T : Int)) : zJ1 S pc T false (fun a => zlt a 0) := by
  intro w x hO a H ls lo st k1 k2
  obtain ⟨p, l, e, s, m, args, below, meth, c, Q⟩ := x
  exact lv_if_ge hO.1 hO.2.1 d ht (fun h => k1 (decide_eq_false (fun q => zlt_n _ _ |>.mpr h q))) (fun h => k2 (decide_eq_true (Decidable.byContradiction (fun q => h ((zlt_n _ _).mp q)))))
theorem zj2_gt {S : zS} {pc T : Nat} {off : Int} (d : decode S.1 pc = .ok (.if_icmp .gt off, 3)) (ht : (pc : Int) + off = (T : Int)) : zJ2 S pc T true zgt := by
  intro w x hO a b H ls lo st k1 k2
  obtain ⟨p, l, e, s, m, args, below, meth, c, Q⟩ := x
  exact lv_icmp_gt hO.1 hO.2.1 d ht (fun h => k1 (decide_eq_true h)) (fun h => k2 (decide_eq_false h))
theorem zj1_gt {S : zS} {pc T : Nat} {off : Int} (d : decode S.1 pc = .ok (.ifCond .gt off, 3)) (ht : (pc : Int) + off = (T : Int)) : zJ1 S pc T true (fun a => zgt a 0) := by
  intro w x hO a H ls lo st k1 k2
  obtain ⟨p, l, e, s, m, args, below, meth, c, Q⟩ := x
  exact lv_if_gt hO.1 hO.2.1 d ht (fun h => k1 (decide_eq_true h)) (fun h => k2 (decide_eq_false h))
theorem zj2n_gt {S : zS} {pc T : Nat} {off : Int} (d : decode S.1 pc = .ok (.if_icmp .gt off, 3)) (ht : (pc : Int) + off = (T : Int)) : zJ2 S pc T false zle := by
  intro w x hO a b H ls lo st k1 k2
  obtain ⟨p, l, e, s, m, args, below, meth, c, Q⟩ := x
  exact lv_icmp_gt hO.1 hO.2.1 d ht (fun h => k1 (decide_eq_false (fun q => zle_n _ _ |>.mpr h q))) (fun h => k2 (decide_eq_true (Decidable.byContradiction (fun q => h ((zle_n _ _).mp q)))))
theorem zj1n_gt {S : zS} {pc T : Nat} {off : Int} (d : decode S.1 pc = .ok (.ifCond .gt off, 3)) (ht : (pc : Int) + off = (T : Int)) : zJ1 S pc T false (fun a => zle a 0) := by
  intro w x hO a H ls lo st k1 k2
  obtain ⟨p, l, e, s, m, args, below, meth, c, Q⟩ := x
  exact lv_if_gt hO.1 hO.2.1 d ht (fun h => k1 (decide_eq_false (fun q => zle_n _ _ |>.mpr h q))) (fun h => k2 (decide_eq_true (Decidable.byContradiction (fun q => h ((zle_n _ _).mp q)))))
theorem zj2_le {S : zS} {pc T : Nat} {off : Int} (d : decode S.1 pc = .ok (.if_icmp .le off, 3)) (ht : (pc : Int) + off = (T : Int)) : zJ2 S pc T true zle := by
  intro w x hO a b H ls lo st k1 k2
  obtain ⟨p, l, e, s, m, args, below, meth, c, Q⟩ := x
  exact lv_icmp_le hO.1 hO.2.1 d ht (fun h => k1 (decide_eq_true h)) (fun h => k2 (decide_eq_false h))
theorem zj1_le {S : zS} {pc T : Nat} {off : Int} (d : decode S.1 pc = .ok (.ifCond .le off, 3)) (ht : (pc : Int) + off = (T : Int)) : zJ1 S pc T true (fun a => zle a 0) := by
  intro w x hO a H ls lo st k1 k2
  obtain ⟨p, l, e, s, m, args, below, meth, c, Q⟩ := x
  exact lv_if_le hO.1 hO.2.1 d ht (fun h => k1 (decide_eq_true h)) (fun h => k2 (decide_eq_false h))
theorem zj2n_le {S : zS} {pc T : Nat} {off : Int} (d : decode S.1 pc = .ok (.if_icmp .le off, 3)) (ht : (pc : Int) + off = (T : Int)) : zJ2 S pc T false zgt := by
  intro w x hO a b H ls lo st k1 k2
  obtain ⟨p, l, e, s, m, args, below, meth, c, Q⟩ := x
  exact lv_icmp_le hO.1 hO.2.1 d ht (fun h => k1 (decide_eq_false (fun q => zle_n _ _ |>.mpr q h))) (fun h => k2 (decide_eq_true ((zle_n _ _).mp h)))
theorem zj1n_le {S : zS} {pc T : Nat} {off : Int} (d : decode S.1 pc = .ok (.ifCond .le off, 3)) (ht : (pc : Int) + off = (T : Int)) : zJ1 S pc T false (fun a => zgt a 0) := by
  intro w x hO a H ls lo st k1 k2
  obtain ⟨p, l, e, s, m, args, below, meth, c, Q⟩ := x
  exact lv_if_le hO.1 hO.2.1 d ht (fun h => k1 (decide_eq_false (fun q => zle_n _ _ |>.mpr q h))) (fun h => k2 (decide_eq_true ((zle_n _ _).mp h)))
