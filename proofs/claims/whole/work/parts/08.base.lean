/-! THE BASE: a small functional reading of the bytecode (expressions, conditions, statements as functions that may fail), and for each of its pieces one row: if the piece gives a result, the machine comes there. -/
abbrev zSh : Type := Nat × Nat × List (Option (Option Nat))
abbrev zM : Type := Nat → Nat → Int32
abbrev zE : Type := Nat → Option Int32
abbrev zO : Type := Nat × Int32 × zE × zM
abbrev zX : Type := zE → zM → Option (Int32 × zM)
abbrev zC : Type := zE → zM → Option (Bool × zM)
abbrev zT : Type := zE → zM → Option zO
abbrev zA : Type := zE → zM → Option (List Int32 × zM)
/-- a world: shapes, addresses, live names, tables of the kit, the numbers of int[], boolean[], int[][] -/
abbrev zN : Type := (Nat → zSh) × (Nat → Nat) × List Nat × va_G × ClassId × ClassId × ClassId
abbrev zsh (w : zN) : Nat → zSh := w.1
abbrev zad (w : zN) : Nat → Nat := w.2.1
abbrev znm (w : zN) : List Nat := w.2.2.1
abbrev zD (w : zN) : va_G := w.2.2.2.1
abbrev zty (w : zN) : List (ClassId × FieldType) := [(w.2.2.2.2.1, .int), (w.2.2.2.2.2.1, .boolean), (w.2.2.2.2.2.2, .array .int)]
def zcl : List vw_C := [(RX0, TX0, 10), (RX1, TX1, 16), (RX0, TX0, 10), (RX3, TX3, 1), (RX0, TX0, 10), (RX5, TX5, 3), (RX6, TX6, 9), (RX0, TX0, 10), (RX8, TX8, 8), (RX9, TX9, 32)]
def zT0 : Nat → Int32 := fun j => ([1, 2, 0, 1, 1, 3, 2, 1, 0, 1, 3, 1, 2, 1, 1, 1, 1, 1, 2, 4, 0, 0, 0, 0, 1, 0, 0, 1, 0, 0, 3, 1, 0, 0, 0, 0, 0, 0, 0, 1, 0, 0, 0, 0, 0, 0, 0, 0, 0, 0, 0, 0, 0, 0, 0, 0, 0, 0, 0, 0, 1, 4, 0, 1, 0, 0, 1, 1, 0, 1, 3, 0, 5, 0, 0, 1, 1, 5, 1, 4, 0] : List Int32).getD j 0
def zT1 : Nat → Int32 := fun j => ([-2147483648, 0, 0, 0, -99, 0] : List Int32).getD j 0
def zT2 : Nat → Int32 := fun j => ([2147483647, 5, 7, 1, 99, 40] : List Int32).getD j 0
def zstat : List (String × String × Nat × (Nat → Int32)) := [("FreeShelf$Grammar", "USES", 81, zT0), ("FreeShelf$Grammar", "LOWEST", 6, zT1), ("FreeShelf$Grammar", "HIGHEST", 6, zT2)]
def zfv (ad : Nat → Nat) (v : Nat → Int32) (i : Nat) (f : Option (Option Nat)) : Value := match f with
  | none => .int (v i)
  | some none => .null
  | some (some n) => .ref (ad n)
def zfs (ad : Nat → Nat) (fl : List (Option (Option Nat))) (v : Nat → Int32) : List Value := fl.mapIdx (zfv ad v)
def zqs (ad : Nat → Nat) (fl : List (Option (Option Nat))) (j : Nat) : Option Nat := ((fl.getD j none).getD none).map ad
def zce (w : zN) (n : Nat) (v : Nat → Int32) : va_E := match zsh w n with
  | (0, k, _) => .inl (w.2.2.2.2.1, k, .inl v)
  | (1, k, _) => .inl (w.2.2.2.2.2.1, k, .inl v)
  | (2, k, fl) => .inr (k, zfs (zad w) fl v)
  | (_, k, fl) => .inl (w.2.2.2.2.2.2, k, .inr (.inr (.inr (.inr (zqs (zad w) fl)))))
def zws (w : zN) (μ : zM) : va_W := (znm w).map (fun n => (zad w n, zce w n (μ n)))
def zFr (w : zN) : Nat → Prop := fun q => ∃ n, n ∈ znm w ∧ zad w n = q
def zup (ρ : zE) (k : Nat) (v : Int32) : zE := fun j => if j = k then some v else ρ j
def zst (μ : zM) (n k : Nat) (v : Int32) : zM := fun a => if a = n then upd (μ n) k v else μ a
def zsa (μ : zM) (n : Nat) (f : Nat → Int32) : zM := fun a => if a = n then f else μ a
theorem zws_get {w : zN} {μ : zM} {q n : Nat} (h : (znm w)[q]? = some n) : (zws w μ)[q]? = some (zad w n, zce w n (μ n)) := by
  unfold zws
  rw [List.getElem?_map, h]
  rfl
theorem zws_set {w : zN} {μ : zM} {q n : Nat} (hn : (znm w).Nodup) (h : (znm w)[q]? = some n) (f : Nat → Int32) : (zws w μ).set q (zad w n, zce w n f) = zws w (zsa μ n f) := by
  apply List.ext_getElem?
  intro i
  have hl : q < (zws w μ).length := by
    unfold zws
    rw [List.length_map]
    exact (List.getElem?_eq_some_iff.mp h).1
  by_cases hi : i = q
  · subst hi
    rw [List.getElem?_set_self hl, zws_get h]
    simp [zsa]
  · rw [List.getElem?_set_ne (fun z => hi z.symm)]
    unfold zws
    rw [List.getElem?_map, List.getElem?_map]
    cases hk : (znm w)[i]? with
    | none => rfl
    | some k =>
      have hne : k ≠ n := by
        intro e
        subst e
        exact hi ((List.getElem?_inj (List.getElem?_eq_some_iff.mp hk).1 hn).mp (hk.trans h.symm))
      simp [zsa, hne]
theorem zst_sa (μ : zM) (n k : Nat) (v : Int32) : zst μ n k v = zsa μ n (upd (μ n) k v) := rfl
theorem zws_D {w : zN} {A : Nat → Prop} {μ : zM} (μ' : zM) (h : va_D A (zws w μ)) : va_D A (zws w μ') := by
  have key : ∀ (k : Nat) (q : Nat × va_E), (zws w μ')[k]? = some q → ∃ q0, (zws w μ)[k]? = some q0 ∧ q0.1 = q.1 := by
    intro k q hk
    unfold zws at hk ⊢
    rw [List.getElem?_map] at hk ⊢
    cases hn : (znm w)[k]? with
    | none => rw [hn] at hk; cases hk
    | some n =>
      rw [hn] at hk
      cases hk
      exact ⟨_, rfl, rfl⟩
  refine ⟨fun i j x y hi hj hxy => ?_, fun k q hk => ?_⟩
  · obtain ⟨x0, h1, h2⟩ := key i x hi
    obtain ⟨y0, h3, h4⟩ := key j y hj
    exact h.1 i j x0 y0 h1 h3 (h2.trans (hxy.trans h4.symm))
  · obtain ⟨q0, h1, h2⟩ := key k q hk
    rw [← h2]
    exact h.2 k q0 h1
/-- a row that is only read (shape 9): its numbers stand in its shape -/
def zsv (fl : List (Option (Option Nat))) (j : Nat) : Int32 := match fl.getD j none with
  | some (some k) => Int32.ofNat k
  | _ => 0
def zXs (w : zN) (s : State) : Prop := ∀ (n L : Nat) (fl : List (Option (Option Nat))), zsh w n = (9, L, fl) → va_X (zad w n) L (zsv fl) s s.heap ∧ zad w n < s.heap.size ∧ ¬ zFr w (zad w n)
theorem va_X_mv {b L : Nat} {xs : Nat → Int32} {A : Nat → Prop} {s U : State} {lo : List Loc} (h : va_X b L xs s s.heap) (hA : ¬ A b) (hb : b < s.heap.size) (hS : va_S A s.heap U.heap lo) (hW : s.vm.Alike U.vm) : va_X b L xs U U.heap := by
  obtain ⟨scr, h1, h2, h3, h4, h5⟩ := h
  have t : va_T .int b L (fun j => .int (xs j)) A s s.heap := ⟨scr, h1, h2, h3, by omega, by rw [h4], h5, hA⟩
  obtain ⟨c, g1, g2, -⟩ := va_T.moved hW (t.kept hS.2.1)
  have e : some c = some scr := g1.symm.trans ((hS.2.1 b hb hA).trans h1)
  cases e
  exact ⟨scr, g1, g2, h3, h4, h5⟩
/-- the static tables, which nobody writes; the links to nest mates' fields; rows only read -/
def zG (w : zN) (s : State) : Prop := (∀ q ∈ zstat, ∃ t : Nat, va_Z q.1 q.2.1 "[I" (.ref t) (zFr w) s s.heap ∧ va_T .int t q.2.2.1 (fun j => .int (q.2.2.2 j)) (zFr w) s s.heap) ∧ (∀ q ∈ zNW, va_Nw (.fieldLinkNest q.1 q.2.1 q.2.2.1 q.2.2.2.1 q.2.2.2.2.1 q.2.2.2.2.2) s) ∧ zXs w s
theorem zG_at {w : zN} {s U : State} {H : Heap} {lo : List Loc} (h : zG w s) (hS : va_S (zFr w) s.heap H lo) (hU : U.heap = H) (hW : s.WarmedH U.vm) : zG w U := by
  subst hU
  refine ⟨fun q hq => ?_, fun q hq => va_Nw.warmF hW (h.2.1 q hq), fun n L fl hn => ?_⟩
  · obtain ⟨t, h1, h2⟩ := h.1 q hq
    exact ⟨t, va_Z.moved hW.alike (h1.kept hS.2.1), va_T.moved hW.alike (h2.kept hS.2.1)⟩
  · obtain ⟨h1, h2, h3⟩ := h.2.2 n L fl hn
    exact ⟨va_X_mv h1 h3 h2 hS hW.alike, Nat.lt_of_lt_of_le h2 hS.1, h3⟩
/-- what a method's static place is: bytes, number of its slots, its own name, words, room -/
abbrev zS : Type := ByteArray × Nat × String × List Cond × Room
/-- where a walk stands -/
abbrev zK : Type := Program × Launch × Jvm.Env × State × MethodId × Array Value × List Frame × Method × Code × (State → Prop) × Nat × Nat
def zW (S : zS) (x : zK) (H : Heap) (lo : List Loc) (pc : Nat) (ls : Array Slot) (st : List Value) : Prop :=
  match x with
  | (p, l, e, s, m, args, below, meth, c, Q) => W p l e S.2.2.2.2 s m args below meth c H lo Q.2.1 Q.2.2 Q.1 (F0 m pc ls st)
def zOk (w : zN) (S : zS) (x : zK) : Prop :=
  match x with
  | (p, _, _, s, m, args, _, meth, c, Q) => p.tables.exec = Jvm.exec ∧ c.code = S.1 ∧ c.maxLocals = S.2.1 ∧ s.vm.findClass S.2.2.1 = some m.cls ∧ (∀ q ∈ S.2.2.2.1, q.before args s = true) ∧ va_K (zD w) zcl (zty w) s ∧ (meth.locks = false ∧ Q.2.1 ≤ S.2.2.2.2.cells ∧ Q.2.2 ≤ S.2.2.2.2.slots) ∧ (znm w).Nodup ∧ zG w s
def zH (w : zN) (x : zK) (μ : zM) (H : Heap) (lo : List Loc) : Prop := va_P (zD w) zcl (zws w μ) H ∧ va_D (zFr w) (zws w μ) ∧ va_S (zFr w) x.2.2.2.1.heap H lo
def zL (w : zN) (S : zS) (κ : List (Nat × Nat)) (ls : Array Slot) (ρ : zE) : Prop := ls.size = S.2.1 ∧ lv_wf ls ∧ (∀ k v, ρ k = some v → ls[k]? = some (.val (.int v))) ∧ ∀ q ∈ κ, ls[q.1]? = some (.val (.ref (zad w q.2)))
def zc (st : List Value) : Nat := (st.map fun v => v.category).sum
theorem zc_int (v : Int32) (st : List Value) : zc (.int v :: st) = zc st + 1 := by simp [zc, Value.category]; omega
theorem zc_ref (v : Nat) (st : List Value) : zc (.ref v :: st) = zc st + 1 := by simp [zc, Value.category]; omega
/-- from pc to pc', by gotos alone -/
def zRch (cc : ByteArray) : Nat → Nat → Nat → Prop
  | 0, a, b => a = b
  | n + 1, a, b => a = b ∨ ∃ (off : Int) (t : Nat), decode cc a = .ok (.goto off, 3) ∧ (a : Int) + off = (t : Int) ∧ zRch cc n t b
theorem zr0 {cc : ByteArray} {n a : Nat} : zRch cc n a a := by cases n <;> simp [zRch]
theorem zr1 {cc : ByteArray} {n a b t : Nat} {off : Int} (h : decode cc a = .ok (.goto off, 3)) (ht : (a : Int) + off = (t : Int)) (k : zRch cc n t b) : zRch cc (n + 1) a b := Or.inr ⟨off, t, h, ht, k⟩
theorem zW_r {S : zS} {w : zN} {x : zK} {H : Heap} {lo : List Loc} {ls : Array Slot} {st : List Value} (hO : zOk w S x) : ∀ {n a b : Nat}, zRch S.1 n a b → zW S x H lo b ls st → zW S x H lo a ls st
  | 0, a, b, h, k => by
    have h : a = b := h
    rw [h]; exact k
  | n + 1, a, b, h, k => by
    rcases h with rfl | ⟨off, t, h1, h2, h3⟩
    · exact k
    · have k2 := zW_r hO h3 k
      obtain ⟨p, l, e, s, m, args, below, meth, c, Q⟩ := x
      obtain ⟨hx, hb, -⟩ := hO
      exact lv_goto hx hb h1 h2 k2
/-- expressions, conditions, statements, arguments: what is claimed of a stretch of code -/
def zEv (w : zN) (S : zS) (κ : List (Nat × Nat)) (d pc pc' : Nat) (f : zX) : Prop :=
  ∀ x : zK, zOk w S x → ∀ (ρ : zE) (μ : zM) (v : Int32) (μ' : zM), f ρ μ = some (v, μ') → ∀ (H : Heap) (ls : Array Slot) (lo : List Loc) (st : List Value), zL w S κ ls ρ → zH w x μ H lo → zc st ≤ d →
    (∀ (H' : Heap) (lo' : List Loc), zH w x μ' H' lo' → zW S x H' lo' pc' ls (.int v :: st)) → zW S x H lo pc ls st
def zCj (w : zN) (S : zS) (κ : List (Nat × Nat)) (d pc T F : Nat) (f : zC) : Prop :=
  ∀ x : zK, zOk w S x → ∀ (ρ : zE) (μ : zM) (b : Bool) (μ' : zM), f ρ μ = some (b, μ') → ∀ (H : Heap) (ls : Array Slot) (lo : List Loc) (st : List Value), zL w S κ ls ρ → zH w x μ H lo → zc st ≤ d →
    (∀ (H' : Heap) (lo' : List Loc), zH w x μ' H' lo' → b = true → zW S x H' lo' T ls st) → (∀ (H' : Heap) (lo' : List Loc), zH w x μ' H' lo' → b = false → zW S x H' lo' F ls st) → zW S x H lo pc ls st
def zAv (w : zN) (S : zS) (κ : List (Nat × Nat)) (d pc pc' : Nat) (mg : List Int32 → List Value) (f : zA) : Prop :=
  ∀ x : zK, zOk w S x → ∀ (ρ : zE) (μ : zM) (v : List Int32) (μ' : zM), f ρ μ = some (v, μ') → ∀ (H : Heap) (ls : Array Slot) (lo : List Loc) (st : List Value), zL w S κ ls ρ → zH w x μ H lo → zc st ≤ d →
    (∀ (H' : Heap) (lo' : List Loc), zH w x μ' H' lo' → zW S x H' lo' pc' ls ((mg v).reverse ++ st)) → zW S x H lo pc ls st
/-- a reference with a name that is known -/
def zRv (w : zN) (S : zS) (κ : List (Nat × Nat)) (pc pc' n : Nat) : Prop :=
  ∀ x : zK, zOk w S x → ∀ (ρ : zE) (μ : zM) (H : Heap) (ls : Array Slot) (lo : List Loc) (st : List Value), zL w S κ ls ρ → zH w x μ H lo →
    zW S x H lo pc' ls (.ref (zad w n) :: st) → zW S x H lo pc ls st
/-- how a method's end is shown: with an int on the stack, or with nothing -/
def zEnd (S : zS) (vd : Bool) (x : zK) (H : Heap) (lo : List Loc) (v : Int32) : Prop :=
  ∀ (pc : Nat) (ls : Array Slot), match vd with
    | true => decode S.1 pc = .ok (.return_, 1) → zW S x H lo pc ls []
    | false => decode S.1 pc = .ok (.ireturn, 1) → zW S x H lo pc ls [.int v]
def zSj (w : zN) (S : zS) (κ : List (Nat × Nat)) (vd : Bool) (pc N B C : Nat) (f : zT) : Prop :=
  ∀ x : zK, zOk w S x → ∀ (ρ : zE) (μ : zM) (t : Nat) (v : Int32) (ρ' : zE) (μ' : zM), f ρ μ = some (t, v, ρ', μ') → ∀ (H : Heap) (ls : Array Slot) (lo : List Loc), zL w S κ ls ρ → zH w x μ H lo →
    (t = 0 → ∀ (H' : Heap) (ls' : Array Slot) (lo' : List Loc), zL w S κ ls' ρ' → zH w x μ' H' lo' → zW S x H' lo' N ls' []) →
    (t = 1 → ∀ (H' : Heap) (ls' : Array Slot) (lo' : List Loc), zL w S κ ls' ρ' → zH w x μ' H' lo' → zW S x H' lo' B ls' []) →
    (t = 2 → ∀ (H' : Heap) (ls' : Array Slot) (lo' : List Loc), zL w S κ ls' ρ' → zH w x μ' H' lo' → zW S x H' lo' C ls' []) →
    (t = 3 → ∀ (H' : Heap) (lo' : List Loc), zH w x μ' H' lo' → zEnd S vd x H' lo' v) → zW S x H lo pc ls []
