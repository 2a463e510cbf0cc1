/-! THE LAW'S GROUND: what its start gives (classes, links, static tables) -/
section LAWG
variable {s : State} {b : Nat} {A : Nat → Prop}
theorem law_ao {args : Array Value} {first s : State} {o : Option Outcome} {idx : List Nat} {t : FieldType} (h : (Cond.arrayOver (.array t)).holds args first o s idx = true) : ∃ c k comp, s.vm.findClass ("[" ++ (FieldType.array t).toString) = some c ∧ s.vm.classes[c]? = some k ∧ k.kind = .array comp (.array t) := by
  simp only [Cond.holds, Cond.value, beq_iff_eq] at h
  cases hc : s.vm.findClass (FieldType.array t).toString with
  | none => simp [hc] at h
  | some comp =>
    simp only [hc, Option.bind_some, Option.bind_eq_some_iff, Option.map_eq_some_iff] at h
    obtain ⟨c, hi, k, hk, hb⟩ := h
    cases hkind : k.kind with
    | array component ty =>
      rw [hkind] at hb
      simp only [Bool.and_eq_true, decide_eq_true_eq] at hb
      exact ⟨c, k, component, hb.2, hk, by rw [hkind, hb.1]⟩
    | _ => rw [hkind] at hb; simp at hb
theorem law_z (hts : ∀ w ∈ lw_tbl, w.before #[Value.ref b] s = true) : ∀ w ∈ zGW, w.before #[Value.ref b] s = true := fun w h => hts w (List.mem_filter.mp h).1
theorem law_t1 {i : Nat} {w : Cond} (h : tables_1_1[i]? = some w) : w ∈ lw_tbl := List.mem_append_right _ (List.mem_append_left _ (List.mem_of_getElem? h))
theorem law_t3 {i : Nat} {w : Cond} (h : tables_1_3[i]? = some w) : w ∈ lw_tbl := List.mem_append_right _ (List.mem_append_right _ (List.mem_append_right _ (List.mem_append_left _ (List.mem_of_getElem? h))))
theorem law_NI (hts : ∀ w ∈ lw_tbl, w.before #[Value.ref b] s = true) : zNI s := ⟨va_Nw.of rfl (hts _ (law_t1 (i := 82) rfl)), va_Nw.of rfl (hts _ (law_t1 (i := 106) rfl)), va_Nw.of rfl (hts _ (law_t3 (i := 39) rfl)), va_Nw.of rfl (hts _ (law_t3 (i := 44) rfl)), va_Nw.of rfl (hts _ (law_t3 (i := 48) rfl))⟩
theorem law_AO (hts : ∀ w ∈ lw_tbl, w.before #[Value.ref b] s = true) : zAO s := arrayOver_alikeB (Vm.Alike.refl _) (hts _ (law_t1 (i := 111) rfl))
theorem law_K (hts : ∀ w ∈ lw_tbl, w.before #[Value.ref b] s = true) : ∃ (D : va_G) (cI cZ cA : ClassId), va_K D zcl [(cI, .int), (cZ, .boolean), (cA, .array .int)] s := by
  have hz := law_z hts
  obtain ⟨a0, i0, k0⟩ := u_known (C := RX0) (T := TX0) (N := 10) hz uin_X0 (hz _ (zgw3 (i := 47) rfl rfl))
  obtain ⟨a1, i1, k1⟩ := u_known (C := RX1) (T := TX1) (N := 16) hz uin_X1 (hz _ (zgw3 (i := 38) rfl rfl))
  obtain ⟨a3, i3, k3⟩ := u_known (C := RX3) (T := TX3) (N := 1) hz uin_X3 (hz _ (zgw1 (i := 105) rfl rfl))
  obtain ⟨a5, i5, k5⟩ := u_known (C := RX5) (T := TX5) (N := 3) hz uin_X5 (hz _ (zgw1 (i := 81) rfl rfl))
  obtain ⟨a6, i6, k6⟩ := u_known (C := RX6) (T := TX6) (N := 9) hz uin_X6 (hz _ (zgw1 (i := 23) rfl rfl))
  obtain ⟨a8, i8, k8⟩ := u_known (C := RX8) (T := TX8) (N := 8) hz uin_X8 (hz _ (zgw1 (i := 15) rfl rfl))
  obtain ⟨a9, i9, k9⟩ := u_known (C := RX9) (T := TX9) (N := 32) hz uin_X9 (hz _ (zgw4 (i := 55) rfl rfl))
  obtain ⟨cI, kI, mI, fI, gI, eI⟩ := Cond.arrayClass_spec (hz _ (zgw1 (i := 79) rfl rfl))
  obtain ⟨cZ, kZ, mZ, fZ, gZ, eZ⟩ := Cond.arrayClass_spec (hz _ (zgw3 (i := 83) rfl rfl))
  obtain ⟨cA, kA, mA, fA, gA, eA⟩ := law_ao (hts _ (law_t1 (i := 111) rfl))
  refine ⟨(fun k => if k = 1 then a1 else if k = 3 then a3 else if k = 5 then a5 else if k = 6 then a6 else if k = 8 then a8 else if k = 9 then a9 else a0, fun k => if k = 1 then i1 else if k = 3 then i3 else if k = 5 then i5 else if k = 6 then i6 else if k = 8 then i8 else if k = 9 then i9 else i0), cI, cZ, cA, fun c q hq => ?_, fun k q hq => ?_⟩
  · match c, hq with
    | 0, hq => cases hq; exact k0
    | 1, hq => cases hq; exact k1
    | 2, hq => cases hq; exact k0
    | 3, hq => cases hq; exact k3
    | 4, hq => cases hq; exact k0
    | 5, hq => cases hq; exact k5
    | 6, hq => cases hq; exact k6
    | 7, hq => cases hq; exact k0
    | 8, hq => cases hq; exact k8
    | 9, hq => cases hq; exact k9
    | c + 10, hq => cases hq
  · match k, hq with
    | 0, hq => cases hq; exact ⟨fun n z => ⟨fun k h => (by cases h), kI, gI, mI, eI⟩, fI⟩
    | 1, hq => cases hq; exact ⟨fun n z => ⟨fun k h => (by cases h), kZ, gZ, mZ, eZ⟩, fZ⟩
    | 2, hq => cases hq; exact ⟨fun n z => ⟨fun k h => (by cases h), kA, gA, mA, eA⟩, fA⟩
    | k + 3, hq => cases hq
theorem law_NW (hts : ∀ w ∈ lw_tbl, w.before #[Value.ref b] s = true) : ∀ q ∈ zNW, va_Nw (.fieldLinkNest q.1 q.2.1 q.2.2.1 q.2.2.2.1 q.2.2.2.2.1 q.2.2.2.2.2) s := fun q hq => va_Nw.of rfl (hts _ ((show ∀ q ∈ zNW, Cond.fieldLinkNest q.1 q.2.1 q.2.2.1 q.2.2.2.1 q.2.2.2.2.1 q.2.2.2.2.2 ∈ lw_tbl by decide +kernel) q hq))
theorem law_st1 (n : String) (N : Nat) (f : Nat → Int32) (hts : ∀ w ∈ lw_tbl, w.before #[Value.ref b] s = true) (hgv : (Jvm.Cond.and given_1 narrow_1).before #[Value.ref b] s = true) (hA : ∀ a : Nat, a < s.heap.size → ¬ A a) (hN : N < 2 ^ 31) (w0 : Cond.laysStatic "FreeShelf$Grammar" n "[I" ∈ lw_tbl) (w1 : Cond.arrayOf (.static "FreeShelf$Grammar" n "[I") .int ∈ flatC (Jvm.Cond.and given_1 narrow_1)) (w2 : Cond.eq (.length (.static "FreeShelf$Grammar" n "[I")) (.int (Int32.ofNat N)) ∈ flatC (Jvm.Cond.and given_1 narrow_1)) (w3 : ∀ j : Nat, j < N → Cond.eq (.elem (.static "FreeShelf$Grammar" n "[I") (.int (Int32.ofNat j))) (.int (f j)) ∈ flatC (Jvm.Cond.and given_1 narrow_1)) : ∃ t : Nat, va_Z "FreeShelf$Grammar" n "[I" (.ref t) A s s.heap ∧ va_T .int t N (fun j => .int (f j)) A s s.heap := by
  have hs := flat_of_before _ hgv
  obtain ⟨t, h1, h2⟩ := va_Tof (args := #[Value.ref b]) (s := s) (tm := .static "FreeShelf$Grammar" n "[I") (ty := .int) (N := N) (f := fun j => .int (f j)) (A := A) hN (hs _ w1) (Cond.eq_int (hs _ w2) rfl) (fun j hj => Cond.eq_int (hs _ (w3 j hj)) rfl) hA
  exact ⟨t, va_Zref (hts _ w0) (hts _ (law_t1 (i := 7) rfl)) h1 hA, h2⟩
set_option maxRecDepth 100000 in
theorem law_st (hts : ∀ w ∈ lw_tbl, w.before #[Value.ref b] s = true) (hgv : (Jvm.Cond.and given_1 narrow_1).before #[Value.ref b] s = true) (hA : ∀ a : Nat, a < s.heap.size → ¬ A a) : ∀ q ∈ zstat, ∃ t : Nat, va_Z q.1 q.2.1 "[I" (.ref t) A s s.heap ∧ va_T .int t q.2.2.1 (fun j => .int (q.2.2.2 j)) A s s.heap := by
  have h0 := law_st1 (A := A) "USES" 81 zT0 hts hgv hA (by decide) (law_t1 (i := 152) rfl) (by decide +kernel) (by decide +kernel) (by decide +kernel)
  have h1 := law_st1 (A := A) "LOWEST" 6 zT1 hts hgv hA (by decide) (law_t1 (i := 157) rfl) (by decide +kernel) (by decide +kernel) (by decide +kernel)
  have h2 := law_st1 (A := A) "HIGHEST" 6 zT2 hts hgv hA (by decide) (law_t1 (i := 159) rfl) (by decide +kernel) (by decide +kernel) (by decide +kernel)
  exact List.forall_mem_cons.mpr ⟨h0, List.forall_mem_cons.mpr ⟨h1, List.forall_mem_cons.mpr ⟨h2, fun _ h => absurd h List.not_mem_nil⟩⟩⟩
/-- what the base asks of the tables, for a world all of whose cells are new -/
theorem law_G {w : zN} (hts : ∀ w ∈ lw_tbl, w.before #[Value.ref b] s = true) (hgv : (Jvm.Cond.and given_1 narrow_1).before #[Value.ref b] s = true) (hF : ∀ q, zFr w q → s.heap.size ≤ q) (hX : ∀ (n L : Nat) (fl : List (Option (Option Nat))), zsh w n = (9, L, fl) → va_X (zad w n) L (zsv fl) s s.heap ∧ zad w n < s.heap.size) : zG w s := by
  have hA : ∀ a : Nat, a < s.heap.size → ¬ zFr w a := fun a ha h => by have := hF a h; omega
  exact ⟨law_st hts hgv hA, law_NW hts, fun n L fl hn => ⟨(hX n L fl hn).1, (hX n L fl hn).2, hA _ (hX n L fl hn).2⟩⟩
end LAWG
