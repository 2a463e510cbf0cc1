/-! AN ARRAY OF ARRAYS, new: seven of thirteen -/
def zq8 (cA cI : ClassId) (q : Nat) : va_W := [(q, .inl (cA, 7, .inr (.inr (.inr (.inr fun j => if j < 7 then some (q + 1 + j) else none))))), (q + 1, .inl (cI, 13, .inl fun _ => 0)), (q + 2, .inl (cI, 13, .inl fun _ => 0)), (q + 3, .inl (cI, 13, .inl fun _ => 0)), (q + 4, .inl (cI, 13, .inl fun _ => 0)), (q + 5, .inl (cI, 13, .inl fun _ => 0)), (q + 6, .inl (cI, 13, .inl fun _ => 0)), (q + 7, .inl (cI, 13, .inl fun _ => 0))]
theorem zq8_get {cA cI : ClassId} {q k : Nat} {p : Nat × va_E} (h : (zq8 cA cI q)[k]? = some p) : p.1 = q + k ∧ k < 8 := by
  match k, h with
  | 0, h => cases h; exact ⟨rfl, by omega⟩
  | 1, h => cases h; exact ⟨rfl, by omega⟩
  | 2, h => cases h; exact ⟨rfl, by omega⟩
  | 3, h => cases h; exact ⟨rfl, by omega⟩
  | 4, h => cases h; exact ⟨rfl, by omega⟩
  | 5, h => cases h; exact ⟨rfl, by omega⟩
  | 6, h => cases h; exact ⟨rfl, by omega⟩
  | 7, h => cases h; exact ⟨rfl, by omega⟩
  | k + 8, h => cases h
theorem zout8 (cA : ClassId) (h : Nat) : Jvm.Free.Multi.outerC cA 7 h 7 = arrV cA 7 (fun j => va_rf (if j < 7 then some (h + 1 + j) else none)) := rfl
theorem zinn8 (c : ClassId) : Jvm.Free.Multi.innerC c 13 (defaultValue .int) = arrV c 13 (fun _ => .int 0) := rfl
theorem zb_mna {p : Program} {l : Launch} {e : Jvm.Env} {R : Room} {s : State} {m : MethodId} {args : Array Value} {below : List Frame} {meth : Method} {c : Code} {H H0 : Heap} {lo : List Loc} {cells slots pc : Nat} {Q : State → Prop} {ls : Array Slot} {st : List Value} {cc : ByteArray} {D : va_G} {cl : List vw_C} {tys : List (ClassId × FieldType)} {ws : va_W} {A : Nat → Prop} {own : String} {index : Nat} {cI cA : ClassId} (hx : p.tables.exec = Jvm.exec) (hb : c.code = cc) (hown : s.vm.findClass own = some m.cls) (w1 : (Cond.classLink own index "[[I").before args s = true) (w2 : (Cond.arrayOver (.array .int)).before args s = true) (w3 : (Cond.arrayClass .int).before args s = true) (i j : Nat) (hi : tys[i]? = some (cI, .int)) (hj : tys[j]? = some (cA, .array .int)) (hK : va_K D cl tys s) (hP : va_P D cl ws H) (hD : va_D A ws) (hS : va_S A H0 H lo) (hA : ∀ q : Nat, H0.size ≤ q → A q) (isR : List Nat) (hR : isR.map (fun i => ws[i]?) = ws.map some) (hnd : va_nd isR = true) (hc : cells + 8 ≤ R.cells) (hs : slots + 98 ≤ R.slots) (dd : decode cc pc = .ok (.multianewarray index 2, 4)) (k : ∀ (q : Nat) (H1 : Heap), va_P D cl (ws ++ zq8 cA cI q) H1 → va_D A (ws ++ zq8 cA cI q) → va_S A H0 H1 lo → W p l e R s m args below meth c H1 lo (cells + 8) (slots + 98) Q (F0 m (pc + 4) ls (.ref q :: st))) : W p l e R s m args below meth c H lo cells slots Q (F0 m pc ls (.int 13 :: .int 7 :: st)) := by
  intro T hT X
  obtain ⟨vm₁, cA', comp, hW, hfA, hfC, -, -, X1, step⟩ := X.multianewarray2F (g := F0 m pc ls (.int 13 :: .int 7 :: st)) hx hown w1 w2 w3 rfl (by rw [hb]; exact dd) (n := 7) (k := 13) (rest := st) rfl (by decide) (by decide) (by decide) (by decide) (by decide) rfl rfl hc hs
  have h1 : va_RA s cI .int := (hK.2 i _ hi).2
  have h2 : va_RA s cA (.array .int) := (hK.2 j _ hj).2
  have h1 : s.vm.findClass ("[" ++ FieldType.int.toString) = some cI := h1
  have h2 : s.vm.findClass ("[" ++ (FieldType.array .int).toString) = some cA := h2
  have e1 : cA' = cA := Option.some.inj (hfA.symm.trans h2)
  have e2 : comp = cI := Option.some.inj (hfC.symm.trans h1)
  subst e1 e2
  obtain ⟨f1, f2, f3, f4⟩ := Jvm.Free.Multi.fill_facts (T.setVm vm₁) cA' comp 7 13 (defaultValue .int) 7
  have fo := fun (a : Addr) (ha : a < T.heap.size) => Jvm.Free.Multi.fill_old (T.setVm vm₁) cA' comp 7 13 (defaultValue .int) (a := a) ha 7
  have fi := fun (j : Nat) (hj : j < 7) => Jvm.Free.Multi.fill_inner (T.setVm vm₁) cA' comp 7 13 (defaultValue .int) 7 j hj
  have X1 : Stand p l e R s m args below meth c (Jvm.Free.Multi.fill (T.setVm vm₁) cA' comp 7 13 (defaultValue .int) 7) lo (cells + 8) (slots + 98) := X1
  have step : ∀ target, Steps p.tables e below ((Jvm.Free.Multi.fill (T.setVm vm₁) cA' comp 7 13 (defaultValue .int) 7).setTop (F0 m (pc + 4) ls (.ref T.heap.size :: st))) target → Steps p.tables e below (T.setTop (F0 m pc ls (.int 13 :: .int 7 :: st))) target := step
  generalize Jvm.Free.Multi.fill (T.setVm vm₁) cA' comp 7 13 (defaultValue .int) 7 = T' at f1 f2 f3 f4 fo fi X1 step
  subst hT
  have f1 : T'.heap.size = T.heap.size + 1 + 7 := f1
  have f2 : T'.heap[T.heap.size]? = some (Jvm.Free.Multi.outerC cA' 7 T.heap.size 7) := f2
  have fi : ∀ j, j < 7 → T'.heap[T.heap.size + 1 + j]? = some (Jvm.Free.Multi.innerC comp 13 (defaultValue .int)) := fi
  have fo : ∀ a, a < T.heap.size → T'.heap[a]? = T.heap[a]? := fo
  rw [zout8] at f2
  rw [zinn8] at fi
  have hP1 : va_P D cl (zq8 cA' comp T.heap.size) T'.heap := by
    intro k q hk
    match k, hk with
    | 0, hk => cases hk; exact f2
    | 1, hk => cases hk; exact fi 0 (by omega)
    | 2, hk => cases hk; exact fi 1 (by omega)
    | 3, hk => cases hk; exact fi 2 (by omega)
    | 4, hk => cases hk; exact fi 3 (by omega)
    | 5, hk => cases hk; exact fi 4 (by omega)
    | 6, hk => cases hk; exact fi 5 (by omega)
    | 7, hk => cases hk; exact fi 6 (by omega)
    | k + 8, hk => cases hk
  have hD1 : va_D (va_A [] T.heap.size) (zq8 cA' comp T.heap.size) := by
    refine ⟨fun i j p q hi hj e => ?_, fun k q hk => Or.inr ?_⟩
    · have := (zq8_get hi).1
      have := (zq8_get hj).1
      omega
    · have := (zq8_get hk).1
      omega
  obtain ⟨g1, g2⟩ := va_join (wc := []) (wr := ws) hP hD [] isR rfl hR hnd (fun _ _ h => absurd h List.not_mem_nil) (fun q hq _ => fo q hq) (fun q hq => by
    rcases hq with ⟨k, e, hk⟩ | hq
    · cases hk
    · exact hA q (Nat.le_trans hS.1 hq)) hP1 hD1
  obtain ⟨t, a1, a2⟩ := k T.heap.size T'.heap g1 g2 ⟨by have := hS.1; omega, fun q hq hn => (fo q (Nat.lt_of_lt_of_le hq hS.1)).trans (hS.2.1 q hq hn), hS.2.2⟩ T' rfl X1
  exact ⟨t, step _ a1, a2⟩
