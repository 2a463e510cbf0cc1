/-! NEW ARRAYS, of a class that is known -/
theorem zb_newa {p : Program} {l : Launch} {e : Jvm.Env} {R : Room} {s : State} {m : MethodId} {args : Array Value} {below : List Frame} {meth : Method} {c : Code} {H H0 : Heap} {lo : List Loc} {cells slots pc N : Nat} {Q : State → Prop} {ls : Array Slot} {st : List Value} {cc : ByteArray} {D : va_G} {cl : List vw_C} {tys : List (ClassId × FieldType)} {ws : va_W} {A : Nat → Prop} (hx : p.tables.exec = Jvm.exec) (hb : c.code = cc) {atype : ArrayType} {ty : FieldType} {cI : ClassId} {n : Int32} {a0 : vp_A} (harr : (Cond.arrayClass (newarray.typeOf atype)).before args s = true) (hty : newarray.typeOf atype = ty) (i : Nat) (hi : tys[i]? = some (cI, ty)) (hra : ∀ (U : State) (z : ClassId), va_RA U z ty = (U.vm.findClass ("[" ++ ty.toString) = some z)) (hK : va_K D cl tys s) (hP : va_P D cl ws H) (hD : va_D A ws) (hS : va_S A H0 H lo) (hA : ∀ q : Nat, H0.size ≤ q → A q) (ha : ∀ cA : ClassId, vp_cell cA a0 = arrV cA N fun _ => defaultValue ty) (hn : ¬ n < 0) (hN : n.toNatClampNeg = N) (hB : N * componentBytes ty ≤ 536870912) (hc : cells + 1 ≤ R.cells) (hs : slots + N ≤ R.slots) (dd : decode cc pc = .ok (.newarray atype, 2)) (k : ∀ (q : Nat) (H1 : Heap), va_P D cl (ws ++ [(q, .inl (cI, a0))]) H1 → va_D A (ws ++ [(q, .inl (cI, a0))]) → va_S A H0 H1 lo → W p l e R s m args below meth c H1 lo (cells + 1) (slots + N) Q (F0 m (pc + 2) ls (.ref q :: st))) : W p l e R s m args below meth c H lo cells slots Q (F0 m pc ls (.int n :: st)) := by
  refine va_newa (atype := atype) hx hb harr hty hK hP hD hS hA ha hn hN hB hc hs dd fun q cA H1 hK1 hP1 hD1 hS1 => ?_
  have h1 := (hK.2 i _ hi).2
  have h2 := (hK1.2 tys.length (cA, ty) (by rw [List.getElem?_append_right (Nat.le_refl _), Nat.sub_self]; rfl)).2
  have h1 : va_RA s cI ty := h1
  have h2 : va_RA s cA ty := h2
  rw [hra] at h1 h2
  have e : cA = cI := Option.some.inj (h2.symm.trans h1)
  subst e
  exact k q H1 hP1 hD1 hS1
