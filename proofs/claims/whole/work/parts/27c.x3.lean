/-! the constructor of X3 -/
theorem dX3_init_0 : decode cX3_init 0 = .ok (.aload_n 0, 1) := by decide +kernel
theorem dX3_init_1 : decode cX3_init 1 = .ok (.invokespecial 5, 3) := by decide +kernel
theorem dX3_init_4 : decode cX3_init 4 = .ok (.aload_n 0, 1) := by decide +kernel
theorem dX3_init_5 : decode cX3_init 5 = .ok (.bipush 7, 2) := by decide +kernel
theorem dX3_init_7 : decode cX3_init 7 = .ok (.bipush 13, 2) := by decide +kernel
theorem dX3_init_9 : decode cX3_init 9 = .ok (.multianewarray 11 2, 4) := by decide +kernel
theorem dX3_init_13 : decode cX3_init 13 = .ok (.putfield 13, 3) := by decide +kernel
theorem dX3_init_16 : decode cX3_init 16 = .ok (.return_, 1) := by decide +kernel
/-- the word that no table keeps -/
def zAO (U : State) : Prop := (Cond.arrayOver (.array .int)).before #[] U = true
def at_X3 (D : va_G) (cI cA : ClassId) (A : Nat → Prop) (h0 : Nat) : Unit → State → Prop := fun _ t => ∃ q, va_P D zcl [(h0, .inr (3, [.ref q])), (q, .inl (cA, 7, .inr (.inr (.inr (.inr fun j => if j < 7 then some (q + 1 + j) else none))))), ((q + 1), .inl (cI, 13, .inl fun _ => 0)), ((q + 2), .inl (cI, 13, .inl fun _ => 0)), ((q + 3), .inl (cI, 13, .inl fun _ => 0)), ((q + 4), .inl (cI, 13, .inl fun _ => 0)), ((q + 5), .inl (cI, 13, .inl fun _ => 0)), ((q + 6), .inl (cI, 13, .inl fun _ => 0)), ((q + 7), .inl (cI, 13, .inl fun _ => 0))] t.heap ∧ va_D A [(h0, .inr (3, [.ref q])), (q, .inl (cA, 7, .inr (.inr (.inr (.inr fun j => if j < 7 then some (q + 1 + j) else none))))), ((q + 1), .inl (cI, 13, .inl fun _ => 0)), ((q + 2), .inl (cI, 13, .inl fun _ => 0)), ((q + 3), .inl (cI, 13, .inl fun _ => 0)), ((q + 4), .inl (cI, 13, .inl fun _ => 0)), ((q + 5), .inl (cI, 13, .inl fun _ => 0)), ((q + 6), .inl (cI, 13, .inl fun _ => 0)), ((q + 7), .inl (cI, 13, .inl fun _ => 0))]
set_option maxHeartbeats 4000000 in
set_option maxRecDepth 100000 in
theorem c_X3_init (l : Launch) (D : va_G) (cI cZ cA : ClassId) (h0 sz : Nat) : Met l yX3_init (Cond.code yX3_init cX3_init 1 none :: zGW) ({ frames := 1, cells := 8, slots := 98, locals := 40 }) (va_Pc [.ref h0] (fun U => U.heap.size = sz ∧ va_P D zcl [(h0, .inr (3, [.null]))] U.heap ∧ va_K D zcl [(cI, .int), (cZ, .boolean), (cA, .array .int)] U ∧ va_D (fun _ => True) [(h0, .inr (3, [.null]))] ∧ zAO U)) (va_Qv (fun _ : Unit => True) (at_X3 D cI cA (va_A [(h0, .inr (3, [.null]))] sz) h0) (va_A [(h0, .inr (3, [.null]))] sz)) 8 98 (va_A [(h0, .inr (3, [.null]))] sz) := by
  refine Met.ofW (cc := cX3_init) (maxL := 1) (ret := none) (by decide) rfl ?_
  intro p e s m args below meth c s₁ B hml hv
  obtain ⟨rfl, hsz, hP, hK, hD0, hO⟩ := hv
  have hx := B.exec
  have hb := B.bytes
  have hr := B.returns
  have hts := atoms_spec (ws := Cond.code yX3_init cX3_init 1 none :: zGW) B.pre
  have hown : s.vm.findClass RX3 = some m.cls := findClass_of_methodNamed B.named
  have hlocks := B.notSynchronized
  have hin : meth.name = "<init>" := (name_of_methodNamed B.named B.method).1
  subst hsz
  have hD := hD0.self (sz := s.heap.size)
  generalize hAe : va_A [(h0, .inr (3, [.null]))] s.heap.size = A at hD ⊢
  have hA : ∀ q : Nat, s.heap.size ≤ q → A q := fun q h => by rw [← hAe]; exact Or.inr h
  have hS : va_S A s.heap s.heap [] := va_S.rf
  have hl := lv_entry ([.ref h0]) (n := 1) (Nat.le_of_ble_eq_true rfl)
  rw [lg_entry_eq]
  generalize (lg_sl ([.ref h0]) ++ List.replicate (1 - (lg_sl ([.ref h0])).length) Slot.unset).toArray = ls at hl ⊢
  have hl : lv_has ls 1 [(0, .ref h0)] := hl
  refine lv_aload_n hx hb dX3_init_0 rfl (lv_at hl 0 rfl) ?_
  refine W.objInit hx hb hown (hts _ (List.mem_cons_of_mem _ (zgw1 (i := 109) rfl rfl))) (hts _ (List.mem_cons_of_mem _ (zgw1 (i := 20) rfl rfl))) (hts _ (List.mem_cons_of_mem _ (zgw1 (i := 21) rfl rfl))) rfl (by rw [hml]; exact hl.1) rfl dX3_init_1 (Nat.le_of_ble_eq_true rfl) (Nat.le_of_ble_eq_true rfl) ?_
  refine W.eq (g2 := F0 m 4 ls []) rfl ?_
  refine lv_aload_n hx hb dX3_init_4 rfl (lv_at hl 0 rfl) ?_
  refine lv_bipush (v := 7) hx hb dX3_init_5 (by decide) ?_
  refine lv_bipush (v := 13) hx hb dX3_init_7 (by decide) ?_
  refine zb_mna hx hb hown (hts _ (List.mem_cons_of_mem _ (zgw1 (i := 110) rfl rfl))) (arrayOver_alikeB (Vm.Alike.refl _) hO) (hts _ (List.mem_cons_of_mem _ (zgw1 (i := 79) rfl rfl))) 0 2 rfl rfl hK hP hD hS hA [0] rfl rfl (Nat.le_of_ble_eq_true rfl) (Nat.le_of_ble_eq_true rfl) dX3_init_9 (fun q H hP hD hS => ?_)
  have hP : va_P D zcl [(h0, .inr (3, [.null])), (q, .inl (cA, 7, .inr (.inr (.inr (.inr fun j => if j < 7 then some (q + 1 + j) else none))))), ((q + 1), .inl (cI, 13, .inl fun _ => 0)), ((q + 2), .inl (cI, 13, .inl fun _ => 0)), ((q + 3), .inl (cI, 13, .inl fun _ => 0)), ((q + 4), .inl (cI, 13, .inl fun _ => 0)), ((q + 5), .inl (cI, 13, .inl fun _ => 0)), ((q + 6), .inl (cI, 13, .inl fun _ => 0)), ((q + 7), .inl (cI, 13, .inl fun _ => 0))] H := hP
  have hD : va_D A [(h0, .inr (3, [.null])), (q, .inl (cA, 7, .inr (.inr (.inr (.inr fun j => if j < 7 then some (q + 1 + j) else none))))), ((q + 1), .inl (cI, 13, .inl fun _ => 0)), ((q + 2), .inl (cI, 13, .inl fun _ => 0)), ((q + 3), .inl (cI, 13, .inl fun _ => 0)), ((q + 4), .inl (cI, 13, .inl fun _ => 0)), ((q + 5), .inl (cI, 13, .inl fun _ => 0)), ((q + 6), .inl (cI, 13, .inl fun _ => 0)), ((q + 7), .inl (cI, 13, .inl fun _ => 0))] := hD
  refine va_putF (D := D) (ci := 3) (v := .ref q) (ty := .array (.array .int)) (C := RX3) (T := TX3) (N := 1) hx hb hts (fun q h => List.mem_cons_of_mem _ (uin_X3 q h)) tyX3 tyX3_ok nmX3 hown hK hP hD hS 0 rfl rfl 0 (Nat.le_of_ble_eq_true rfl) (hts _ (List.mem_cons_of_mem _ (zgw1 (i := 112) rfl rfl))) (fun _ h9 => h9) rfl hin rfl (by decide +kernel) rfl rfl (Nat.le_of_ble_eq_true rfl) dX3_init_13 (fun H lo hP hD hS => ?_)
  exact W.vret hx hb hr (fun t ht hW => ⟨⟨(), rfl, trivial, q, by rw [ht]; exact hP, hD⟩, hS.F ht⟩) hS.2.2 dX3_init_16
