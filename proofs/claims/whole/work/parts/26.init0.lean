/-! the constructor of X0 -/
theorem dX0_init_0 : decode cX0_init 0 = .ok (.aload_n 0, 1) := by decide +kernel
theorem dX0_init_1 : decode cX0_init 1 = .ok (.invokespecial 3, 3) := by decide +kernel
theorem dX0_init_4 : decode cX0_init 4 = .ok (.aload_n 0, 1) := by decide +kernel
theorem dX0_init_5 : decode cX0_init 5 = .ok (.sipush 1500, 3) := by decide +kernel
theorem dX0_init_8 : decode cX0_init 8 = .ok (.newarray .int, 2) := by decide +kernel
theorem dX0_init_10 : decode cX0_init 10 = .ok (.putfield 9, 3) := by decide +kernel
theorem dX0_init_13 : decode cX0_init 13 = .ok (.aload_n 0, 1) := by decide +kernel
theorem dX0_init_14 : decode cX0_init 14 = .ok (.sipush 1500, 3) := by decide +kernel
theorem dX0_init_17 : decode cX0_init 17 = .ok (.newarray .int, 2) := by decide +kernel
theorem dX0_init_19 : decode cX0_init 19 = .ok (.putfield 15, 3) := by decide +kernel
theorem dX0_init_22 : decode cX0_init 22 = .ok (.aload_n 0, 1) := by decide +kernel
theorem dX0_init_23 : decode cX0_init 23 = .ok (.sipush 1500, 3) := by decide +kernel
theorem dX0_init_26 : decode cX0_init 26 = .ok (.newarray .int, 2) := by decide +kernel
theorem dX0_init_28 : decode cX0_init 28 = .ok (.putfield 18, 3) := by decide +kernel
theorem dX0_init_31 : decode cX0_init 31 = .ok (.aload_n 0, 1) := by decide +kernel
theorem dX0_init_32 : decode cX0_init 32 = .ok (.sipush 1500, 3) := by decide +kernel
theorem dX0_init_35 : decode cX0_init 35 = .ok (.newarray .int, 2) := by decide +kernel
theorem dX0_init_37 : decode cX0_init 37 = .ok (.putfield 21, 3) := by decide +kernel
theorem dX0_init_40 : decode cX0_init 40 = .ok (.aload_n 0, 1) := by decide +kernel
theorem dX0_init_41 : decode cX0_init 41 = .ok (.sipush 1500, 3) := by decide +kernel
theorem dX0_init_44 : decode cX0_init 44 = .ok (.newarray .int, 2) := by decide +kernel
theorem dX0_init_46 : decode cX0_init 46 = .ok (.putfield 24, 3) := by decide +kernel
theorem dX0_init_49 : decode cX0_init 49 = .ok (.aload_n 0, 1) := by decide +kernel
theorem dX0_init_50 : decode cX0_init 50 = .ok (.sipush 1500, 3) := by decide +kernel
theorem dX0_init_53 : decode cX0_init 53 = .ok (.newarray .boolean, 2) := by decide +kernel
theorem dX0_init_55 : decode cX0_init 55 = .ok (.putfield 27, 3) := by decide +kernel
theorem dX0_init_58 : decode cX0_init 58 = .ok (.aload_n 0, 1) := by decide +kernel
theorem dX0_init_59 : decode cX0_init 59 = .ok (.iconst 0, 1) := by decide +kernel
theorem dX0_init_60 : decode cX0_init 60 = .ok (.putfield 31, 3) := by decide +kernel
theorem dX0_init_63 : decode cX0_init 63 = .ok (.aload_n 0, 1) := by decide +kernel
theorem dX0_init_64 : decode cX0_init 64 = .ok (.iconst 0, 1) := by decide +kernel
theorem dX0_init_65 : decode cX0_init 65 = .ok (.putfield 35, 3) := by decide +kernel
theorem dX0_init_68 : decode cX0_init 68 = .ok (.aload_n 0, 1) := by decide +kernel
theorem dX0_init_69 : decode cX0_init 69 = .ok (.iconst 0, 1) := by decide +kernel
theorem dX0_init_70 : decode cX0_init 70 = .ok (.putfield 38, 3) := by decide +kernel
theorem dX0_init_73 : decode cX0_init 73 = .ok (.aload_n 0, 1) := by decide +kernel
theorem dX0_init_74 : decode cX0_init 74 = .ok (.bipush (-4), 2) := by decide +kernel
theorem dX0_init_76 : decode cX0_init 76 = .ok (.putfield 41, 3) := by decide +kernel
theorem dX0_init_79 : decode cX0_init 79 = .ok (.return_, 1) := by decide +kernel
def at_X0 (D : va_G) (cI cZ : ClassId) (A : Nat → Prop) (h0 : Nat) : Unit → State → Prop := fun _ t => ∃ q8 q17 q26 q35 q44 q53, va_P D zcl [(h0, .inr (0, [.ref q8, .ref q17, .ref q26, .ref q35, .ref q44, .ref q53, .int 0, .int 0, .int 0, .int (-4)])), (q8, .inl (cI, 1500, .inl fun _ => 0)), (q17, .inl (cI, 1500, .inl fun _ => 0)), (q26, .inl (cI, 1500, .inl fun _ => 0)), (q35, .inl (cI, 1500, .inl fun _ => 0)), (q44, .inl (cI, 1500, .inl fun _ => 0)), (q53, .inl (cZ, 1500, .inl fun _ => 0))] t.heap ∧ va_D A [(h0, .inr (0, [.ref q8, .ref q17, .ref q26, .ref q35, .ref q44, .ref q53, .int 0, .int 0, .int 0, .int (-4)])), (q8, .inl (cI, 1500, .inl fun _ => 0)), (q17, .inl (cI, 1500, .inl fun _ => 0)), (q26, .inl (cI, 1500, .inl fun _ => 0)), (q35, .inl (cI, 1500, .inl fun _ => 0)), (q44, .inl (cI, 1500, .inl fun _ => 0)), (q53, .inl (cZ, 1500, .inl fun _ => 0))]
set_option maxHeartbeats 4000000 in
set_option maxRecDepth 100000 in
theorem c_X0_init (l : Launch) (D : va_G) (cI cZ cA : ClassId) (h0 sz : Nat) : Met l yX0_init (Cond.code yX0_init cX0_init 1 none :: zGW) ({ frames := 1, cells := 6, slots := 9000, locals := 40 }) (va_Pc [.ref h0] (fun U => U.heap.size = sz ∧ va_P D zcl [(h0, .inr (0, [.null, .null, .null, .null, .null, .null, .int 0, .int 0, .int 0, .int 0]))] U.heap ∧ va_K D zcl [(cI, .int), (cZ, .boolean), (cA, .array .int)] U ∧ va_D (fun _ => True) [(h0, .inr (0, [.null, .null, .null, .null, .null, .null, .int 0, .int 0, .int 0, .int 0]))])) (va_Qv (fun _ : Unit => True) (at_X0 D cI cZ (va_A [(h0, .inr (0, [.null, .null, .null, .null, .null, .null, .int 0, .int 0, .int 0, .int 0]))] sz) h0) (va_A [(h0, .inr (0, [.null, .null, .null, .null, .null, .null, .int 0, .int 0, .int 0, .int 0]))] sz)) 6 9000 (va_A [(h0, .inr (0, [.null, .null, .null, .null, .null, .null, .int 0, .int 0, .int 0, .int 0]))] sz) := by
  refine Met.ofW (cc := cX0_init) (maxL := 1) (ret := none) (by decide) rfl ?_
  intro p e s m args below meth c s₁ B hml hv
  obtain ⟨rfl, hsz, hP, hK, hD0⟩ := hv
  have hx := B.exec
  have hb := B.bytes
  have hr := B.returns
  have hts := atoms_spec (ws := Cond.code yX0_init cX0_init 1 none :: zGW) B.pre
  have hown : s.vm.findClass RX0 = some m.cls := findClass_of_methodNamed B.named
  have hlocks := B.notSynchronized
  have hin : meth.name = "<init>" := (name_of_methodNamed B.named B.method).1
  subst hsz
  have hD := hD0.self (sz := s.heap.size)
  generalize hAe : va_A [(h0, .inr (0, [.null, .null, .null, .null, .null, .null, .int 0, .int 0, .int 0, .int 0]))] s.heap.size = A at hD ⊢
  have hA : ∀ q : Nat, s.heap.size ≤ q → A q := fun q h => by rw [← hAe]; exact Or.inr h
  have hS : va_S A s.heap s.heap [] := va_S.rf
  have hl := lv_entry ([.ref h0]) (n := 1) (Nat.le_of_ble_eq_true rfl)
  rw [lg_entry_eq]
  generalize (lg_sl ([.ref h0]) ++ List.replicate (1 - (lg_sl ([.ref h0])).length) Slot.unset).toArray = ls at hl ⊢
  have hl : lv_has ls 1 [(0, .ref h0)] := hl
  refine lv_aload_n hx hb dX0_init_0 rfl (lv_at hl 0 rfl) ?_
  refine W.objInit hx hb hown (hts _ (List.mem_cons_of_mem _ (zgw3 (i := 51) rfl rfl))) (hts _ (List.mem_cons_of_mem _ (zgw1 (i := 20) rfl rfl))) (hts _ (List.mem_cons_of_mem _ (zgw1 (i := 21) rfl rfl))) rfl (by rw [hml]; exact hl.1) rfl dX0_init_1 (Nat.le_of_ble_eq_true rfl) (Nat.le_of_ble_eq_true rfl) ?_
  refine W.eq (g2 := F0 m 4 ls []) rfl ?_
  refine lv_aload_n hx hb dX0_init_4 rfl (lv_at hl 0 rfl) ?_
  refine lv_sipush (v := 1500) hx hb dX0_init_5 (by decide) ?_
  refine zb_newa (N := 1500) (a0 := (1500, .inl fun _ => 0)) (atype := .int) (ty := .int) (cI := cI) hx hb (hts _ (List.mem_cons_of_mem _ (zgw1 (i := 79) rfl rfl))) rfl 0 rfl (fun _ _ => rfl) hK hP hD hS hA (fun _ => rfl) (by decide) rfl (Nat.le_of_ble_eq_true rfl) (Nat.le_of_ble_eq_true rfl) (Nat.le_of_ble_eq_true rfl) dX0_init_8 (fun q8 H hP hD hS => ?_)
  have hP : va_P D zcl [(h0, .inr (0, [.null, .null, .null, .null, .null, .null, .int 0, .int 0, .int 0, .int 0])), (q8, .inl (cI, 1500, .inl fun _ => 0))] H := hP
  have hD : va_D A [(h0, .inr (0, [.null, .null, .null, .null, .null, .null, .int 0, .int 0, .int 0, .int 0])), (q8, .inl (cI, 1500, .inl fun _ => 0))] := hD
  refine va_putF (D := D) (ci := 0) (v := .ref q8) (ty := .array .int) (C := RX0) (T := TX0) (N := 10) hx hb hts (fun q h => List.mem_cons_of_mem _ (uin_X0 q h)) tyX0 tyX0_ok nmX0 hown hK hP hD hS 0 rfl rfl 0 (Nat.le_of_ble_eq_true rfl) (hts _ (List.mem_cons_of_mem _ (zgw3 (i := 52) rfl rfl))) (fun _ h9 => h9) rfl hin rfl (by decide +kernel) rfl rfl (Nat.le_of_ble_eq_true rfl) dX0_init_10 (fun H lo hP hD hS => ?_)
  have hP : va_P D zcl [(h0, .inr (0, [.ref q8, .null, .null, .null, .null, .null, .int 0, .int 0, .int 0, .int 0])), (q8, .inl (cI, 1500, .inl fun _ => 0))] H := hP
  have hD : va_D A [(h0, .inr (0, [.ref q8, .null, .null, .null, .null, .null, .int 0, .int 0, .int 0, .int 0])), (q8, .inl (cI, 1500, .inl fun _ => 0))] := hD
  refine lv_aload_n hx hb dX0_init_13 rfl (lv_at hl 0 rfl) ?_
  refine lv_sipush (v := 1500) hx hb dX0_init_14 (by decide) ?_
  refine zb_newa (N := 1500) (a0 := (1500, .inl fun _ => 0)) (atype := .int) (ty := .int) (cI := cI) hx hb (hts _ (List.mem_cons_of_mem _ (zgw1 (i := 79) rfl rfl))) rfl 0 rfl (fun _ _ => rfl) hK hP hD hS hA (fun _ => rfl) (by decide) rfl (Nat.le_of_ble_eq_true rfl) (Nat.le_of_ble_eq_true rfl) (Nat.le_of_ble_eq_true rfl) dX0_init_17 (fun q17 H hP hD hS => ?_)
  have hP : va_P D zcl [(h0, .inr (0, [.ref q8, .null, .null, .null, .null, .null, .int 0, .int 0, .int 0, .int 0])), (q8, .inl (cI, 1500, .inl fun _ => 0)), (q17, .inl (cI, 1500, .inl fun _ => 0))] H := hP
  have hD : va_D A [(h0, .inr (0, [.ref q8, .null, .null, .null, .null, .null, .int 0, .int 0, .int 0, .int 0])), (q8, .inl (cI, 1500, .inl fun _ => 0)), (q17, .inl (cI, 1500, .inl fun _ => 0))] := hD
  refine va_putF (D := D) (ci := 0) (v := .ref q17) (ty := .array .int) (C := RX0) (T := TX0) (N := 10) hx hb hts (fun q h => List.mem_cons_of_mem _ (uin_X0 q h)) tyX0 tyX0_ok nmX0 hown hK hP hD hS 0 rfl rfl 1 (Nat.le_of_ble_eq_true rfl) (hts _ (List.mem_cons_of_mem _ (zgw3 (i := 53) rfl rfl))) (fun _ h9 => h9) rfl hin rfl (by decide +kernel) rfl rfl (Nat.le_of_ble_eq_true rfl) dX0_init_19 (fun H lo hP hD hS => ?_)
  have hP : va_P D zcl [(h0, .inr (0, [.ref q8, .ref q17, .null, .null, .null, .null, .int 0, .int 0, .int 0, .int 0])), (q8, .inl (cI, 1500, .inl fun _ => 0)), (q17, .inl (cI, 1500, .inl fun _ => 0))] H := hP
  have hD : va_D A [(h0, .inr (0, [.ref q8, .ref q17, .null, .null, .null, .null, .int 0, .int 0, .int 0, .int 0])), (q8, .inl (cI, 1500, .inl fun _ => 0)), (q17, .inl (cI, 1500, .inl fun _ => 0))] := hD
  refine lv_aload_n hx hb dX0_init_22 rfl (lv_at hl 0 rfl) ?_
  refine lv_sipush (v := 1500) hx hb dX0_init_23 (by decide) ?_
  refine zb_newa (N := 1500) (a0 := (1500, .inl fun _ => 0)) (atype := .int) (ty := .int) (cI := cI) hx hb (hts _ (List.mem_cons_of_mem _ (zgw1 (i := 79) rfl rfl))) rfl 0 rfl (fun _ _ => rfl) hK hP hD hS hA (fun _ => rfl) (by decide) rfl (Nat.le_of_ble_eq_true rfl) (Nat.le_of_ble_eq_true rfl) (Nat.le_of_ble_eq_true rfl) dX0_init_26 (fun q26 H hP hD hS => ?_)
  have hP : va_P D zcl [(h0, .inr (0, [.ref q8, .ref q17, .null, .null, .null, .null, .int 0, .int 0, .int 0, .int 0])), (q8, .inl (cI, 1500, .inl fun _ => 0)), (q17, .inl (cI, 1500, .inl fun _ => 0)), (q26, .inl (cI, 1500, .inl fun _ => 0))] H := hP
  have hD : va_D A [(h0, .inr (0, [.ref q8, .ref q17, .null, .null, .null, .null, .int 0, .int 0, .int 0, .int 0])), (q8, .inl (cI, 1500, .inl fun _ => 0)), (q17, .inl (cI, 1500, .inl fun _ => 0)), (q26, .inl (cI, 1500, .inl fun _ => 0))] := hD
  refine va_putF (D := D) (ci := 0) (v := .ref q26) (ty := .array .int) (C := RX0) (T := TX0) (N := 10) hx hb hts (fun q h => List.mem_cons_of_mem _ (uin_X0 q h)) tyX0 tyX0_ok nmX0 hown hK hP hD hS 0 rfl rfl 2 (Nat.le_of_ble_eq_true rfl) (hts _ (List.mem_cons_of_mem _ (zgw3 (i := 54) rfl rfl))) (fun _ h9 => h9) rfl hin rfl (by decide +kernel) rfl rfl (Nat.le_of_ble_eq_true rfl) dX0_init_28 (fun H lo hP hD hS => ?_)
  have hP : va_P D zcl [(h0, .inr (0, [.ref q8, .ref q17, .ref q26, .null, .null, .null, .int 0, .int 0, .int 0, .int 0])), (q8, .inl (cI, 1500, .inl fun _ => 0)), (q17, .inl (cI, 1500, .inl fun _ => 0)), (q26, .inl (cI, 1500, .inl fun _ => 0))] H := hP
  have hD : va_D A [(h0, .inr (0, [.ref q8, .ref q17, .ref q26, .null, .null, .null, .int 0, .int 0, .int 0, .int 0])), (q8, .inl (cI, 1500, .inl fun _ => 0)), (q17, .inl (cI, 1500, .inl fun _ => 0)), (q26, .inl (cI, 1500, .inl fun _ => 0))] := hD
  refine lv_aload_n hx hb dX0_init_31 rfl (lv_at hl 0 rfl) ?_
  refine lv_sipush (v := 1500) hx hb dX0_init_32 (by decide) ?_
  refine zb_newa (N := 1500) (a0 := (1500, .inl fun _ => 0)) (atype := .int) (ty := .int) (cI := cI) hx hb (hts _ (List.mem_cons_of_mem _ (zgw1 (i := 79) rfl rfl))) rfl 0 rfl (fun _ _ => rfl) hK hP hD hS hA (fun _ => rfl) (by decide) rfl (Nat.le_of_ble_eq_true rfl) (Nat.le_of_ble_eq_true rfl) (Nat.le_of_ble_eq_true rfl) dX0_init_35 (fun q35 H hP hD hS => ?_)
  have hP : va_P D zcl [(h0, .inr (0, [.ref q8, .ref q17, .ref q26, .null, .null, .null, .int 0, .int 0, .int 0, .int 0])), (q8, .inl (cI, 1500, .inl fun _ => 0)), (q17, .inl (cI, 1500, .inl fun _ => 0)), (q26, .inl (cI, 1500, .inl fun _ => 0)), (q35, .inl (cI, 1500, .inl fun _ => 0))] H := hP
  have hD : va_D A [(h0, .inr (0, [.ref q8, .ref q17, .ref q26, .null, .null, .null, .int 0, .int 0, .int 0, .int 0])), (q8, .inl (cI, 1500, .inl fun _ => 0)), (q17, .inl (cI, 1500, .inl fun _ => 0)), (q26, .inl (cI, 1500, .inl fun _ => 0)), (q35, .inl (cI, 1500, .inl fun _ => 0))] := hD
  refine va_putF (D := D) (ci := 0) (v := .ref q35) (ty := .array .int) (C := RX0) (T := TX0) (N := 10) hx hb hts (fun q h => List.mem_cons_of_mem _ (uin_X0 q h)) tyX0 tyX0_ok nmX0 hown hK hP hD hS 0 rfl rfl 3 (Nat.le_of_ble_eq_true rfl) (hts _ (List.mem_cons_of_mem _ (zgw3 (i := 55) rfl rfl))) (fun _ h9 => h9) rfl hin rfl (by decide +kernel) rfl rfl (Nat.le_of_ble_eq_true rfl) dX0_init_37 (fun H lo hP hD hS => ?_)
  have hP : va_P D zcl [(h0, .inr (0, [.ref q8, .ref q17, .ref q26, .ref q35, .null, .null, .int 0, .int 0, .int 0, .int 0])), (q8, .inl (cI, 1500, .inl fun _ => 0)), (q17, .inl (cI, 1500, .inl fun _ => 0)), (q26, .inl (cI, 1500, .inl fun _ => 0)), (q35, .inl (cI, 1500, .inl fun _ => 0))] H := hP
  have hD : va_D A [(h0, .inr (0, [.ref q8, .ref q17, .ref q26, .ref q35, .null, .null, .int 0, .int 0, .int 0, .int 0])), (q8, .inl (cI, 1500, .inl fun _ => 0)), (q17, .inl (cI, 1500, .inl fun _ => 0)), (q26, .inl (cI, 1500, .inl fun _ => 0)), (q35, .inl (cI, 1500, .inl fun _ => 0))] := hD
  refine lv_aload_n hx hb dX0_init_40 rfl (lv_at hl 0 rfl) ?_
  refine lv_sipush (v := 1500) hx hb dX0_init_41 (by decide) ?_
  refine zb_newa (N := 1500) (a0 := (1500, .inl fun _ => 0)) (atype := .int) (ty := .int) (cI := cI) hx hb (hts _ (List.mem_cons_of_mem _ (zgw1 (i := 79) rfl rfl))) rfl 0 rfl (fun _ _ => rfl) hK hP hD hS hA (fun _ => rfl) (by decide) rfl (Nat.le_of_ble_eq_true rfl) (Nat.le_of_ble_eq_true rfl) (Nat.le_of_ble_eq_true rfl) dX0_init_44 (fun q44 H hP hD hS => ?_)
  have hP : va_P D zcl [(h0, .inr (0, [.ref q8, .ref q17, .ref q26, .ref q35, .null, .null, .int 0, .int 0, .int 0, .int 0])), (q8, .inl (cI, 1500, .inl fun _ => 0)), (q17, .inl (cI, 1500, .inl fun _ => 0)), (q26, .inl (cI, 1500, .inl fun _ => 0)), (q35, .inl (cI, 1500, .inl fun _ => 0)), (q44, .inl (cI, 1500, .inl fun _ => 0))] H := hP
  have hD : va_D A [(h0, .inr (0, [.ref q8, .ref q17, .ref q26, .ref q35, .null, .null, .int 0, .int 0, .int 0, .int 0])), (q8, .inl (cI, 1500, .inl fun _ => 0)), (q17, .inl (cI, 1500, .inl fun _ => 0)), (q26, .inl (cI, 1500, .inl fun _ => 0)), (q35, .inl (cI, 1500, .inl fun _ => 0)), (q44, .inl (cI, 1500, .inl fun _ => 0))] := hD
  refine va_putF (D := D) (ci := 0) (v := .ref q44) (ty := .array .int) (C := RX0) (T := TX0) (N := 10) hx hb hts (fun q h => List.mem_cons_of_mem _ (uin_X0 q h)) tyX0 tyX0_ok nmX0 hown hK hP hD hS 0 rfl rfl 4 (Nat.le_of_ble_eq_true rfl) (hts _ (List.mem_cons_of_mem _ (zgw3 (i := 56) rfl rfl))) (fun _ h9 => h9) rfl hin rfl (by decide +kernel) rfl rfl (Nat.le_of_ble_eq_true rfl) dX0_init_46 (fun H lo hP hD hS => ?_)
  have hP : va_P D zcl [(h0, .inr (0, [.ref q8, .ref q17, .ref q26, .ref q35, .ref q44, .null, .int 0, .int 0, .int 0, .int 0])), (q8, .inl (cI, 1500, .inl fun _ => 0)), (q17, .inl (cI, 1500, .inl fun _ => 0)), (q26, .inl (cI, 1500, .inl fun _ => 0)), (q35, .inl (cI, 1500, .inl fun _ => 0)), (q44, .inl (cI, 1500, .inl fun _ => 0))] H := hP
  have hD : va_D A [(h0, .inr (0, [.ref q8, .ref q17, .ref q26, .ref q35, .ref q44, .null, .int 0, .int 0, .int 0, .int 0])), (q8, .inl (cI, 1500, .inl fun _ => 0)), (q17, .inl (cI, 1500, .inl fun _ => 0)), (q26, .inl (cI, 1500, .inl fun _ => 0)), (q35, .inl (cI, 1500, .inl fun _ => 0)), (q44, .inl (cI, 1500, .inl fun _ => 0))] := hD
  refine lv_aload_n hx hb dX0_init_49 rfl (lv_at hl 0 rfl) ?_
  refine lv_sipush (v := 1500) hx hb dX0_init_50 (by decide) ?_
  refine zb_newa (N := 1500) (a0 := (1500, .inl fun _ => 0)) (atype := .boolean) (ty := .boolean) (cI := cZ) hx hb (hts _ (List.mem_cons_of_mem _ (zgw3 (i := 83) rfl rfl))) rfl 1 rfl (fun _ _ => rfl) hK hP hD hS hA (fun _ => rfl) (by decide) rfl (Nat.le_of_ble_eq_true rfl) (Nat.le_of_ble_eq_true rfl) (Nat.le_of_ble_eq_true rfl) dX0_init_53 (fun q53 H hP hD hS => ?_)
  have hP : va_P D zcl [(h0, .inr (0, [.ref q8, .ref q17, .ref q26, .ref q35, .ref q44, .null, .int 0, .int 0, .int 0, .int 0])), (q8, .inl (cI, 1500, .inl fun _ => 0)), (q17, .inl (cI, 1500, .inl fun _ => 0)), (q26, .inl (cI, 1500, .inl fun _ => 0)), (q35, .inl (cI, 1500, .inl fun _ => 0)), (q44, .inl (cI, 1500, .inl fun _ => 0)), (q53, .inl (cZ, 1500, .inl fun _ => 0))] H := hP
  have hD : va_D A [(h0, .inr (0, [.ref q8, .ref q17, .ref q26, .ref q35, .ref q44, .null, .int 0, .int 0, .int 0, .int 0])), (q8, .inl (cI, 1500, .inl fun _ => 0)), (q17, .inl (cI, 1500, .inl fun _ => 0)), (q26, .inl (cI, 1500, .inl fun _ => 0)), (q35, .inl (cI, 1500, .inl fun _ => 0)), (q44, .inl (cI, 1500, .inl fun _ => 0)), (q53, .inl (cZ, 1500, .inl fun _ => 0))] := hD
  refine va_putF (D := D) (ci := 0) (v := .ref q53) (ty := .array .boolean) (C := RX0) (T := TX0) (N := 10) hx hb hts (fun q h => List.mem_cons_of_mem _ (uin_X0 q h)) tyX0 tyX0_ok nmX0 hown hK hP hD hS 0 rfl rfl 5 (Nat.le_of_ble_eq_true rfl) (hts _ (List.mem_cons_of_mem _ (zgw3 (i := 57) rfl rfl))) (fun _ h9 => h9) rfl hin rfl (by decide +kernel) rfl rfl (Nat.le_of_ble_eq_true rfl) dX0_init_55 (fun H lo hP hD hS => ?_)
  have hP : va_P D zcl [(h0, .inr (0, [.ref q8, .ref q17, .ref q26, .ref q35, .ref q44, .ref q53, .int 0, .int 0, .int 0, .int 0])), (q8, .inl (cI, 1500, .inl fun _ => 0)), (q17, .inl (cI, 1500, .inl fun _ => 0)), (q26, .inl (cI, 1500, .inl fun _ => 0)), (q35, .inl (cI, 1500, .inl fun _ => 0)), (q44, .inl (cI, 1500, .inl fun _ => 0)), (q53, .inl (cZ, 1500, .inl fun _ => 0))] H := hP
  have hD : va_D A [(h0, .inr (0, [.ref q8, .ref q17, .ref q26, .ref q35, .ref q44, .ref q53, .int 0, .int 0, .int 0, .int 0])), (q8, .inl (cI, 1500, .inl fun _ => 0)), (q17, .inl (cI, 1500, .inl fun _ => 0)), (q26, .inl (cI, 1500, .inl fun _ => 0)), (q35, .inl (cI, 1500, .inl fun _ => 0)), (q44, .inl (cI, 1500, .inl fun _ => 0)), (q53, .inl (cZ, 1500, .inl fun _ => 0))] := hD
  refine lv_aload_n hx hb dX0_init_58 rfl (lv_at hl 0 rfl) ?_
  refine lv_iconst (v := 0) hx hb dX0_init_59 (by decide) ?_
  refine va_put (D := D) (ci := 0) (v := .int 0) (ty := .int) (C := RX0) (T := TX0) (N := 10) hx hb hts (fun q h => List.mem_cons_of_mem _ (uin_X0 q h)) tyX0 tyX0_ok nmX0 hown hK hP hD hS 0 rfl rfl 6 (Nat.le_of_ble_eq_true rfl) (hts _ (List.mem_cons_of_mem _ (zgw3 (i := 58) rfl rfl))) (fun _ h9 => h9) rfl (by decide +kernel) rfl rfl (Nat.le_of_ble_eq_true rfl) dX0_init_60 (fun H lo hP hD hS => ?_)
  have hP : va_P D zcl [(h0, .inr (0, [.ref q8, .ref q17, .ref q26, .ref q35, .ref q44, .ref q53, .int 0, .int 0, .int 0, .int 0])), (q8, .inl (cI, 1500, .inl fun _ => 0)), (q17, .inl (cI, 1500, .inl fun _ => 0)), (q26, .inl (cI, 1500, .inl fun _ => 0)), (q35, .inl (cI, 1500, .inl fun _ => 0)), (q44, .inl (cI, 1500, .inl fun _ => 0)), (q53, .inl (cZ, 1500, .inl fun _ => 0))] H := hP
  have hD : va_D A [(h0, .inr (0, [.ref q8, .ref q17, .ref q26, .ref q35, .ref q44, .ref q53, .int 0, .int 0, .int 0, .int 0])), (q8, .inl (cI, 1500, .inl fun _ => 0)), (q17, .inl (cI, 1500, .inl fun _ => 0)), (q26, .inl (cI, 1500, .inl fun _ => 0)), (q35, .inl (cI, 1500, .inl fun _ => 0)), (q44, .inl (cI, 1500, .inl fun _ => 0)), (q53, .inl (cZ, 1500, .inl fun _ => 0))] := hD
  refine lv_aload_n hx hb dX0_init_63 rfl (lv_at hl 0 rfl) ?_
  refine lv_iconst (v := 0) hx hb dX0_init_64 (by decide) ?_
  refine va_put (D := D) (ci := 0) (v := .int 0) (ty := .int) (C := RX0) (T := TX0) (N := 10) hx hb hts (fun q h => List.mem_cons_of_mem _ (uin_X0 q h)) tyX0 tyX0_ok nmX0 hown hK hP hD hS 0 rfl rfl 7 (Nat.le_of_ble_eq_true rfl) (hts _ (List.mem_cons_of_mem _ (zgw3 (i := 59) rfl rfl))) (fun _ h9 => h9) rfl (by decide +kernel) rfl rfl (Nat.le_of_ble_eq_true rfl) dX0_init_65 (fun H lo hP hD hS => ?_)
  have hP : va_P D zcl [(h0, .inr (0, [.ref q8, .ref q17, .ref q26, .ref q35, .ref q44, .ref q53, .int 0, .int 0, .int 0, .int 0])), (q8, .inl (cI, 1500, .inl fun _ => 0)), (q17, .inl (cI, 1500, .inl fun _ => 0)), (q26, .inl (cI, 1500, .inl fun _ => 0)), (q35, .inl (cI, 1500, .inl fun _ => 0)), (q44, .inl (cI, 1500, .inl fun _ => 0)), (q53, .inl (cZ, 1500, .inl fun _ => 0))] H := hP
  have hD : va_D A [(h0, .inr (0, [.ref q8, .ref q17, .ref q26, .ref q35, .ref q44, .ref q53, .int 0, .int 0, .int 0, .int 0])), (q8, .inl (cI, 1500, .inl fun _ => 0)), (q17, .inl (cI, 1500, .inl fun _ => 0)), (q26, .inl (cI, 1500, .inl fun _ => 0)), (q35, .inl (cI, 1500, .inl fun _ => 0)), (q44, .inl (cI, 1500, .inl fun _ => 0)), (q53, .inl (cZ, 1500, .inl fun _ => 0))] := hD
  refine lv_aload_n hx hb dX0_init_68 rfl (lv_at hl 0 rfl) ?_
  refine lv_iconst (v := 0) hx hb dX0_init_69 (by decide) ?_
  refine va_put (D := D) (ci := 0) (v := .int 0) (ty := .int) (C := RX0) (T := TX0) (N := 10) hx hb hts (fun q h => List.mem_cons_of_mem _ (uin_X0 q h)) tyX0 tyX0_ok nmX0 hown hK hP hD hS 0 rfl rfl 8 (Nat.le_of_ble_eq_true rfl) (hts _ (List.mem_cons_of_mem _ (zgw3 (i := 60) rfl rfl))) (fun _ h9 => h9) rfl (by decide +kernel) rfl rfl (Nat.le_of_ble_eq_true rfl) dX0_init_70 (fun H lo hP hD hS => ?_)
  have hP : va_P D zcl [(h0, .inr (0, [.ref q8, .ref q17, .ref q26, .ref q35, .ref q44, .ref q53, .int 0, .int 0, .int 0, .int 0])), (q8, .inl (cI, 1500, .inl fun _ => 0)), (q17, .inl (cI, 1500, .inl fun _ => 0)), (q26, .inl (cI, 1500, .inl fun _ => 0)), (q35, .inl (cI, 1500, .inl fun _ => 0)), (q44, .inl (cI, 1500, .inl fun _ => 0)), (q53, .inl (cZ, 1500, .inl fun _ => 0))] H := hP
  have hD : va_D A [(h0, .inr (0, [.ref q8, .ref q17, .ref q26, .ref q35, .ref q44, .ref q53, .int 0, .int 0, .int 0, .int 0])), (q8, .inl (cI, 1500, .inl fun _ => 0)), (q17, .inl (cI, 1500, .inl fun _ => 0)), (q26, .inl (cI, 1500, .inl fun _ => 0)), (q35, .inl (cI, 1500, .inl fun _ => 0)), (q44, .inl (cI, 1500, .inl fun _ => 0)), (q53, .inl (cZ, 1500, .inl fun _ => 0))] := hD
  refine lv_aload_n hx hb dX0_init_73 rfl (lv_at hl 0 rfl) ?_
  refine lv_bipush (v := (-4)) hx hb dX0_init_74 (by decide) ?_
  refine va_put (D := D) (ci := 0) (v := .int (-4)) (ty := .int) (C := RX0) (T := TX0) (N := 10) hx hb hts (fun q h => List.mem_cons_of_mem _ (uin_X0 q h)) tyX0 tyX0_ok nmX0 hown hK hP hD hS 0 rfl rfl 9 (Nat.le_of_ble_eq_true rfl) (hts _ (List.mem_cons_of_mem _ (zgw3 (i := 61) rfl rfl))) (fun _ h9 => h9) rfl (by decide +kernel) rfl rfl (Nat.le_of_ble_eq_true rfl) dX0_init_76 (fun H lo hP hD hS => ?_)
  have hP : va_P D zcl [(h0, .inr (0, [.ref q8, .ref q17, .ref q26, .ref q35, .ref q44, .ref q53, .int 0, .int 0, .int 0, .int (-4)])), (q8, .inl (cI, 1500, .inl fun _ => 0)), (q17, .inl (cI, 1500, .inl fun _ => 0)), (q26, .inl (cI, 1500, .inl fun _ => 0)), (q35, .inl (cI, 1500, .inl fun _ => 0)), (q44, .inl (cI, 1500, .inl fun _ => 0)), (q53, .inl (cZ, 1500, .inl fun _ => 0))] H := hP
  have hD : va_D A [(h0, .inr (0, [.ref q8, .ref q17, .ref q26, .ref q35, .ref q44, .ref q53, .int 0, .int 0, .int 0, .int (-4)])), (q8, .inl (cI, 1500, .inl fun _ => 0)), (q17, .inl (cI, 1500, .inl fun _ => 0)), (q26, .inl (cI, 1500, .inl fun _ => 0)), (q35, .inl (cI, 1500, .inl fun _ => 0)), (q44, .inl (cI, 1500, .inl fun _ => 0)), (q53, .inl (cZ, 1500, .inl fun _ => 0))] := hD
  exact W.vret hx hb hr (fun t ht hW => ⟨⟨(), rfl, trivial, q8, q17, q26, q35, q44, q53, by rw [ht]; exact hP, hD⟩, hS.F ht⟩) hS.2.2 dX0_init_79
