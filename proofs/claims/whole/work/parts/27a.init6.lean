/-! the constructor of X6 -/
theorem dX6_init_0 : decode cX6_init 0 = .ok (.aload_n 0, 1) := by decide +kernel
theorem dX6_init_1 : decode cX6_init 1 = .ok (.invokespecial 3, 3) := by decide +kernel
theorem dX6_init_4 : decode cX6_init 4 = .ok (.aload_n 0, 1) := by decide +kernel
theorem dX6_init_5 : decode cX6_init 5 = .ok (.sipush 900, 3) := by decide +kernel
theorem dX6_init_8 : decode cX6_init 8 = .ok (.newarray .int, 2) := by decide +kernel
theorem dX6_init_10 : decode cX6_init 10 = .ok (.putfield 11, 3) := by decide +kernel
theorem dX6_init_13 : decode cX6_init 13 = .ok (.aload_n 0, 1) := by decide +kernel
theorem dX6_init_14 : decode cX6_init 14 = .ok (.bipush 6, 2) := by decide +kernel
theorem dX6_init_16 : decode cX6_init 16 = .ok (.newarray .int, 2) := by decide +kernel
theorem dX6_init_18 : decode cX6_init 18 = .ok (.putfield 15, 3) := by decide +kernel
theorem dX6_init_21 : decode cX6_init 21 = .ok (.aload_n 0, 1) := by decide +kernel
theorem dX6_init_22 : decode cX6_init 22 = .ok (.bipush 6, 2) := by decide +kernel
theorem dX6_init_24 : decode cX6_init 24 = .ok (.newarray .int, 2) := by decide +kernel
theorem dX6_init_26 : decode cX6_init 26 = .ok (.putfield 18, 3) := by decide +kernel
theorem dX6_init_29 : decode cX6_init 29 = .ok (.aload_n 0, 1) := by decide +kernel
theorem dX6_init_30 : decode cX6_init 30 = .ok (.iconst 4, 1) := by decide +kernel
theorem dX6_init_31 : decode cX6_init 31 = .ok (.newarray .int, 2) := by decide +kernel
theorem dX6_init_33 : decode cX6_init 33 = .ok (.putfield 21, 3) := by decide +kernel
theorem dX6_init_36 : decode cX6_init 36 = .ok (.aload_n 0, 1) := by decide +kernel
theorem dX6_init_37 : decode cX6_init 37 = .ok (.bipush 13, 2) := by decide +kernel
theorem dX6_init_39 : decode cX6_init 39 = .ok (.newarray .int, 2) := by decide +kernel
theorem dX6_init_41 : decode cX6_init 41 = .ok (.putfield 24, 3) := by decide +kernel
theorem dX6_init_44 : decode cX6_init 44 = .ok (.aload_n 0, 1) := by decide +kernel
theorem dX6_init_45 : decode cX6_init 45 = .ok (.bipush 13, 2) := by decide +kernel
theorem dX6_init_47 : decode cX6_init 47 = .ok (.newarray .int, 2) := by decide +kernel
theorem dX6_init_49 : decode cX6_init 49 = .ok (.putfield 27, 3) := by decide +kernel
theorem dX6_init_52 : decode cX6_init 52 = .ok (.aload_n 0, 1) := by decide +kernel
theorem dX6_init_53 : decode cX6_init 53 = .ok (.iconst 0, 1) := by decide +kernel
theorem dX6_init_54 : decode cX6_init 54 = .ok (.putfield 30, 3) := by decide +kernel
theorem dX6_init_57 : decode cX6_init 57 = .ok (.aload_n 0, 1) := by decide +kernel
theorem dX6_init_58 : decode cX6_init 58 = .ok (.iconst 0, 1) := by decide +kernel
theorem dX6_init_59 : decode cX6_init 59 = .ok (.putfield 34, 3) := by decide +kernel
theorem dX6_init_62 : decode cX6_init 62 = .ok (.aload_n 0, 1) := by decide +kernel
theorem dX6_init_63 : decode cX6_init 63 = .ok (.iconst 0, 1) := by decide +kernel
theorem dX6_init_64 : decode cX6_init 64 = .ok (.putfield 38, 3) := by decide +kernel
theorem dX6_init_67 : decode cX6_init 67 = .ok (.aload_n 0, 1) := by decide +kernel
theorem dX6_init_68 : decode cX6_init 68 = .ok (.getfield 15, 3) := by decide +kernel
theorem dX6_init_71 : decode cX6_init 71 = .ok (.iconst (-1), 1) := by decide +kernel
theorem dX6_init_72 : decode cX6_init 72 = .ok (.invokestatic 41, 3) := by decide +kernel
theorem dX6_init_75 : decode cX6_init 75 = .ok (.return_, 1) := by decide +kernel
def at_X6 (D : va_G) (cI cZ : ClassId) (A : Nat → Prop) (h0 : Nat) : Unit → State → Prop := fun _ t => ∃ q8 q16 q24 q31 q39 q47, va_P D zcl [(h0, .inr (6, [.ref q8, .ref q16, .ref q24, .ref q31, .ref q39, .ref q47, .int 0, .int 0, .int 0])), (q8, .inl (cI, 900, .inl fun _ => 0)), (q16, .inl (cI, 6, .inl (upd (upd (upd (upd (upd (upd (fun _ => 0) 0 (-1)) 1 (-1)) 2 (-1)) 3 (-1)) 4 (-1)) 5 (-1)))), (q24, .inl (cI, 6, .inl fun _ => 0)), (q31, .inl (cI, 4, .inl fun _ => 0)), (q39, .inl (cI, 13, .inl fun _ => 0)), (q47, .inl (cI, 13, .inl fun _ => 0))] t.heap ∧ va_D A [(h0, .inr (6, [.ref q8, .ref q16, .ref q24, .ref q31, .ref q39, .ref q47, .int 0, .int 0, .int 0])), (q8, .inl (cI, 900, .inl fun _ => 0)), (q16, .inl (cI, 6, .inl (upd (upd (upd (upd (upd (upd (fun _ => 0) 0 (-1)) 1 (-1)) 2 (-1)) 3 (-1)) 4 (-1)) 5 (-1)))), (q24, .inl (cI, 6, .inl fun _ => 0)), (q31, .inl (cI, 4, .inl fun _ => 0)), (q39, .inl (cI, 13, .inl fun _ => 0)), (q47, .inl (cI, 13, .inl fun _ => 0))]
set_option maxHeartbeats 4000000 in
set_option maxRecDepth 100000 in
theorem c_X6_init (l : Launch) (D : va_G) (cI cZ cA : ClassId) (h0 sz : Nat) : Met l yX6_init (Cond.code yX6_init cX6_init 1 none :: zGW) ({ frames := 1, cells := 6, slots := 942, locals := 40 }) (va_Pc [.ref h0] (fun U => U.heap.size = sz ∧ va_P D zcl [(h0, .inr (6, [.null, .null, .null, .null, .null, .null, .int 0, .int 0, .int 0]))] U.heap ∧ va_K D zcl [(cI, .int), (cZ, .boolean), (cA, .array .int)] U ∧ va_D (fun _ => True) [(h0, .inr (6, [.null, .null, .null, .null, .null, .null, .int 0, .int 0, .int 0]))])) (va_Qv (fun _ : Unit => True) (at_X6 D cI cZ (va_A [(h0, .inr (6, [.null, .null, .null, .null, .null, .null, .int 0, .int 0, .int 0]))] sz) h0) (va_A [(h0, .inr (6, [.null, .null, .null, .null, .null, .null, .int 0, .int 0, .int 0]))] sz)) 6 942 (va_A [(h0, .inr (6, [.null, .null, .null, .null, .null, .null, .int 0, .int 0, .int 0]))] sz) := by
  refine Met.ofW (cc := cX6_init) (maxL := 1) (ret := none) (by decide) rfl ?_
  intro p e s m args below meth c s₁ B hml hv
  obtain ⟨rfl, hsz, hP, hK, hD0⟩ := hv
  have hx := B.exec
  have hb := B.bytes
  have hr := B.returns
  have hts := atoms_spec (ws := Cond.code yX6_init cX6_init 1 none :: zGW) B.pre
  have hown : s.vm.findClass RX6 = some m.cls := findClass_of_methodNamed B.named
  have hlocks := B.notSynchronized
  have hin : meth.name = "<init>" := (name_of_methodNamed B.named B.method).1
  subst hsz
  have hD := hD0.self (sz := s.heap.size)
  generalize hAe : va_A [(h0, .inr (6, [.null, .null, .null, .null, .null, .null, .int 0, .int 0, .int 0]))] s.heap.size = A at hD ⊢
  have hA : ∀ q : Nat, s.heap.size ≤ q → A q := fun q h => by rw [← hAe]; exact Or.inr h
  have hS : va_S A s.heap s.heap [] := va_S.rf
  have hl := lv_entry ([.ref h0]) (n := 1) (Nat.le_of_ble_eq_true rfl)
  rw [lg_entry_eq]
  generalize (lg_sl ([.ref h0]) ++ List.replicate (1 - (lg_sl ([.ref h0])).length) Slot.unset).toArray = ls at hl ⊢
  have hl : lv_has ls 1 [(0, .ref h0)] := hl
  refine lv_aload_n hx hb dX6_init_0 rfl (lv_at hl 0 rfl) ?_
  refine W.objInit hx hb hown (hts _ (List.mem_cons_of_mem _ (zgw1 (i := 27) rfl rfl))) (hts _ (List.mem_cons_of_mem _ (zgw1 (i := 20) rfl rfl))) (hts _ (List.mem_cons_of_mem _ (zgw1 (i := 21) rfl rfl))) rfl (by rw [hml]; exact hl.1) rfl dX6_init_1 (Nat.le_of_ble_eq_true rfl) (Nat.le_of_ble_eq_true rfl) ?_
  refine W.eq (g2 := F0 m 4 ls []) rfl ?_
  refine lv_aload_n hx hb dX6_init_4 rfl (lv_at hl 0 rfl) ?_
  refine lv_sipush (v := 900) hx hb dX6_init_5 (by decide) ?_
  refine zb_newa (N := 900) (a0 := (900, .inl fun _ => 0)) (atype := .int) (ty := .int) (cI := cI) hx hb (hts _ (List.mem_cons_of_mem _ (zgw1 (i := 79) rfl rfl))) rfl 0 rfl (fun _ _ => rfl) hK hP hD hS hA (fun _ => rfl) (by decide) rfl (Nat.le_of_ble_eq_true rfl) (Nat.le_of_ble_eq_true rfl) (Nat.le_of_ble_eq_true rfl) dX6_init_8 (fun q8 H hP hD hS => ?_)
  have hP : va_P D zcl [(h0, .inr (6, [.null, .null, .null, .null, .null, .null, .int 0, .int 0, .int 0])), (q8, .inl (cI, 900, .inl fun _ => 0))] H := hP
  have hD : va_D A [(h0, .inr (6, [.null, .null, .null, .null, .null, .null, .int 0, .int 0, .int 0])), (q8, .inl (cI, 900, .inl fun _ => 0))] := hD
  refine va_putF (D := D) (ci := 6) (v := .ref q8) (ty := .array .int) (C := RX6) (T := TX6) (N := 9) hx hb hts (fun q h => List.mem_cons_of_mem _ (uin_X6 q h)) tyX6 tyX6_ok nmX6 hown hK hP hD hS 0 rfl rfl 0 (Nat.le_of_ble_eq_true rfl) (hts _ (List.mem_cons_of_mem _ (zgw1 (i := 31) rfl rfl))) (fun _ h9 => h9) rfl hin rfl (by decide +kernel) rfl rfl (Nat.le_of_ble_eq_true rfl) dX6_init_10 (fun H lo hP hD hS => ?_)
  have hP : va_P D zcl [(h0, .inr (6, [.ref q8, .null, .null, .null, .null, .null, .int 0, .int 0, .int 0])), (q8, .inl (cI, 900, .inl fun _ => 0))] H := hP
  have hD : va_D A [(h0, .inr (6, [.ref q8, .null, .null, .null, .null, .null, .int 0, .int 0, .int 0])), (q8, .inl (cI, 900, .inl fun _ => 0))] := hD
  refine lv_aload_n hx hb dX6_init_13 rfl (lv_at hl 0 rfl) ?_
  refine lv_bipush (v := 6) hx hb dX6_init_14 (by decide) ?_
  refine zb_newa (N := 6) (a0 := (6, .inl fun _ => 0)) (atype := .int) (ty := .int) (cI := cI) hx hb (hts _ (List.mem_cons_of_mem _ (zgw1 (i := 79) rfl rfl))) rfl 0 rfl (fun _ _ => rfl) hK hP hD hS hA (fun _ => rfl) (by decide) rfl (Nat.le_of_ble_eq_true rfl) (Nat.le_of_ble_eq_true rfl) (Nat.le_of_ble_eq_true rfl) dX6_init_16 (fun q16 H hP hD hS => ?_)
  have hP : va_P D zcl [(h0, .inr (6, [.ref q8, .null, .null, .null, .null, .null, .int 0, .int 0, .int 0])), (q8, .inl (cI, 900, .inl fun _ => 0)), (q16, .inl (cI, 6, .inl fun _ => 0))] H := hP
  have hD : va_D A [(h0, .inr (6, [.ref q8, .null, .null, .null, .null, .null, .int 0, .int 0, .int 0])), (q8, .inl (cI, 900, .inl fun _ => 0)), (q16, .inl (cI, 6, .inl fun _ => 0))] := hD
  refine va_putF (D := D) (ci := 6) (v := .ref q16) (ty := .array .int) (C := RX6) (T := TX6) (N := 9) hx hb hts (fun q h => List.mem_cons_of_mem _ (uin_X6 q h)) tyX6 tyX6_ok nmX6 hown hK hP hD hS 0 rfl rfl 1 (Nat.le_of_ble_eq_true rfl) (hts _ (List.mem_cons_of_mem _ (zgw1 (i := 34) rfl rfl))) (fun _ h9 => h9) rfl hin rfl (by decide +kernel) rfl rfl (Nat.le_of_ble_eq_true rfl) dX6_init_18 (fun H lo hP hD hS => ?_)
  have hP : va_P D zcl [(h0, .inr (6, [.ref q8, .ref q16, .null, .null, .null, .null, .int 0, .int 0, .int 0])), (q8, .inl (cI, 900, .inl fun _ => 0)), (q16, .inl (cI, 6, .inl fun _ => 0))] H := hP
  have hD : va_D A [(h0, .inr (6, [.ref q8, .ref q16, .null, .null, .null, .null, .int 0, .int 0, .int 0])), (q8, .inl (cI, 900, .inl fun _ => 0)), (q16, .inl (cI, 6, .inl fun _ => 0))] := hD
  refine lv_aload_n hx hb dX6_init_21 rfl (lv_at hl 0 rfl) ?_
  refine lv_bipush (v := 6) hx hb dX6_init_22 (by decide) ?_
  refine zb_newa (N := 6) (a0 := (6, .inl fun _ => 0)) (atype := .int) (ty := .int) (cI := cI) hx hb (hts _ (List.mem_cons_of_mem _ (zgw1 (i := 79) rfl rfl))) rfl 0 rfl (fun _ _ => rfl) hK hP hD hS hA (fun _ => rfl) (by decide) rfl (Nat.le_of_ble_eq_true rfl) (Nat.le_of_ble_eq_true rfl) (Nat.le_of_ble_eq_true rfl) dX6_init_24 (fun q24 H hP hD hS => ?_)
  have hP : va_P D zcl [(h0, .inr (6, [.ref q8, .ref q16, .null, .null, .null, .null, .int 0, .int 0, .int 0])), (q8, .inl (cI, 900, .inl fun _ => 0)), (q16, .inl (cI, 6, .inl fun _ => 0)), (q24, .inl (cI, 6, .inl fun _ => 0))] H := hP
  have hD : va_D A [(h0, .inr (6, [.ref q8, .ref q16, .null, .null, .null, .null, .int 0, .int 0, .int 0])), (q8, .inl (cI, 900, .inl fun _ => 0)), (q16, .inl (cI, 6, .inl fun _ => 0)), (q24, .inl (cI, 6, .inl fun _ => 0))] := hD
  refine va_putF (D := D) (ci := 6) (v := .ref q24) (ty := .array .int) (C := RX6) (T := TX6) (N := 9) hx hb hts (fun q h => List.mem_cons_of_mem _ (uin_X6 q h)) tyX6 tyX6_ok nmX6 hown hK hP hD hS 0 rfl rfl 2 (Nat.le_of_ble_eq_true rfl) (hts _ (List.mem_cons_of_mem _ (zgw1 (i := 37) rfl rfl))) (fun _ h9 => h9) rfl hin rfl (by decide +kernel) rfl rfl (Nat.le_of_ble_eq_true rfl) dX6_init_26 (fun H lo hP hD hS => ?_)
  have hP : va_P D zcl [(h0, .inr (6, [.ref q8, .ref q16, .ref q24, .null, .null, .null, .int 0, .int 0, .int 0])), (q8, .inl (cI, 900, .inl fun _ => 0)), (q16, .inl (cI, 6, .inl fun _ => 0)), (q24, .inl (cI, 6, .inl fun _ => 0))] H := hP
  have hD : va_D A [(h0, .inr (6, [.ref q8, .ref q16, .ref q24, .null, .null, .null, .int 0, .int 0, .int 0])), (q8, .inl (cI, 900, .inl fun _ => 0)), (q16, .inl (cI, 6, .inl fun _ => 0)), (q24, .inl (cI, 6, .inl fun _ => 0))] := hD
  refine lv_aload_n hx hb dX6_init_29 rfl (lv_at hl 0 rfl) ?_
  refine lv_iconst (v := 4) hx hb dX6_init_30 (by decide) ?_
  refine zb_newa (N := 4) (a0 := (4, .inl fun _ => 0)) (atype := .int) (ty := .int) (cI := cI) hx hb (hts _ (List.mem_cons_of_mem _ (zgw1 (i := 79) rfl rfl))) rfl 0 rfl (fun _ _ => rfl) hK hP hD hS hA (fun _ => rfl) (by decide) rfl (Nat.le_of_ble_eq_true rfl) (Nat.le_of_ble_eq_true rfl) (Nat.le_of_ble_eq_true rfl) dX6_init_31 (fun q31 H hP hD hS => ?_)
  have hP : va_P D zcl [(h0, .inr (6, [.ref q8, .ref q16, .ref q24, .null, .null, .null, .int 0, .int 0, .int 0])), (q8, .inl (cI, 900, .inl fun _ => 0)), (q16, .inl (cI, 6, .inl fun _ => 0)), (q24, .inl (cI, 6, .inl fun _ => 0)), (q31, .inl (cI, 4, .inl fun _ => 0))] H := hP
  have hD : va_D A [(h0, .inr (6, [.ref q8, .ref q16, .ref q24, .null, .null, .null, .int 0, .int 0, .int 0])), (q8, .inl (cI, 900, .inl fun _ => 0)), (q16, .inl (cI, 6, .inl fun _ => 0)), (q24, .inl (cI, 6, .inl fun _ => 0)), (q31, .inl (cI, 4, .inl fun _ => 0))] := hD
  refine va_putF (D := D) (ci := 6) (v := .ref q31) (ty := .array .int) (C := RX6) (T := TX6) (N := 9) hx hb hts (fun q h => List.mem_cons_of_mem _ (uin_X6 q h)) tyX6 tyX6_ok nmX6 hown hK hP hD hS 0 rfl rfl 3 (Nat.le_of_ble_eq_true rfl) (hts _ (List.mem_cons_of_mem _ (zgw1 (i := 40) rfl rfl))) (fun _ h9 => h9) rfl hin rfl (by decide +kernel) rfl rfl (Nat.le_of_ble_eq_true rfl) dX6_init_33 (fun H lo hP hD hS => ?_)
  have hP : va_P D zcl [(h0, .inr (6, [.ref q8, .ref q16, .ref q24, .ref q31, .null, .null, .int 0, .int 0, .int 0])), (q8, .inl (cI, 900, .inl fun _ => 0)), (q16, .inl (cI, 6, .inl fun _ => 0)), (q24, .inl (cI, 6, .inl fun _ => 0)), (q31, .inl (cI, 4, .inl fun _ => 0))] H := hP
  have hD : va_D A [(h0, .inr (6, [.ref q8, .ref q16, .ref q24, .ref q31, .null, .null, .int 0, .int 0, .int 0])), (q8, .inl (cI, 900, .inl fun _ => 0)), (q16, .inl (cI, 6, .inl fun _ => 0)), (q24, .inl (cI, 6, .inl fun _ => 0)), (q31, .inl (cI, 4, .inl fun _ => 0))] := hD
  refine lv_aload_n hx hb dX6_init_36 rfl (lv_at hl 0 rfl) ?_
  refine lv_bipush (v := 13) hx hb dX6_init_37 (by decide) ?_
  refine zb_newa (N := 13) (a0 := (13, .inl fun _ => 0)) (atype := .int) (ty := .int) (cI := cI) hx hb (hts _ (List.mem_cons_of_mem _ (zgw1 (i := 79) rfl rfl))) rfl 0 rfl (fun _ _ => rfl) hK hP hD hS hA (fun _ => rfl) (by decide) rfl (Nat.le_of_ble_eq_true rfl) (Nat.le_of_ble_eq_true rfl) (Nat.le_of_ble_eq_true rfl) dX6_init_39 (fun q39 H hP hD hS => ?_)
  have hP : va_P D zcl [(h0, .inr (6, [.ref q8, .ref q16, .ref q24, .ref q31, .null, .null, .int 0, .int 0, .int 0])), (q8, .inl (cI, 900, .inl fun _ => 0)), (q16, .inl (cI, 6, .inl fun _ => 0)), (q24, .inl (cI, 6, .inl fun _ => 0)), (q31, .inl (cI, 4, .inl fun _ => 0)), (q39, .inl (cI, 13, .inl fun _ => 0))] H := hP
  have hD : va_D A [(h0, .inr (6, [.ref q8, .ref q16, .ref q24, .ref q31, .null, .null, .int 0, .int 0, .int 0])), (q8, .inl (cI, 900, .inl fun _ => 0)), (q16, .inl (cI, 6, .inl fun _ => 0)), (q24, .inl (cI, 6, .inl fun _ => 0)), (q31, .inl (cI, 4, .inl fun _ => 0)), (q39, .inl (cI, 13, .inl fun _ => 0))] := hD
  refine va_putF (D := D) (ci := 6) (v := .ref q39) (ty := .array .int) (C := RX6) (T := TX6) (N := 9) hx hb hts (fun q h => List.mem_cons_of_mem _ (uin_X6 q h)) tyX6 tyX6_ok nmX6 hown hK hP hD hS 0 rfl rfl 4 (Nat.le_of_ble_eq_true rfl) (hts _ (List.mem_cons_of_mem _ (zgw1 (i := 44) rfl rfl))) (fun _ h9 => h9) rfl hin rfl (by decide +kernel) rfl rfl (Nat.le_of_ble_eq_true rfl) dX6_init_41 (fun H lo hP hD hS => ?_)
  have hP : va_P D zcl [(h0, .inr (6, [.ref q8, .ref q16, .ref q24, .ref q31, .ref q39, .null, .int 0, .int 0, .int 0])), (q8, .inl (cI, 900, .inl fun _ => 0)), (q16, .inl (cI, 6, .inl fun _ => 0)), (q24, .inl (cI, 6, .inl fun _ => 0)), (q31, .inl (cI, 4, .inl fun _ => 0)), (q39, .inl (cI, 13, .inl fun _ => 0))] H := hP
  have hD : va_D A [(h0, .inr (6, [.ref q8, .ref q16, .ref q24, .ref q31, .ref q39, .null, .int 0, .int 0, .int 0])), (q8, .inl (cI, 900, .inl fun _ => 0)), (q16, .inl (cI, 6, .inl fun _ => 0)), (q24, .inl (cI, 6, .inl fun _ => 0)), (q31, .inl (cI, 4, .inl fun _ => 0)), (q39, .inl (cI, 13, .inl fun _ => 0))] := hD
  refine lv_aload_n hx hb dX6_init_44 rfl (lv_at hl 0 rfl) ?_
  refine lv_bipush (v := 13) hx hb dX6_init_45 (by decide) ?_
  refine zb_newa (N := 13) (a0 := (13, .inl fun _ => 0)) (atype := .int) (ty := .int) (cI := cI) hx hb (hts _ (List.mem_cons_of_mem _ (zgw1 (i := 79) rfl rfl))) rfl 0 rfl (fun _ _ => rfl) hK hP hD hS hA (fun _ => rfl) (by decide) rfl (Nat.le_of_ble_eq_true rfl) (Nat.le_of_ble_eq_true rfl) (Nat.le_of_ble_eq_true rfl) dX6_init_47 (fun q47 H hP hD hS => ?_)
  have hP : va_P D zcl [(h0, .inr (6, [.ref q8, .ref q16, .ref q24, .ref q31, .ref q39, .null, .int 0, .int 0, .int 0])), (q8, .inl (cI, 900, .inl fun _ => 0)), (q16, .inl (cI, 6, .inl fun _ => 0)), (q24, .inl (cI, 6, .inl fun _ => 0)), (q31, .inl (cI, 4, .inl fun _ => 0)), (q39, .inl (cI, 13, .inl fun _ => 0)), (q47, .inl (cI, 13, .inl fun _ => 0))] H := hP
  have hD : va_D A [(h0, .inr (6, [.ref q8, .ref q16, .ref q24, .ref q31, .ref q39, .null, .int 0, .int 0, .int 0])), (q8, .inl (cI, 900, .inl fun _ => 0)), (q16, .inl (cI, 6, .inl fun _ => 0)), (q24, .inl (cI, 6, .inl fun _ => 0)), (q31, .inl (cI, 4, .inl fun _ => 0)), (q39, .inl (cI, 13, .inl fun _ => 0)), (q47, .inl (cI, 13, .inl fun _ => 0))] := hD
  refine va_putF (D := D) (ci := 6) (v := .ref q47) (ty := .array .int) (C := RX6) (T := TX6) (N := 9) hx hb hts (fun q h => List.mem_cons_of_mem _ (uin_X6 q h)) tyX6 tyX6_ok nmX6 hown hK hP hD hS 0 rfl rfl 5 (Nat.le_of_ble_eq_true rfl) (hts _ (List.mem_cons_of_mem _ (zgw1 (i := 47) rfl rfl))) (fun _ h9 => h9) rfl hin rfl (by decide +kernel) rfl rfl (Nat.le_of_ble_eq_true rfl) dX6_init_49 (fun H lo hP hD hS => ?_)
  have hP : va_P D zcl [(h0, .inr (6, [.ref q8, .ref q16, .ref q24, .ref q31, .ref q39, .ref q47, .int 0, .int 0, .int 0])), (q8, .inl (cI, 900, .inl fun _ => 0)), (q16, .inl (cI, 6, .inl fun _ => 0)), (q24, .inl (cI, 6, .inl fun _ => 0)), (q31, .inl (cI, 4, .inl fun _ => 0)), (q39, .inl (cI, 13, .inl fun _ => 0)), (q47, .inl (cI, 13, .inl fun _ => 0))] H := hP
  have hD : va_D A [(h0, .inr (6, [.ref q8, .ref q16, .ref q24, .ref q31, .ref q39, .ref q47, .int 0, .int 0, .int 0])), (q8, .inl (cI, 900, .inl fun _ => 0)), (q16, .inl (cI, 6, .inl fun _ => 0)), (q24, .inl (cI, 6, .inl fun _ => 0)), (q31, .inl (cI, 4, .inl fun _ => 0)), (q39, .inl (cI, 13, .inl fun _ => 0)), (q47, .inl (cI, 13, .inl fun _ => 0))] := hD
  refine lv_aload_n hx hb dX6_init_52 rfl (lv_at hl 0 rfl) ?_
  refine lv_iconst (v := 0) hx hb dX6_init_53 (by decide) ?_
  refine va_put (D := D) (ci := 6) (v := .int 0) (ty := .int) (C := RX6) (T := TX6) (N := 9) hx hb hts (fun q h => List.mem_cons_of_mem _ (uin_X6 q h)) tyX6 tyX6_ok nmX6 hown hK hP hD hS 0 rfl rfl 6 (Nat.le_of_ble_eq_true rfl) (hts _ (List.mem_cons_of_mem _ (zgw1 (i := 50) rfl rfl))) (fun _ h9 => h9) rfl (by decide +kernel) rfl rfl (Nat.le_of_ble_eq_true rfl) dX6_init_54 (fun H lo hP hD hS => ?_)
  have hP : va_P D zcl [(h0, .inr (6, [.ref q8, .ref q16, .ref q24, .ref q31, .ref q39, .ref q47, .int 0, .int 0, .int 0])), (q8, .inl (cI, 900, .inl fun _ => 0)), (q16, .inl (cI, 6, .inl fun _ => 0)), (q24, .inl (cI, 6, .inl fun _ => 0)), (q31, .inl (cI, 4, .inl fun _ => 0)), (q39, .inl (cI, 13, .inl fun _ => 0)), (q47, .inl (cI, 13, .inl fun _ => 0))] H := hP
  have hD : va_D A [(h0, .inr (6, [.ref q8, .ref q16, .ref q24, .ref q31, .ref q39, .ref q47, .int 0, .int 0, .int 0])), (q8, .inl (cI, 900, .inl fun _ => 0)), (q16, .inl (cI, 6, .inl fun _ => 0)), (q24, .inl (cI, 6, .inl fun _ => 0)), (q31, .inl (cI, 4, .inl fun _ => 0)), (q39, .inl (cI, 13, .inl fun _ => 0)), (q47, .inl (cI, 13, .inl fun _ => 0))] := hD
  refine lv_aload_n hx hb dX6_init_57 rfl (lv_at hl 0 rfl) ?_
  refine lv_iconst (v := 0) hx hb dX6_init_58 (by decide) ?_
  refine va_put (D := D) (ci := 6) (v := .int 0) (ty := .boolean) (C := RX6) (T := TX6) (N := 9) hx hb hts (fun q h => List.mem_cons_of_mem _ (uin_X6 q h)) tyX6 tyX6_ok nmX6 hown hK hP hD hS 0 rfl rfl 7 (Nat.le_of_ble_eq_true rfl) (hts _ (List.mem_cons_of_mem _ (zgw1 (i := 53) rfl rfl))) (fun _ h9 => h9) rfl (by decide +kernel) rfl rfl (Nat.le_of_ble_eq_true rfl) dX6_init_59 (fun H lo hP hD hS => ?_)
  have hP : va_P D zcl [(h0, .inr (6, [.ref q8, .ref q16, .ref q24, .ref q31, .ref q39, .ref q47, .int 0, .int 0, .int 0])), (q8, .inl (cI, 900, .inl fun _ => 0)), (q16, .inl (cI, 6, .inl fun _ => 0)), (q24, .inl (cI, 6, .inl fun _ => 0)), (q31, .inl (cI, 4, .inl fun _ => 0)), (q39, .inl (cI, 13, .inl fun _ => 0)), (q47, .inl (cI, 13, .inl fun _ => 0))] H := hP
  have hD : va_D A [(h0, .inr (6, [.ref q8, .ref q16, .ref q24, .ref q31, .ref q39, .ref q47, .int 0, .int 0, .int 0])), (q8, .inl (cI, 900, .inl fun _ => 0)), (q16, .inl (cI, 6, .inl fun _ => 0)), (q24, .inl (cI, 6, .inl fun _ => 0)), (q31, .inl (cI, 4, .inl fun _ => 0)), (q39, .inl (cI, 13, .inl fun _ => 0)), (q47, .inl (cI, 13, .inl fun _ => 0))] := hD
  refine lv_aload_n hx hb dX6_init_62 rfl (lv_at hl 0 rfl) ?_
  refine lv_iconst (v := 0) hx hb dX6_init_63 (by decide) ?_
  refine va_put (D := D) (ci := 6) (v := .int 0) (ty := .int) (C := RX6) (T := TX6) (N := 9) hx hb hts (fun q h => List.mem_cons_of_mem _ (uin_X6 q h)) tyX6 tyX6_ok nmX6 hown hK hP hD hS 0 rfl rfl 8 (Nat.le_of_ble_eq_true rfl) (hts _ (List.mem_cons_of_mem _ (zgw1 (i := 56) rfl rfl))) (fun _ h9 => h9) rfl (by decide +kernel) rfl rfl (Nat.le_of_ble_eq_true rfl) dX6_init_64 (fun H lo hP hD hS => ?_)
  have hP : va_P D zcl [(h0, .inr (6, [.ref q8, .ref q16, .ref q24, .ref q31, .ref q39, .ref q47, .int 0, .int 0, .int 0])), (q8, .inl (cI, 900, .inl fun _ => 0)), (q16, .inl (cI, 6, .inl fun _ => 0)), (q24, .inl (cI, 6, .inl fun _ => 0)), (q31, .inl (cI, 4, .inl fun _ => 0)), (q39, .inl (cI, 13, .inl fun _ => 0)), (q47, .inl (cI, 13, .inl fun _ => 0))] H := hP
  have hD : va_D A [(h0, .inr (6, [.ref q8, .ref q16, .ref q24, .ref q31, .ref q39, .ref q47, .int 0, .int 0, .int 0])), (q8, .inl (cI, 900, .inl fun _ => 0)), (q16, .inl (cI, 6, .inl fun _ => 0)), (q24, .inl (cI, 6, .inl fun _ => 0)), (q31, .inl (cI, 4, .inl fun _ => 0)), (q39, .inl (cI, 13, .inl fun _ => 0)), (q47, .inl (cI, 13, .inl fun _ => 0))] := hD
  refine lv_aload_n hx hb dX6_init_67 rfl (lv_at hl 0 rfl) ?_
  refine va_get (D := D) (ci := 6) (v := .ref q16) (C := RX6) (T := TX6) (N := 9) hx hb hts (fun q h => List.mem_cons_of_mem _ (uin_X6 q h)) hown hK hP 0 rfl rfl 1 (Nat.le_of_ble_eq_true rfl) (hts _ (List.mem_cons_of_mem _ (zgw1 (i := 34) rfl rfl))) (fun _ h9 => h9) rfl dX6_init_68 ?_
  refine lv_iconst (v := (-1)) hx hb dX6_init_71 (by decide) ?_
  have hPc := hP.sub (ws' := [(q16, .inl (cI, 6, .inl fun _ => 0))]) [2] rfl
  have hDc := hD.sub (ws' := [(q16, .inl (cI, 6, .inl fun _ => 0))]) [2] (by decide) rfl
  have hFc := va_free (wc := [(q16, .inl (cI, 6, .inl fun _ => 0))]) hD hS hA [2] rfl
  refine va_callv (va_runS (As := [.ref q16, .int (-1)]) (rest := []) ⟨hx, hb, hml, hown, hts⟩ (c_fill6 l D cI cZ cA q16 H.size (fun _ => 0)) ⟨zcw_B (S := (cX6_init, 1, RX6, Cond.code yX6_init cX6_init 1 none :: zGW, _)) ⟨rfl, rfl, Nat.le_of_ble_eq_true rfl, Nat.le_of_ble_eq_true rfl, zgd qc_fill, ⟨_, rfl⟩, (List.mem_cons_of_mem _ (zgw1 (i := 3) rfl rfl)), nm_fill⟩ hts (List.mem_cons_of_mem _ (zgw1 (i := 28) rfl rfl)), hts _ (List.mem_cons_of_mem _ (zgw1 (i := 29) rfl rfl))⟩ ⟨fun a U g mk z => by obtain ⟨z0, z1, zP, zK, zD⟩ := z; exact ⟨z0, z1, zP, va_K.moved (u := U) (U := U.calling g mk a) (Vm.Alike.refl U.vm) zK, zD⟩, fun U hU hW => ⟨rfl, by rw [hU], by rw [hU]; exact hPc, va_K.moved hW.alike hK, hDc.weaken (fun _ _ _ _ => trivial)⟩⟩ rfl rfl hl.1 rfl (lv_room (Nat.le_of_ble_eq_true rfl)) dX6_init_72 ⟨Nat.le_of_ble_eq_true rfl, Nat.le_of_ble_eq_true rfl⟩) hS (fun q _ h => hFc q h) hFc (fun u t H1 lo ht hvm hw hB hz1 hk1 hS => ?_)
  obtain ⟨hP1, hD1⟩ := hB
  rw [ht] at hP1
  obtain ⟨hP, hD⟩ := va_join (wr := [(h0, .inr (6, [.ref q8, .ref q16, .ref q24, .ref q31, .ref q39, .ref q47, .int 0, .int 0, .int 0])), (q8, .inl (cI, 900, .inl fun _ => 0)), (q24, .inl (cI, 6, .inl fun _ => 0)), (q31, .inl (cI, 4, .inl fun _ => 0)), (q39, .inl (cI, 13, .inl fun _ => 0)), (q47, .inl (cI, 13, .inl fun _ => 0))]) (w1 := [(q16, .inl (cI, 6, .inl (upd (upd (upd (upd (upd (upd (fun _ => 0) 0 (-1)) 1 (-1)) 2 (-1)) 3 (-1)) 4 (-1)) 5 (-1))))]) hP hD [2] [0, 1, 3, 4, 5, 6] rfl rfl (by decide) (by decide) hk1 hFc hP1 hD1
  have hP9 := hP.sub (ws' := [(h0, .inr (6, [.ref q8, .ref q16, .ref q24, .ref q31, .ref q39, .ref q47, .int 0, .int 0, .int 0])), (q8, .inl (cI, 900, .inl fun _ => 0)), (q16, .inl (cI, 6, .inl (upd (upd (upd (upd (upd (upd (fun _ => 0) 0 (-1)) 1 (-1)) 2 (-1)) 3 (-1)) 4 (-1)) 5 (-1)))), (q24, .inl (cI, 6, .inl fun _ => 0)), (q31, .inl (cI, 4, .inl fun _ => 0)), (q39, .inl (cI, 13, .inl fun _ => 0)), (q47, .inl (cI, 13, .inl fun _ => 0))]) [0, 1, 6, 2, 3, 4, 5] rfl
  have hD9 := hD.sub (ws' := [(h0, .inr (6, [.ref q8, .ref q16, .ref q24, .ref q31, .ref q39, .ref q47, .int 0, .int 0, .int 0])), (q8, .inl (cI, 900, .inl fun _ => 0)), (q16, .inl (cI, 6, .inl (upd (upd (upd (upd (upd (upd (fun _ => 0) 0 (-1)) 1 (-1)) 2 (-1)) 3 (-1)) 4 (-1)) 5 (-1)))), (q24, .inl (cI, 6, .inl fun _ => 0)), (q31, .inl (cI, 4, .inl fun _ => 0)), (q39, .inl (cI, 13, .inl fun _ => 0)), (q47, .inl (cI, 13, .inl fun _ => 0))]) [0, 1, 6, 2, 3, 4, 5] (by decide) rfl
  exact W.vret hx hb hr (fun t ht hW => ⟨⟨(), rfl, trivial, q8, q16, q24, q31, q39, q47, by rw [ht]; exact hP9, hD9⟩, hS.F ht⟩) hS.2.2 dX6_init_75
