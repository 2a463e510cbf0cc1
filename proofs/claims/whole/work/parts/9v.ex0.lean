/-! EXPLORE with no search made: it is made on the way -/
section EX0
theorem zNI_same {u U : State} (h : u.vm = U.vm) (z : zNI u) : zNI U := ⟨va_Nw.same rfl h z.1, va_Nw.same rfl h z.2.1, va_Nw.same rfl h z.2.2.1, va_Nw.same rfl h z.2.2.2.1, va_Nw.same rfl h z.2.2.2.2⟩
theorem zNI_warm {s U : State} (hW : s.WarmedH U.vm) (z : zNI s) : zNI U := ⟨va_Nw.warmM hW z.1, va_Nw.warmM hW z.2.1, va_Nw.warmM hW z.2.2.1, va_Nw.warmM hW z.2.2.2.1, va_Nw.warmM hW z.2.2.2.2⟩
abbrev rm_ex0 : Room := { frames := 14, cells := 24, slots := 179194, locals := 339 }
set_option maxRecDepth 10000 in
theorem j_ex0a (w : zN) {sf : Option (Option Nat)} (b : Nat) (hb : zC8 w b sf) : zSj w (cX8_explore, 2, RX8, (Cond.code yX8_explore cX8_explore 2 (some .int) :: zGW), rm_X8_explore_1) [(0, b)] false 0 35 0 0 (H_ex b zsk) :=
  (zs_sq 13 (zs_if 10 13 (zc_cm0f 7 (ze_cv 4 4 (Nat.le_of_ble_eq_true rfl) (zr_get 1 (zr_ln dX8_explore_0 rfl List.mem_cons_self) (gf_8_12 dX8_explore_1) hb.1.1 hb.1.2 rfl) (za_nil rfl) (zcs_V (c_X6_total w (b + 1) hb.2.1) ⟨rfl, rfl, (Nat.le_of_ble_eq_true rfl), (Nat.le_of_ble_eq_true rfl), zgd qc_X6_total, ⟨_, rfl⟩, (List.mem_cons_of_mem _ qw_114), nm_X6_total⟩ (List.mem_cons_of_mem _ qw_320) (List.mem_cons_of_mem _ qw_309) (List.mem_cons_of_mem _ qw_310) hb.2.1.1.1 hb.2.1.1.2 rfl dX8_explore_4)) (zj1n_ne dX8_explore_7 rfl) zr0 zr0) (zs_rt 12 (ze_k (zpu_bipush dX8_explore_10 rfl)) dX8_explore_12) (zs_sk zr0)) (zs_sq 25 (zs_if 22 25 (zc_cmpf 17 19 (ze_fd 14 (zr_ln dX8_explore_13 rfl List.mem_cons_self) (gf_8_45 dX8_explore_14) hb.1.1 hb.1.2 rfl) (ze_k (zpu_bipush dX8_explore_17 rfl)) (zj2n_lt dX8_explore_19 rfl) zr0 zr0) (zs_rt 24 (ze_k (zpu_bipush dX8_explore_22 rfl)) dX8_explore_24) (zs_sk zr0)) (zs_sq 35 (zs_fo 26 31 32 (zr_ln dX8_explore_25 rfl List.mem_cons_self) dX8_explore_26 (gf_8_45 dX8_explore_27) (ze_k (zpu_iconst dX8_explore_30 rfl)) (zop_iadd dX8_explore_31) (pf_8_45 dX8_explore_32) hb.1.1 hb.1.2 rfl zr0) (zs_sk zr0))))
set_option maxRecDepth 10000 in
theorem j_ex0b (w : zN) {sf : Option (Option Nat)} (b : Nat) (hb : zC8 w b sf) : zSj w (cX8_explore, 2, RX8, (Cond.code yX8_explore cX8_explore 2 (some .int) :: zGW), rm_ex0) [(0, b)] false 0 35 0 0 (H_ex b zsk) :=
  (zs_sq 13 (zs_if 10 13 (zc_cm0f 7 (ze_cv 4 4 (Nat.le_of_ble_eq_true rfl) (zr_get 1 (zr_ln dX8_explore_0 rfl List.mem_cons_self) (gf_8_12 dX8_explore_1) hb.1.1 hb.1.2 rfl) (za_nil rfl) (zcs_V (c_X6_total w (b + 1) hb.2.1) ⟨rfl, rfl, (Nat.le_of_ble_eq_true rfl), (Nat.le_of_ble_eq_true rfl), zgd qc_X6_total, ⟨_, rfl⟩, (List.mem_cons_of_mem _ qw_114), nm_X6_total⟩ (List.mem_cons_of_mem _ qw_320) (List.mem_cons_of_mem _ qw_309) (List.mem_cons_of_mem _ qw_310) hb.2.1.1.1 hb.2.1.1.2 rfl dX8_explore_4)) (zj1n_ne dX8_explore_7 rfl) zr0 zr0) (zs_rt 12 (ze_k (zpu_bipush dX8_explore_10 rfl)) dX8_explore_12) (zs_sk zr0)) (zs_sq 25 (zs_if 22 25 (zc_cmpf 17 19 (ze_fd 14 (zr_ln dX8_explore_13 rfl List.mem_cons_self) (gf_8_45 dX8_explore_14) hb.1.1 hb.1.2 rfl) (ze_k (zpu_bipush dX8_explore_17 rfl)) (zj2n_lt dX8_explore_19 rfl) zr0 zr0) (zs_rt 24 (ze_k (zpu_bipush dX8_explore_22 rfl)) dX8_explore_24) (zs_sk zr0)) (zs_sq 35 (zs_fo 26 31 32 (zr_ln dX8_explore_25 rfl List.mem_cons_self) dX8_explore_26 (gf_8_45 dX8_explore_27) (ze_k (zpu_iconst dX8_explore_30 rfl)) (zop_iadd dX8_explore_31) (pf_8_45 dX8_explore_32) hb.1.1 hb.1.2 rfl zr0) (zs_sk zr0))))
set_option maxRecDepth 10000 in
theorem j_exR (w : zN) (b : Nat) (hb : zC8 w b (some (some (b + 26)))) (hs : zC1 w (b + 26)) : zSj w (cX8_explore, 2, RX8, (Cond.code yX8_explore cX8_explore 2 (some .int) :: zGW), rm_ex0) [(0, b)] false 53 0 0 0 (R_ex b) :=
  (zs_sq 68 (zs_sen 67 (ze_cv 60 64 (Nat.le_of_ble_eq_true rfl) (zr_get 57 (zr_get 54 (zr_ln dX8_explore_53 rfl List.mem_cons_self) (gf_8_30 dX8_explore_54) hb.1.1 hb.1.2 rfl) (gf_8_170 dX8_explore_57) hs.1.1 hs.1.2 rfl) (za_ref 64 (zr_get 61 (zr_ln dX8_explore_60 rfl List.mem_cons_self) (gf_8_12 dX8_explore_61) hb.1.1 hb.1.2 rfl) (za_nil rfl)) (zcs_V (c_X5_start w (b + 26 + 1) (b + 1) hs.2.1 hb.2.1) ⟨rfl, rfl, (Nat.le_of_ble_eq_true rfl), (Nat.le_of_ble_eq_true rfl), zgd qc_X5_start, ⟨_, rfl⟩, (List.mem_cons_of_mem _ qw_116), nm_X5_start⟩ (List.mem_cons_of_mem _ qw_346) (List.mem_cons_of_mem _ qw_347) (List.mem_cons_of_mem _ qw_348) hs.2.1.1.1 hs.2.1.1.2 rfl dX8_explore_64)) dX8_explore_67 rfl (Nat.le_of_ble_eq_true rfl) (zkn rfl) zr0) (zs_sq 84 (zs_pz 72 81 (zr_get 69 (zr_ln dX8_explore_68 rfl List.mem_cons_self) (gf_8_30 dX8_explore_69) hb.1.1 hb.1.2 rfl) (ze_cond 76 77 80 81 (zc_cm0f 73 (ze_ln dX8_explore_72 rfl) (zj1n_ne dX8_explore_73 rfl) zr0 zr0) (ze_k (zpu_iconst dX8_explore_76 rfl)) (zr1 dX8_explore_77 rfl zr0) (ze_k (zpu_iconst dX8_explore_80 rfl)) zr0) (pf_8_173 dX8_explore_81) hs.1.1 hs.1.2 rfl zr0) (zs_sq 93 (zs_if 88 93 (zc_cm0f 85 (ze_ln dX8_explore_84 rfl) (zj1n_eq dX8_explore_85 rfl) zr0 zr0) (zs_rt 92 (ze_bin 90 91 (ze_k (zpu_bipush dX8_explore_88 rfl)) (ze_ln dX8_explore_90 rfl) (zop_isub dX8_explore_91)) dX8_explore_92) (zs_sk zr0)) (zs_sq 104 (zs_cv 97 101 (zr_get 94 (zr_ln dX8_explore_93 rfl List.mem_cons_self) (gf_8_30 dX8_explore_94) hb.1.1 hb.1.2 rfl) (za_ref 101 (zr_get 98 (zr_ln dX8_explore_97 rfl List.mem_cons_self) (gf_8_26 dX8_explore_98) hb.1.1 hb.1.2 rfl) (za_nil rfl)) (zcs_V (c_X1_goThrough w (b + 26) (b + 17) hs hb.2.2.2) ⟨rfl, rfl, (Nat.le_of_ble_eq_true rfl), (Nat.le_of_ble_eq_true rfl), zgd qc_X1_goThrough, ⟨_, rfl⟩, (List.mem_cons_of_mem _ qw_124), nm_X1_goThrough⟩ (List.mem_cons_of_mem _ qw_734) (List.mem_cons_of_mem _ qw_735) (List.mem_cons_of_mem _ qw_736) hs.1.1 hs.1.2 rfl dX8_explore_101) zr0) (zs_rt 126 (ze_cond 114 116 119 126 (zc_cm0f 111 (ze_fd 108 (zr_get 105 (zr_ln dX8_explore_104 rfl List.mem_cons_self) (gf_8_30 dX8_explore_105) hb.1.1 hb.1.2 rfl) (gf_8_180 dX8_explore_108) hs.1.1 hs.1.2 rfl) (zj1n_eq dX8_explore_111 rfl) zr0 zr0) (ze_k (zpu_bipush dX8_explore_114 rfl)) (zr1 dX8_explore_116 rfl zr0) (ze_fd 123 (zr_get 120 (zr_ln dX8_explore_119 rfl List.mem_cons_self) (gf_8_30 dX8_explore_120) hb.1.1 hb.1.2 rfl) (gf_8_183 dX8_explore_123) hs.1.1 hs.1.2 rfl) zr0) dX8_explore_126)))))
/-- explore that returns at once -/
def M_ex0 (b : Nat) : List Int32 → zM → Option (Int32 × zM) := zA0 (zfi (H_ex b zsk) (zenv []))
theorem c_ex0a (w : zN) {sf : Option (Option Nat)} (b : Nat) (hb : zC8 w b sf) : zCt w false yX8_explore (Cond.code yX8_explore cX8_explore 2 (some .int) :: zGW) rm_X8_explore_1 0 [.ref (zad w b)] (zmg (zad w) []) (M_ex0 b) := by
  intro vs μ r μ' h
  obtain ⟨rfl, h2⟩ : vs = [] ∧ zfi (H_ex b zsk) (zenv []) μ = some (r, μ') := zA0_inv (f := zfi (H_ex b zsk) (zenv [])) h
  refine ⟨rfl, fun l => zmet (vd := false) (n := 0) (rc := []) (pe := 35) (rm := rm_X8_explore_1) (av := ([.ref (zad w b)] : List Value)) (l0 := []) (by decide +kernel) rfl ⟨_, rfl, rfl⟩ (j_ex0a w b hb) ⟨rfl, rfl⟩ (Nat.le_of_ble_eq_true rfl) (fun _ h => absurd h List.not_mem_nil) (List.forall_mem_cons.mpr ⟨(List.mem_of_getElem? (i := 0) rfl), (fun _ h => absurd h List.not_mem_nil)⟩) ?_ l⟩
  unfold zfi at h2
  cases e : H_ex b zsk (zenv []) μ with
  | none => rw [e] at h2; cases h2
  | some q =>
    obtain ⟨t, v, ρ', μ1⟩ := q
    rw [e] at h2
    have h2 : (if t = 3 then some (v, μ1) else none) = some (r, μ') := h2
    by_cases h3 : t = 3
    · rw [if_pos h3] at h2
      cases h2
      exact ⟨t, _, ρ', rfl, Or.inl ⟨h3, Or.inr rfl⟩⟩
    · rw [if_neg h3] at h2; cases h2
/-- addresses with a search's put in -/
def lad (ad : Nat → Nat) (qs : List Nat) : Nat → Nat := fun n => if n < 26 then ad n else if n < 50 then qs.getD (n - 26) 0 else ad n
/-- a new search's numbers -/
def lsm : zM := fun a => match a with
  | 26 => fun j => if j = 14 ∨ j = 15 then -9 else 0
  | 30 => upd (upd (upd (upd (upd (upd (fun _ => 0) 0 (-1)) 1 (-1)) 2 (-1)) 3 (-1)) 4 (-1)) 5 (-1)
  | 43 => fun j => if j = 9 then -4 else 0
  | _ => fun _ => 0
def lmx (μ : zM) : zM := fun a => if a < 26 then μ a else lsm a
variable {L : Nat} {fl : List (Option (Option Nat))} {ad : Nat → Nat} {D : va_G} {cI cZ cA : ClassId} {μ μ1 μ' : zM} {r : Int32}
abbrev lw0 (L : Nat) (fl : List (Option (Option Nat))) (ad : Nat → Nat) (D : va_G) (cI cZ cA : ClassId) : zN := zwn (lw false L fl ad D cI cZ cA) (lnC false)
abbrev lw1 (L : Nat) (fl : List (Option (Option Nat))) (ad : Nat → Nat) (D : va_G) (cI cZ cA : ClassId) : zN := zwn (lw true L fl ad D cI cZ cA) (lnC true)
theorem zqs_cg {ad ad' : Nat → Nat} {fl : List (Option (Option Nat))} (h : ∀ n, some (some n) ∈ fl → ad' n = ad n) : zqs ad' fl = zqs ad fl := by
  funext j
  unfold zqs
  rw [List.getD_eq_getElem?_getD]
  cases e : fl[j]? with
  | none => rfl
  | some f =>
    match f, e with
    | none, _ => rfl
    | some none, _ => rfl
    | some (some n), e =>
      show some (ad' n) = some (ad n)
      rw [h n (List.mem_of_getElem? e)]
theorem lad_out (qs : List Nat) {n : Nat} (h : ¬ (26 ≤ n ∧ n < 50)) : lad ad qs n = ad n := by
  unfold lad
  by_cases h1 : n < 26
  · rw [if_pos h1]
  · rw [if_neg h1, if_neg (by omega)]
theorem lw1_at {q0 q5 q5_9 q8_9_9 q16_9_9 q24_9_9 q31_9_9 q39_9_9 q47_9_9 q18_9 q18 q27 q36 q45 q54 q63 q72 q78 q8_82 q17_82 q26_82 q35_82 q44_82 q53_82 : Nat} : ((zws (lw0 L fl ad D cI cZ cA) μ1 : va_W) ++ ([(q0, .inr (1, [.ref q5, .ref q18, .ref q27, .ref q36, .ref q45, .ref q54, .ref q63, .ref q72, .ref q78, .int 0, .int 0, .int 0, .int 0, .int 0, .int (-9), .int (-9)])), (q5, .inr (5, [.ref q5_9, .ref q18_9, .int 0])), (q5_9, .inr (6, [.ref q8_9_9, .ref q16_9_9, .ref q24_9_9, .ref q31_9_9, .ref q39_9_9, .ref q47_9_9, .int 0, .int 0, .int 0])), (q8_9_9, .inl (cI, 900, .inl fun _ => 0)), (q16_9_9, .inl (cI, 6, .inl (upd (upd (upd (upd (upd (upd (fun _ => 0) 0 (-1)) 1 (-1)) 2 (-1)) 3 (-1)) 4 (-1)) 5 (-1)))), (q24_9_9, .inl (cI, 6, .inl fun _ => 0)), (q31_9_9, .inl (cI, 4, .inl fun _ => 0)), (q39_9_9, .inl (cI, 13, .inl fun _ => 0)), (q47_9_9, .inl (cI, 13, .inl fun _ => 0)), (q18_9, .inl (cI, 118, .inl fun _ => 0)), (q18, .inl (cI, 150000, .inl fun _ => 0)), (q27, .inl (cI, 9000, .inl fun _ => 0)), (q36, .inl (cI, 1500, .inl fun _ => 0)), (q45, .inl (cI, 1500, .inl fun _ => 0)), (q54, .inl (cI, 1500, .inl fun _ => 0)), (q63, .inl (cI, 1500, .inl fun _ => 0)), (q72, .inl (cI, 4096, .inl fun _ => 0)), (q78, .inr (0, [.ref q8_82, .ref q17_82, .ref q26_82, .ref q35_82, .ref q44_82, .ref q53_82, .int 0, .int 0, .int 0, .int (-4)])), (q8_82, .inl (cI, 1500, .inl fun _ => 0)), (q17_82, .inl (cI, 1500, .inl fun _ => 0)), (q26_82, .inl (cI, 1500, .inl fun _ => 0)), (q35_82, .inl (cI, 1500, .inl fun _ => 0)), (q44_82, .inl (cI, 1500, .inl fun _ => 0)), (q53_82, .inl (cZ, 1500, .inl fun _ => 0))] : va_W)).set 0 (ad 0, .inr (8, (zfs ad (zL8 0 (some none)) (μ1 0)).set 3 (.ref q0))) = zws (lw1 L fl (lad ad [q0, q5, q5_9, q8_9_9, q16_9_9, q24_9_9, q31_9_9, q39_9_9, q47_9_9, q18_9, q18, q27, q36, q45, q54, q63, q72, q78, q8_82, q17_82, q26_82, q35_82, q44_82, q53_82]) D cI cZ cA) (lmx μ1) := by
  have e1 : zws (lw1 L fl (lad ad [q0, q5, q5_9, q8_9_9, q16_9_9, q24_9_9, q31_9_9, q39_9_9, q47_9_9, q18_9, q18, q27, q36, q45, q54, q63, q72, q78, q8_82, q17_82, q26_82, q35_82, q44_82, q53_82]) D cI cZ cA) (lmx μ1) = zws (zwn (lw true L fl (lad ad [q0, q5, q5_9, q8_9_9, q16_9_9, q24_9_9, q31_9_9, q39_9_9, q47_9_9, q18_9, q18, q27, q36, q45, q54, q63, q72, q78, q8_82, q17_82, q26_82, q35_82, q44_82, q53_82]) D cI cZ cA) [0, 1, 2, 3, 4, 5, 6, 7, 8, 9, 10, 11, 12, 13, 14, 15, 16, 17]) (lmx μ1) ++ (ad 18, .inl (cA, 7, .inr (.inr (.inr (.inr (zqs (lad ad [q0, q5, q5_9, q8_9_9, q16_9_9, q24_9_9, q31_9_9, q39_9_9, q47_9_9, q18_9, q18, q27, q36, q45, q54, q63, q72, q78, q8_82, q17_82, q26_82, q35_82, q44_82, q53_82]) ((List.range 7).map (fun j => some (some (18 + 1 + j)))))))))) :: zws (zwn (lw true L fl (lad ad [q0, q5, q5_9, q8_9_9, q16_9_9, q24_9_9, q31_9_9, q39_9_9, q47_9_9, q18_9, q18, q27, q36, q45, q54, q63, q72, q78, q8_82, q17_82, q26_82, q35_82, q44_82, q53_82]) D cI cZ cA) [19, 20, 21, 22, 23, 24, 25, 26, 27, 28, 29, 30, 31, 32, 33, 34, 35, 36, 37, 38, 39, 40, 41, 42, 43, 44, 45, 46, 47, 48, 49]) (lmx μ1) := rfl
  rw [e1, zqs_cg (ad := ad) fun n hn => ?_]
  · rfl
  · obtain ⟨j, hj, e⟩ := List.mem_map.mp hn
    have hj := List.mem_range.mp hj
    cases e
    exact lad_out _ (by omega)
theorem lw0_0 : (zws (lw0 L fl ad D cI cZ cA) μ1)[0]? = some (ad 0, .inr (8, zfs ad (zL8 0 (some none)) (μ1 0))) := rfl
set_option maxHeartbeats 4000000 in
set_option maxRecDepth 100000 in
theorem c_ex0b (l : Launch) {sz : Nat} (h1 : ∃ v ρ', H_ex 0 zsk (zenv []) μ = some (0, v, ρ', μ1)) (h2 : ∀ ρ, ∃ ρ', R_ex 0 ρ (lmx μ1) = some (3, r, ρ', μ')) : Met l yX8_explore (Cond.code yX8_explore cX8_explore 2 (some .int) :: zGW) rm_ex0 (va_Pc [.ref (ad 0)] (fun U => U.heap.size = sz ∧ zPre (lw0 L fl ad D cI cZ cA) μ U ∧ zNI U)) (va_Qi (S := Nat → Nat) (fun r' _ => r' = r) (fun ad' t => (∀ n, ¬ (26 ≤ n ∧ n < 50) → ad' n = ad n) ∧ va_P D zcl (zws (lw1 L fl ad' D cI cZ cA) μ') t.heap ∧ va_D (va_A (zws (lw0 L fl ad D cI cZ cA) μ) sz) (zws (lw1 L fl ad' D cI cZ cA) μ')) (va_A (zws (lw0 L fl ad D cI cZ cA) μ) sz)) 24 179194 (va_A (zws (lw0 L fl ad D cI cZ cA) μ) sz) := by
  refine Met.ofW (cc := cX8_explore) (maxL := 2) (ret := some .int) (by decide) rfl ?_
  intro p e s m args below meth c s₁ B hml hv
  obtain ⟨rfl, hsz, ⟨hP, hK, hD, hG, hN⟩, hNI⟩ := hv
  have hx := B.exec
  have hb := B.bytes
  have hr := B.returns
  have hts := atoms_spec (ws := Cond.code yX8_explore cX8_explore 2 (some .int) :: zGW) B.pre
  have hown : s.vm.findClass RX8 = some m.cls := findClass_of_methodNamed B.named
  have hlocks := B.notSynchronized
  subst hsz
  have hl := lv_entry ([.ref (ad 0)]) (n := 2) (Nat.le_of_ble_eq_true rfl)
  rw [lg_entry_eq]
  generalize (lg_sl ([.ref (ad 0)]) ++ List.replicate (2 - (lg_sl ([.ref (ad 0)])).length) Slot.unset).toArray = ls at hl ⊢
  have hl : lv_has ls 2 [(0, .ref (ad 0))] := hl
  obtain ⟨v0, ρ0, e1⟩ := h1
  have hAF : ∀ q, zFr (lw0 L fl ad D cI cZ cA) q → va_A (zws (lw0 L fl ad D cI cZ cA) μ) s.heap.size q := by
    rintro q ⟨n, n1, n2⟩
    obtain ⟨i, -, i2⟩ := zws_at (w := lw0 L fl ad D cI cZ cA) (μ := μ) n1
    subst n2
    exact Or.inl ⟨i, _, i2⟩
  have hFA : ∀ q, va_A (zws (lw0 L fl ad D cI cZ cA) μ) s.heap.size q → zFr (lw0 L fl ad D cI cZ cA) q ∨ s.heap.size ≤ q := by
    rintro q (⟨k, e, hk⟩ | h)
    · exact Or.inl (hD.2 k _ hk)
    · exact Or.inr h
  have hA : ∀ q : Nat, s.heap.size ≤ q → va_A (zws (lw0 L fl ad D cI cZ cA) μ) s.heap.size q := fun q h => Or.inr h
  generalize va_A (zws (lw0 L fl ad D cI cZ cA) μ) s.heap.size = A at hAF hFA hA ⊢
  generalize hQe : MQ below (va_Qi (S := Nat → Nat) (fun r' _ => r' = r) (fun ad' t => (∀ n, ¬ (26 ≤ n ∧ n < 50) → ad' n = ad n) ∧ va_P D zcl (zws (lw1 L fl ad' D cI cZ cA) μ') t.heap ∧ va_D A (zws (lw1 L fl ad' D cI cZ cA) μ')) A) [Value.ref (ad 0)].toArray s 24 179194 A = Q
  refine j_ex0b (lw0 L fl ad D cI cZ cA) 0 lw_8F (p, l, e, s, m, [Value.ref (ad 0)].toArray, below, meth, c, Q, 0, 0) ⟨hx, hb, hml, hown, hts, hK, ⟨hlocks, Nat.zero_le _, Nat.zero_le _⟩, hN, hG⟩ _ μ _ _ _ _ e1 s.heap ls [] ⟨hl.1, hl.2.1, fun k v h => (by cases h), fun q hq => by rw [List.mem_singleton.mp hq]; exact hl.2.2 (0, .ref (ad 0)) List.mem_cons_self⟩ ⟨hP, hD, va_S.rf⟩ (fun _ H ls lo hL hH => ?_) (fun z => absurd z (by decide)) (fun z => absurd z (by decide)) (fun z => absurd z (by decide))
  obtain ⟨hP, hD0, hS⟩ := hH
  have hP : va_P D zcl (zws (lw0 L fl ad D cI cZ cA) μ1) H := hP
  have hD : va_D A (zws (lw0 L fl ad D cI cZ cA) μ1) := ⟨hD0.1, fun k q h => hAF _ (hD0.2 k q h)⟩
  have hS : va_S A s.heap H lo := ⟨hS.1, fun q a b => hS.2.1 q a (fun z => b (hAF q z)), fun l h => hAF _ (hS.2.2 l h)⟩
  have hL0 : ls[0]? = some (.val (.ref (ad 0))) := hL.2.2.2 (0, 0) List.mem_cons_self
  have hLs : ls.size = 2 := hL.1
  show W p l e rm_ex0 s m [Value.ref (ad 0)].toArray below meth c H lo 0 0 Q (F0 m 35 ls [])
  refine lv_aload_n hx hb dX8_explore_35 rfl hL0 ?_
  refine va_get (own := RX8) (C := RX8) (T := TX8) (N := 8) (v := .null) hx hb hts (fun q h => List.mem_cons_of_mem _ (uin_X8 q h)) hown hK hP 0 lw0_0 rfl 3 (Nat.le_of_ble_eq_true rfl) (hts _ (List.mem_cons_of_mem _ (zgw1 (i := 119) rfl rfl))) (fun _ h => h) rfl dX8_explore_36 ?_
  refine lv_ifnonnullN hx hb dX8_explore_39 ?_
  refine lv_aload_n hx hb dX8_explore_42 rfl hL0 ?_
  refine va_new (ci := 1) (fs := [.null, .null, .null, .null, .null, .null, .null, .null, .null, .int 0, .int 0, .int 0, .int 0, .int 0, .int 0, .int 0]) (C := RX1) (T := TX1) (N := 16) hx hb hts (fun q h => List.mem_cons_of_mem _ (uin_X1 q h)) tyX1 tyX1_ok hown (hts _ (List.mem_cons_of_mem _ (zgw3 (i := 37) rfl rfl))) (hts _ (List.mem_cons_of_mem _ (zgw3 (i := 38) rfl rfl))) (hts _ (List.mem_cons_of_mem _ (zgw1 (i := 12) rfl rfl))) hK hP hD hS hA rfl (fun j hj => by rcases (show j = 0 ∨ j = 1 ∨ j = 2 ∨ j = 3 ∨ j = 4 ∨ j = 5 ∨ j = 6 ∨ j = 7 ∨ j = 8 ∨ j = 9 ∨ j = 10 ∨ j = 11 ∨ j = 12 ∨ j = 13 ∨ j = 14 ∨ j = 15 by omega) with rfl | rfl | rfl | rfl | rfl | rfl | rfl | rfl | rfl | rfl | rfl | rfl | rfl | rfl | rfl | rfl <;> rfl) (Nat.le_of_ble_eq_true rfl) (Nat.le_of_ble_eq_true rfl) dX8_explore_43 (fun q0 H hP hD hS => ?_)
  refine lv_dup hx hb dX8_explore_46 rfl ?_
  have hPc := hP.sub (ws' := [(q0, .inr (1, [.null, .null, .null, .null, .null, .null, .null, .null, .null, .int 0, .int 0, .int 0, .int 0, .int 0, .int 0, .int 0]))]) [26] rfl
  have hDc := hD.sub (ws' := [(q0, .inr (1, [.null, .null, .null, .null, .null, .null, .null, .null, .null, .int 0, .int 0, .int 0, .int 0, .int 0, .int 0, .int 0]))]) [26] (by decide) rfl
  have hFc := va_free (wc := [(q0, .inr (1, [.null, .null, .null, .null, .null, .null, .null, .null, .null, .int 0, .int 0, .int 0, .int 0, .int 0, .int 0, .int 0]))]) hD hS hA [26] rfl
  refine va_callv (va_runIN (As := []) (rest := [.ref q0, .ref (ad 0)]) ⟨hx, hb, hml, hown, hts⟩ (c_X1_init l D cI cZ cA q0 H.size) ⟨va_cnB 0 hts (zgd (c1 := Cond.code yX1_init cX1_init 1 none) (zgw3 (i := 41) rfl rfl)) rfl rfl rfl (hNI.2.2.1) (hts _ (List.mem_cons_of_mem _ (zgw1 (i := 12) rfl rfl))) (by decide +kernel) ⟨Nat.le_of_ble_eq_true rfl, Nat.le_of_ble_eq_true rfl⟩, rfl, hts _ (List.mem_cons_of_mem _ (zgw3 (i := 40) rfl rfl))⟩ ⟨fun a U g mk z => by obtain ⟨z0, z1, zP, zK, zD, zN⟩ := z; exact ⟨z0, z1, zP, va_K.moved (u := U) (U := U.calling g mk a) (Vm.Alike.refl U.vm) zK, zD, zNI_same (U := U.calling g mk a) rfl zN⟩, fun U hU hW => ⟨rfl, by rw [hU], by rw [hU]; exact hPc, va_K.moved hW.alike hK, hDc.weaken (fun _ _ _ _ => trivial), zNI_warm hW hNI⟩⟩ rfl rfl hLs rfl (lv_room (Nat.le_of_ble_eq_true rfl)) dX8_explore_47 ⟨Nat.le_of_ble_eq_true rfl, Nat.le_of_ble_eq_true rfl⟩) hS (fun q _ h => hFc q h) hFc (fun u t H1 lo ht hvm hw hB hz1 hk1 hS => ?_)
  obtain ⟨q5, q5_9, q8_9_9, q16_9_9, q24_9_9, q31_9_9, q39_9_9, q47_9_9, q18_9, q18, q27, q36, q45, q54, q63, q72, q78, q8_82, q17_82, q26_82, q35_82, q44_82, q53_82, hP1, hD1⟩ := hB
  rw [ht] at hP1
  obtain ⟨hP, hD⟩ := va_join (wr := zws (lw0 L fl ad D cI cZ cA) μ1) (w1 := [(q0, .inr (1, [.ref q5, .ref q18, .ref q27, .ref q36, .ref q45, .ref q54, .ref q63, .ref q72, .ref q78, .int 0, .int 0, .int 0, .int 0, .int 0, .int (-9), .int (-9)])), (q5, .inr (5, [.ref q5_9, .ref q18_9, .int 0])), (q5_9, .inr (6, [.ref q8_9_9, .ref q16_9_9, .ref q24_9_9, .ref q31_9_9, .ref q39_9_9, .ref q47_9_9, .int 0, .int 0, .int 0])), (q8_9_9, .inl (cI, 900, .inl fun _ => 0)), (q16_9_9, .inl (cI, 6, .inl (upd (upd (upd (upd (upd (upd (fun _ => 0) 0 (-1)) 1 (-1)) 2 (-1)) 3 (-1)) 4 (-1)) 5 (-1)))), (q24_9_9, .inl (cI, 6, .inl fun _ => 0)), (q31_9_9, .inl (cI, 4, .inl fun _ => 0)), (q39_9_9, .inl (cI, 13, .inl fun _ => 0)), (q47_9_9, .inl (cI, 13, .inl fun _ => 0)), (q18_9, .inl (cI, 118, .inl fun _ => 0)), (q18, .inl (cI, 150000, .inl fun _ => 0)), (q27, .inl (cI, 9000, .inl fun _ => 0)), (q36, .inl (cI, 1500, .inl fun _ => 0)), (q45, .inl (cI, 1500, .inl fun _ => 0)), (q54, .inl (cI, 1500, .inl fun _ => 0)), (q63, .inl (cI, 1500, .inl fun _ => 0)), (q72, .inl (cI, 4096, .inl fun _ => 0)), (q78, .inr (0, [.ref q8_82, .ref q17_82, .ref q26_82, .ref q35_82, .ref q44_82, .ref q53_82, .int 0, .int 0, .int 0, .int (-4)])), (q8_82, .inl (cI, 1500, .inl fun _ => 0)), (q17_82, .inl (cI, 1500, .inl fun _ => 0)), (q26_82, .inl (cI, 1500, .inl fun _ => 0)), (q35_82, .inl (cI, 1500, .inl fun _ => 0)), (q44_82, .inl (cI, 1500, .inl fun _ => 0)), (q53_82, .inl (cZ, 1500, .inl fun _ => 0))]) hP hD [26] [0, 1, 2, 3, 4, 5, 6, 7, 8, 9, 10, 11, 12, 13, 14, 15, 16, 17, 18, 19, 20, 21, 22, 23, 24, 25] rfl rfl (by decide) (by decide) hk1 hFc hP1 hD1
  refine va_put (D := D) (ci := 8) (fs := zfs ad (zL8 0 (some none)) (μ1 0)) (v := .ref q0) (ty := .object "FreeShelf$Exploration") (C := RX8) (T := TX8) (N := 8) hx hb hts (fun q h => List.mem_cons_of_mem _ (uin_X8 q h)) tyX8 tyX8_ok nmX8 hown hK hP hD hS 0 rfl rfl 3 (Nat.le_of_ble_eq_true rfl) (hts _ (List.mem_cons_of_mem _ (zgw1 (i := 119) rfl rfl))) (fun _ h9 => h9) rfl (by decide +kernel) rfl rfl (Nat.le_of_ble_eq_true rfl) dX8_explore_50 (fun H lo hP hD hS => ?_)
  have hP : va_P D zcl (zws (lw1 L fl (lad ad [q0, q5, q5_9, q8_9_9, q16_9_9, q24_9_9, q31_9_9, q39_9_9, q47_9_9, q18_9, q18, q27, q36, q45, q54, q63, q72, q78, q8_82, q17_82, q26_82, q35_82, q44_82, q53_82]) D cI cZ cA) (lmx μ1)) H := by rw [← lw1_at]; exact hP
  have hD : va_D A (zws (lw1 L fl (lad ad [q0, q5, q5_9, q8_9_9, q16_9_9, q24_9_9, q31_9_9, q39_9_9, q47_9_9, q18_9, q18, q27, q36, q45, q54, q63, q72, q78, q8_82, q17_82, q26_82, q35_82, q44_82, q53_82]) D cI cZ cA) (lmx μ1)) := by rw [← lw1_at]; exact hD
  generalize hae : (lad ad [q0, q5, q5_9, q8_9_9, q16_9_9, q24_9_9, q31_9_9, q39_9_9, q47_9_9, q18_9, q18, q27, q36, q45, q54, q63, q72, q78, q8_82, q17_82, q26_82, q35_82, q44_82, q53_82]) = ad' at hP hD
  have ha : ∀ n, ¬ (26 ≤ n ∧ n < 50) → ad' n = ad n := fun n hn => by rw [← hae]; exact lad_out _ hn
  have hN1 : (lnC true).Nodup := lnC_nd
  have hD1 : va_D (zFr (lw1 L fl ad' D cI cZ cA)) (zws (lw1 L fl ad' D cI cZ cA) (lmx μ1)) := ⟨hD.1, fun k q hk => by
    obtain ⟨a, a1, rfl⟩ := zwn_mem hk
    exact ⟨a, List.mem_of_getElem? a1, rfl⟩⟩
  have hF1 : ∀ q, zFr (lw1 L fl ad' D cI cZ cA) q → A q := by
    rintro q ⟨n, n1, n2⟩
    obtain ⟨i, -, i2⟩ := zws_at (w := lw1 L fl ad' D cI cZ cA) (μ := lmx μ1) n1
    subst n2
    exact hD.2 i _ i2
  have hF0 : ∀ q, zFr (lw0 L fl ad D cI cZ cA) q → zFr (lw1 L fl ad' D cI cZ cA) q := by
    rintro q ⟨n, n1, n2⟩
    have n9 : n < 26 := (show ∀ a ∈ lnC false, a < 26 by decide +kernel) n n1
    exact ⟨n, (show ∀ a ∈ lnC false, a ∈ lnC true by decide +kernel) n n1, (ha n (by omega)).trans n2⟩
  have hG1 : zG (lw1 L fl ad' D cI cZ cA) s := by
    have old : ∀ q, q < s.heap.size → ¬ zFr (lw0 L fl ad D cI cZ cA) q → ¬ zFr (lw1 L fl ad' D cI cZ cA) q := fun q hq hn z => by
      rcases hFA q (hF1 q z) with h | h
      · exact hn h
      · omega
    refine ⟨fun q hq => ?_, hG.2.1, fun n L' fl' hn => ?_⟩
    · obtain ⟨t, ⟨cf, kf, fi, f, a, cell, g1, g2, g3, g4, g5, g6, g7, g8⟩, ⟨c, k1, k2, k3, k4, k5, k6, k7⟩⟩ := hG.1 q hq
      exact ⟨t, ⟨cf, kf, fi, f, a, cell, g1, g2, g3, g4, g5, g6, g7, old a (Array.getElem?_eq_some_iff.mp g5).1 g8⟩, ⟨c, k1, k2, k3, k4, k5, k6, old t (Array.getElem?_eq_some_iff.mp k1).1 k7⟩⟩
    · have h69 : n = 69 := Classical.byContradiction fun z => lsh_9 (h := true) (L := L) (fl := fl) z (by have hn : (lshl true L fl).getD n (0, 0, []) = (9, L', fl') := hn; rw [hn])
      subst h69
      obtain ⟨x1, x2, x3⟩ := hG.2.2 69 L' fl' hn
      have e69 : ad' 69 = ad 69 := ha 69 (by omega)
      show va_X (ad' 69) L' (zsv fl') s s.heap ∧ ad' 69 < s.heap.size ∧ ¬ zFr (lw1 L fl ad' D cI cZ cA) (ad' 69)
      rw [e69]
      exact ⟨x1, x2, old _ x2 x3⟩
  refine lw_forget ?_
  have hlo : ∀ q ∈ lo.filter (fun q => decide (q.base < s.heap.size)), zFr (lw1 L fl ad' D cI cZ cA) q.base := fun q hq => by
    obtain ⟨q1, q2⟩ := List.mem_filter.mp hq
    rcases hFA q.base (hS.2.2 q q1) with h | h
    · exact hF0 _ h
    · have := of_decide_eq_true q2; omega
  generalize lo.filter (fun q => decide (q.base < s.heap.size)) = lo1 at hlo ⊢
  obtain ⟨ρ1, e2⟩ := h2 (zenv [])
  refine j_exR (lw1 L fl ad' D cI cZ cA) 0 lw_8T lw_1T (p, l, e, s, m, [Value.ref (ad 0)].toArray, below, meth, c, Q, 24, 179194) ⟨hx, hb, hml, hown, hts, hK, ⟨hlocks, Nat.le_refl _, Nat.le_refl _⟩, hN1, hG1⟩ _ (lmx μ1) _ _ _ _ e2 H ls lo1 ⟨hLs, hL.2.1, fun k v h => (by cases h), fun q hq => by rw [List.mem_singleton.mp hq]; exact hL0.trans (by rw [← ha 0 (by omega)]; rfl)⟩ ⟨hP, hD1, hS.1, fun q a z => hS.2.1 q a (fun z2 => ?_), hlo⟩ (fun z => absurd z (by decide)) (fun z => absurd z (by decide)) (fun z => absurd z (by decide)) (fun _ H2 lo2 hH2 => ?_)
  · rcases hFA q z2 with h | h
    · exact z (hF0 _ h)
    · have a : q < s.heap.size := a
      omega
  · intro pc' ls' dd
    subst hQe
    exact W.zret hx hb hr rfl (fun t ht hW => ⟨⟨r, ad', rfl, rfl, ha, by rw [ht]; exact hH2.1, ⟨(zws_D μ' hD1).1, fun k q hk => hF1 _ ((zws_D μ' hD1).2 k q hk)⟩⟩, by rw [ht]; exact hH2.2.2.1, fun q a b => by rw [ht]; exact hH2.2.2.2.1 q a (fun z => b (hF1 q z))⟩) (fun q hq => hF1 _ (hH2.2.2.2.2 q hq)) dd
end EX0
