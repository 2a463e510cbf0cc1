/-! CYCLES: the class's search -/
section TA3
variable {g : Nat → Int32} {C q1 n a b c d e i j k t u v w x q len op tm : Nat} {F L L' T p o : Nat → Nat} {io Nt : Nat → Prop} {μ μ' : zM} {ρ : zE} {r : Int32}
def BT (r : Int32) (Nt : Nat → Prop) : Prop := (r = -4 ∧ ∀ w, ¬ Nt w) ∨ ∃ b, b < 1500 ∧ r = nI b ∧ Nt b ∧ ∀ w, Nt w → b ≤ w
def TM (C : Nat) (μ : zM) (F L T p o : Nat → Nat) (io Nt : Nat → Prop) (len op tm : Nat) : Prop :=
  (∀ v, v < 1500 → μ (C + 1) v = nI (F v)) ∧ (∀ v, v < 1500 → 0 < F v → μ (C + 2) v = nI (L v)) ∧ (∀ v, v < 1500 → μ (C + 3) v = nI (T v)) ∧ (∀ a, a < len → μ (C + 4) a = nI (p a)) ∧ (∀ a, a < op → μ (C + 5) a = nI (o a)) ∧ (∀ v, v < 1500 → 0 < F v → μ (C + 6) v = nI (b01 (io v))) ∧ μ C 6 = nI tm ∧ μ C 7 = nI len ∧ μ C 8 = nI op ∧ BT (μ C 9) Nt
def frC (C : Nat) (μ μ' : zM) : Prop := ∀ a, (a < C ∨ C + 6 < a) → μ' a = μ a
theorem BT.cg {Nt' : Nat → Prop} (h : BT r Nt) (e : ∀ w, Nt w ↔ Nt' w) : BT r Nt' := by
  rcases h with ⟨h1, h2⟩ | ⟨b, h1, h2, h3, h4⟩
  · exact Or.inl ⟨h1, fun w hw => h2 w ((e w).mpr hw)⟩
  · exact Or.inr ⟨b, h1, h2, (e b).mp h3, fun w hw => h4 w ((e w).mpr hw)⟩
theorem e_note (hB : BT (μ C 9) Nt) (hv : v < 1500) : ∃ r', (∀ Q, wr (M_X0_note C [nI v] μ) Q = Q 0 (zsa μ C (upd (μ C) 9 r'))) ∧ BT r' (fun x => Nt x ∨ x = v) := by
  rcases hB with ⟨h1, h2⟩ | ⟨b, h1, h2, h3, h4⟩
  · refine ⟨nI v, fun Q => ?_, Or.inr ⟨v, hv, rfl, Or.inr rfl, fun w hw => hw.elim (fun z => absurd z (h2 w)) (fun z => by omega)⟩⟩
    simp only [M_X0_note, B_X0_note]
    simp -implicitDefEqProofs (disch := omega) only [zA0_ap, zA1_ap, zA2_ap, zA3_ap, zA4_ap, zA5_ap, v_fi, v_fz, v_fv, w_k, v_l, v_bin, v_biq, v_ald, v_tb, w_al, w_fd, v_cond, v_call, v_pi, w_an, v_ai, v_aq, v_cmp, v_cm0, w_cb, v_nt, v_and, v_or, w_sk, w_bk, w_cn, w_rv, v_rt, v_sq, v_se, v_ex, v_as, v_az, v_ao, v_pf, v_pz, v_fo, v_if, v_sw, v_lw, v_fl, v_cy, v_cyd, w_lr, wl_some, k_sq0, k_sq1, k_sq2, k_sq3, k_se, k_ex, k_rt, k_l, k_b2, k_b1, k_q2, k_q1, k_ald, k_tb, k_pi, k_condT, k_condF, k_condK, k_call, k_ac, k_ai, k_aq, k_c2, k_c1, k_c0, k_nt, k_andT, k_andF, k_orT, k_orF, k_as2, k_as1, k_az2, k_az1, k_ao2, k_ao1, k_pf, k_pz, k_fo, k_ifT, k_ifF, k_br0, k_br1, k_br2, k_br3, k_s0, k_s1, k_t1, k_s4, k_t4, k_s20, k_t20, zpk_n, zpk_z, zpk_s, k_lw, k_fl, k_cy3, k_cy2, k_cy1, k_cd2, k_cd1, k_w3, k_w20, k_w21, k_w22, k_w23, k_w1T, k_w1F, k_fi, k_fz1, k_fz0, k_fzi, k_fz, k_fv0, k_fv3, k_I, k_B0, k_B1, k_B2, k_B3, k_C, k_E, zenv, zup, ze0, n_add, n_mul, m_st, m_sa, m_ne, m_ss, mm_s, mm_f, mm_ne, mm_ss, mm_sf, Nat.zero_add, u_at, u_ne, if_true, if_false, ite_true, ite_false, reduceIte, and_self, and_true, true_and, or_true, true_or, or_false, false_or, or_self, and_false, false_and, Bool.not_true, Bool.not_false, decide_true, decide_false, ne_eq, n_eqT, n_eqF, n_ltT, n_ltF, n_leT, n_leF, n_z0, n_zF, n_o1, n_oF, n_p0, n_pF, n_lt0, n_ge0, zeq, zne, zlt, zle, zge, zgt, ziadd, zisub, zimul, ziand, zior, zixor, zishl, zishr, ziushr, zidiv, zirem, zmax, zmin, Bool.false_eq_true, not_true_eq_false, not_false_eq_true, Nat.reduceEqDiff, Nat.reduceAdd, Nat.reduceMul, Nat.reduceSub, h1]
  · by_cases h : v < b
    · refine ⟨nI v, fun Q => ?_, Or.inr ⟨v, hv, rfl, Or.inr rfl, fun w hw => hw.elim (fun z => by have := h4 w z; omega) (fun z => by omega)⟩⟩
      simp only [M_X0_note, B_X0_note]
      simp -implicitDefEqProofs (disch := omega) only [zA0_ap, zA1_ap, zA2_ap, zA3_ap, zA4_ap, zA5_ap, v_fi, v_fz, v_fv, w_k, v_l, v_bin, v_biq, v_ald, v_tb, w_al, w_fd, v_cond, v_call, v_pi, w_an, v_ai, v_aq, v_cmp, v_cm0, w_cb, v_nt, v_and, v_or, w_sk, w_bk, w_cn, w_rv, v_rt, v_sq, v_se, v_ex, v_as, v_az, v_ao, v_pf, v_pz, v_fo, v_if, v_sw, v_lw, v_fl, v_cy, v_cyd, w_lr, wl_some, k_sq0, k_sq1, k_sq2, k_sq3, k_se, k_ex, k_rt, k_l, k_b2, k_b1, k_q2, k_q1, k_ald, k_tb, k_pi, k_condT, k_condF, k_condK, k_call, k_ac, k_ai, k_aq, k_c2, k_c1, k_c0, k_nt, k_andT, k_andF, k_orT, k_orF, k_as2, k_as1, k_az2, k_az1, k_ao2, k_ao1, k_pf, k_pz, k_fo, k_ifT, k_ifF, k_br0, k_br1, k_br2, k_br3, k_s0, k_s1, k_t1, k_s4, k_t4, k_s20, k_t20, zpk_n, zpk_z, zpk_s, k_lw, k_fl, k_cy3, k_cy2, k_cy1, k_cd2, k_cd1, k_w3, k_w20, k_w21, k_w22, k_w23, k_w1T, k_w1F, k_fi, k_fz1, k_fz0, k_fzi, k_fz, k_fv0, k_fv3, k_I, k_B0, k_B1, k_B2, k_B3, k_C, k_E, zenv, zup, ze0, n_add, n_mul, m_st, m_sa, m_ne, m_ss, mm_s, mm_f, mm_ne, mm_ss, mm_sf, Nat.zero_add, u_at, u_ne, if_true, if_false, ite_true, ite_false, reduceIte, and_self, and_true, true_and, or_true, true_or, or_false, false_or, or_self, and_false, false_and, Bool.not_true, Bool.not_false, decide_true, decide_false, ne_eq, n_eqT, n_eqF, n_ltT, n_ltF, n_leT, n_leF, n_z0, n_zF, n_o1, n_oF, n_p0, n_pF, n_lt0, n_ge0, zeq, zne, zlt, zle, zge, zgt, ziadd, zisub, zimul, ziand, zior, zixor, zishl, zishr, ziushr, zidiv, zirem, zmax, zmin, Bool.false_eq_true, not_true_eq_false, not_false_eq_true, Nat.reduceEqDiff, Nat.reduceAdd, Nat.reduceMul, Nat.reduceSub, h2, m4_n (show b < 2147483648 by omega), h]
    · refine ⟨nI b, fun Q => ?_, Or.inr ⟨b, h1, rfl, Or.inl h3, fun w hw => hw.elim (fun z => h4 w z) (fun z => by omega)⟩⟩
      simp only [M_X0_note, B_X0_note]
      have e : upd (μ C) 9 (nI b) = μ C := by
        funext j
        by_cases ej : j = 9
        · rw [u_at ej, ej, h2]
        · rw [u_ne ej]
      simp -implicitDefEqProofs (disch := omega) only [zA0_ap, zA1_ap, zA2_ap, zA3_ap, zA4_ap, zA5_ap, v_fi, v_fz, v_fv, w_k, v_l, v_bin, v_biq, v_ald, v_tb, w_al, w_fd, v_cond, v_call, v_pi, w_an, v_ai, v_aq, v_cmp, v_cm0, w_cb, v_nt, v_and, v_or, w_sk, w_bk, w_cn, w_rv, v_rt, v_sq, v_se, v_ex, v_as, v_az, v_ao, v_pf, v_pz, v_fo, v_if, v_sw, v_lw, v_fl, v_cy, v_cyd, w_lr, wl_some, k_sq0, k_sq1, k_sq2, k_sq3, k_se, k_ex, k_rt, k_l, k_b2, k_b1, k_q2, k_q1, k_ald, k_tb, k_pi, k_condT, k_condF, k_condK, k_call, k_ac, k_ai, k_aq, k_c2, k_c1, k_c0, k_nt, k_andT, k_andF, k_orT, k_orF, k_as2, k_as1, k_az2, k_az1, k_ao2, k_ao1, k_pf, k_pz, k_fo, k_ifT, k_ifF, k_br0, k_br1, k_br2, k_br3, k_s0, k_s1, k_t1, k_s4, k_t4, k_s20, k_t20, zpk_n, zpk_z, zpk_s, k_lw, k_fl, k_cy3, k_cy2, k_cy1, k_cd2, k_cd1, k_w3, k_w20, k_w21, k_w22, k_w23, k_w1T, k_w1F, k_fi, k_fz1, k_fz0, k_fzi, k_fz, k_fv0, k_fv3, k_I, k_B0, k_B1, k_B2, k_B3, k_C, k_E, zenv, zup, ze0, n_add, n_mul, m_st, m_sa, m_ne, m_ss, mm_s, mm_f, mm_ne, mm_ss, mm_sf, Nat.zero_add, u_at, u_ne, if_true, if_false, ite_true, ite_false, reduceIte, and_self, and_true, true_and, or_true, true_or, or_false, false_or, or_self, and_false, false_and, Bool.not_true, Bool.not_false, decide_true, decide_false, ne_eq, n_eqT, n_eqF, n_ltT, n_ltF, n_leT, n_leF, n_z0, n_zF, n_o1, n_oF, n_p0, n_pF, n_lt0, n_ge0, zeq, zne, zlt, zle, zge, zgt, ziadd, zisub, zimul, ziand, zior, zixor, zishl, zishr, ziushr, zidiv, zirem, zmax, zmin, Bool.false_eq_true, not_true_eq_false, not_false_eq_true, Nat.reduceEqDiff, Nat.reduceAdd, Nat.reduceMul, Nat.reduceSub, h2, m4_n (show b < 2147483648 by omega), h]
      rw [← h2]
      have e : upd (μ C) 9 (μ C 9) = μ C := by
        funext j
        by_cases ej : j = 9
        · rw [u_at ej, ej]
        · rw [u_ne ej]
      rw [e, m_id]
theorem e_discover (M : TM C μ F L T p o io Nt len op tm) (hw : w < 1500) (hl : len < 1500) (ho : op < 1500) (ht : tm < 1500) : ∃ μ', (∀ Q, wr (M_X0_discover C [nI w] μ) Q = Q 0 μ') ∧ TM C μ' (un F w (tm + 1)) (un L w (tm + 1)) T (un p len w) (un o op w) (fun x => x = w ∨ io x) Nt (len + 1) (op + 1) (tm + 1) ∧ frC C μ μ' := by
  obtain ⟨m1, m2, m3, m4, m5, m6, m7, m8, m9, m10⟩ := M
  have key : ∃ μ', (∀ Q, wr (M_X0_discover C [nI w] μ) Q = Q 0 μ') ∧ μ' (C + 1) = upd (μ (C + 1)) w (nI (tm + 1)) ∧ μ' (C + 2) = upd (μ (C + 2)) w (nI (tm + 1)) ∧ μ' (C + 3) = μ (C + 3) ∧ μ' (C + 4) = upd (μ (C + 4)) len (nI w) ∧ μ' (C + 5) = upd (μ (C + 5)) op (nI w) ∧ μ' (C + 6) = upd (μ (C + 6)) w (nI 1) ∧ μ' C 6 = nI (tm + 1) ∧ μ' C 7 = nI (len + 1) ∧ μ' C 8 = nI (op + 1) ∧ μ' C 9 = μ C 9 ∧ frC C μ μ' := by
    apply wr_ex
    simp only [M_X0_discover, B_X0_discover]
    simp -implicitDefEqProofs (disch := omega) only [zA0_ap, zA1_ap, zA2_ap, zA3_ap, zA4_ap, zA5_ap, v_fi, v_fz, v_fv, w_k, v_l, v_bin, v_biq, v_ald, v_tb, w_al, w_fd, v_cond, v_call, v_pi, w_an, v_ai, v_aq, v_cmp, v_cm0, w_cb, v_nt, v_and, v_or, w_sk, w_bk, w_cn, w_rv, v_rt, v_sq, v_se, v_ex, v_as, v_az, v_ao, v_pf, v_pz, v_fo, v_if, v_sw, v_lw, v_fl, v_cy, v_cyd, w_lr, wl_some, k_sq0, k_sq1, k_sq2, k_sq3, k_se, k_ex, k_rt, k_l, k_b2, k_b1, k_q2, k_q1, k_ald, k_tb, k_pi, k_condT, k_condF, k_condK, k_call, k_ac, k_ai, k_aq, k_c2, k_c1, k_c0, k_nt, k_andT, k_andF, k_orT, k_orF, k_as2, k_as1, k_az2, k_az1, k_ao2, k_ao1, k_pf, k_pz, k_fo, k_ifT, k_ifF, k_br0, k_br1, k_br2, k_br3, k_s0, k_s1, k_t1, k_s4, k_t4, k_s20, k_t20, zpk_n, zpk_z, zpk_s, k_lw, k_fl, k_cy3, k_cy2, k_cy1, k_cd2, k_cd1, k_w3, k_w20, k_w21, k_w22, k_w23, k_w1T, k_w1F, k_fi, k_fz1, k_fz0, k_fzi, k_fz, k_fv0, k_fv3, k_I, k_B0, k_B1, k_B2, k_B3, k_C, k_E, zenv, zup, ze0, n_add, n_mul, m_st, m_sa, m_ne, m_ss, mm_s, mm_f, mm_ne, mm_ss, mm_sf, Nat.zero_add, u_at, u_ne, if_true, if_false, ite_true, ite_false, reduceIte, and_self, and_true, true_and, or_true, true_or, or_false, false_or, or_self, and_false, false_and, Bool.not_true, Bool.not_false, decide_true, decide_false, ne_eq, n_eqT, n_eqF, n_ltT, n_ltF, n_leT, n_leF, n_z0, n_zF, n_o1, n_oF, n_p0, n_pF, n_lt0, n_ge0, zeq, zne, zlt, zle, zge, zgt, ziadd, zisub, zimul, ziand, zior, zixor, zishl, zishr, ziushr, zidiv, zirem, zmax, zmin, Bool.false_eq_true, not_true_eq_false, not_false_eq_true, Nat.reduceEqDiff, Nat.reduceAdd, Nat.reduceMul, Nat.reduceSub, m7, m8, m9]
    intro a ha
    simp (disch := omega) only [m_ne]
  obtain ⟨μ', k0, k1, k2, k3, k4, k5, k6, k7, k8, k9, k10, k11⟩ := key
  refine ⟨μ', k0, ⟨fun v hv => ?_, fun v hv h0 => ?_, fun v hv => by rw [k3]; exact m3 v hv, fun a ha => ?_, fun a ha => ?_, fun v hv h0 => ?_, k7, k8, k9, by rw [k10]; exact m10⟩, k11⟩
  · rw [k1]
    by_cases e : v = w
    · rw [e, u_at rfl, un_e]
    · rw [u_ne e, un_n e]; exact m1 v hv
  · rw [k2]
    by_cases e : v = w
    · rw [e, u_at rfl, un_e]
    · rw [un_n e] at h0 ⊢; rw [u_ne e]; exact m2 v hv h0
  · rw [k4]
    by_cases e : a = len
    · rw [e, u_at rfl, un_e]
    · rw [u_ne e, un_n e]; exact m4 a (by omega)
  · rw [k5]
    by_cases e : a = op
    · rw [e, u_at rfl, un_e]
    · rw [u_ne e, un_n e]; exact m5 a (by omega)
  · rw [k6]
    by_cases e : v = w
    · rw [e, u_at rfl, b01_T (Or.inl rfl)]
    · rw [un_n e] at h0
      rw [u_ne e, m6 v hv h0, b01_cg (show io v ↔ (v = w ∨ io v) from ⟨Or.inr, fun h => h.resolve_left e⟩)]
/-- counts -/
def cD (F : Nat → Nat) : Nat → Nat
  | 0 => 0
  | k + 1 => cD F k + (if F k = 0 then 0 else 1)
theorem cD_le : ∀ k, cD F k ≤ k
  | 0 => Nat.le_refl _
  | k + 1 => by have := cD_le k; unfold cD; split <;> omega
theorem cD_lt (h : F w = 0) : ∀ k, w < k → cD F k < k
  | k + 1, hk => by
    unfold cD
    by_cases e : w = k
    · rw [← e, if_pos h]
      have := cD_le (F := F) w
      omega
    · have := cD_lt h k (by omega)
      split <;> omega
theorem cD_un (h : F w = 0) (hv : 0 < v) : ∀ k, cD (un F w v) k = cD F k + (if w < k then 1 else 0)
  | 0 => rfl
  | k + 1 => by
    rw [cD, cD, cD_un h hv k]
    by_cases e : k = w
    · subst e
      have a1 : (if un F k v k = 0 then 0 else 1 : Nat) = 1 := by rw [un_e]; exact if_neg (by omega)
      have a2 : (if F k = 0 then 0 else 1 : Nat) = 0 := if_pos h
      have a3 : (if k < k then 1 else 0 : Nat) = 0 := if_neg (by omega)
      have a4 : (if k < k + 1 then 1 else 0 : Nat) = 1 := if_pos (by omega)
      omega
    · have a1 : (if un F w v k = 0 then 0 else 1 : Nat) = (if F k = 0 then 0 else 1) := by rw [un_n e]
      have a2 : (if w < k + 1 then 1 else 0 : Nat) = (if w < k then 1 else 0) := by
        by_cases h : w < k
        · rw [if_pos h, if_pos (by omega)]
        · rw [if_neg h, if_neg (by omega)]
      omega
def sT (T : Nat → Nat) : Nat → Nat
  | 0 => 0
  | k + 1 => sT T k + T k
theorem sT_le (h : ∀ v, T v ≤ 6) : ∀ k, sT T k ≤ 6 * k
  | 0 => Nat.le_refl _
  | k + 1 => by have := sT_le h k; have := h k; unfold sT; omega
theorem sT_un : ∀ k, sT (un T w (T w + 1)) k = sT T k + (if w < k then 1 else 0)
  | 0 => rfl
  | k + 1 => by
    rw [sT, sT, sT_un k]
    by_cases e : k = w
    · subst e
      have a3 : (if k < k then 1 else 0 : Nat) = 0 := if_neg (by omega)
      have a4 : (if k < k + 1 then 1 else 0 : Nat) = 1 := if_pos (by omega)
      have a5 : un T k (T k + 1) k = T k + 1 := un_e
      omega
    · have a1 : un T w (T w + 1) k = T k := un_n e
      have a2 : (if w < k + 1 then 1 else 0 : Nat) = (if w < k then 1 else 0) := by
        by_cases h : w < k
        · rw [if_pos h, if_pos (by omega)]
        · rw [if_neg h, if_neg (by omega)]
      omega
theorem TJ.ge (J : TJ g n F L T p o io Nt len op tm) : (∀ a, a < len → a + 1 ≤ F (p a)) ∧ ∀ a, a < op → a + 1 ≤ F (o a) := by
  obtain ⟨t1, t2, t3, t4, t5, t6, t7, -⟩ := J
  refine ⟨fun a => ?_, fun a => ?_⟩
  · induction a with
    | zero => intro h; have := (t7 _ (t1 0 h).2).2; omega
    | succ a ih => intro h; have := ih (by omega); have := t2 a (a + 1) (by omega) h; omega
  · induction a with
    | zero => intro h; have := (t7 _ (t4 0 h).2).2; omega
    | succ a ih => intro h; have := ih (by omega); have := t5 a (a + 1) (by omega) h; omega
theorem TJ.lens (J : TJ g n F L T p o io Nt len op tm) : len ≤ tm ∧ op ≤ tm := by
  have G := J.ge
  obtain ⟨t1, t2, t3, t4, t5, t6, t7, t8, t9, -⟩ := J
  refine ⟨?_, ?_⟩
  · by_cases h : len = 0
    · omega
    · have := G.1 (len - 1) (by omega)
      have := t9 (p (len - 1))
      omega
  · by_cases h : op = 0
    · omega
    · have := G.2 (op - 1) (by omega)
      have := t9 (o (op - 1))
      omega
end TA3
