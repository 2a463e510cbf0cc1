/-! CYCLES: the class's search, from its begin to its end -/
section TA7
variable {g : Nat → Int32} {C E m q1 n a b c d e i j k t u v w x q len op tm al turn : Nat} {F L L' T p o : Nat → Nat} {io io' Nt Nt' : Nat → Prop} {μ μ' μ0 m' ν : zM} {ρ : zE} {r : Int32}
def SJ (g : Nat → Int32) (n C : Nat) (μ : zM) (len turn : Nat) : Prop := ∃ F L T p o io Nt op tm, TJ g n F L T p o io Nt len op tm ∧ TM C μ F L T p o io Nt len op tm ∧ cD F n = tm ∧ turn + len = sT T n + tm ∧ (len = 0 → ∀ x, ¬ io x)
def L_lo (C q1 : Nat) : zT := (zsq (zse 4 (zald (C + 4) 1500 (zbin zisub (zfd C 7) (zk (nI 1))))) (zif (zcmp zlt (zald (C + 3) 1500 (zl 4)) (zk (nI 6))) (zex (zcall (M_X0_tryNext C) (zai (zl 4) (zai (zald q1 9000 (zbin ziadd (zbin zimul (zl 4) (zk (nI 6))) (zald (C + 3) 1500 (zl 4)))) zan)))) (zex (zcall (M_X0_leave C) (zai (zl 4) zan)))))
theorem low_T (b q1 : Nat) : B_X0_lowest b q1 = (zsq (zex (zcall (M_fill 1500 (b + 1)) (zai (zk (nI 0)) zan))) (zsq (zex (zcall (M_fill 1500 (b + 3)) (zai (zk (nI 0)) zan))) (zsq (zpf b 6 (zk (nI 0))) (zsq (zpf b 7 (zk (nI 0))) (zsq (zpf b 8 (zk (nI 0))) (zsq (zpf b 9 (zk (-4))) (zsq (zex (zcall (M_X0_discover b) (zai (zk (nI 0)) zan))) (zsq (zsq (zse 3 (zk (nI 0))) (zwh zFU (zand (zcmp zlt (zl 3) (zk (nI 10500))) (zcm0 (fun a => zgt a 0) (zfd b 7))) (L_lo b q1) (zse 3 (zbin ziadd (zl 3) (zk (nI 1)))))) (zrt (zfd b 9)))))))))) := rfl
theorem SJ.trn (S : SJ g n C μ len turn) (n5 : n ≤ 1500) (hgx : ∀ j, j < n * 6 → g j = -4 ∨ ∃ u, u < n ∧ g j = nI u) (hl : 0 < len) (hq : μ q1 = g) : ∃ μ' len', (∀ (ρ : zE) (Q : Nat → Int32 → zE → zM → Prop), (∀ ρ' : zE, ρ' 3 = ρ 3 → Q 0 0 ρ' μ') → wp (L_lo C q1) ρ μ Q) ∧ SJ g n C μ' len' (turn + 1) ∧ frC C μ μ' := by
  obtain ⟨F, L, T, p, o, io, Nt, op, tm, J, M, hc, ht, he⟩ := S
  obtain ⟨hln, hop⟩ := J.lens
  have tm5 : tm ≤ n := by rw [← hc]; exact cD_le n
  have hg : ∀ a b, a < n → edg g a b → b < n := by
    rintro a b ha ⟨h1, ch, h6, h⟩
    rcases hgx (a * 6 + ch) (by omega) with z | ⟨u, hu, z⟩
    · rw [z] at h; exact absurd h.symm (m4_n (by omega))
    · rw [z] at h
      have := (n_eq (by omega) (by omega)).mp h
      omega
  have hv := J.1 (len - 1) (by omega)
  have hv5 : p (len - 1) < 1500 := by have := hv.1; omega
  have hT6 := J.2.2.2.2.2.2.2.2.2.2.1 (p (len - 1))
  have eP : μ (C + 4) (len - 1) = nI (p (len - 1)) := M.2.2.2.1 _ (by omega)
  have eT : μ (C + 3) (p (len - 1)) = nI (T (p (len - 1))) := M.2.2.1 _ hv5
  have e7 : μ C 7 = nI len := M.2.2.2.2.2.2.2.1
  by_cases hT : T (p (len - 1)) < 6
  · obtain ⟨μ', F', L', T', p', o', io', Nt', len', op', tm', k1, k2, k3, k4, k5, k6, k7, k8⟩ := e_try J n5 hc M hl hT (hgx _ (by have := hv.1; omega))
    refine ⟨μ', len', fun ρ Q H => ?_, ⟨F', L', T', p', o', io', Nt', op', tm', k2, k3, k6, by omega, fun z => by omega⟩, k4⟩
    simp -implicitDefEqProofs (disch := omega) only [zA0_ap, zA1_ap, zA2_ap, zA3_ap, zA4_ap, zA5_ap, v_fi, v_fz, v_fv, w_k, v_l, v_bin, v_biq, v_ald, v_tb, w_al, w_fd, v_cond, v_call, v_pi, w_an, v_ai, v_aq, v_cmp, v_cm0, w_cb, v_nt, v_and, v_or, w_sk, w_bk, w_cn, w_rv, v_rt, v_sq, v_se, v_ex, v_as, v_az, v_ao, v_pf, v_pz, v_fo, v_if, v_sw, v_lw, v_fl, v_cy, v_cyd, w_lr, wl_some, k_sq0, k_sq1, k_sq2, k_sq3, k_se, k_ex, k_rt, k_l, k_b2, k_b1, k_q2, k_q1, k_ald, k_tb, k_pi, k_condT, k_condF, k_condK, k_call, k_ac, k_ai, k_aq, k_c2, k_c1, k_c0, k_nt, k_andT, k_andF, k_orT, k_orF, k_as2, k_as1, k_az2, k_az1, k_ao2, k_ao1, k_pf, k_pz, k_fo, k_ifT, k_ifF, k_br0, k_br1, k_br2, k_br3, k_s0, k_s1, k_t1, k_s4, k_t4, k_s20, k_t20, zpk_n, zpk_z, zpk_s, k_lw, k_fl, k_cy3, k_cy2, k_cy1, k_cd2, k_cd1, k_w3, k_w20, k_w21, k_w22, k_w23, k_w1T, k_w1F, k_fi, k_fz1, k_fz0, k_fzi, k_fz, k_fv0, k_fv3, k_I, k_B0, k_B1, k_B2, k_B3, k_C, k_E, zenv, zup, ze0, n_add, n_mul, m_st, m_sa, m_ne, m_ss, mm_s, mm_f, mm_ne, mm_ss, mm_sf, Nat.zero_add, u_at, u_ne, if_true, if_false, ite_true, ite_false, reduceIte, and_self, and_true, true_and, or_true, true_or, or_false, false_or, or_self, and_false, false_and, Bool.not_true, Bool.not_false, decide_true, decide_false, ne_eq, n_eqT, n_eqF, n_ltT, n_ltF, n_leT, n_leF, n_z0, n_zF, n_o1, n_oF, n_p0, n_pF, n_lt0, n_ge0, zeq, zne, zlt, zle, zge, zgt, ziadd, zisub, zimul, ziand, zior, zixor, zishl, zishr, ziushr, zidiv, zirem, zmax, zmin, Bool.false_eq_true, not_true_eq_false, not_false_eq_true, Nat.reduceEqDiff, Nat.reduceAdd, Nat.reduceMul, Nat.reduceSub, L_lo, e7, n_sub, eP, eT, hT, hq, k1]
    exact H _ (by simp -implicitDefEqProofs (disch := omega) only [zA0_ap, zA1_ap, zA2_ap, zA3_ap, zA4_ap, zA5_ap, v_fi, v_fz, v_fv, w_k, v_l, v_bin, v_biq, v_ald, v_tb, w_al, w_fd, v_cond, v_call, v_pi, w_an, v_ai, v_aq, v_cmp, v_cm0, w_cb, v_nt, v_and, v_or, w_sk, w_bk, w_cn, w_rv, v_rt, v_sq, v_se, v_ex, v_as, v_az, v_ao, v_pf, v_pz, v_fo, v_if, v_sw, v_lw, v_fl, v_cy, v_cyd, w_lr, wl_some, k_sq0, k_sq1, k_sq2, k_sq3, k_se, k_ex, k_rt, k_l, k_b2, k_b1, k_q2, k_q1, k_ald, k_tb, k_pi, k_condT, k_condF, k_condK, k_call, k_ac, k_ai, k_aq, k_c2, k_c1, k_c0, k_nt, k_andT, k_andF, k_orT, k_orF, k_as2, k_as1, k_az2, k_az1, k_ao2, k_ao1, k_pf, k_pz, k_fo, k_ifT, k_ifF, k_br0, k_br1, k_br2, k_br3, k_s0, k_s1, k_t1, k_s4, k_t4, k_s20, k_t20, zpk_n, zpk_z, zpk_s, k_lw, k_fl, k_cy3, k_cy2, k_cy1, k_cd2, k_cd1, k_w3, k_w20, k_w21, k_w22, k_w23, k_w1T, k_w1F, k_fi, k_fz1, k_fz0, k_fzi, k_fz, k_fv0, k_fv3, k_I, k_B0, k_B1, k_B2, k_B3, k_C, k_E, zenv, zup, ze0, n_add, n_mul, m_st, m_sa, m_ne, m_ss, mm_s, mm_f, mm_ne, mm_ss, mm_sf, Nat.zero_add, u_at, u_ne, if_true, if_false, ite_true, ite_false, reduceIte, and_self, and_true, true_and, or_true, true_or, or_false, false_or, or_self, and_false, false_and, Bool.not_true, Bool.not_false, decide_true, decide_false, ne_eq, n_eqT, n_eqF, n_ltT, n_ltF, n_leT, n_leF, n_z0, n_zF, n_o1, n_oF, n_p0, n_pF, n_lt0, n_ge0, zeq, zne, zlt, zle, zge, zgt, ziadd, zisub, zimul, ziand, zior, zixor, zishl, zishr, ziushr, zidiv, zirem, zmax, zmin, Bool.false_eq_true, not_true_eq_false, not_false_eq_true, Nat.reduceEqDiff, Nat.reduceAdd, Nat.reduceMul, Nat.reduceSub])
  · obtain ⟨μ', L', op', io', Nt', k1, k2, k3, k4, k5⟩ := e_leave J hg n5 (by omega) M hl (by omega)
    refine ⟨μ', len - 1, fun ρ Q H => ?_, ⟨F, L', T, p, o, io', Nt', op', tm, k2, k3, hc, by omega, k5⟩, k4⟩
    simp -implicitDefEqProofs (disch := omega) only [zA0_ap, zA1_ap, zA2_ap, zA3_ap, zA4_ap, zA5_ap, v_fi, v_fz, v_fv, w_k, v_l, v_bin, v_biq, v_ald, v_tb, w_al, w_fd, v_cond, v_call, v_pi, w_an, v_ai, v_aq, v_cmp, v_cm0, w_cb, v_nt, v_and, v_or, w_sk, w_bk, w_cn, w_rv, v_rt, v_sq, v_se, v_ex, v_as, v_az, v_ao, v_pf, v_pz, v_fo, v_if, v_sw, v_lw, v_fl, v_cy, v_cyd, w_lr, wl_some, k_sq0, k_sq1, k_sq2, k_sq3, k_se, k_ex, k_rt, k_l, k_b2, k_b1, k_q2, k_q1, k_ald, k_tb, k_pi, k_condT, k_condF, k_condK, k_call, k_ac, k_ai, k_aq, k_c2, k_c1, k_c0, k_nt, k_andT, k_andF, k_orT, k_orF, k_as2, k_as1, k_az2, k_az1, k_ao2, k_ao1, k_pf, k_pz, k_fo, k_ifT, k_ifF, k_br0, k_br1, k_br2, k_br3, k_s0, k_s1, k_t1, k_s4, k_t4, k_s20, k_t20, zpk_n, zpk_z, zpk_s, k_lw, k_fl, k_cy3, k_cy2, k_cy1, k_cd2, k_cd1, k_w3, k_w20, k_w21, k_w22, k_w23, k_w1T, k_w1F, k_fi, k_fz1, k_fz0, k_fzi, k_fz, k_fv0, k_fv3, k_I, k_B0, k_B1, k_B2, k_B3, k_C, k_E, zenv, zup, ze0, n_add, n_mul, m_st, m_sa, m_ne, m_ss, mm_s, mm_f, mm_ne, mm_ss, mm_sf, Nat.zero_add, u_at, u_ne, if_true, if_false, ite_true, ite_false, reduceIte, and_self, and_true, true_and, or_true, true_or, or_false, false_or, or_self, and_false, false_and, Bool.not_true, Bool.not_false, decide_true, decide_false, ne_eq, n_eqT, n_eqF, n_ltT, n_ltF, n_leT, n_leF, n_z0, n_zF, n_o1, n_oF, n_p0, n_pF, n_lt0, n_ge0, zeq, zne, zlt, zle, zge, zgt, ziadd, zisub, zimul, ziand, zior, zixor, zishl, zishr, ziushr, zidiv, zirem, zmax, zmin, Bool.false_eq_true, not_true_eq_false, not_false_eq_true, Nat.reduceEqDiff, Nat.reduceAdd, Nat.reduceMul, Nat.reduceSub, L_lo, e7, n_sub, eP, eT, hT, k1]
    exact H _ (by simp -implicitDefEqProofs (disch := omega) only [zA0_ap, zA1_ap, zA2_ap, zA3_ap, zA4_ap, zA5_ap, v_fi, v_fz, v_fv, w_k, v_l, v_bin, v_biq, v_ald, v_tb, w_al, w_fd, v_cond, v_call, v_pi, w_an, v_ai, v_aq, v_cmp, v_cm0, w_cb, v_nt, v_and, v_or, w_sk, w_bk, w_cn, w_rv, v_rt, v_sq, v_se, v_ex, v_as, v_az, v_ao, v_pf, v_pz, v_fo, v_if, v_sw, v_lw, v_fl, v_cy, v_cyd, w_lr, wl_some, k_sq0, k_sq1, k_sq2, k_sq3, k_se, k_ex, k_rt, k_l, k_b2, k_b1, k_q2, k_q1, k_ald, k_tb, k_pi, k_condT, k_condF, k_condK, k_call, k_ac, k_ai, k_aq, k_c2, k_c1, k_c0, k_nt, k_andT, k_andF, k_orT, k_orF, k_as2, k_as1, k_az2, k_az1, k_ao2, k_ao1, k_pf, k_pz, k_fo, k_ifT, k_ifF, k_br0, k_br1, k_br2, k_br3, k_s0, k_s1, k_t1, k_s4, k_t4, k_s20, k_t20, zpk_n, zpk_z, zpk_s, k_lw, k_fl, k_cy3, k_cy2, k_cy1, k_cd2, k_cd1, k_w3, k_w20, k_w21, k_w22, k_w23, k_w1T, k_w1F, k_fi, k_fz1, k_fz0, k_fzi, k_fz, k_fv0, k_fv3, k_I, k_B0, k_B1, k_B2, k_B3, k_C, k_E, zenv, zup, ze0, n_add, n_mul, m_st, m_sa, m_ne, m_ss, mm_s, mm_f, mm_ne, mm_ss, mm_sf, Nat.zero_add, u_at, u_ne, if_true, if_false, ite_true, ite_false, reduceIte, and_self, and_true, true_and, or_true, true_or, or_false, false_or, or_self, and_false, false_and, Bool.not_true, Bool.not_false, decide_true, decide_false, ne_eq, n_eqT, n_eqF, n_ltT, n_ltF, n_leT, n_leF, n_z0, n_zF, n_o1, n_oF, n_p0, n_pF, n_lt0, n_ge0, zeq, zne, zlt, zle, zge, zgt, ziadd, zisub, zimul, ziand, zior, zixor, zishl, zishr, ziushr, zidiv, zirem, zmax, zmin, Bool.false_eq_true, not_true_eq_false, not_false_eq_true, Nat.reduceEqDiff, Nat.reduceAdd, Nat.reduceMul, Nat.reduceSub])
/-- at its end all states in cycles are noted -/
theorem SJ.fin (S : SJ g n C μ 0 turn) (hr : ∀ i, 0 < i → i < n → ∃ p ch, p < i ∧ ch < 6 ∧ g (p * 6 + ch) = nI i) (n0 : 0 < n) (n5 : n ≤ 1500) : SelP (cycG g) n 0 (μ C 9) := by
  obtain ⟨F, L, T, p, o, io, Nt, op, tm, J, M, hc, ht, he⟩ := S
  obtain ⟨t1, t2, t3, t4, t5, t6, t7, t8, t9, t10, t11, t12, t13, t14, t15, t16, t17, ⟨t18, t19, t20⟩, t21⟩ := J
  have he := he rfl
  have all : ∀ i, i < n → 0 < F i := by
    intro i
    induction i using Nat.strongRecOn with
    | _ i ih =>
      intro hi
      by_cases h0 : i = 0
      · rw [h0]; exact t17.1
      · obtain ⟨pp, ch, h1, h2, h3⟩ := hr i (by omega) hi
        exact (t13 pp i (by omega) (ih pp h1 (by omega)) (he pp) hi ⟨by omega, ch, h2, h3⟩).1
  have nt : ∀ w, Nt w ↔ w < n ∧ cycG g w := fun w => ⟨t18 w, fun h => t19 w h.1 (all w h.1) (he w) h.2⟩
  rcases M.2.2.2.2.2.2.2.2.2 with ⟨h1, h2⟩ | ⟨b, b5, h1, h2, h3⟩
  · refine Or.inr ⟨?_, h1⟩
    rw [cnt_0 n fun j hj hcj => h2 j ((nt j).mpr ⟨hj, hcj⟩)]
    exact Nat.le_refl _
  · refine Or.inl ⟨b, ((nt b).mp h2).1, ((nt b).mp h2).2, ?_, h1⟩
    refine cnt_0 b fun j hj hcj => ?_
    have := h3 j ((nt j).mpr ⟨by have := ((nt b).mp h2).1; omega, hcj⟩)
    omega
theorem SJ.ini (n0 : 0 < n) (n5 : n ≤ 1500) (M : TM C μ (un (fun _ => 0) 0 (0 + 1)) (un (fun _ => 0) 0 (0 + 1)) (fun _ => 0) (un (fun _ => 0) 0 0) (un (fun _ => 0) 0 0) (fun x => x = 0 ∨ False) (fun _ => False) (0 + 1) (0 + 1) (0 + 1)) : SJ g n C μ 1 0 := by
  have F0 : ∀ x, 0 < un (fun _ => 0) 0 (0 + 1) x → x = 0 := fun x h => by
    by_cases e : x = 0
    · exact e
    · rw [un_n e] at h; omega
  refine ⟨_, _, _, _, _, _, _, _, _, ⟨fun a ha => ?_, fun a b h1 h2 => by omega, fun a ha => by omega, fun a ha => ?_, fun a b h1 h2 => by omega, fun w hw => ⟨0, by omega, ?_⟩, fun w hw => ?_, fun v w h1 h2 => ?_, fun v => ?_, fun v h1 h2 h3 => ?_, fun v => by omega, fun v e u h1 h2 h3 => by omega, fun v u h1 h2 h3 => ?_, fun a ha => ?_, fun a w e u h1 h2 h3 => by omega, fun a w h1 h2 => ?_, ⟨?_, fun _ => ⟨?_, ?_⟩⟩, ⟨fun w hw => hw.elim, fun w h1 h2 h3 => ?_, fun v e h1 h2 h3 => by omega⟩, fun _ _ => rfl⟩, M, ?_, ?_, fun h => by omega⟩
  · rw [show a = 0 by omega, un_e]; exact ⟨n0, Or.inl rfl⟩
  · rw [show a = 0 by omega, un_e]; exact ⟨n0, Or.inl rfl⟩
  · rcases hw with rfl | h
    · exact un_e
    · exact h.elim
  · rcases hw with rfl | h
    · exact ⟨n0, by rw [un_e]; omega⟩
    · exact h.elim
  · rw [F0 v h1, F0 w (by rw [← h2]; exact h1)]
  · by_cases e : v = 0
    · rw [e, un_e]; omega
    · rw [un_n e]; omega
  · exact absurd ⟨0, by omega, by rw [un_e, F0 v h2]⟩ h3
  · exact absurd (Or.inl (F0 v h2)) h3
  · rw [show a = 0 by omega, un_e, un_e]
    exact ⟨Nat.le_refl _, 0, Or.inl rfl, un_e, rch_rf⟩
  · have : a = 0 := by have := h1.1; omega
    rcases h2 with rfl | h
    · rw [this, un_e]; exact ⟨rch_rf, rch_rf⟩
    · exact h.elim
  · rw [un_e]; omega
  · exact un_e
  · exact un_e
  · exact absurd (Or.inl (F0 w h2)) h3
  · rw [cD_un rfl (by omega), if_pos n0]
    have : ∀ k, cD (fun _ => 0) k = 0 := by
      intro k
      induction k with
      | zero => rfl
      | succ k ih => rw [cD, ih, if_pos rfl]
    rw [this]
  · have : ∀ k, sT (fun _ => 0) k = 0 := by
      intro k
      induction k with
      | zero => rfl
      | succ k ih => rw [sT, ih]
    rw [this]
theorem e_lowest (hgx : ∀ j, j < n * 6 → g j = -4 ∨ ∃ u, u < n ∧ g j = nI u) (hr : ∀ i, 0 < i → i < n → ∃ p ch, p < i ∧ ch < 6 ∧ g (p * 6 + ch) = nI i) (n0 : 0 < n) (n5 : n ≤ 1500) (hq : μ q1 = g) (hqC : q1 < C) : ∃ r μ', (∀ Q, wr (M_X0_lowest C q1 [nI n] μ) Q = Q r μ') ∧ SelP (cycG g) n 0 r ∧ frC C μ μ' := by
  have M0 : TM C (zsa (zsa (zsa μ (C + 1) (cZ (μ (C + 1)) 0 1500)) (C + 3) (cZ (μ (C + 3)) 0 1500)) C (upd (upd (upd (upd (μ C) 6 (nI 0)) 7 (nI 0)) 8 (nI 0)) 9 (-4))) (fun _ => 0) (fun _ => 0) (fun _ => 0) (fun _ => 0) (fun _ => 0) (fun _ => False) (fun _ => False) 0 0 0 := by
    refine ⟨fun v hv => ?_, fun v hv h => absurd h (Nat.lt_irrefl 0), fun v hv => ?_, fun a ha => by omega, fun a ha => by omega, fun v hv h => absurd h (Nat.lt_irrefl 0), ?_, ?_, ?_, Or.inl ⟨?_, fun _ h => h⟩⟩
    · rw [m_ne (by omega), m_ne (by omega), m_sa, cZ_in (by omega) (by omega)]
    · rw [m_ne (by omega), m_sa, cZ_in (by omega) (by omega)]
    · simp (disch := omega) only [m_sa, u_ne, u_at]
    · simp (disch := omega) only [m_sa, u_ne, u_at]
    · simp (disch := omega) only [m_sa, u_ne, u_at]
    · simp (disch := omega) only [m_sa, u_ne, u_at]
  obtain ⟨μ1, d1, M1, f1⟩ := e_discover M0 (w := 0) (by omega) (by omega) (by omega) (by omega)
  have S1 : SJ g n C μ1 1 0 := SJ.ini n0 n5 M1
  have fr1 : frC C μ μ1 := fun a ha => by rw [f1 a ha, m_ne (by omega), m_ne (by omega), m_ne (by omega)]
  have hk : ¬ ¬ wr (M_X0_lowest C q1 [nI n] μ) (fun r m' => SelP (cycG g) n 0 r ∧ frC C μ m') := by
    apply not_not_intro
    simp only [M_X0_lowest, low_T]
    simp -implicitDefEqProofs (disch := omega) only [zA0_ap, zA1_ap, zA2_ap, zA3_ap, zA4_ap, zA5_ap, v_fi, v_fz, v_fv, w_k, v_l, v_bin, v_biq, v_ald, v_tb, w_al, w_fd, v_cond, v_call, v_pi, w_an, v_ai, v_aq, v_cmp, v_cm0, w_cb, v_nt, v_and, v_or, w_sk, w_bk, w_cn, w_rv, v_rt, v_sq, v_se, v_ex, v_as, v_az, v_ao, v_pf, v_pz, v_fo, v_if, v_sw, v_lw, v_fl, v_cy, v_cyd, w_lr, wl_some, k_sq0, k_sq1, k_sq2, k_sq3, k_se, k_ex, k_rt, k_l, k_b2, k_b1, k_q2, k_q1, k_ald, k_tb, k_pi, k_condT, k_condF, k_condK, k_call, k_ac, k_ai, k_aq, k_c2, k_c1, k_c0, k_nt, k_andT, k_andF, k_orT, k_orF, k_as2, k_as1, k_az2, k_az1, k_ao2, k_ao1, k_pf, k_pz, k_fo, k_ifT, k_ifF, k_br0, k_br1, k_br2, k_br3, k_s0, k_s1, k_t1, k_s4, k_t4, k_s20, k_t20, zpk_n, zpk_z, zpk_s, k_lw, k_fl, k_cy3, k_cy2, k_cy1, k_cd2, k_cd1, k_w3, k_w20, k_w21, k_w22, k_w23, k_w1T, k_w1F, k_fi, k_fz1, k_fz0, k_fzi, k_fz, k_fv0, k_fv3, k_I, k_B0, k_B1, k_B2, k_B3, k_C, k_E, zenv, zup, ze0, n_add, n_mul, m_st, m_sa, m_ne, m_ss, mm_s, mm_f, mm_ne, mm_ss, mm_sf, Nat.zero_add, u_at, u_ne, if_true, if_false, ite_true, ite_false, reduceIte, and_self, and_true, true_and, or_true, true_or, or_false, false_or, or_self, and_false, false_and, Bool.not_true, Bool.not_false, decide_true, decide_false, ne_eq, n_eqT, n_eqF, n_ltT, n_ltF, n_leT, n_leF, n_z0, n_zF, n_o1, n_oF, n_p0, n_pF, n_lt0, n_ge0, zeq, zne, zlt, zle, zge, zgt, ziadd, zisub, zimul, ziand, zior, zixor, zishl, zishr, ziushr, zidiv, zirem, zmax, zmin, Bool.false_eq_true, not_true_eq_false, not_false_eq_true, Nat.reduceEqDiff, Nat.reduceAdd, Nat.reduceMul, Nat.reduceSub, e_fill0, d1]
    apply v_fx (fun k ρ m' => ρ 3 = some (nI k) ∧ ∃ len, SJ g n C m' len k ∧ frC C μ m') 10500 (by omega)
    · rintro k ρ m' hk ⟨i3, len, S, f⟩
      have e7 : m' C 7 = nI len := by
        obtain ⟨F, L, T, p, o, io, Nt, op, tm, -, M, -⟩ := S
        exact M.2.2.2.2.2.2.2.1
      by_cases hl : len = 0
      · subst hl
        have := S.fin hr n0 n5
        simp -implicitDefEqProofs (disch := omega) only [zA0_ap, zA1_ap, zA2_ap, zA3_ap, zA4_ap, zA5_ap, v_fi, v_fz, v_fv, w_k, v_l, v_bin, v_biq, v_ald, v_tb, w_al, w_fd, v_cond, v_call, v_pi, w_an, v_ai, v_aq, v_cmp, v_cm0, w_cb, v_nt, v_and, v_or, w_sk, w_bk, w_cn, w_rv, v_rt, v_sq, v_se, v_ex, v_as, v_az, v_ao, v_pf, v_pz, v_fo, v_if, v_sw, v_lw, v_fl, v_cy, v_cyd, w_lr, wl_some, k_sq0, k_sq1, k_sq2, k_sq3, k_se, k_ex, k_rt, k_l, k_b2, k_b1, k_q2, k_q1, k_ald, k_tb, k_pi, k_condT, k_condF, k_condK, k_call, k_ac, k_ai, k_aq, k_c2, k_c1, k_c0, k_nt, k_andT, k_andF, k_orT, k_orF, k_as2, k_as1, k_az2, k_az1, k_ao2, k_ao1, k_pf, k_pz, k_fo, k_ifT, k_ifF, k_br0, k_br1, k_br2, k_br3, k_s0, k_s1, k_t1, k_s4, k_t4, k_s20, k_t20, zpk_n, zpk_z, zpk_s, k_lw, k_fl, k_cy3, k_cy2, k_cy1, k_cd2, k_cd1, k_w3, k_w20, k_w21, k_w22, k_w23, k_w1T, k_w1F, k_fi, k_fz1, k_fz0, k_fzi, k_fz, k_fv0, k_fv3, k_I, k_B0, k_B1, k_B2, k_B3, k_C, k_E, zenv, zup, ze0, n_add, n_mul, m_st, m_sa, m_ne, m_ss, mm_s, mm_f, mm_ne, mm_ss, mm_sf, Nat.zero_add, u_at, u_ne, if_true, if_false, ite_true, ite_false, reduceIte, and_self, and_true, true_and, or_true, true_or, or_false, false_or, or_self, and_false, false_and, Bool.not_true, Bool.not_false, decide_true, decide_false, ne_eq, n_eqT, n_eqF, n_ltT, n_ltF, n_leT, n_leF, n_z0, n_zF, n_o1, n_oF, n_p0, n_pF, n_lt0, n_ge0, zeq, zne, zlt, zle, zge, zgt, ziadd, zisub, zimul, ziand, zior, zixor, zishl, zishr, ziushr, zidiv, zirem, zmax, zmin, Bool.false_eq_true, not_true_eq_false, not_false_eq_true, Nat.reduceEqDiff, Nat.reduceAdd, Nat.reduceMul, Nat.reduceSub, k_XT, k_XF, i3, e7]
        exact ⟨this, f⟩
      · obtain ⟨μ2, len2, t1, t2, t3⟩ := S.trn n5 hgx (by omega) (q1 := q1) (by rw [f q1 (by omega)]; exact hq)
        have hlen : len ≤ 1500 := by
          obtain ⟨F, L, T, p, o, io, Nt, op, tm, J, -, hc, -⟩ := S
          have := J.lens.1
          have := cD_le (F := F) n
          omega
        simp -implicitDefEqProofs (disch := omega) only [zA0_ap, zA1_ap, zA2_ap, zA3_ap, zA4_ap, zA5_ap, v_fi, v_fz, v_fv, w_k, v_l, v_bin, v_biq, v_ald, v_tb, w_al, w_fd, v_cond, v_call, v_pi, w_an, v_ai, v_aq, v_cmp, v_cm0, w_cb, v_nt, v_and, v_or, w_sk, w_bk, w_cn, w_rv, v_rt, v_sq, v_se, v_ex, v_as, v_az, v_ao, v_pf, v_pz, v_fo, v_if, v_sw, v_lw, v_fl, v_cy, v_cyd, w_lr, wl_some, k_sq0, k_sq1, k_sq2, k_sq3, k_se, k_ex, k_rt, k_l, k_b2, k_b1, k_q2, k_q1, k_ald, k_tb, k_pi, k_condT, k_condF, k_condK, k_call, k_ac, k_ai, k_aq, k_c2, k_c1, k_c0, k_nt, k_andT, k_andF, k_orT, k_orF, k_as2, k_as1, k_az2, k_az1, k_ao2, k_ao1, k_pf, k_pz, k_fo, k_ifT, k_ifF, k_br0, k_br1, k_br2, k_br3, k_s0, k_s1, k_t1, k_s4, k_t4, k_s20, k_t20, zpk_n, zpk_z, zpk_s, k_lw, k_fl, k_cy3, k_cy2, k_cy1, k_cd2, k_cd1, k_w3, k_w20, k_w21, k_w22, k_w23, k_w1T, k_w1F, k_fi, k_fz1, k_fz0, k_fzi, k_fz, k_fv0, k_fv3, k_I, k_B0, k_B1, k_B2, k_B3, k_C, k_E, zenv, zup, ze0, n_add, n_mul, m_st, m_sa, m_ne, m_ss, mm_s, mm_f, mm_ne, mm_ss, mm_sf, Nat.zero_add, u_at, u_ne, if_true, if_false, ite_true, ite_false, reduceIte, and_self, and_true, true_and, or_true, true_or, or_false, false_or, or_self, and_false, false_and, Bool.not_true, Bool.not_false, decide_true, decide_false, ne_eq, n_eqT, n_eqF, n_ltT, n_ltF, n_leT, n_leF, n_z0, n_zF, n_o1, n_oF, n_p0, n_pF, n_lt0, n_ge0, zeq, zne, zlt, zle, zge, zgt, ziadd, zisub, zimul, ziand, zior, zixor, zishl, zishr, ziushr, zidiv, zirem, zmax, zmin, Bool.false_eq_true, not_true_eq_false, not_false_eq_true, Nat.reduceEqDiff, Nat.reduceAdd, Nat.reduceMul, Nat.reduceSub, k_XT, k_XF, i3, e7, show 0 < len by omega]
        apply t1
        intro ρ' h3
        rw [i3] at h3
        simp -implicitDefEqProofs (disch := omega) only [zA0_ap, zA1_ap, zA2_ap, zA3_ap, zA4_ap, zA5_ap, v_fi, v_fz, v_fv, w_k, v_l, v_bin, v_biq, v_ald, v_tb, w_al, w_fd, v_cond, v_call, v_pi, w_an, v_ai, v_aq, v_cmp, v_cm0, w_cb, v_nt, v_and, v_or, w_sk, w_bk, w_cn, w_rv, v_rt, v_sq, v_se, v_ex, v_as, v_az, v_ao, v_pf, v_pz, v_fo, v_if, v_sw, v_lw, v_fl, v_cy, v_cyd, w_lr, wl_some, k_sq0, k_sq1, k_sq2, k_sq3, k_se, k_ex, k_rt, k_l, k_b2, k_b1, k_q2, k_q1, k_ald, k_tb, k_pi, k_condT, k_condF, k_condK, k_call, k_ac, k_ai, k_aq, k_c2, k_c1, k_c0, k_nt, k_andT, k_andF, k_orT, k_orF, k_as2, k_as1, k_az2, k_az1, k_ao2, k_ao1, k_pf, k_pz, k_fo, k_ifT, k_ifF, k_br0, k_br1, k_br2, k_br3, k_s0, k_s1, k_t1, k_s4, k_t4, k_s20, k_t20, zpk_n, zpk_z, zpk_s, k_lw, k_fl, k_cy3, k_cy2, k_cy1, k_cd2, k_cd1, k_w3, k_w20, k_w21, k_w22, k_w23, k_w1T, k_w1F, k_fi, k_fz1, k_fz0, k_fzi, k_fz, k_fv0, k_fv3, k_I, k_B0, k_B1, k_B2, k_B3, k_C, k_E, zenv, zup, ze0, n_add, n_mul, m_st, m_sa, m_ne, m_ss, mm_s, mm_f, mm_ne, mm_ss, mm_sf, Nat.zero_add, u_at, u_ne, if_true, if_false, ite_true, ite_false, reduceIte, and_self, and_true, true_and, or_true, true_or, or_false, false_or, or_self, and_false, false_and, Bool.not_true, Bool.not_false, decide_true, decide_false, ne_eq, n_eqT, n_eqF, n_ltT, n_ltF, n_leT, n_leF, n_z0, n_zF, n_o1, n_oF, n_p0, n_pF, n_lt0, n_ge0, zeq, zne, zlt, zle, zge, zgt, ziadd, zisub, zimul, ziand, zior, zixor, zishl, zishr, ziushr, zidiv, zirem, zmax, zmin, Bool.false_eq_true, not_true_eq_false, not_false_eq_true, Nat.reduceEqDiff, Nat.reduceAdd, Nat.reduceMul, Nat.reduceSub, h3]
        exact ⟨len2, t2, fun a ha => by rw [t3 a ha]; exact f a ha⟩
    · rintro ρ m' ⟨i3, len, S, f⟩
      have hl : len = 0 := by
        obtain ⟨F, L, T, p, o, io, Nt, op, tm, J, -, hc, ht, -⟩ := S
        have := cD_le (F := F) n
        have := sT_le J.2.2.2.2.2.2.2.2.2.2.1 n
        omega
      subst hl
      have := S.fin hr n0 n5
      simp -implicitDefEqProofs (disch := omega) only [zA0_ap, zA1_ap, zA2_ap, zA3_ap, zA4_ap, zA5_ap, v_fi, v_fz, v_fv, w_k, v_l, v_bin, v_biq, v_ald, v_tb, w_al, w_fd, v_cond, v_call, v_pi, w_an, v_ai, v_aq, v_cmp, v_cm0, w_cb, v_nt, v_and, v_or, w_sk, w_bk, w_cn, w_rv, v_rt, v_sq, v_se, v_ex, v_as, v_az, v_ao, v_pf, v_pz, v_fo, v_if, v_sw, v_lw, v_fl, v_cy, v_cyd, w_lr, wl_some, k_sq0, k_sq1, k_sq2, k_sq3, k_se, k_ex, k_rt, k_l, k_b2, k_b1, k_q2, k_q1, k_ald, k_tb, k_pi, k_condT, k_condF, k_condK, k_call, k_ac, k_ai, k_aq, k_c2, k_c1, k_c0, k_nt, k_andT, k_andF, k_orT, k_orF, k_as2, k_as1, k_az2, k_az1, k_ao2, k_ao1, k_pf, k_pz, k_fo, k_ifT, k_ifF, k_br0, k_br1, k_br2, k_br3, k_s0, k_s1, k_t1, k_s4, k_t4, k_s20, k_t20, zpk_n, zpk_z, zpk_s, k_lw, k_fl, k_cy3, k_cy2, k_cy1, k_cd2, k_cd1, k_w3, k_w20, k_w21, k_w22, k_w23, k_w1T, k_w1F, k_fi, k_fz1, k_fz0, k_fzi, k_fz, k_fv0, k_fv3, k_I, k_B0, k_B1, k_B2, k_B3, k_C, k_E, zenv, zup, ze0, n_add, n_mul, m_st, m_sa, m_ne, m_ss, mm_s, mm_f, mm_ne, mm_ss, mm_sf, Nat.zero_add, u_at, u_ne, if_true, if_false, ite_true, ite_false, reduceIte, and_self, and_true, true_and, or_true, true_or, or_false, false_or, or_self, and_false, false_and, Bool.not_true, Bool.not_false, decide_true, decide_false, ne_eq, n_eqT, n_eqF, n_ltT, n_ltF, n_leT, n_leF, n_z0, n_zF, n_o1, n_oF, n_p0, n_pF, n_lt0, n_ge0, zeq, zne, zlt, zle, zge, zgt, ziadd, zisub, zimul, ziand, zior, zixor, zishl, zishr, ziushr, zidiv, zirem, zmax, zmin, Bool.false_eq_true, not_true_eq_false, not_false_eq_true, Nat.reduceEqDiff, Nat.reduceAdd, Nat.reduceMul, Nat.reduceSub, i3]
      exact ⟨this, f⟩
    · simp -implicitDefEqProofs (disch := omega) only [zA0_ap, zA1_ap, zA2_ap, zA3_ap, zA4_ap, zA5_ap, v_fi, v_fz, v_fv, w_k, v_l, v_bin, v_biq, v_ald, v_tb, w_al, w_fd, v_cond, v_call, v_pi, w_an, v_ai, v_aq, v_cmp, v_cm0, w_cb, v_nt, v_and, v_or, w_sk, w_bk, w_cn, w_rv, v_rt, v_sq, v_se, v_ex, v_as, v_az, v_ao, v_pf, v_pz, v_fo, v_if, v_sw, v_lw, v_fl, v_cy, v_cyd, w_lr, wl_some, k_sq0, k_sq1, k_sq2, k_sq3, k_se, k_ex, k_rt, k_l, k_b2, k_b1, k_q2, k_q1, k_ald, k_tb, k_pi, k_condT, k_condF, k_condK, k_call, k_ac, k_ai, k_aq, k_c2, k_c1, k_c0, k_nt, k_andT, k_andF, k_orT, k_orF, k_as2, k_as1, k_az2, k_az1, k_ao2, k_ao1, k_pf, k_pz, k_fo, k_ifT, k_ifF, k_br0, k_br1, k_br2, k_br3, k_s0, k_s1, k_t1, k_s4, k_t4, k_s20, k_t20, zpk_n, zpk_z, zpk_s, k_lw, k_fl, k_cy3, k_cy2, k_cy1, k_cd2, k_cd1, k_w3, k_w20, k_w21, k_w22, k_w23, k_w1T, k_w1F, k_fi, k_fz1, k_fz0, k_fzi, k_fz, k_fv0, k_fv3, k_I, k_B0, k_B1, k_B2, k_B3, k_C, k_E, zenv, zup, ze0, n_add, n_mul, m_st, m_sa, m_ne, m_ss, mm_s, mm_f, mm_ne, mm_ss, mm_sf, Nat.zero_add, u_at, u_ne, if_true, if_false, ite_true, ite_false, reduceIte, and_self, and_true, true_and, or_true, true_or, or_false, false_or, or_self, and_false, false_and, Bool.not_true, Bool.not_false, decide_true, decide_false, ne_eq, n_eqT, n_eqF, n_ltT, n_ltF, n_leT, n_leF, n_z0, n_zF, n_o1, n_oF, n_p0, n_pF, n_lt0, n_ge0, zeq, zne, zlt, zle, zge, zgt, ziadd, zisub, zimul, ziand, zior, zixor, zishl, zishr, ziushr, zidiv, zirem, zmax, zmin, Bool.false_eq_true, not_true_eq_false, not_false_eq_true, Nat.reduceEqDiff, Nat.reduceAdd, Nat.reduceMul, Nat.reduceSub]
      exact ⟨1, S1, fr1⟩
  obtain ⟨r, m', e, h⟩ := wr_nn hk
  exact ⟨r, m', fun Q => by rw [e]; rfl, h⟩
end TA7
