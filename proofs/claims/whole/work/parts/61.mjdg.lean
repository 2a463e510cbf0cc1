/-! THE MODEL JUDGES: FITS -/
def mgN (ν : zM) (m i : Nat) : Nat := (ν (m + 2) (726 + (ν (m + 2) (916 + i)).toInt.toNat)).toInt.toNat
def rwN (k : Nat) : Nat := 4 * (k / 3) + k % 3
def svN (ν : zM) (m : Nat) (s : Nat → Int32) (k : Nat) (y : zY) : Bool × zY := srvA (ν (m + 2) 950).toInt.toNat (mgN ν m (rwN k)) (ν (m + 2) (932 + rwN k)) (s (81 + 2 * k + 1) - nI 1000) y
def y0N (ν : zM) (m : Nat) : Nat → zY
  | 0 => ([], 0, 0)
  | k + 1 => (srvA (ν (m + 2) 950).toInt.toNat (mgN ν m (12 + k)) (ν (m + 2) (944 + k)) (nI 0) (y0N ν m k)).2
def PN (ν : zM) (m : Nat) : Prop := (∀ r, r < 6 → ∃ k, k < 3 ∧ ν (m + 2) (726 + r) = nI k) ∧ (∃ n, n ≤ 4 ∧ ν (m + 2) 915 = nI n) ∧ (∀ i, i < 16 → (i % 4 < 3 ∨ 12 ≤ i) → ∃ r, r < 6 ∧ ν (m + 2) (916 + i) = nI r) ∧ ∃ k, 0 < k ∧ k < 5 ∧ ν (m + 2) 950 = nI k
/-! a loop that may be left early -/
section LPX
variable {μ : zM} {ρ : zE}
def KX (b : zT) (u : zT) (ρ : zE) (P : zE → zM → Prop) (Q : Nat → Int32 → zE → zM → Prop) : Bool → zM → Prop := fun x m => if x = true then wp b ρ m (KB u P Q) else Q 0 0 ρ m
theorem k_XT (b u : zT) (P : zE → zM → Prop) (Q : Nat → Int32 → zE → zM → Prop) : KX b u ρ P Q true μ = wp b ρ μ (KB u P Q) := by simp [KX]
theorem k_XF (b u : zT) (P : zE → zM → Prop) (Q : Nat → Int32 → zE → zM → Prop) : KX b u ρ P Q false μ = Q 0 0 ρ μ := by simp [KX]
theorem v_xf {c : zC} {b u : zT} {Q : Nat → Int32 → zE → zM → Prop} (Inv : Nat → zE → zM → Prop) (n : Nat)
    (hb : ∀ (k : Nat) (ρ : zE) (μ : zM), k < n → Inv k ρ μ → wc c ρ μ (KX b u ρ (Inv (k + 1)) Q))
    (hq : ∀ (ρ : zE) (μ : zM), Inv n ρ μ → wc c ρ μ (KE ρ Q)) :
    ∀ (F k : Nat), n - k < F → k ≤ n → ∀ (ρ : zE) (μ : zM), Inv k ρ μ → wp (zwh F c b u) ρ μ Q := by
  intro F
  induction F with
  | zero => intro k h; omega
  | succ F ih =>
    intro k hF hk ρ μ hI
    rw [w_wh]
    by_cases hlt : k < n
    · have h := hb k ρ μ hlt hI
      unfold wc at h ⊢
      split at h
      · cases h
      · rename_i x m e
        cases x with
        | false =>
          rw [k_XF] at h
          simpa using h
        | true =>
          rw [k_XT] at h
          simp only [if_true]
          refine wp_mono h fun t v ρ2 m2 h => ?_
          unfold KB at h
          by_cases h1 : t = 1
          · simpa [h1] using h
          · by_cases h3 : t = 3
            · simpa [h3] using h
            · simp only [h1, h3, if_false] at h ⊢
              exact wp_mono h fun t3 _ ρ3 m3 h => ⟨h.1, ih (k + 1) (by omega) (by omega) ρ3 m3 h.2⟩
    · have hkn : k = n := by omega
      subst hkn
      have h := hq ρ μ hI
      unfold wc at h ⊢
      split at h
      · cases h
      · obtain ⟨rfl, h⟩ := h
        simpa using h
theorem v_fx {c : zC} {b u : zT} {Q : Nat → Int32 → zE → zM → Prop} (Inv : Nat → zE → zM → Prop) (n : Nat) (hn : n < 20000)
    (hb : ∀ (k : Nat) (ρ : zE) (μ : zM), k < n → Inv k ρ μ → wc c ρ μ (KX b u ρ (Inv (k + 1)) Q))
    (hq : ∀ (ρ : zE) (μ : zM), Inv n ρ μ → wc c ρ μ (KE ρ Q)) (h0 : Inv 0 ρ μ) : wp (zwh zFU c b u) ρ μ Q :=
  v_xf Inv n hb hq zFU 0 (by unfold zFU; omega) (Nat.zero_le _) ρ μ h0
end LPX
section MJD
variable {b q J m k : Nat} {μ μ0 ν : zM} {c s f pl : Nat → Int32} {Q : Int32 → zM → Prop} {n d dp : Nat} {y : zY} {l : List Nat}
theorem PN.sl (P : PN ν m) {i : Nat} (hi : i < 16) (hi2 : i % 4 < 3 ∨ 12 ≤ i) : ∃ r, r < 6 ∧ ν (m + 2) (916 + i) = nI r ∧ mgN ν m i < 3 ∧ ν (m + 2) (726 + r) = nI (mgN ν m i) := by
  obtain ⟨p1, -, p3, -⟩ := P
  obtain ⟨r, r6, e1⟩ := p3 i hi hi2
  obtain ⟨g, g3, e2⟩ := p1 r r6
  refine ⟨r, r6, e1, ?_⟩
  unfold mgN
  rw [e1, n_tn (by omega), e2, n_tn (by omega)]
  exact ⟨g3, rfl⟩
theorem PN.md (P : PN ν m) : ∃ k, 0 < k ∧ k < 5 ∧ ν (m + 2) 950 = nI k ∧ (ν (m + 2) 950).toInt.toNat = k := by
  obtain ⟨-, -, -, k, h1, h2, h3⟩ := P
  exact ⟨k, h1, h2, h3, by rw [h3, n_tn (by omega)]⟩
theorem y0N_len (P : PN ν m) : ∀ k, (y0N ν m k).1.length ≤ k ∧ (y0N ν m k).2.1 ≤ (y0N ν m k).1.length ∧ ((ν (m + 2) 950).toInt.toNat = 1 → (y0N ν m k).2.1 = 0)
  | 0 => ⟨Nat.le_refl _, Nat.le_refl _, fun _ => rfl⟩
  | k + 1 => by
    obtain ⟨h1, h2, h3⟩ := y0N_len P k
    have := srvA_len (M := (ν (m + 2) 950).toInt.toNat) (g := mgN ν m (12 + k)) (arg := ν (m + 2) (944 + k)) (ans := nI 0) h2 h3
    unfold y0N
    exact ⟨by omega, this.2.1, this.2.2⟩
theorem svN_len (h : y.2.1 ≤ y.1.length) (h1 : (ν (m + 2) 950).toInt.toNat = 1 → y.2.1 = 0) : (svN ν m s k y).2.1.length ≤ y.1.length + 1 ∧ (svN ν m s k y).2.2.1 ≤ (svN ν m s k y).2.1.length ∧ ((ν (m + 2) 950).toInt.toNat = 1 → (svN ν m s k y).2.2.1 = 0) := srvA_len h h1
/-- fields but the shelf's -/
def SmF (f' f : Nat → Int32) : Prop := ∀ j, j ≠ 7 → j ≠ 8 → j ≠ 9 → f' j = f j
set_option maxRecDepth 20000 in
theorem g_fits (P : PN ν m) (hl : ∀ i, (h : i < l.length) → ν (m + 5) i = nI l[i] ∧ l[i] < 9) (h6 : l.length ≤ 7) (hs : ν (m + 3) = s) : wr (M_X9_fits m [nI l.length] (zmj ν m pl f)) (fun r m' => tv r (FolO (svN ν m s) l l.length (y0N ν m (ν (m + 2) 915).toInt.toNat)) ∧ ∃ pl' f', SmF f' f ∧ m' = zmj ν m pl' f') := by
  obtain ⟨M, M0, M5, e8, e8'⟩ := P.md
  obtain ⟨N, N4, e15⟩ := P.2.1
  rw [show (ν (m + 2) 915).toInt.toNat = N by rw [e15, n_tn (by omega)]]
  simp only [M_X9_fits, B_X9_fits]
  simp -implicitDefEqProofs (disch := omega) only [zA0_ap, zA1_ap, zA2_ap, zA3_ap, zA4_ap, zA5_ap, v_fi, v_fz, v_fv, w_k, v_l, v_bin, v_biq, v_ald, v_tb, w_al, w_fd, v_cond, v_call, v_pi, w_an, v_ai, v_aq, v_cmp, v_cm0, w_cb, v_nt, v_and, v_or, w_sk, w_bk, w_cn, w_rv, v_rt, v_sq, v_se, v_ex, v_as, v_az, v_ao, v_pf, v_pz, v_fo, v_if, v_sw, v_lw, v_fl, v_cy, v_cyd, w_lr, wl_some, k_sq0, k_sq1, k_sq2, k_sq3, k_se, k_ex, k_rt, k_l, k_b2, k_b1, k_q2, k_q1, k_ald, k_tb, k_pi, k_condT, k_condF, k_condK, k_call, k_ac, k_ai, k_aq, k_c2, k_c1, k_c0, k_nt, k_andT, k_andF, k_orT, k_orF, k_as2, k_as1, k_az2, k_az1, k_ao2, k_ao1, k_pf, k_pz, k_fo, k_ifT, k_ifF, k_br0, k_br1, k_br2, k_br3, k_s0, k_s1, k_t1, k_s4, k_t4, k_s20, k_t20, zpk_n, zpk_z, zpk_s, k_lw, k_fl, k_cy3, k_cy2, k_cy1, k_cd2, k_cd1, k_w3, k_w20, k_w21, k_w22, k_w23, k_w1T, k_w1F, k_fi, k_fz1, k_fz0, k_fzi, k_fz, k_fv0, k_fv3, k_I, k_B0, k_B1, k_B2, k_B3, k_C, k_E, zenv, zup, ze0, n_add, n_mul, m_st, m_sa, m_ne, m_ss, mm_s, mm_f, mm_ne, mm_ss, mm_sf, Nat.zero_add, u_at, u_ne, if_true, if_false, ite_true, ite_false, reduceIte, and_self, and_true, true_and, or_true, true_or, or_false, false_or, or_self, and_false, false_and, Bool.not_true, Bool.not_false, decide_true, decide_false, ne_eq, n_eqT, n_eqF, n_ltT, n_ltF, n_leT, n_leF, n_z0, n_zF, n_o1, n_oF, n_p0, n_pF, n_lt0, n_ge0, zeq, zne, zlt, zle, zge, zgt, ziadd, zisub, zimul, ziand, zior, zixor, zishl, zishr, ziushr, zidiv, zirem, zmax, zmin, Bool.false_eq_true, not_true_eq_false, not_false_eq_true, Nat.reduceEqDiff, Nat.reduceAdd, Nat.reduceMul, Nat.reduceSub, mj_p, mj_f, mj_ne, mj_sp, mj_sf]
  refine v_for (Inv := fun k ρ m' => ρ 1 = some (nI l.length) ∧ ρ 2 = some (nI k) ∧ ∃ pl' f', SmF f' f ∧ m' = zmj ν m pl' f' ∧ ShM pl' f' (y0N ν m k)) N (by omega) ?_ ?_ ?_
  · rintro k ρ m' hk ⟨i1, i2, pl', f', i3, rfl, i4⟩
    have hy := y0N_len P k
    obtain ⟨r, r6, e1, g3, e2⟩ := P.sl (i := 12 + k) (by omega) (by omega)
    rw [show 916 + (12 + k) = 928 + k by omega] at e1
    rw [e8'] at hy
    obtain ⟨pl2, f2, S2, hf2, ks⟩ := g_says (μ := ν) (b := m) (asked := false) (arg := ν (m + 2) (944 + k)) (ans := nI 0) i4 hy.2.2 (by omega) r6 g3 M5 M0 e2 e8
    simp only [Bool.false_eq_true, if_false, true_or, if_true] at ks
    simp -implicitDefEqProofs (disch := omega) only [zA0_ap, zA1_ap, zA2_ap, zA3_ap, zA4_ap, zA5_ap, v_fi, v_fz, v_fv, w_k, v_l, v_bin, v_biq, v_ald, v_tb, w_al, w_fd, v_cond, v_call, v_pi, w_an, v_ai, v_aq, v_cmp, v_cm0, w_cb, v_nt, v_and, v_or, w_sk, w_bk, w_cn, w_rv, v_rt, v_sq, v_se, v_ex, v_as, v_az, v_ao, v_pf, v_pz, v_fo, v_if, v_sw, v_lw, v_fl, v_cy, v_cyd, w_lr, wl_some, k_sq0, k_sq1, k_sq2, k_sq3, k_se, k_ex, k_rt, k_l, k_b2, k_b1, k_q2, k_q1, k_ald, k_tb, k_pi, k_condT, k_condF, k_condK, k_call, k_ac, k_ai, k_aq, k_c2, k_c1, k_c0, k_nt, k_andT, k_andF, k_orT, k_orF, k_as2, k_as1, k_az2, k_az1, k_ao2, k_ao1, k_pf, k_pz, k_fo, k_ifT, k_ifF, k_br0, k_br1, k_br2, k_br3, k_s0, k_s1, k_t1, k_s4, k_t4, k_s20, k_t20, zpk_n, zpk_z, zpk_s, k_lw, k_fl, k_cy3, k_cy2, k_cy1, k_cd2, k_cd1, k_w3, k_w20, k_w21, k_w22, k_w23, k_w1T, k_w1F, k_fi, k_fz1, k_fz0, k_fzi, k_fz, k_fv0, k_fv3, k_I, k_B0, k_B1, k_B2, k_B3, k_C, k_E, zenv, zup, ze0, n_add, n_mul, m_st, m_sa, m_ne, m_ss, mm_s, mm_f, mm_ne, mm_ss, mm_sf, Nat.zero_add, u_at, u_ne, if_true, if_false, ite_true, ite_false, reduceIte, and_self, and_true, true_and, or_true, true_or, or_false, false_or, or_self, and_false, false_and, Bool.not_true, Bool.not_false, decide_true, decide_false, ne_eq, n_eqT, n_eqF, n_ltT, n_ltF, n_leT, n_leF, n_z0, n_zF, n_o1, n_oF, n_p0, n_pF, n_lt0, n_ge0, zeq, zne, zlt, zle, zge, zgt, ziadd, zisub, zimul, ziand, zior, zixor, zishl, zishr, ziushr, zidiv, zirem, zmax, zmin, Bool.false_eq_true, not_true_eq_false, not_false_eq_true, Nat.reduceEqDiff, Nat.reduceAdd, Nat.reduceMul, Nat.reduceSub, mj_p, mj_f, mj_ne, mj_sp, mj_sf, i1, i2, e15, hk, e1, ks]
    refine ⟨pl2, f2, fun j a b c => by rw [hf2 j a b c, i3 j a b c], rfl, ?_⟩
    unfold y0N
    rw [e8']
    exact S2
  · rintro ρ m' ⟨i1, i2, pl', f', i3, rfl, i4⟩
    simp -implicitDefEqProofs (disch := omega) only [zA0_ap, zA1_ap, zA2_ap, zA3_ap, zA4_ap, zA5_ap, v_fi, v_fz, v_fv, w_k, v_l, v_bin, v_biq, v_ald, v_tb, w_al, w_fd, v_cond, v_call, v_pi, w_an, v_ai, v_aq, v_cmp, v_cm0, w_cb, v_nt, v_and, v_or, w_sk, w_bk, w_cn, w_rv, v_rt, v_sq, v_se, v_ex, v_as, v_az, v_ao, v_pf, v_pz, v_fo, v_if, v_sw, v_lw, v_fl, v_cy, v_cyd, w_lr, wl_some, k_sq0, k_sq1, k_sq2, k_sq3, k_se, k_ex, k_rt, k_l, k_b2, k_b1, k_q2, k_q1, k_ald, k_tb, k_pi, k_condT, k_condF, k_condK, k_call, k_ac, k_ai, k_aq, k_c2, k_c1, k_c0, k_nt, k_andT, k_andF, k_orT, k_orF, k_as2, k_as1, k_az2, k_az1, k_ao2, k_ao1, k_pf, k_pz, k_fo, k_ifT, k_ifF, k_br0, k_br1, k_br2, k_br3, k_s0, k_s1, k_t1, k_s4, k_t4, k_s20, k_t20, zpk_n, zpk_z, zpk_s, k_lw, k_fl, k_cy3, k_cy2, k_cy1, k_cd2, k_cd1, k_w3, k_w20, k_w21, k_w22, k_w23, k_w1T, k_w1F, k_fi, k_fz1, k_fz0, k_fzi, k_fz, k_fv0, k_fv3, k_I, k_B0, k_B1, k_B2, k_B3, k_C, k_E, zenv, zup, ze0, n_add, n_mul, m_st, m_sa, m_ne, m_ss, mm_s, mm_f, mm_ne, mm_ss, mm_sf, Nat.zero_add, u_at, u_ne, if_true, if_false, ite_true, ite_false, reduceIte, and_self, and_true, true_and, or_true, true_or, or_false, false_or, or_self, and_false, false_and, Bool.not_true, Bool.not_false, decide_true, decide_false, ne_eq, n_eqT, n_eqF, n_ltT, n_ltF, n_leT, n_leF, n_z0, n_zF, n_o1, n_oF, n_p0, n_pF, n_lt0, n_ge0, zeq, zne, zlt, zle, zge, zgt, ziadd, zisub, zimul, ziand, zior, zixor, zishl, zishr, ziushr, zidiv, zirem, zmax, zmin, Bool.false_eq_true, not_true_eq_false, not_false_eq_true, Nat.reduceEqDiff, Nat.reduceAdd, Nat.reduceMul, Nat.reduceSub, mj_p, mj_f, mj_ne, mj_sp, mj_sf, i1, i2, e15]
    refine v_fx (Inv := fun k ρ m' => ρ 1 = some (nI l.length) ∧ ρ 3 = some (nI k) ∧ ∃ pl' f', SmF f' f ∧ m' = zmj ν m pl' f' ∧ ((ρ 2 = some (nI 1) ∧ ∃ y, ShM pl' f' y ∧ y.1.length ≤ 4 + k ∧ y.2.1 ≤ y.1.length ∧ ((ν (m + 2) 950).toInt.toNat = 1 → y.2.1 = 0) ∧ (FolO (svN ν m s) l l.length (y0N ν m N) ↔ FolO (svN ν m s) (l.drop k) (l.length - k) y)) ∨ (ρ 2 = some (nI 0) ∧ ¬ FolO (svN ν m s) l l.length (y0N ν m N)))) l.length (by omega) ?_ ?_ ?_
    · rintro k ρ m' hk ⟨i1, i2, pl', f', i3, rfl, i4⟩
      rcases i4 with ⟨i4, y, Sy, hy1, hy2, hy3, hy4⟩ | ⟨i4, i5⟩
      · obtain ⟨o1, o2⟩ := hl k hk
        rcases FolO_drop (l := l) (y := y) (sv := svN ν m s) hk with ⟨sl, hs', hF⟩ | ⟨hs', hF⟩
        · have esl : l[k] = sl := by
            rw [List.getElem?_eq_getElem hk] at hs'
            exact Option.some.inj hs'
          rw [esl] at o1 o2
          have hdiv : nI sl / nI 3 = nI (sl / 3) := n_div (by omega) (by omega)
          have hrem : nI sl - nI (sl / 3 * 3) = nI (sl % 3) := by rw [← n_rem (by omega) (by omega), hdiv, n_mul]
          obtain ⟨r, r6, e1, g3, e2⟩ := P.sl (i := rwN sl) (by unfold rwN; omega) (by unfold rwN; omega)
          obtain ⟨pl2, f2, S2, hf2, ks⟩ := g_says (μ := ν) (b := m) (asked := true) (arg := ν (m + 2) (932 + rwN sl)) (ans := s (81 + 2 * sl + 1) - nI 1000) Sy (by rw [← e8']; exact hy3) (by omega) r6 g3 M5 M0 e2 e8
          simp only [Bool.true_eq_false, false_or, if_true] at ks
          have ev : srvA M (mgN ν m (rwN sl)) (ν (m + 2) (932 + rwN sl)) (s (81 + 2 * sl + 1) - nI 1000) y = svN ν m s sl y := by
            rw [← e8']
            rfl
          rw [ev] at ks S2
          rw [show 916 + rwN sl = 916 + 4 * (sl / 3) + sl % 3 by unfold rwN; omega] at e1
          rw [show 932 + rwN sl = 932 + 4 * (sl / 3) + sl % 3 by unfold rwN; omega] at ks
          have hL := svN_len (ν := ν) (m := m) (s := s) (k := sl) hy2 hy3
          have hf3 : SmF f2 f := fun j a b c => by rw [hf2 j a b c, i3 j a b c]
          cases hv : (svN ν m s sl y).1 with
          | true =>
            rw [hv] at ks
            simp only [if_true] at ks
            simp -implicitDefEqProofs (disch := omega) only [zA0_ap, zA1_ap, zA2_ap, zA3_ap, zA4_ap, zA5_ap, v_fi, v_fz, v_fv, w_k, v_l, v_bin, v_biq, v_ald, v_tb, w_al, w_fd, v_cond, v_call, v_pi, w_an, v_ai, v_aq, v_cmp, v_cm0, w_cb, v_nt, v_and, v_or, w_sk, w_bk, w_cn, w_rv, v_rt, v_sq, v_se, v_ex, v_as, v_az, v_ao, v_pf, v_pz, v_fo, v_if, v_sw, v_lw, v_fl, v_cy, v_cyd, w_lr, wl_some, k_sq0, k_sq1, k_sq2, k_sq3, k_se, k_ex, k_rt, k_l, k_b2, k_b1, k_q2, k_q1, k_ald, k_tb, k_pi, k_condT, k_condF, k_condK, k_call, k_ac, k_ai, k_aq, k_c2, k_c1, k_c0, k_nt, k_andT, k_andF, k_orT, k_orF, k_as2, k_as1, k_az2, k_az1, k_ao2, k_ao1, k_pf, k_pz, k_fo, k_ifT, k_ifF, k_br0, k_br1, k_br2, k_br3, k_s0, k_s1, k_t1, k_s4, k_t4, k_s20, k_t20, zpk_n, zpk_z, zpk_s, k_lw, k_fl, k_cy3, k_cy2, k_cy1, k_cd2, k_cd1, k_w3, k_w20, k_w21, k_w22, k_w23, k_w1T, k_w1F, k_fi, k_fz1, k_fz0, k_fzi, k_fz, k_fv0, k_fv3, k_I, k_B0, k_B1, k_B2, k_B3, k_C, k_E, zenv, zup, ze0, n_add, n_mul, m_st, m_sa, m_ne, m_ss, mm_s, mm_f, mm_ne, mm_ss, mm_sf, Nat.zero_add, u_at, u_ne, if_true, if_false, ite_true, ite_false, reduceIte, and_self, and_true, true_and, or_true, true_or, or_false, false_or, or_self, and_false, false_and, Bool.not_true, Bool.not_false, decide_true, decide_false, ne_eq, n_eqT, n_eqF, n_ltT, n_ltF, n_leT, n_leF, n_z0, n_zF, n_o1, n_oF, n_p0, n_pF, n_lt0, n_ge0, zeq, zne, zlt, zle, zge, zgt, ziadd, zisub, zimul, ziand, zior, zixor, zishl, zishr, ziushr, zidiv, zirem, zmax, zmin, Bool.false_eq_true, not_true_eq_false, not_false_eq_true, Nat.reduceEqDiff, Nat.reduceAdd, Nat.reduceMul, Nat.reduceSub, k_XT, k_XF, mj_p, mj_f, mj_ne, mj_sp, mj_sf, i1, i2, i4, hk, o1, hdiv, hrem, e1, hs, ks]
            refine ⟨pl2, f2, hf3, rfl, Or.inl ⟨_, S2, by omega, hL.2.1, hL.2.2, ?_⟩⟩
            rw [hy4, hF]
            exact ⟨fun h => h.2, fun h => ⟨hv, h⟩⟩
          | false =>
            rw [hv] at ks
            simp only [Bool.false_eq_true, if_false] at ks
            simp -implicitDefEqProofs (disch := omega) only [zA0_ap, zA1_ap, zA2_ap, zA3_ap, zA4_ap, zA5_ap, v_fi, v_fz, v_fv, w_k, v_l, v_bin, v_biq, v_ald, v_tb, w_al, w_fd, v_cond, v_call, v_pi, w_an, v_ai, v_aq, v_cmp, v_cm0, w_cb, v_nt, v_and, v_or, w_sk, w_bk, w_cn, w_rv, v_rt, v_sq, v_se, v_ex, v_as, v_az, v_ao, v_pf, v_pz, v_fo, v_if, v_sw, v_lw, v_fl, v_cy, v_cyd, w_lr, wl_some, k_sq0, k_sq1, k_sq2, k_sq3, k_se, k_ex, k_rt, k_l, k_b2, k_b1, k_q2, k_q1, k_ald, k_tb, k_pi, k_condT, k_condF, k_condK, k_call, k_ac, k_ai, k_aq, k_c2, k_c1, k_c0, k_nt, k_andT, k_andF, k_orT, k_orF, k_as2, k_as1, k_az2, k_az1, k_ao2, k_ao1, k_pf, k_pz, k_fo, k_ifT, k_ifF, k_br0, k_br1, k_br2, k_br3, k_s0, k_s1, k_t1, k_s4, k_t4, k_s20, k_t20, zpk_n, zpk_z, zpk_s, k_lw, k_fl, k_cy3, k_cy2, k_cy1, k_cd2, k_cd1, k_w3, k_w20, k_w21, k_w22, k_w23, k_w1T, k_w1F, k_fi, k_fz1, k_fz0, k_fzi, k_fz, k_fv0, k_fv3, k_I, k_B0, k_B1, k_B2, k_B3, k_C, k_E, zenv, zup, ze0, n_add, n_mul, m_st, m_sa, m_ne, m_ss, mm_s, mm_f, mm_ne, mm_ss, mm_sf, Nat.zero_add, u_at, u_ne, if_true, if_false, ite_true, ite_false, reduceIte, and_self, and_true, true_and, or_true, true_or, or_false, false_or, or_self, and_false, false_and, Bool.not_true, Bool.not_false, decide_true, decide_false, ne_eq, n_eqT, n_eqF, n_ltT, n_ltF, n_leT, n_leF, n_z0, n_zF, n_o1, n_oF, n_p0, n_pF, n_lt0, n_ge0, zeq, zne, zlt, zle, zge, zgt, ziadd, zisub, zimul, ziand, zior, zixor, zishl, zishr, ziushr, zidiv, zirem, zmax, zmin, Bool.false_eq_true, not_true_eq_false, not_false_eq_true, Nat.reduceEqDiff, Nat.reduceAdd, Nat.reduceMul, Nat.reduceSub, k_XT, k_XF, mj_p, mj_f, mj_ne, mj_sp, mj_sf, i1, i2, i4, hk, o1, hdiv, hrem, e1, hs, ks]
            refine ⟨pl2, f2, hf3, rfl, Or.inr fun h => ?_⟩
            have := hF.1 (hy4.1 h)
            rw [hv] at this
            cases this.1
        · rw [List.getElem?_eq_getElem hk] at hs'
          cases hs'
      · simp -implicitDefEqProofs (disch := omega) only [zA0_ap, zA1_ap, zA2_ap, zA3_ap, zA4_ap, zA5_ap, v_fi, v_fz, v_fv, w_k, v_l, v_bin, v_biq, v_ald, v_tb, w_al, w_fd, v_cond, v_call, v_pi, w_an, v_ai, v_aq, v_cmp, v_cm0, w_cb, v_nt, v_and, v_or, w_sk, w_bk, w_cn, w_rv, v_rt, v_sq, v_se, v_ex, v_as, v_az, v_ao, v_pf, v_pz, v_fo, v_if, v_sw, v_lw, v_fl, v_cy, v_cyd, w_lr, wl_some, k_sq0, k_sq1, k_sq2, k_sq3, k_se, k_ex, k_rt, k_l, k_b2, k_b1, k_q2, k_q1, k_ald, k_tb, k_pi, k_condT, k_condF, k_condK, k_call, k_ac, k_ai, k_aq, k_c2, k_c1, k_c0, k_nt, k_andT, k_andF, k_orT, k_orF, k_as2, k_as1, k_az2, k_az1, k_ao2, k_ao1, k_pf, k_pz, k_fo, k_ifT, k_ifF, k_br0, k_br1, k_br2, k_br3, k_s0, k_s1, k_t1, k_s4, k_t4, k_s20, k_t20, zpk_n, zpk_z, zpk_s, k_lw, k_fl, k_cy3, k_cy2, k_cy1, k_cd2, k_cd1, k_w3, k_w20, k_w21, k_w22, k_w23, k_w1T, k_w1F, k_fi, k_fz1, k_fz0, k_fzi, k_fz, k_fv0, k_fv3, k_I, k_B0, k_B1, k_B2, k_B3, k_C, k_E, zenv, zup, ze0, n_add, n_mul, m_st, m_sa, m_ne, m_ss, mm_s, mm_f, mm_ne, mm_ss, mm_sf, Nat.zero_add, u_at, u_ne, if_true, if_false, ite_true, ite_false, reduceIte, and_self, and_true, true_and, or_true, true_or, or_false, false_or, or_self, and_false, false_and, Bool.not_true, Bool.not_false, decide_true, decide_false, ne_eq, n_eqT, n_eqF, n_ltT, n_ltF, n_leT, n_leF, n_z0, n_zF, n_o1, n_oF, n_p0, n_pF, n_lt0, n_ge0, zeq, zne, zlt, zle, zge, zgt, ziadd, zisub, zimul, ziand, zior, zixor, zishl, zishr, ziushr, zidiv, zirem, zmax, zmin, Bool.false_eq_true, not_true_eq_false, not_false_eq_true, Nat.reduceEqDiff, Nat.reduceAdd, Nat.reduceMul, Nat.reduceSub, k_XT, k_XF, mj_p, mj_f, mj_ne, mj_sp, mj_sf, i1, i2, i4, hk]
        exact ⟨Or.inr ⟨rfl, i5⟩, pl', f', i3, rfl⟩
    · rintro ρ m' ⟨i1, i2, pl', f', i3, rfl, i4⟩
      rcases i4 with ⟨i4, y, Sy, hy1, hy2, hy3, hy4⟩ | ⟨i4, i5⟩
      · simp -implicitDefEqProofs (disch := omega) only [zA0_ap, zA1_ap, zA2_ap, zA3_ap, zA4_ap, zA5_ap, v_fi, v_fz, v_fv, w_k, v_l, v_bin, v_biq, v_ald, v_tb, w_al, w_fd, v_cond, v_call, v_pi, w_an, v_ai, v_aq, v_cmp, v_cm0, w_cb, v_nt, v_and, v_or, w_sk, w_bk, w_cn, w_rv, v_rt, v_sq, v_se, v_ex, v_as, v_az, v_ao, v_pf, v_pz, v_fo, v_if, v_sw, v_lw, v_fl, v_cy, v_cyd, w_lr, wl_some, k_sq0, k_sq1, k_sq2, k_sq3, k_se, k_ex, k_rt, k_l, k_b2, k_b1, k_q2, k_q1, k_ald, k_tb, k_pi, k_condT, k_condF, k_condK, k_call, k_ac, k_ai, k_aq, k_c2, k_c1, k_c0, k_nt, k_andT, k_andF, k_orT, k_orF, k_as2, k_as1, k_az2, k_az1, k_ao2, k_ao1, k_pf, k_pz, k_fo, k_ifT, k_ifF, k_br0, k_br1, k_br2, k_br3, k_s0, k_s1, k_t1, k_s4, k_t4, k_s20, k_t20, zpk_n, zpk_z, zpk_s, k_lw, k_fl, k_cy3, k_cy2, k_cy1, k_cd2, k_cd1, k_w3, k_w20, k_w21, k_w22, k_w23, k_w1T, k_w1F, k_fi, k_fz1, k_fz0, k_fzi, k_fz, k_fv0, k_fv3, k_I, k_B0, k_B1, k_B2, k_B3, k_C, k_E, zenv, zup, ze0, n_add, n_mul, m_st, m_sa, m_ne, m_ss, mm_s, mm_f, mm_ne, mm_ss, mm_sf, Nat.zero_add, u_at, u_ne, if_true, if_false, ite_true, ite_false, reduceIte, and_self, and_true, true_and, or_true, true_or, or_false, false_or, or_self, and_false, false_and, Bool.not_true, Bool.not_false, decide_true, decide_false, ne_eq, n_eqT, n_eqF, n_ltT, n_ltF, n_leT, n_leF, n_z0, n_zF, n_o1, n_oF, n_p0, n_pF, n_lt0, n_ge0, zeq, zne, zlt, zle, zge, zgt, ziadd, zisub, zimul, ziand, zior, zixor, zishl, zishr, ziushr, zidiv, zirem, zmax, zmin, Bool.false_eq_true, not_true_eq_false, not_false_eq_true, Nat.reduceEqDiff, Nat.reduceAdd, Nat.reduceMul, Nat.reduceSub, k_XT, k_XF, i1, i2, i4]
        refine ⟨Or.inl ⟨rfl, hy4.2 ?_⟩, pl', f', i3, rfl⟩
        rw [Nat.sub_self]
        unfold FolO
        cases l.drop l.length <;> trivial
      · simp -implicitDefEqProofs (disch := omega) only [zA0_ap, zA1_ap, zA2_ap, zA3_ap, zA4_ap, zA5_ap, v_fi, v_fz, v_fv, w_k, v_l, v_bin, v_biq, v_ald, v_tb, w_al, w_fd, v_cond, v_call, v_pi, w_an, v_ai, v_aq, v_cmp, v_cm0, w_cb, v_nt, v_and, v_or, w_sk, w_bk, w_cn, w_rv, v_rt, v_sq, v_se, v_ex, v_as, v_az, v_ao, v_pf, v_pz, v_fo, v_if, v_sw, v_lw, v_fl, v_cy, v_cyd, w_lr, wl_some, k_sq0, k_sq1, k_sq2, k_sq3, k_se, k_ex, k_rt, k_l, k_b2, k_b1, k_q2, k_q1, k_ald, k_tb, k_pi, k_condT, k_condF, k_condK, k_call, k_ac, k_ai, k_aq, k_c2, k_c1, k_c0, k_nt, k_andT, k_andF, k_orT, k_orF, k_as2, k_as1, k_az2, k_az1, k_ao2, k_ao1, k_pf, k_pz, k_fo, k_ifT, k_ifF, k_br0, k_br1, k_br2, k_br3, k_s0, k_s1, k_t1, k_s4, k_t4, k_s20, k_t20, zpk_n, zpk_z, zpk_s, k_lw, k_fl, k_cy3, k_cy2, k_cy1, k_cd2, k_cd1, k_w3, k_w20, k_w21, k_w22, k_w23, k_w1T, k_w1F, k_fi, k_fz1, k_fz0, k_fzi, k_fz, k_fv0, k_fv3, k_I, k_B0, k_B1, k_B2, k_B3, k_C, k_E, zenv, zup, ze0, n_add, n_mul, m_st, m_sa, m_ne, m_ss, mm_s, mm_f, mm_ne, mm_ss, mm_sf, Nat.zero_add, u_at, u_ne, if_true, if_false, ite_true, ite_false, reduceIte, and_self, and_true, true_and, or_true, true_or, or_false, false_or, or_self, and_false, false_and, Bool.not_true, Bool.not_false, decide_true, decide_false, ne_eq, n_eqT, n_eqF, n_ltT, n_ltF, n_leT, n_leF, n_z0, n_zF, n_o1, n_oF, n_p0, n_pF, n_lt0, n_ge0, zeq, zne, zlt, zle, zge, zgt, ziadd, zisub, zimul, ziand, zior, zixor, zishl, zishr, ziushr, zidiv, zirem, zmax, zmin, Bool.false_eq_true, not_true_eq_false, not_false_eq_true, Nat.reduceEqDiff, Nat.reduceAdd, Nat.reduceMul, Nat.reduceSub, k_XT, k_XF, i1, i2, i4]
        exact ⟨Or.inr ⟨rfl, i5⟩, pl', f', i3, rfl⟩
    · have hy := y0N_len P N
      simp -implicitDefEqProofs (disch := omega) only [zA0_ap, zA1_ap, zA2_ap, zA3_ap, zA4_ap, zA5_ap, v_fi, v_fz, v_fv, w_k, v_l, v_bin, v_biq, v_ald, v_tb, w_al, w_fd, v_cond, v_call, v_pi, w_an, v_ai, v_aq, v_cmp, v_cm0, w_cb, v_nt, v_and, v_or, w_sk, w_bk, w_cn, w_rv, v_rt, v_sq, v_se, v_ex, v_as, v_az, v_ao, v_pf, v_pz, v_fo, v_if, v_sw, v_lw, v_fl, v_cy, v_cyd, w_lr, wl_some, k_sq0, k_sq1, k_sq2, k_sq3, k_se, k_ex, k_rt, k_l, k_b2, k_b1, k_q2, k_q1, k_ald, k_tb, k_pi, k_condT, k_condF, k_condK, k_call, k_ac, k_ai, k_aq, k_c2, k_c1, k_c0, k_nt, k_andT, k_andF, k_orT, k_orF, k_as2, k_as1, k_az2, k_az1, k_ao2, k_ao1, k_pf, k_pz, k_fo, k_ifT, k_ifF, k_br0, k_br1, k_br2, k_br3, k_s0, k_s1, k_t1, k_s4, k_t4, k_s20, k_t20, zpk_n, zpk_z, zpk_s, k_lw, k_fl, k_cy3, k_cy2, k_cy1, k_cd2, k_cd1, k_w3, k_w20, k_w21, k_w22, k_w23, k_w1T, k_w1F, k_fi, k_fz1, k_fz0, k_fzi, k_fz, k_fv0, k_fv3, k_I, k_B0, k_B1, k_B2, k_B3, k_C, k_E, zenv, zup, ze0, n_add, n_mul, m_st, m_sa, m_ne, m_ss, mm_s, mm_f, mm_ne, mm_ss, mm_sf, Nat.zero_add, u_at, u_ne, if_true, if_false, ite_true, ite_false, reduceIte, and_self, and_true, true_and, or_true, true_or, or_false, false_or, or_self, and_false, false_and, Bool.not_true, Bool.not_false, decide_true, decide_false, ne_eq, n_eqT, n_eqF, n_ltT, n_ltF, n_leT, n_leF, n_z0, n_zF, n_o1, n_oF, n_p0, n_pF, n_lt0, n_ge0, zeq, zne, zlt, zle, zge, zgt, ziadd, zisub, zimul, ziand, zior, zixor, zishl, zishr, ziushr, zidiv, zirem, zmax, zmin, Bool.false_eq_true, not_true_eq_false, not_false_eq_true, Nat.reduceEqDiff, Nat.reduceAdd, Nat.reduceMul, Nat.reduceSub, i1, i2]
      exact ⟨pl', f', i3, rfl, Or.inl ⟨_, i4, by omega, hy.2.1, hy.2.2, Iff.rfl⟩⟩
  · simp -implicitDefEqProofs (disch := omega) only [zA0_ap, zA1_ap, zA2_ap, zA3_ap, zA4_ap, zA5_ap, v_fi, v_fz, v_fv, w_k, v_l, v_bin, v_biq, v_ald, v_tb, w_al, w_fd, v_cond, v_call, v_pi, w_an, v_ai, v_aq, v_cmp, v_cm0, w_cb, v_nt, v_and, v_or, w_sk, w_bk, w_cn, w_rv, v_rt, v_sq, v_se, v_ex, v_as, v_az, v_ao, v_pf, v_pz, v_fo, v_if, v_sw, v_lw, v_fl, v_cy, v_cyd, w_lr, wl_some, k_sq0, k_sq1, k_sq2, k_sq3, k_se, k_ex, k_rt, k_l, k_b2, k_b1, k_q2, k_q1, k_ald, k_tb, k_pi, k_condT, k_condF, k_condK, k_call, k_ac, k_ai, k_aq, k_c2, k_c1, k_c0, k_nt, k_andT, k_andF, k_orT, k_orF, k_as2, k_as1, k_az2, k_az1, k_ao2, k_ao1, k_pf, k_pz, k_fo, k_ifT, k_ifF, k_br0, k_br1, k_br2, k_br3, k_s0, k_s1, k_t1, k_s4, k_t4, k_s20, k_t20, zpk_n, zpk_z, zpk_s, k_lw, k_fl, k_cy3, k_cy2, k_cy1, k_cd2, k_cd1, k_w3, k_w20, k_w21, k_w22, k_w23, k_w1T, k_w1F, k_fi, k_fz1, k_fz0, k_fzi, k_fz, k_fv0, k_fv3, k_I, k_B0, k_B1, k_B2, k_B3, k_C, k_E, zenv, zup, ze0, n_add, n_mul, m_st, m_sa, m_ne, m_ss, mm_s, mm_f, mm_ne, mm_ss, mm_sf, Nat.zero_add, u_at, u_ne, if_true, if_false, ite_true, ite_false, reduceIte, and_self, and_true, true_and, or_true, true_or, or_false, false_or, or_self, and_false, false_and, Bool.not_true, Bool.not_false, decide_true, decide_false, ne_eq, n_eqT, n_eqF, n_ltT, n_ltF, n_leT, n_leF, n_z0, n_zF, n_o1, n_oF, n_p0, n_pF, n_lt0, n_ge0, zeq, zne, zlt, zle, zge, zgt, ziadd, zisub, zimul, ziand, zior, zixor, zishl, zishr, ziushr, zidiv, zirem, zmax, zmin, Bool.false_eq_true, not_true_eq_false, not_false_eq_true, Nat.reduceEqDiff, Nat.reduceAdd, Nat.reduceMul, Nat.reduceSub]
    refine ⟨pl, _, ?_, rfl, ?_⟩
    · intro j h7 h8 h9
      rw [u_ne h9, u_ne h8, u_ne h7]
    · refine ⟨?_, ?_, ?_, fun i hi => absurd hi (Nat.not_lt_zero i), Nat.le_refl _⟩
      · rw [u_ne (by omega), u_ne (by omega), u_at rfl]
        rfl
      · rw [u_ne (by omega), u_at rfl]
        rfl
      · rw [u_at rfl]
        rfl
end MJD
