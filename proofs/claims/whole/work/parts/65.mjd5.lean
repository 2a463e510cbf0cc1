/-! THE MODEL JUDGES: THE SEARCH WHOLE -/
section MJ5
variable {b q J m k a all : Nat} {μ μ0 ν m' : zM} {c s f pl tr : Nat → Int32} {Q : Nat → Int32 → zE → zM → Prop} {n d dp sl : Nat} {y : zY} {l : List Nat} {sv : Nat → zY → Bool × zY} {ρ : zE}
def memA (ν : zM) (m : Nat) (f : Nat → Int32) (m' : zM) : Prop := ∃ tr pl' f', SmF f' f ∧ m' = zmj (zsa ν (m + 5) tr) m pl' f'
def FailL (ν : zM) (m all : Nat) (f : Nat → Int32) (Q : Nat → Int32 → zE → zM → Prop) (l : List Nat) (d fuel : Nat) : Prop := (l = [] → ∀ ρ m', memA ν m f m' → Q 3 (nI 0) ρ m') ∧ ∀ l' x, l = l' ++ [x] → ∀ ρ m', (∀ d', nI d &&& (nI (2 ^ x) ^^^ (-1)) = nI d' → StA ν m all f l' d' (x + 1) ρ m') → ∀ fu, fuel ≤ fu → wp (zwh fu (zcb true) (bodyA m) zsk) ρ m' Q
abbrev rnA (ν : zM) (m : Nat) (s : Nat → Int32) (l : List Nat) : zY := runO (svN ν m s) l (y0N ν m (ν (m + 2) 915).toInt.toNat)
abbrev BFA (s : Nat → Int32) : Nat → Int32 := fun k => s (81 + 2 * k)
theorem g_search (PP : PN ν m) (P : PC ν m) (hs : ν (m + 3) = s) (hall : all ≤ 6) : ∀ (n : Nat) (l : List Nat) (d : Nat) (ρ : zE) (m' : zM) (fu0 fuel : Nat), l.length + n = all → d < 512 → cdO (isCN ν m) d 9 = n → FolO (svN ν m s) l l.length (y0N ν m (ν (m + 2) 915).toInt.toNat) → StA ν m all f l d 0 ρ m' → (CmpO (isCN ν m) (BFA s) (svN ν m s) n d (rnA ν m s l) → ∀ ρ m', memA ν m f m' → Q 3 (nI 1) ρ m') → (¬ CmpO (isCN ν m) (BFA s) (svN ν m s) n d (rnA ν m s l) → FailL ν m all f Q l d fu0) → WO n + fu0 ≤ fuel → wp (zwh fuel (zcb true) (bodyA m) zsk) ρ m' Q := by
  intro n
  induction n with
  | zero =>
    intro l d ρ m' fu0 fuel hl hd hc hF S hy hn hfu
    obtain ⟨F, rfl⟩ : ∃ F, fuel = F + 1 := ⟨fuel - 1, by unfold WO at hfu; omega⟩
    obtain ⟨s1, s2, s3, s4, tr, pl, f1, s5, s6, rfl⟩ := S
    rw [w_wh]
    unfold bodyA
    simp -implicitDefEqProofs (disch := omega) only [zA0_ap, zA1_ap, zA2_ap, zA3_ap, zA4_ap, zA5_ap, v_fi, v_fz, v_fv, w_k, v_l, v_bin, v_biq, v_ald, v_tb, w_al, w_fd, v_cond, v_call, v_pi, w_an, v_ai, v_aq, v_cmp, v_cm0, w_cb, v_nt, v_and, v_or, w_sk, w_bk, w_cn, w_rv, v_rt, v_sq, v_se, v_ex, v_as, v_az, v_ao, v_pf, v_pz, v_fo, v_if, v_sw, v_lw, v_fl, v_cy, v_cyd, w_lr, wl_some, k_sq0, k_sq1, k_sq2, k_sq3, k_se, k_ex, k_rt, k_l, k_b2, k_b1, k_q2, k_q1, k_ald, k_tb, k_pi, k_condT, k_condF, k_condK, k_call, k_ac, k_ai, k_aq, k_c2, k_c1, k_c0, k_nt, k_andT, k_andF, k_orT, k_orF, k_as2, k_as1, k_az2, k_az1, k_ao2, k_ao1, k_pf, k_pz, k_fo, k_ifT, k_ifF, k_br0, k_br1, k_br2, k_br3, k_s0, k_s1, k_t1, k_s4, k_t4, k_s20, k_t20, zpk_n, zpk_z, zpk_s, k_lw, k_fl, k_cy3, k_cy2, k_cy1, k_cd2, k_cd1, k_w3, k_w20, k_w21, k_w22, k_w23, k_w1T, k_w1F, k_fi, k_fz1, k_fz0, k_fzi, k_fz, k_fv0, k_fv3, k_I, k_B0, k_B1, k_B2, k_B3, k_C, k_E, zenv, zup, ze0, n_add, n_mul, m_st, m_sa, m_ne, m_ss, mm_s, mm_f, mm_ne, mm_ss, mm_sf, Nat.zero_add, u_at, u_ne, if_true, if_false, ite_true, ite_false, reduceIte, and_self, and_true, true_and, or_true, true_or, or_false, false_or, or_self, and_false, false_and, Bool.not_true, Bool.not_false, decide_true, decide_false, ne_eq, n_eqT, n_eqF, n_ltT, n_ltF, n_leT, n_leF, n_z0, n_zF, n_o1, n_oF, n_p0, n_pF, n_lt0, n_ge0, zeq, zne, zlt, zle, zge, zgt, ziadd, zisub, zimul, ziand, zior, zixor, zishl, zishr, ziushr, zidiv, zirem, zmax, zmin, Bool.false_eq_true, not_true_eq_false, not_false_eq_true, Nat.reduceEqDiff, Nat.reduceAdd, Nat.reduceMul, Nat.reduceSub, s1, s2, show l.length = all by omega]
    exact hy trivial _ _ ⟨tr, pl, f1, s5, rfl⟩
  | succ n ih =>
    have T : ∀ (g a : Nat) (l : List Nat) (d : Nat) (ρ : zE) (m' : zM) (fu0 fuel : Nat), 9 - a < g → a ≤ 9 → l.length + (n + 1) = all → d < 512 → cdO (isCN ν m) d 9 = n + 1 → FolO (svN ν m s) l l.length (y0N ν m (ν (m + 2) 915).toInt.toNat) → StA ν m all f l d a ρ m' → (CmpF (isCN ν m) (BFA s) (svN ν m s) a n d (rnA ν m s l) → ∀ ρ m', memA ν m f m' → Q 3 (nI 1) ρ m') → (¬ CmpF (isCN ν m) (BFA s) (svN ν m s) a n d (rnA ν m s l) → FailL ν m all f Q l d fu0) → (cdO (isCN ν m) d 9 - cdO (isCN ν m) d a) * (1 + WO n) + 1 + fu0 ≤ fuel → wp (zwh fuel (zcb true) (bodyA m) zsk) ρ m' Q := by
      intro g
      induction g with
      | zero => intro a l d ρ m' fu0 fuel h; omega
      | succ g ihg =>
        intro a l d ρ m' fu0 fuel hg ha hl hd hc hF S hy hn hfu
        obtain ⟨F, rfl⟩ : ∃ F, fuel = F + 1 := ⟨fuel - 1, by omega⟩
        rw [w_wh, w_cb, if_pos rfl]
        refine wp_mono (g_round PP P hs hd ha hall (by omega) hF S) ?_
        rintro t v ρ2 m2 (⟨i, hi, hi9, hok, hbel, rfl, S2⟩ | ⟨hnone, h⟩)
        · rw [if_neg (by decide), if_neg (by decide), w_sk]
          refine ⟨rfl, ?_⟩
          have hcd := cd_or hok.1.1 hok.1.2.1 9
          rw [if_pos hi9, hc] at hcd
          have hstep : cdO (isCN ν m) d (i + 1) = cdO (isCN ν m) d i + 1 := by
            show cdO (isCN ν m) d i + _ = _
            rw [if_pos ⟨hok.1.1, hok.1.2.1⟩]
          have hle1 := cd_le (isC := isCN ν m) (d := d) (show a ≤ i from hi)
          have hle2 := cd_le (isC := isCN ν m) (d := d) (show i + 1 ≤ 9 by omega)
          have hmul : ((cdO (isCN ν m) d 9 - cdO (isCN ν m) d (i + 1)) + 1) * (1 + WO n) ≤ (cdO (isCN ν m) d 9 - cdO (isCN ν m) d a) * (1 + WO n) := Nat.mul_le_mul_right _ (by omega)
          rw [Nat.add_mul, Nat.one_mul] at hmul
          refine ih (l ++ [i]) (d ||| 2 ^ i) ρ2 m2 ((cdO (isCN ν m) d 9 - cdO (isCN ν m) d (i + 1)) * (1 + WO n) + 1 + fu0) F (by rw [List.length_append, List.length_singleton]; omega) ?_ (by omega) ?_ S2 ?_ ?_ (by omega)
          · have : 2 ^ i < 2 ^ 9 := Nat.pow_lt_pow_right (by decide) hi9
            exact Nat.or_lt_two_pow (n := 9) hd this
          · rw [List.length_append, List.length_singleton, FolO_app]
            exact ⟨hF, hok.2⟩
          · intro h
            unfold rnA at h
            rw [runO_app] at h
            exact hy ⟨i, hi, hi9, hok.1, hok.2, h⟩
          · intro h
            unfold rnA at h
            rw [runO_app] at h
            refine ⟨fun e => by simp at e, fun l' x e ρ3 m3 hS fu hfu3 => ?_⟩
            obtain ⟨e1, e2⟩ := List.append_inj' e rfl
            have e2 : i = x := by injection e2
            subst e1 e2
            refine ihg (i + 1) l d ρ3 m3 fu0 fu (by omega) (by omega) hl hd hc hF (hS d (un_I hd hi9 hok.1.2.1)) ?_ ?_ hfu3
            · rintro ⟨t, h1, h2⟩
              exact hy ⟨t, by omega, h2⟩
            · intro h2
              refine hn fun ⟨t, h3, h4, h5, h6, h7⟩ => ?_
              by_cases e3 : t = i
              · subst e3
                exact h h7
              · by_cases e4 : t < i
                · exact hbel t h3 e4 ⟨h5, h6⟩
                · exact h2 ⟨t, by omega, h4, h5, h6, h7⟩
        · have hno := hn fun ⟨t, h3, h4, h5, h6, h7⟩ => hnone t h3 h4 ⟨h5, h6⟩
          rcases h with ⟨rfl, rfl, rfl, h⟩ | ⟨l', x, rfl, rfl, h⟩
          · rw [if_neg (by decide), if_pos rfl]
            exact hno.1 rfl _ _ h
          · rw [if_neg (by decide), if_neg (by decide), w_sk]
            exact ⟨rfl, hno.2 l' x rfl _ _ h F (by omega)⟩
    intro l d ρ m' fu0 fuel hl hd hc hF S hy hn hfu
    refine T 10 0 l d ρ m' fu0 fuel (by omega) (by omega) hl hd hc hF S ?_ ?_ ?_
    · rintro ⟨t, h1, h2⟩
      exact hy ⟨t, h2⟩
    · intro h
      exact hn fun ⟨t, h2⟩ => h ⟨t, Nat.zero_le _, h2⟩
    · rw [hc]
      unfold WO at hfu
      show (n + 1 - 0) * (1 + WO n) + 1 + fu0 ≤ fuel
      omega
end MJ5
