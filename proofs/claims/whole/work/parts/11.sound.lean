/-! THE PIECES HOLD OF THE MACHINE -/
section ZSND
variable {w : zN} {S : zS} {κ : List (Nat × Nat)} {d pc : Nat}
theorem ze_k {pc' : Nat} {v : Int32} (h : zPu S pc pc' v) : zEv w S κ d pc pc' (zk v) := by
  intro x hO ρ μ v' μ' hf H ls lo st hL hH hc k
  cases hf
  exact h w x hO H ls lo st (k H lo hH)
theorem ze_ln {i : Nat} {j : Fin 4} (dd : decode S.1 pc = .ok (.iload_n j, 1)) (hi : (j : Nat) = i) : zEv w S κ d pc (pc + 1) (zl i) := by
  intro x hO ρ μ v' μ' hf H ls lo st hL hH hc k
  unfold zl at hf
  cases hv : ρ i with
  | none => rw [hv] at hf; cases hf
  | some v =>
    rw [hv] at hf
    cases hf
    have hl := hL.2.2.1 i _ hv
    have k := k H lo hH
    obtain ⟨p, l, e, s, m, args, below, meth, c, Q⟩ := x
    exact lv_iload_n hO.1 hO.2.1 dd hi hl k
theorem ze_l {i : Nat} (dd : decode S.1 pc = .ok (.iload i, 2)) : zEv w S κ d pc (pc + 2) (zl i) := by
  intro x hO ρ μ v' μ' hf H ls lo st hL hH hc k
  unfold zl at hf
  cases hv : ρ i with
  | none => rw [hv] at hf; cases hf
  | some v =>
    rw [hv] at hf
    cases hf
    have hl := hL.2.2.1 i _ hv
    have k := k H lo hH
    obtain ⟨p, l, e, s, m, args, below, meth, c, Q⟩ := x
    exact lv_iload hO.1 hO.2.1 dd hl k
theorem ze_bin (p1 p2 : Nat) {p3 : Nat} {a b : zX} {o : Int32 → Int32 → Int32} (h1 : zEv w S κ d pc p1 a) (h2 : zEv w S κ (d + 1) p1 p2 b) (h3 : zOp S p2 p3 o) : zEv w S κ d pc p3 (zbin o a b) := by
  intro x hO ρ μ v' μ' hf H ls lo st hL hH hc k
  unfold zbin at hf
  split at hf
  · cases hf
  · rename_i v1 μ1 e1
    split at hf
    · cases hf
    · rename_i v2 μ2 e2
      cases hf
      exact h1 x hO ρ μ _ _ e1 H ls lo st hL hH hc fun H1 lo1 hH1 => h2 x hO ρ _ _ _ e2 H1 ls lo1 _ hL hH1 (by rw [zc_int]; omega) fun H2 lo2 hH2 => h3 w x hO _ _ H2 ls lo2 st (k H2 lo2 hH2)
theorem ze_bim (p1 p2 : Nat) {p3 : Nat} {a b : zX} {o : Int32 → Int32 → Int32} (hd : d ≤ 20) (h1 : zEv w S κ d pc p1 a) (h2 : zEv w S κ (d + 1) p1 p2 b) (h3 : zOm S p2 p3 o) : zEv w S κ d pc p3 (zbin o a b) := by
  intro x hO ρ μ v' μ' hf H ls lo st hL hH hc k
  unfold zbin at hf
  split at hf
  · cases hf
  · rename_i v1 μ1 e1
    split at hf
    · cases hf
    · rename_i v2 μ2 e2
      cases hf
      exact h1 x hO ρ μ _ _ e1 H ls lo st hL hH hc fun H1 lo1 hH1 => h2 x hO ρ _ _ _ e2 H1 ls lo1 _ hL hH1 (by rw [zc_int]; omega) fun H2 lo2 hH2 => h3 w x hO _ _ H2 ls lo2 st hL.1 (by omega) (k H2 lo2 hH2)
theorem ze_biq (p1 p2 : Nat) {a b : zX} {o : Int32 → Int32 → Int32} (h1 : zEv w S κ d pc p1 a) (h2 : zEv w S κ (d + 1) p1 p2 b) (h3 : zOq S p2 o) : zEv w S κ d pc (p2 + 1) (zbiq o a b) := by
  intro x hO ρ μ v' μ' hf H ls lo st hL hH hc k
  unfold zbiq at hf
  split at hf
  · cases hf
  · rename_i v1 μ1 e1
    split at hf
    · cases hf
    · rename_i v2 μ2 e2
      split at hf
      · cases hf
      · rename_i hne
        cases hf
        exact h1 x hO ρ μ _ _ e1 H ls lo st hL hH hc fun H1 lo1 hH1 => h2 x hO ρ _ _ _ e2 H1 ls lo1 _ hL hH1 (by rw [zc_int]; omega) fun H2 lo2 hH2 => h3 w x hO _ _ hne H2 ls lo2 st (k H2 lo2 hH2)
/-! references -/
theorem zr_ln {i n : Nat} {j : Fin 4} (dd : decode S.1 pc = .ok (.aload_n j, 1)) (hi : (j : Nat) = i) (hk : (i, n) ∈ κ) : zRv w S κ pc (pc + 1) n := by
  intro x hO ρ μ H ls lo st hL hH k
  have hl := hL.2.2.2 _ hk
  obtain ⟨p, l, e, s, m, args, below, meth, c, Q⟩ := x
  exact lv_aload_n hO.1 hO.2.1 dd hi hl k
theorem zr_l {i n : Nat} (dd : decode S.1 pc = .ok (.aload i, 2)) (hk : (i, n) ∈ κ) : zRv w S κ pc (pc + 2) n := by
  intro x hO ρ μ H ls lo st hL hH k
  have hl := hL.2.2.2 _ hk
  obtain ⟨p, l, e, s, m, args, below, meth, c, Q⟩ := x
  exact lv_aload hO.1 hO.2.1 dd hl k
/-- a field's instruction: reads slot k of an object of kind ci -/
def zGf (S : zS) (pc ci k : Nat) : Prop := ∀ (w : zN) (x : zK), zOk w S x → ∀ (μ : zM) (n : Nat) (fl : List (Option (Option Nat))) (v : Value) (H : Heap) (ls : Array Slot) (lo : List Loc) (st : List Value), zH w x μ H lo → n ∈ znm w → zsh w n = (2, ci, fl) → (zfs (zad w) fl (μ n))[k]? = some v → zW S x H lo (pc + 3) ls (v :: st) → zW S x H lo pc ls (.ref (zad w n) :: st)
theorem zce_2 {w : zN} {n ci : Nat} {fl : List (Option (Option Nat))} {v : Nat → Int32} (h : zsh w n = (2, ci, fl)) : zce w n v = .inr (ci, zfs (zad w) fl v) := by unfold zce; rw [h]; rfl
theorem zce_0 {w : zN} {n k : Nat} {fl : List (Option (Option Nat))} {v : Nat → Int32} (h : zsh w n = (0, k, fl)) : zce w n v = .inl (w.2.2.2.2.1, k, .inl v) := by unfold zce; rw [h]; rfl
theorem zce_1 {w : zN} {n k : Nat} {fl : List (Option (Option Nat))} {v : Nat → Int32} (h : zsh w n = (1, k, fl)) : zce w n v = .inl (w.2.2.2.2.2.1, k, .inl v) := by unfold zce; rw [h]; rfl
theorem zce_3 {w : zN} {n k : Nat} {fl : List (Option (Option Nat))} {v : Nat → Int32} (h : zsh w n = (3, k, fl)) : zce w n v = .inl (w.2.2.2.2.2.2, k, .inr (.inr (.inr (.inr (zqs (zad w) fl))))) := by unfold zce; rw [h]; rfl
theorem zws_at {w : zN} {μ : zM} {n : Nat} (h : n ∈ znm w) : ∃ q : Nat, (znm w)[q]? = some n ∧ (zws w μ)[q]? = some (zad w n, zce w n (μ n)) := by
  obtain ⟨q, hq⟩ := List.getElem?_of_mem h
  exact ⟨q, hq, zws_get hq⟩
theorem zws_h {w : zN} {x : zK} {μ : zM} {H : Heap} {lo : List Loc} {n : Nat} (_ : zH w x μ H lo) (h : n ∈ znm w) : ∃ q : Nat, (znm w)[q]? = some n ∧ (zws w μ)[q]? = some (zad w n, zce w n (μ n)) := zws_at h
theorem zgf_own {C : String} {T : u_T} {N ci k i : Nat} (dd : decode S.1 pc = .ok (.getfield i, 3)) (hc : zcl[ci]? = some (C, T, N)) (hin : ∀ q ∈ u_ws C T N, q ∈ S.2.2.2.1) (hk : k < N) (hw : Cond.fieldLink S.2.2.1 i (T k).1 (T k).2.1 (T k).2.2.1 ∈ S.2.2.2.1) : zGf S pc ci k := by
  intro w x hO μ n fl v H ls lo st hH hn hs hv kk
  obtain ⟨q, h1, h2⟩ := zws_h hH hn
  rw [zce_2 hs] at h2
  obtain ⟨p, l, e, s, m, args, below, meth, c, Q⟩ := x
  obtain ⟨hx, hb, hml, hown, hts, hK, -⟩ := hO
  exact va_get hx hb hts hin hown hK hH.1 q h2 hc k hk (hts _ hw) (fun _ h => h) hv dd kk
theorem zgf_nest {C host : String} {T : u_T} {N ci k i : Nat} (dd : decode S.1 pc = .ok (.getfield i, 3)) (hc : zcl[ci]? = some (C, T, N)) (hin : ∀ q ∈ u_ws C T N, q ∈ S.2.2.2.1) (hk : k < N) (hw : (S.2.2.1, i, (T k).1, (T k).2.1, (T k).2.2.1, host) ∈ zNW) : zGf S pc ci k := by
  intro w x hO μ n fl v H ls lo st hH hn hs hv kk
  obtain ⟨q, h1, h2⟩ := zws_h hH hn
  rw [zce_2 hs] at h2
  obtain ⟨p, l, e, s, m, args, below, meth, c, Q⟩ := x
  obtain ⟨hx, hb, hml, hown, hts, hK, -, -, hG⟩ := hO
  exact va_getN hx hb hts hin hown hK hH.1 q h2 hc k hk (va_Nw.use rfl (hG.2.1 _ hw)) (fun _ h => h) hv dd kk
theorem zfs_get {ad : Nat → Nat} {fl : List (Option (Option Nat))} {v : Nat → Int32} {k : Nat} {f : Option (Option Nat)} (h : fl[k]? = some f) : (zfs ad fl v)[k]? = some (zfv ad v k f) := by
  unfold zfs
  rw [List.getElem?_mapIdx, h]
  rfl
/-- a field that refers: its name -/
theorem zr_get (p1 : Nat) {n ci k n' : Nat} {fl : List (Option (Option Nat))} (h1 : zRv w S κ pc p1 n) (h2 : zGf S p1 ci k) (hn : n ∈ znm w) (hs : zsh w n = (2, ci, fl)) (hf : fl[k]? = some (some (some n'))) : zRv w S κ pc (p1 + 3) n' := by
  intro x hO ρ μ H ls lo st hL hH kk
  exact h1 x hO ρ μ H ls lo st hL hH (h2 w x hO μ n fl _ H ls lo st hH hn hs (zfs_get hf) kk)
theorem ze_fd (p1 : Nat) {n ci k : Nat} {fl : List (Option (Option Nat))} (h1 : zRv w S κ pc p1 n) (h2 : zGf S p1 ci k) (hn : n ∈ znm w) (hs : zsh w n = (2, ci, fl)) (hf : fl[k]? = some none) : zEv w S κ d pc (p1 + 3) (zfd n k) := by
  intro x hO ρ μ v' μ' hv H ls lo st hL hH hc kk
  cases hv
  exact h1 x hO ρ μ H ls lo st hL hH (h2 w x hO μ n fl _ H ls lo st hH hn hs (zfs_get hf) (kk H lo hH))
theorem ze_ald (p1 p2 : Nat) {n len : Nat} {fl : List (Option (Option Nat))} {a : zX} (h1 : zRv w S κ pc p1 n) (h2 : zEv w S κ (d + 1) p1 p2 a) (hn : n ∈ znm w) (hs : zsh w n = (0, len, fl)) (dd : decode S.1 p2 = .ok (.iaload, 1)) : zEv w S κ d pc (p2 + 1) (zald n len a) := by
  intro x hO ρ μ v' μ' hf H ls lo st hL hH hc k
  unfold zald at hf
  split at hf
  · cases hf
  · rename_i v1 μ1 e1
    split at hf
    · rename_i hin
      cases hf
      refine h1 x hO ρ μ H ls lo st hL hH (h2 x hO ρ μ _ _ e1 H ls lo _ hL hH (by rw [zc_ref]; omega) fun H1 lo1 hH1 => ?_)
      obtain ⟨q, g1, g2⟩ := zws_h hH1 hn
      rw [zce_0 hs] at g2
      have kk := k H1 lo1 hH1
      obtain ⟨p, l, e, s, m, args, below, meth, c, Q⟩ := x
      obtain ⟨hx, hb, hml, hown, hts, hK, -⟩ := hO
      exact va_iald hx hb hK hH1.1 q 0 g2 rfl (zib_in hin) dd kk
    · cases hf
theorem ze_alz (p1 p2 : Nat) {n len : Nat} {fl : List (Option (Option Nat))} {a : zX} (h1 : zRv w S κ pc p1 n) (h2 : zEv w S κ (d + 1) p1 p2 a) (hn : n ∈ znm w) (hs : zsh w n = (1, len, fl)) (dd : decode S.1 p2 = .ok (.baload, 1)) : zEv w S κ d pc (p2 + 1) (zald n len a) := by
  intro x hO ρ μ v' μ' hf H ls lo st hL hH hc k
  unfold zald at hf
  split at hf
  · cases hf
  · rename_i v1 μ1 e1
    split at hf
    · rename_i hin
      cases hf
      refine h1 x hO ρ μ H ls lo st hL hH (h2 x hO ρ μ _ _ e1 H ls lo _ hL hH (by rw [zc_ref]; omega) fun H1 lo1 hH1 => ?_)
      obtain ⟨q, g1, g2⟩ := zws_h hH1 hn
      rw [zce_1 hs] at g2
      have kk := k H1 lo1 hH1
      obtain ⟨p, l, e, s, m, args, below, meth, c, Q⟩ := x
      obtain ⟨hx, hb, hml, hown, hts, hK, -⟩ := hO
      exact va_zald hx hb hK hH1.1 q 1 g2 rfl (zib_in hin) dd kk
    · cases hf
/-! conditions -/
theorem zc_cmp (p1 p2 : Nat) {T F t : Nat} {a b : zX} {o : Int32 → Int32 → Bool} (j : Bool) (h1 : zEv w S κ d pc p1 a) (h2 : zEv w S κ (d + 1) p1 p2 b) (h3 : zJ2 S p2 t j o) (hT : zRch S.1 3 (if j = true then t else p2 + 3) T) (hF : zRch S.1 3 (if j = true then p2 + 3 else t) F) : zCj w S κ d pc T F (zcmp o a b) := by
  intro x hO ρ μ v' μ' hf H ls lo st hL hH hc k1 k2
  unfold zcmp at hf
  split at hf
  · cases hf
  · rename_i v1 μ1 e1
    split at hf
    · cases hf
    · rename_i v2 μ2 e2
      cases hf
      refine h1 x hO ρ μ _ _ e1 H ls lo st hL hH hc fun H1 lo1 hH1 => h2 x hO ρ _ _ _ e2 H1 ls lo1 _ hL hH1 (by rw [zc_int]; omega) fun H2 lo2 hH2 => h3 w x hO _ _ H2 ls lo2 st (fun e => ?_) (fun e => ?_)
      · cases j with
        | true => exact zW_r hO hT (k1 H2 lo2 hH2 e)
        | false => exact zW_r hO hF (k2 H2 lo2 hH2 e)
      · cases j with
        | true => exact zW_r hO hF (k2 H2 lo2 hH2 e)
        | false => exact zW_r hO hT (k1 H2 lo2 hH2 e)
theorem zc_cm0 (p1 : Nat) {T F t : Nat} {a : zX} {o : Int32 → Bool} (j : Bool) (h1 : zEv w S κ d pc p1 a) (h3 : zJ1 S p1 t j o) (hT : zRch S.1 3 (if j = true then t else p1 + 3) T) (hF : zRch S.1 3 (if j = true then p1 + 3 else t) F) : zCj w S κ d pc T F (zcm0 o a) := by
  intro x hO ρ μ v' μ' hf H ls lo st hL hH hc k1 k2
  unfold zcm0 at hf
  split at hf
  · cases hf
  · rename_i v1 μ1 e1
    cases hf
    refine h1 x hO ρ μ _ _ e1 H ls lo st hL hH hc fun H1 lo1 hH1 => h3 w x hO _ H1 ls lo1 st (fun e => ?_) (fun e => ?_)
    · cases j with
      | true => exact zW_r hO hT (k1 H1 lo1 hH1 e)
      | false => exact zW_r hO hF (k2 H1 lo1 hH1 e)
    · cases j with
      | true => exact zW_r hO hF (k2 H1 lo1 hH1 e)
      | false => exact zW_r hO hT (k1 H1 lo1 hH1 e)
theorem zc_not {T F : Nat} {c : zC} (h : zCj w S κ d pc F T c) : zCj w S κ d pc T F (znt c) := by
  intro x hO ρ μ v' μ' hf H ls lo st hL hH hc k1 k2
  unfold znt at hf
  split at hf
  · cases hf
  · rename_i b μ1 e1
    cases hf
    exact h x hO ρ μ _ _ e1 H ls lo st hL hH hc (fun H1 lo1 hH1 e => k2 H1 lo1 hH1 (by rw [e]; rfl)) (fun H1 lo1 hH1 e => k1 H1 lo1 hH1 (by rw [e]; rfl))
theorem zc_and (p1 : Nat) {T F : Nat} {a b : zC} (h1 : zCj w S κ d pc p1 F a) (h2 : zCj w S κ d p1 T F b) : zCj w S κ d pc T F (zand a b) := by
  intro x hO ρ μ v' μ' hf H ls lo st hL hH hc k1 k2
  unfold zand at hf
  split at hf
  · cases hf
  · rename_i μ1 e1
    exact h1 x hO ρ μ true μ1 e1 H ls lo st hL hH hc (fun H1 lo1 hH1 _ => h2 x hO ρ μ1 v' μ' hf H1 ls lo1 st hL hH1 hc k1 k2) (fun H1 lo1 hH1 e => by cases e)
  · rename_i μ1 e1
    cases hf
    exact h1 x hO ρ μ false _ e1 H ls lo st hL hH hc (fun H1 lo1 hH1 e => by cases e) (fun H1 lo1 hH1 _ => k2 H1 lo1 hH1 rfl)
theorem zc_or (p1 : Nat) {T F : Nat} {a b : zC} (h1 : zCj w S κ d pc T p1 a) (h2 : zCj w S κ d p1 T F b) : zCj w S κ d pc T F (zor a b) := by
  intro x hO ρ μ v' μ' hf H ls lo st hL hH hc k1 k2
  unfold zor at hf
  split at hf
  · cases hf
  · rename_i μ1 e1
    cases hf
    exact h1 x hO ρ μ true _ e1 H ls lo st hL hH hc (fun H1 lo1 hH1 _ => k1 H1 lo1 hH1 rfl) (fun H1 lo1 hH1 e => by cases e)
  · rename_i μ1 e1
    exact h1 x hO ρ μ false μ1 e1 H ls lo st hL hH hc (fun H1 lo1 hH1 e => by cases e) (fun H1 lo1 hH1 _ => h2 x hO ρ μ1 v' μ' hf H1 ls lo1 st hL hH1 hc k1 k2)
/-- a condition that is always so, and costs nothing -/
theorem zc_t {T F : Nat} (hT : zRch S.1 3 pc T) : zCj w S κ d pc T F (zcb true) := by
  intro x hO ρ μ v' μ' hf H ls lo st hL hH hc k1 k2
  cases hf
  exact zW_r hO hT (k1 H lo hH rfl)
theorem ze_cond (p1 p2 p3 p5 : Nat) {p4 : Nat} {c : zC} {a b : zX} (h1 : zCj w S κ d pc p1 p3 c) (h2 : zEv w S κ d p1 p2 a) (hg : zRch S.1 3 p2 p4) (h3 : zEv w S κ d p3 p5 b) (hg2 : zRch S.1 3 p5 p4) : zEv w S κ d pc p4 (zcond c a b) := by
  intro x hO ρ μ v' μ' hf H ls lo st hL hH hc k
  unfold zcond at hf
  split at hf
  · cases hf
  · rename_i μ1 e1
    exact h1 x hO ρ μ true μ1 e1 H ls lo st hL hH hc (fun H1 lo1 hH1 _ => h2 x hO ρ μ1 v' μ' hf H1 ls lo1 st hL hH1 hc fun H2 lo2 hH2 => zW_r hO hg (k H2 lo2 hH2)) (fun H1 lo1 hH1 e => by cases e)
  · rename_i μ1 e1
    exact h1 x hO ρ μ false μ1 e1 H ls lo st hL hH hc (fun H1 lo1 hH1 e => by cases e) (fun H1 lo1 hH1 _ => h3 x hO ρ μ1 v' μ' hf H1 ls lo1 st hL hH1 hc fun H2 lo2 hH2 => zW_r hO hg2 (k H2 lo2 hH2))
end ZSND
