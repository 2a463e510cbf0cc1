/-! THE LAW: its loop -/
section LAWL
variable {p : Program} {e : Jvm.Env} {s : State} {m : MethodId} {below : List Frame} {meth : Method} {c : Code} {b L n : Nat} {xs : Nat → Int32} {ad : Nat → Nat} {D : va_G} {cI cZ cA : ClassId} {h : Bool} {σ : zM} {H : Heap} {cells slots : Nat} {Q : State → Prop} {ρ : zE} {ls : Array Slot} {lo : List Loc}
/-- addresses that are new, and apart -/
def lA (s : State) (h : Bool) (ad : Nat → Nat) : Prop := (∀ a ∈ lnC h ++ lnM, s.heap.size ≤ ad a) ∧ ∀ a ∈ lnC h ++ lnM, ∀ b ∈ lnC h ++ lnM, ad a = ad b → a = b
theorem lA_F {fl : List (Option (Option Nat))} (hA : lA s h ad) : ∀ q, zFr (lw h L fl ad D cI cZ cA) q → s.heap.size ≤ q := by
  rintro q ⟨n, h1, h2⟩
  rw [← h2]
  exact hA.1 n h1
theorem lw_O (l : Launch) (C0 : lw_At p s m meth c b L xs) (hK : va_K D zcl [(cI, .int), (cZ, .boolean), (cA, .array .int)] s) (hA : lA s h ad) (h69 : ad 69 = b) (hc : cells ≤ 600000) (hs : slots ≤ 7302250) : zOk (lw h L (lfl xs L) ad D cI cZ cA) lS (p, l, e, s, m, #[Value.ref b], below, meth, c, Q, cells, slots) := by
  obtain ⟨hx, hb, hr, hml, hown, hts, hX, hbl, hlocks, hgv⟩ := C0
  refine ⟨hx, hb, hml, hown, law_z hts, hK, ⟨hlocks, hc, hs⟩, lw_nd, law_G hts hgv (lA_F hA) fun n L' fl' hn => ?_⟩
  have h9 : n = 69 := Classical.byContradiction fun z => lsh_9 (h := h) (L := L) (fl := lfl xs L) z (by have hn : (lshl h L (lfl xs L)).getD n (0, 0, []) = (9, L', fl') := hn; rw [hn])
  subst h9
  have e9 : ((9, L, lfl xs L) : zSh) = (9, L', fl') := hn
  cases e9
  show va_X (ad 69) L (zsv (lfl xs L)) s s.heap ∧ ad 69 < s.heap.size
  rw [h69]
  obtain ⟨scr, a1, a2, a3, a4, a5⟩ := hX
  exact ⟨⟨scr, a1, a2, a3, a4, fun j hj => by rw [lfl_v hj]; exact a5 j hj⟩, hbl⟩
/-- a world's cells, and all else as it was at the start -/
def lwH (w : zN) (s : State) (σ : zM) (H : Heap) : Prop := va_P (zD w) zcl (zws w σ) H ∧ s.heap.size ≤ H.size ∧ ∀ q : Nat, q < s.heap.size → H[q]? = s.heap[q]?
theorem lA_D {fl : List (Option (Option Nat))} (hA : lA s h ad) : va_D (zFr (lw h L fl ad D cI cZ cA)) (zws (lw h L fl ad D cI cZ cA) σ) := by
  refine ⟨fun i j p q hi hj e => ?_, fun k q hk => ?_⟩
  · obtain ⟨a, a1, rfl⟩ := zws_mem hi
    obtain ⟨b, b1, rfl⟩ := zws_mem hj
    have := hA.2 a (List.mem_of_getElem? a1) b (List.mem_of_getElem? b1) e
    subst this
    exact (List.getElem?_inj (List.getElem?_eq_some_iff.mp a1).1 lw_nd).mp (a1.trans b1.symm)
  · obtain ⟨a, a1, rfl⟩ := zws_mem hk
    exact ⟨a, List.mem_of_getElem? a1, rfl⟩
theorem lwH_in {l : Launch} {args : Array Value} {fl : List (Option (Option Nat))} {X : (State → Prop) × Nat × Nat} (hA : lA s h ad) (g : lwH (lw h L fl ad D cI cZ cA) s σ H) : zH (lw h L fl ad D cI cZ cA) (p, l, e, s, m, args, below, meth, c, X) σ H [] := ⟨g.1, lA_D hA, g.2.1, fun q h1 _ => g.2.2 q h1, fun _ h => absurd h List.not_mem_nil⟩
theorem lwH_out {l : Launch} {args : Array Value} {fl : List (Option (Option Nat))} {X : (State → Prop) × Nat × Nat} (hA : lA s h ad) (g : zH (lw h L fl ad D cI cZ cA) (p, l, e, s, m, args, below, meth, c, X) σ H lo) : lwH (lw h L fl ad D cI cZ cA) s σ H ∧ ∀ q ∈ lo, s.heap.size ≤ q.base :=
  ⟨⟨g.1, g.2.2.1, fun q hq => g.2.2.2.1 q hq (fun z => by have := lA_F hA q z; have hq : q < s.heap.size := hq; omega)⟩, fun q hq => lA_F hA _ (g.2.2.2.2 q hq)⟩
/-- at a place of the law with i = n -/
def lAt (p : Program) (l : Launch) (e : Jvm.Env) (s : State) (m : MethodId) (below : List Frame) (meth : Method) (c : Code) (b L : Nat) (xs : Nat → Int32) (D : va_G) (cI cZ cA : ClassId) (Q : State → Prop) (pc n : Nat) : Prop := ∀ (h : Bool) (ad : Nat → Nat) (σ : zM) (H : Heap) (cells slots : Nat) (ls : Array Slot) (ρ : zE), lA s h ad → ad 69 = b → cells ≤ 600000 → slots ≤ 7302250 → (h = false → cells + 24 ≤ 600000 ∧ slots + 179194 ≤ 7302250) → Lv h σ → lwH (lw h L (lfl xs L) ad D cI cZ cA) s σ H → zL (lw h L (lfl xs L) ad D cI cZ cA) lS lκ ls ρ → ρ 3 = some (nI n) → W p l e room_1 s m #[Value.ref b] below meth c H [] cells slots Q (F0 m pc ls [])
theorem lw_983 (l : Launch) (C0 : lw_At p s m meth c b L xs) (hK : va_K D zcl [(cI, .int), (cZ, .boolean), (cA, .array .int)] s) (nx : lAt p l e s m below meth c b L xs D cI cZ cA Q 18 (n + 6)) : lAt p l e s m below meth c b L xs D cI cZ cA Q 983 n := by
  intro h ad σ H cells slots ls ρ hA h69 hc hs hr V g hL hρ
  have hj : zSj (lw h L (lfl xs L) ad D cI cZ cA) lS lκ false 983 18 0 0 (zse 3 (zbin ziadd (zl 3) (zk (nI 6)))) := zs_inc dL_law_983 rfl (by decide) (zkn rfl) (zr1 dL_law_986 rfl zr0)
  have ev : zse 3 (zbin ziadd (zl 3) (zk (nI 6))) ρ σ = some (0, 0, zup ρ 3 (nI (n + 6)), σ) := by
    unfold zse zbin zl zk
    rw [hρ]
    show some (0, 0, zup ρ 3 (nI n + nI 6), σ) = _
    rw [n_add]
  refine hj (p, l, e, s, m, #[Value.ref b], below, meth, c, Q, cells, slots) (lw_O l C0 hK hA h69 hc hs) ρ σ 0 0 _ σ ev H ls [] hL (lwH_in hA g) (fun _ H' ls' lo' hL' hH' => ?_) (fun z => absurd z (by decide)) (fun z => absurd z (by decide)) (fun z => absurd z (by decide))
  obtain ⟨g', hb'⟩ := lwH_out hA hH'
  exact va_forget hb' (nx h ad σ H' cells slots ls' _ hA h69 hc hs hr V g' hL' rfl)
theorem wp_val {T : zT} {ρ : zE} {μ : zM} {Q : Nat → Int32 → zE → zM → Prop} (h : wp T ρ μ Q) : ∃ t v ρ' m', T ρ μ = some (t, v, ρ', m') ∧ Q t v ρ' m' := by
  unfold wp at h
  cases e : T ρ μ with
  | none => rw [e] at h; exact h.elim
  | some q =>
    obtain ⟨t, v, ρ', m'⟩ := q
    rw [e] at h
    exact ⟨t, v, ρ', m', rfl, h⟩
theorem wr_sm {o : Option (Int32 × zM)} {r : Int32} {m : zM} (h : ∀ Q : Int32 → zM → Prop, wr o Q = Q r m) : o = some (r, m) := by
  cases o with
  | none => exact ((h (fun _ _ => True)).mpr trivial).elim
  | some q =>
    obtain ⟨a, b⟩ := q
    have h1 : (a = r ∧ b = m) = (r = r ∧ m = m) := h (fun x y => x = r ∧ y = m)
    obtain ⟨rfl, rfl⟩ := h1.mpr ⟨rfl, rfl⟩
    rfl
theorem lex0_at {μ : zM} {r : Int32} (h : wp (H_ex 0 zsk) (zenv []) μ (fun t v _ m' => t = 3 ∧ v = r ∧ m' = μ)) : M_ex0 0 [] μ = some (r, μ) := by
  obtain ⟨t, v, ρ', m', e, h1, h2, h3⟩ := wp_val h
  show zfi (H_ex 0 zsk) (zenv []) μ = _
  unfold zfi
  rw [e, h1, h2, h3]
  rfl
theorem zfs_cg {ad ad' : Nat → Nat} {fl : List (Option (Option Nat))} {v : Nat → Int32} (h : ∀ n, some (some n) ∈ fl → ad' n = ad n) : zfs ad' fl v = zfs ad fl v := by
  unfold zfs
  apply List.ext_getElem?
  intro i
  rw [List.getElem?_mapIdx, List.getElem?_mapIdx]
  cases e : fl[i]? with
  | none => rfl
  | some f =>
    match f, e with
    | none, _ => rfl
    | some none, _ => rfl
    | some (some n), e =>
      show some (Value.ref (ad' n)) = some (Value.ref (ad n))
      rw [h n (List.mem_of_getElem? e)]
theorem zce_M {ad ad' : Nat → Nat} {fl : List (Option (Option Nat))} {v : Nat → Int32} {a : Nat} (ha : a ∈ lnM) (hd : ∀ n, 50 ≤ n → ad' n = ad n) : zce (lw true L fl ad' D cI cZ cA) a v = zce (lw false L fl ad D cI cZ cA) a v := by
  have h50 : (Sum.inr (9, zfs ad' (zL9 50) v) : va_E) = .inr (9, zfs ad (zL9 50) v) := by
    rw [zfs_cg]
    intro n hn
    refine hd n ?_
    simp [zL9] at hn
    omega
  simp only [lnM, List.mem_cons, List.not_mem_nil, or_false] at ha
  rcases ha with rfl | rfl | rfl | rfl | rfl | rfl | rfl | rfl | rfl | rfl | rfl | rfl | rfl | rfl | rfl | rfl | rfl | rfl | rfl <;> first | exact h50 | rfl
theorem lcsC {fl : List (Option (Option Nat))} : ∀ σ μ : zM, (∀ a ∈ lnC false, σ a = μ a) → zCs (lw false L fl ad D cI cZ cA) lS 823 0 false [.ref (ad 0)] (zmg ad []) (zlf (lnC false) (zgh σ μ (M_ex0 0))) := (fun σ μ ha => zcs_VL (w := (lw false L fl ad D cI cZ cA)) (N := lnC false) (zgh_ct (c_ex0a _ 0 lw_8F) ha) lnC_in lnC_nd ⟨rfl, rfl, Nat.le_of_ble_eq_true rfl, Nat.le_of_ble_eq_true rfl, zgd0 (zgw3 (i := 36) rfl rfl), ⟨_, rfl⟩, (zgw1 (i := 1) rfl rfl), by decide +kernel⟩ (zgw3 (i := 33) rfl rfl) (zgw3 (i := 34) rfl rfl) (zgw3 (i := 35) rfl rfl) lnC_0 rfl rfl dL_law_823)
theorem lcsM {fl : List (Option (Option Nat))} : ∀ σ μ : zM, (∀ a ∈ lnM, σ a = μ a) → zCs (lw h L fl ad D cI cZ cA) lS 827 0 false [.ref (ad 50)] (zmg ad []) (zlf lnM (zgh σ μ (M_X9_explore 50))) := (fun σ μ ha => zcs_VL (w := (lw h L fl ad D cI cZ cA)) (N := lnM) (zgh_ct (c_X9_explore _ 50 lw_9) ha) lnM_in lnM_nd ⟨rfl, rfl, Nat.le_of_ble_eq_true rfl, Nat.le_of_ble_eq_true rfl, zgd0 (zgw6 (i := 18) rfl rfl), ⟨_, rfl⟩, (zgw1 (i := 6) rfl rfl), by decide +kernel⟩ (zgw6 (i := 15) rfl rfl) (zgw6 (i := 16) rfl rfl) (zgw6 (i := 17) rfl rfl) lnM_50 rfl rfl dL_law_827)
set_option maxHeartbeats 4000000 in
/-- explore, with no search at hand -/
theorem lop_22F (l : Launch) (C0 : lw_At p s m meth c b L xs) (hK : va_K D zcl [(cI, .int), (cZ, .boolean), (cA, .array .int)] s) (hA : lA s false ad) (h69 : ad 69 = b) (hc : cells ≤ 600000) (hs : slots ≤ 7302250) (hr : cells + 24 ≤ 600000 ∧ slots + 179194 ≤ 7302250) (V : Lv false σ) (hL : zL (lw false L (lfl xs L) ad D cI cZ cA) lS lκ ls ρ) (hH : zH (lw false L (lfl xs L) ad D cI cZ cA) (p, l, e, s, m, #[Value.ref b], below, meth, c, Q, cells, slots) σ H lo) (kk : ∀ (H' : Heap) (lo' : List Loc) (σ' : zM), Lv false σ' → zH (lw false L (lfl xs L) ad D cI cZ cA) (p, l, e, s, m, #[Value.ref b], below, meth, c, Q, cells, slots) σ' H' lo' → zW lS (p, l, e, s, m, #[Value.ref b], below, meth, c, Q, cells, slots) H' lo' 983 ls []) (kT : ∀ (ad' : Nat → Nat) (H' : Heap) (lo' : List Loc) (σ' : zM), lA s true ad' → ad' 69 = b → Lv true σ' → zH (lw true L (lfl xs L) ad' D cI cZ cA) (p, l, e, s, m, #[Value.ref b], below, meth, c, Q, cells + 24, slots + 179194) σ' H' lo' → zL (lw true L (lfl xs L) ad' D cI cZ cA) lS lκ ls ρ → zW lS (p, l, e, s, m, #[Value.ref b], below, meth, c, Q, cells + 24, slots + 179194) H' lo' 983 ls []) : zW lS (p, l, e, s, m, #[Value.ref b], below, meth, c, Q, cells, slots) H lo 822 ls [] := by
  obtain ⟨μ, ν, I, a1, a2⟩ := V
  have hO := lw_O (e := e) (below := below) (Q := Q) l C0 hK hA h69 hc hs
  have nM : ∀ a ∈ lnM, ∀ h, a ∉ lnC h := fun a ha h z => by have := lnC_lt a z; have := (lnM_lt a ha).1; omega
  rcases s_exH I with ⟨r, ν', b1, b2, b3⟩ | ⟨μ1, b1, -, b3⟩
  · have f1 : M_ex0 0 [] μ = some (r, μ) := lex0_at (b1 zsk (zenv []) (fun t v _ m' => t = 3 ∧ v = r ∧ m' = μ) (fun _ => ⟨rfl, rfl, rfl⟩))
    have g1 : M_X9_explore 50 [] ν = some (r, ν') := wr_sm b2
    refine lw_half (w := lw false L (lfl xs L) ad D cI cZ cA) (N := lnC false) (F := M_ex0 0) (μ := μ) (κ := lκ) (d := 0) (nb := 0) (ts := []) (a := zan) (vs := []) hO dL_law_822 rfl (List.mem_of_getElem? (i := 1) rfl) (za_nil rfl) rfl (lcsC σ μ a1) f1 (by omega) hL hH (Nat.le_refl _) fun H1 lo1 hH1 => ?_
    refine lw_cmp (G := M_X9_explore 50) (ν := ν) (ts := []) (a := zan) (vs := []) hO dL_law_826 (za_nil rfl) rfl (lcsM _ ν fun a ha => ?_) g1 dL_law_830 rfl hL hH1 fun H2 lo2 hH2 => kk H2 lo2 _ (Lv_mk b3) hH2
    show (if a ∈ lnC false then μ a else σ a) = ν a
    rw [if_neg (nM a ha false)]
    exact a2 a ha
  · obtain ⟨r, μ', ν', c1, c2, c3⟩ := b3 (lmx μ1) (fun a ha => by unfold lmx; rw [if_pos (by omega)])
    have h1 : ∃ v ρ', H_ex 0 zsk (zenv []) μ = some (0, v, ρ', μ1) := by
      obtain ⟨t, v, ρ', m', e1, e2, e3⟩ := wp_val (b1 zsk (zenv []) (fun t _ _ m' => t = 0 ∧ m' = μ1) ⟨rfl, rfl⟩)
      subst e2 e3
      exact ⟨v, ρ', e1⟩
    have h2 : ∀ ρ, ∃ ρ', R_ex 0 ρ (lmx μ1) = some (3, r, ρ', μ') := fun ρ => by
      obtain ⟨t, v, ρ', m', e1, e2, e3, e4⟩ := wp_val (c1 ρ (fun t v _ m' => t = 3 ∧ v = r ∧ m' = μ') (fun _ => ⟨rfl, rfl, rfl⟩))
      subst e2 e3 e4
      exact ⟨ρ', e1⟩
    have g1 : M_X9_explore 50 [] ν = some (r, ν') := wr_sm c2
    clear b1 b3 c1 c2
    have hts := C0.2.2.2.2.2.1
    have hz := law_z hts
    have hpre := zPre_of hO hH
    have hrec := zrecv (b := 0) hO hH (List.mem_append_left _ lnC_0) rfl rfl
    have e0 : zws (lw0 L (lfl xs L) ad D cI cZ cA) σ = zws (lw0 L (lfl xs L) ad D cI cZ cA) μ := by
      unfold zws
      exact List.map_congr_left fun a h => by rw [a1 a h]
    have hpre0 : ∀ U : State, U.heap = H → s.WarmedH U.vm → zPre (lw0 L (lfl xs L) ad D cI cZ cA) μ U := fun U hU hW => by
      obtain ⟨p1, p2, p3, p4, p5⟩ := hpre U hU hW
      exact ⟨by rw [← e0]; exact zwn_P lnC_in p1, p2, by rw [← e0]; exact zwn_D lnC_in lnC_nd p3, zwn_G lnC_in p4, lnC_nd (h := false)⟩
    have hFs := lA_F (L := L) (fl := lfl xs L) (D := D) (cI := cI) (cZ := cZ) (cA := cA) hA
    have hsz : s.heap.size ≤ H.size := hH.2.2.1
    have hS0 : va_S (fun q => s.heap.size ≤ q) s.heap H lo := ⟨hsz, fun q q1 q2 => hH.2.2.2.1 q q1 (fun z => q2 (hFs q z)), fun q hq => hFs _ (hH.2.2.2.2 q hq)⟩
    have hfree : ∀ q, va_A (zws (lw0 L (lfl xs L) ad D cI cZ cA) μ) H.size q → s.heap.size ≤ q := by
      rintro q (⟨k, e, hk⟩ | h)
      · obtain ⟨a, a3, e2⟩ := zwn_mem hk
        cases e2
        exact hA.1 a (lnC_in (L := L) (fl := lfl xs L) (ad := ad) (D := D) (cI := cI) (cZ := cZ) (cA := cA) a (List.mem_of_getElem? a3))
      · exact Nat.le_trans hsz h
    have apart : ∀ a ∈ lnM, ad a < H.size ∧ ¬ va_A (zws (lw0 L (lfl xs L) ad D cI cZ cA) μ) H.size (ad a) := fun a ha => by
      obtain ⟨i, -, i2⟩ := zws_at (w := lw false L (lfl xs L) ad D cI cZ cA) (μ := σ) (List.mem_append_right _ ha)
      have hlt := (hH.1 i _ i2).lt
      refine ⟨hlt, ?_⟩
      rintro (⟨k, e, hk⟩ | h)
      · obtain ⟨a', a3, e2⟩ := zwn_mem hk
        have e3 : ad a = ad a' := congrArg Prod.fst e2
        have am := List.mem_of_getElem? a3
        have := hA.2 a (List.mem_append_right _ ha) a' (List.mem_append_left _ am) e3
        subst this
        exact nM a ha false am
      · have hlt : ad a < H.size := hlt
        omega
    show W p l e room_1 s m #[Value.ref b] below meth c H lo cells slots Q (F0 m 822 ls [])
    refine lv_aload_n C0.1 C0.2.1 dL_law_822 rfl (hL.2.2.2 (1, 0) (List.mem_of_getElem? (i := 1) rfl)) ?_
    have hr9 := va_runV (R := room_1) (p := p) (l := l) (e := e) (meth := meth) (locs := lo) (cells := cells) (slots := slots) (below := below) ⟨C0.1, C0.2.1, C0.2.2.2.1, C0.2.2.2.2.1, hz⟩ (c_ex0b l (sz := H.size) h1 h2) ⟨callB_of 0 hz (zgd0 (zgw3 (i := 36) rfl rfl)) rfl rfl rfl (hz _ (zgw1 (i := 1) rfl rfl)) (hz _ (zgw3 (i := 33) rfl rfl)) (by decide +kernel) ⟨Nat.le_of_ble_eq_true rfl, Nat.le_of_ble_eq_true rfl⟩, hz _ (zgw3 (i := 34) rfl rfl), hz _ (zgw3 (i := 35) rfl rfl)⟩ ⟨fun a U g mk z => by obtain ⟨z0, z1, z2, z3⟩ := z; exact ⟨z0, z1, (zPre_blind a U g mk ⟨z0, z2⟩).2, zNI_same (U := U.calling g mk a) rfl z3⟩, hrec, fun U hU hW => ⟨rfl, by rw [hU], hpre0 U hU hW, zNI_warm hW (law_NI hts)⟩⟩ (g := F0 m 823 ls [.ref (ad 0)]) (rest := []) rfl rfl hL.1 rfl (lv_room (Nat.zero_le _)) dL_law_823 hr
    refine va_calli (a := [Value.ref (ad 0)].toArray) hr9 hS0 (fun q _ h => hfree q h) hfree (fun r' ad' t H1 lo1 ht hvm hp hB hz1 hk1 hS1 => ?_)
    obtain ⟨b4, b5, b6⟩ := hB
    have hp : r' = r := hp
    subst hp
    rw [ht] at b5
    refine va_forget hS1.2.2 ?_
    have dM : ∀ n, 50 ≤ n → ad' n = ad n := fun n hn => b4 n (by omega)
    have tC : ∀ a ∈ lnC true, va_A (zws (lw0 L (lfl xs L) ad D cI cZ cA) μ) H.size (ad' a) := fun a ha => by
      obtain ⟨i, -, i2⟩ := zwn_at (w := lw true L (lfl xs L) ad' D cI cZ cA) (μ := μ') ha
      exact b6.2 i _ i2
    have hA' : lA s true ad' := by
      refine ⟨fun a ha => ?_, fun a ha b hb e => ?_⟩
      · rcases List.mem_append.mp ha with ha | ha
        · exact hfree _ (tC a ha)
        · rw [dM a (lnM_lt a ha).1]
          exact hA.1 a (List.mem_append_right _ ha)
      · rcases List.mem_append.mp ha with ha | ha <;> rcases List.mem_append.mp hb with hb | hb
        · obtain ⟨i, i1, i2⟩ := zwn_at (w := lw true L (lfl xs L) ad' D cI cZ cA) (μ := μ') ha
          obtain ⟨j, j1, j2⟩ := zwn_at (w := lw true L (lfl xs L) ad' D cI cZ cA) (μ := μ') hb
          have := b6.1 i j _ _ i2 j2 e
          subst this
          exact Option.some.inj (i1.symm.trans j1)
        · rw [dM b (lnM_lt b hb).1] at e
          have := tC a ha
          rw [e] at this
          exact absurd this (apart b hb).2
        · rw [dM a (lnM_lt a ha).1] at e
          have := tC b hb
          rw [← e] at this
          exact absurd this (apart a ha).2
        · rw [dM a (lnM_lt a ha).1, dM b (lnM_lt b hb).1] at e
          exact hA.2 a (List.mem_append_right _ ha) b (List.mem_append_right _ hb) e
    have h69' : ad' 69 = b := (dM 69 (by omega)).trans h69
    have g' : lwH (lw true L (lfl xs L) ad' D cI cZ cA) s (fun a => if a ∈ lnC true then μ' a else σ a) H1 := by
      refine ⟨fun k q hq => ?_, Nat.le_trans hsz hz1, fun q hq => ?_⟩
      · obtain ⟨a, a3, rfl⟩ := zws_mem hq
        rcases List.mem_append.mp (List.mem_of_getElem? a3) with ha | ha
        · obtain ⟨i, -, i2⟩ := zwn_at (w := lw true L (lfl xs L) ad' D cI cZ cA) (μ := μ') ha
          have := b5 i _ i2
          rw [if_pos ha]
          exact this
        · rw [if_neg (nM a ha true)]
          obtain ⟨i, -, i2⟩ := zws_at (w := lw false L (lfl xs L) ad D cI cZ cA) (μ := σ) (List.mem_append_right _ ha)
          have h3 := (hH.1 i _ i2).kept (hk1 _ (apart a ha).1 (apart a ha).2)
          rw [zce_M ha dM]
          show va_at D zcl (ad' a, _) H1
          rw [dM a (lnM_lt a ha).1]
          exact h3
      · rw [hk1 q (Nat.lt_of_lt_of_le hq hsz) (fun z => by have := hfree q z; omega)]
        exact hH.2.2.2.1 q hq (fun z => by have := hFs q z; omega)
    have hL' : zL (lw true L (lfl xs L) ad' D cI cZ cA) lS lκ ls ρ := ⟨hL.1, hL.2.1, hL.2.2.1, fun q hq => by
      have h3 : ls[q.1]? = some (.val (.ref (ad q.2))) := hL.2.2.2 q hq
      have h4 : ¬ (26 ≤ q.2 ∧ q.2 < 50) := (show ∀ q ∈ lκ, ¬ (26 ≤ q.2 ∧ q.2 < 50) by decide) q hq
      show ls[q.1]? = some (.val (.ref (ad' q.2)))
      rw [b4 _ h4]
      exact h3⟩
    refine lw_cmp (h := true) (G := M_X9_explore 50) (ν := ν) (ts := []) (a := zan) (vs := []) (lw_O (e := e) (below := below) (Q := Q) l C0 hK hA' h69' hr.1 hr.2) dL_law_826 (za_nil rfl) rfl (lcsM _ ν fun a ha => ?_) g1 dL_law_830 rfl hL' (lwH_in hA' g') fun H2 lo2 hH2 => kT ad' H2 lo2 _ hA' h69' (Lv_mk c3) hH2 hL'
    show (if a ∈ lnC true then μ' a else σ a) = ν a
    rw [if_neg (nM a ha true)]
    exact a2 a ha
theorem l_sub6 (hL : L ≤ 3072) : (nI L - nI 6).toInt = (L : Int) - 6 := by
  by_cases h : 6 ≤ L
  · rw [n_sub h, n_toInt (by omega)]
    omega
  · match L, h with
    | 0, _ => decide +kernel
    | 1, _ => decide +kernel
    | 2, _ => decide +kernel
    | 3, _ => decide +kernel
    | 4, _ => decide +kernel
    | 5, _ => decide +kernel
    | k + 6, h => exact absurd h (by omega)
set_option maxHeartbeats 4000000 in
theorem lw_18 (l : Launch) (hL3 : L ≤ 3072) (hn : n ≤ 3072) (C0 : lw_At p s m meth c b L xs) (hK : va_K D zcl [(cI, .int), (cZ, .boolean), (cA, .array .int)] s) (nx : n + 6 ≤ L → lAt p l e s m below meth c b L xs D cI cZ cA (lw_Z below #[Value.ref b] s) 983 n) : lAt p l e s m below meth c b L xs D cI cZ cA (lw_Z below #[Value.ref b] s) 18 n := by
  intro h ad σ H cells slots ls ρ hA h69 hc hs hr V g hL hρ
  have hO := lw_O (e := e) (below := below) (Q := lw_Z below #[Value.ref b] s) l C0 hK hA h69 hc hs
  have hx := C0.1
  have hb := C0.2.1
  have hj : zCj (lw h L (lfl xs L) ad D cI cZ cA) lS lκ 0 18 27 989 (zcmp zle (zl 3) (zbin zisub (zal L) (zk (nI 6)))) := zc_cmpf 19 24 (ze_ln dL_law_18 rfl) (ze_bin 21 23 (ze_sl 20 (zr_ln dL_law_19 rfl List.mem_cons_self) rfl dL_law_20) (ze_k (zpu_bipush dL_law_21 rfl)) (zop_isub dL_law_23)) (zj2n_gt dL_law_24 rfl) zr0 zr0
  have ev : zcmp zle (zl 3) (zbin zisub (zal L) (zk (nI 6))) ρ σ = some (decide (n + 6 ≤ L), σ) := by
    unfold zcmp zbin zl zk zal
    rw [hρ]
    show some (decide (nI n ≤ nI L - nI 6), σ) = _
    have : (nI n ≤ nI L - nI 6) ↔ n + 6 ≤ L := by
      rw [Int32.le_iff_toInt_le, l_sub6 hL3, n_toInt (by omega)]
      omega
    rw [decide_eq_decide.mpr this]
  refine hj (p, l, e, s, m, #[Value.ref b], below, meth, c, lw_Z below #[Value.ref b] s, cells, slots) hO ρ σ _ σ ev H ls [] [] hL (lwH_in hA g) (Nat.le_refl _) (fun H1 lo1 hH1 ht => ?_) (fun H1 lo1 hH1 hf => ?_)
  · have h6 : n + 6 ≤ L := of_decide_eq_true ht
    have hsv : zEv (lw h L (lfl xs L) ad D cI cZ cA) lS lκ 0 27 33 (zbin ziand (ztb (zsv (lfl xs L)) L (zl 3)) (zk (nI 31))) := ze_bin 30 32 (ze_sc 28 29 (zr_ln dL_law_27 rfl List.mem_cons_self) (ze_ln dL_law_28 rfl) rfl dL_law_29) (ze_k (zpu_bipush dL_law_30 rfl)) (zop_iand dL_law_32)
    obtain ⟨k, hk, ek⟩ := l31 (zsv (lfl xs L) n)
    have ev2 : zbin ziand (ztb (zsv (lfl xs L)) L (zl 3)) (zk (nI 31)) ρ σ = some (nI k, σ) := by
      have e1 : ztb (zsv (lfl xs L)) L (zl 3) ρ σ = some (zsv (lfl xs L) n, σ) := by
        unfold ztb zl
        rw [hρ]
        show (if 0 ≤ (nI n).toInt ∧ (nI n).toInt < (L : Int) then some (zsv (lfl xs L) (nI n).toInt.toNat, σ) else none) = _
        rw [n_toInt (by omega), if_pos (by omega)]
        rfl
      unfold zbin
      rw [e1]
      show some (zsv (lfl xs L) n &&& nI 31, σ) = _
      rw [← ek]
      rfl
    refine hsv (p, l, e, s, m, #[Value.ref b], below, meth, c, lw_Z below #[Value.ref b] s, cells, slots) hO ρ σ (nI k) σ ev2 H1 ls lo1 [] hL hH1 (Nat.le_refl _) (fun H2 lo2 hH2 => ?_)
    have kk : ∀ (H' : Heap) (lo' : List Loc) (σ' : zM), Lv h σ' → zH (lw h L (lfl xs L) ad D cI cZ cA) (p, l, e, s, m, #[Value.ref b], below, meth, c, lw_Z below #[Value.ref b] s, cells, slots) σ' H' lo' → zW lS (p, l, e, s, m, #[Value.ref b], below, meth, c, lw_Z below #[Value.ref b] s, cells, slots) H' lo' 983 ls [] := fun H' lo' σ' V' hH' => by
      obtain ⟨g', hb'⟩ := lwH_out hA hH'
      exact va_forget hb' (nx h6 h ad σ' H' cells slots ls ρ hA h69 hc hs hr V' g' hL hρ)
    show W p l e room_1 s m #[Value.ref b] below meth c H2 lo2 cells slots (lw_Z below #[Value.ref b] s) (F0 m 33 ls [.int (nI k)])
    clear ek ev2 hsv ev hj
    match k, hk with
    | 0, _ => exact lv_tableIn (tgt := 164) (off := 131) hx hb dL_law_33 (by decide +kernel) (by decide +kernel) (by decide +kernel) rfl (lop_0 hO hρ h6 hL3 V hL hH2 kk)
    | 1, _ => exact lv_tableIn (tgt := 227) (off := 194) hx hb dL_law_33 (by decide +kernel) (by decide +kernel) (by decide +kernel) rfl (lop_1 hO hρ h6 hL3 V hL hH2 kk)
    | 2, _ => exact lv_tableIn (tgt := 260) (off := 227) hx hb dL_law_33 (by decide +kernel) (by decide +kernel) (by decide +kernel) rfl (lop_2 hO hρ h6 hL3 V hL hH2 kk)
    | 3, _ => exact lv_tableIn (tgt := 293) (off := 260) hx hb dL_law_33 (by decide +kernel) (by decide +kernel) (by decide +kernel) rfl (lop_3 hO hρ h6 hL3 V hL hH2 kk)
    | 4, _ => exact lv_tableIn (tgt := 352) (off := 319) hx hb dL_law_33 (by decide +kernel) (by decide +kernel) (by decide +kernel) rfl (lop_4 hO hρ h6 hL3 V hL hH2 kk)
    | 5, _ => exact lv_tableIn (tgt := 395) (off := 362) hx hb dL_law_33 (by decide +kernel) (by decide +kernel) (by decide +kernel) rfl (lop_5 hO hρ h6 hL3 V hL hH2 kk)
    | 6, _ => exact lv_tableIn (tgt := 408) (off := 375) hx hb dL_law_33 (by decide +kernel) (by decide +kernel) (by decide +kernel) rfl (lop_6 hO hρ h6 hL3 V hL hH2 kk)
    | 7, _ => exact lv_tableIn (tgt := 431) (off := 398) hx hb dL_law_33 (by decide +kernel) (by decide +kernel) (by decide +kernel) rfl (lop_7 hO hρ h6 hL3 V hL hH2 kk)
    | 8, _ => exact lv_tableIn (tgt := 470) (off := 437) hx hb dL_law_33 (by decide +kernel) (by decide +kernel) (by decide +kernel) rfl (lop_8 hO hρ h6 hL3 V hL hH2 kk)
    | 9, _ => exact lv_tableIn (tgt := 493) (off := 460) hx hb dL_law_33 (by decide +kernel) (by decide +kernel) (by decide +kernel) rfl (lop_9 hO hρ h6 hL3 V hL hH2 kk)
    | 10, _ => exact lv_tableIn (tgt := 536) (off := 503) hx hb dL_law_33 (by decide +kernel) (by decide +kernel) (by decide +kernel) rfl (lop_10 hO hρ h6 hL3 V hL hH2 kk)
    | 11, _ => exact lv_tableIn (tgt := 549) (off := 516) hx hb dL_law_33 (by decide +kernel) (by decide +kernel) (by decide +kernel) rfl (lop_11 hO hρ h6 hL3 V hL hH2 kk)
    | 12, _ => exact lv_tableIn (tgt := 572) (off := 539) hx hb dL_law_33 (by decide +kernel) (by decide +kernel) (by decide +kernel) rfl (lop_12 hO hρ h6 hL3 V hL hH2 kk)
    | 13, _ => exact lv_tableIn (tgt := 595) (off := 562) hx hb dL_law_33 (by decide +kernel) (by decide +kernel) (by decide +kernel) rfl (lop_13 hO hρ h6 hL3 V hL hH2 kk)
    | 14, _ => exact lv_tableIn (tgt := 618) (off := 585) hx hb dL_law_33 (by decide +kernel) (by decide +kernel) (by decide +kernel) rfl (lop_14 hO hρ h6 hL3 V hL hH2 kk)
    | 15, _ => exact lv_tableIn (tgt := 651) (off := 618) hx hb dL_law_33 (by decide +kernel) (by decide +kernel) (by decide +kernel) rfl (lop_15 hO hρ h6 hL3 V hL hH2 kk)
    | 16, _ => exact lv_tableIn (tgt := 694) (off := 661) hx hb dL_law_33 (by decide +kernel) (by decide +kernel) (by decide +kernel) rfl (lop_16 hO hρ h6 hL3 V hL hH2 kk)
    | 17, _ => exact lv_tableIn (tgt := 717) (off := 684) hx hb dL_law_33 (by decide +kernel) (by decide +kernel) (by decide +kernel) rfl (lop_17 hO hρ h6 hL3 V hL hH2 kk)
    | 18, _ => exact lv_tableIn (tgt := 750) (off := 717) hx hb dL_law_33 (by decide +kernel) (by decide +kernel) (by decide +kernel) rfl (lop_18 hO hρ h6 hL3 V hL hH2 kk)
    | 19, _ => exact lv_tableIn (tgt := 783) (off := 750) hx hb dL_law_33 (by decide +kernel) (by decide +kernel) (by decide +kernel) rfl (lop_19 hO hρ h6 hL3 V hL hH2 kk)
    | 20, _ => exact lv_tableIn (tgt := 796) (off := 763) hx hb dL_law_33 (by decide +kernel) (by decide +kernel) (by decide +kernel) rfl (lop_20 hO hρ h6 hL3 V hL hH2 kk)
    | 21, _ => exact lv_tableIn (tgt := 809) (off := 776) hx hb dL_law_33 (by decide +kernel) (by decide +kernel) (by decide +kernel) rfl (lop_21 hO hρ h6 hL3 V hL hH2 kk)
    | 22, _ =>
      refine lv_tableIn (tgt := 822) (off := 789) hx hb dL_law_33 (by decide +kernel) (by decide +kernel) (by decide +kernel) rfl ?_
      (cases h with
      | false =>
        exact lop_22F l C0 hK hA h69 hc hs (hr rfl) V hL hH2 kk fun ad' H' lo' σ' hA' h69' V' hH' hL' => by
            obtain ⟨g', hb'⟩ := lwH_out hA' hH'
            exact va_forget hb' (nx h6 true ad' σ' H' _ _ ls ρ hA' h69' (hr rfl).1 (hr rfl).2 (fun z => absurd z (by decide)) V' g' hL' hρ)
      | true => exact lop_22T hO hρ h6 hL3 V hL hH2 kk)
    | 23, _ =>
      refine lv_tableIn (tgt := 835) (off := 802) hx hb dL_law_33 (by decide +kernel) (by decide +kernel) (by decide +kernel) rfl ?_
      (cases h with
      | false => exact lop_23F hO hρ h6 hL3 V hL hH2 kk
      | true => exact lop_23T hO hρ h6 hL3 V hL hH2 kk)
    | 24, _ =>
      refine lv_tableIn (tgt := 858) (off := 825) hx hb dL_law_33 (by decide +kernel) (by decide +kernel) (by decide +kernel) rfl ?_
      (cases h with
      | false => exact lop_24F hO hρ h6 hL3 V hL hH2 kk
      | true => exact lop_24T hO hρ h6 hL3 V hL hH2 kk)
    | 25, _ =>
      refine lv_tableIn (tgt := 881) (off := 848) hx hb dL_law_33 (by decide +kernel) (by decide +kernel) (by decide +kernel) rfl ?_
      (cases h with
      | false => exact lop_25F hO hρ h6 hL3 V hL hH2 kk
      | true => exact lop_25T hO hρ h6 hL3 V hL hH2 kk)
    | 26, _ =>
      refine lv_tableIn (tgt := 914) (off := 881) hx hb dL_law_33 (by decide +kernel) (by decide +kernel) (by decide +kernel) rfl ?_
      (cases h with
      | false => exact lop_26F hO hρ h6 hL3 V hL hH2 kk
      | true => exact lop_26T hO hρ h6 hL3 V hL hH2 kk)
    | 27, _ =>
      refine lv_tableIn (tgt := 947) (off := 914) hx hb dL_law_33 (by decide +kernel) (by decide +kernel) (by decide +kernel) rfl ?_
      (cases h with
      | false => exact lop_27F hO hρ h6 hL3 V hL hH2 kk
      | true => exact lop_27T hO hρ h6 hL3 V hL hH2 kk)
    | 28, _ =>
      refine lv_tableIn (tgt := 970) (off := 937) hx hb dL_law_33 (by decide +kernel) (by decide +kernel) (by decide +kernel) rfl ?_
      (cases h with
      | false => exact lop_28F hO hρ h6 hL3 V hL hH2 kk
      | true => exact lop_28T hO hρ h6 hL3 V hL hH2 kk)
    | k + 29, hk => exact lv_tableOut (tgt := 983) hx hb dL_law_33 (Or.inr (by rw [n_toInt (by omega)]; omega)) rfl (kk H2 lo2 σ V hH2)
  · obtain ⟨g', hb'⟩ := lwH_out hA hH1
    show W p l e room_1 s m #[Value.ref b] below meth c H1 lo1 cells slots (lw_Z below #[Value.ref b] s) (F0 m 989 ls [])
    refine va_forget hb' ?_
    refine lv_iconst (v := 1) hx hb dL_law_989 (by decide) ?_
    exact W.widen hc hs (lw_ret hx hb C0.2.2.1 C0.2.2.2.2.2.2.2.2.1 dL_law_990)
theorem lw_loop (l : Launch) (hL3 : L ≤ 3072) (C0 : lw_At p s m meth c b L xs) (hK : va_K D zcl [(cI, .int), (cZ, .boolean), (cA, .array .int)] s) : ∀ k n : Nat, n ≤ 3072 → L < n + k → lAt p l e s m below meth c b L xs D cI cZ cA (lw_Z below #[Value.ref b] s) 18 n
  | 0, n, hn, hk => lw_18 l hL3 hn C0 hK fun h6 => by omega
  | k + 1, n, hn, hk => lw_18 l hL3 hn C0 hK fun h6 => lw_983 l C0 hK (lw_loop l hL3 C0 hK k (n + 6) (by omega) (by omega))
end LAWL
