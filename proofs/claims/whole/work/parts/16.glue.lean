/-! GLUE: words, shapes, the ends of methods, what is left over -/
def zFU : Nat := 20000
theorem zkn {κ : List (Nat × Nat)} {i : Nat} (h : (κ.map (fun q => q.1)).all (fun j => j != i) = true) : ∀ q ∈ κ, q.1 ≠ i := fun q hq => by
  have := List.all_eq_true.mp h q.1 (List.mem_map.mpr ⟨q, hq, rfl⟩)
  simpa using this
theorem znon {a : Int32 × zM} (h : (none : Option (Int32 × zM)) = some a) : False := by cases h
def zA0 (f : zM → Option (Int32 × zM)) : List Int32 → zM → Option (Int32 × zM) := fun vs μ => match vs with
  | [] => f μ
  | _ => none
theorem zA0_inv {f : zM → Option (Int32 × zM)} {vs : List Int32} {μ : zM} {x : Int32 × zM} (h : zA0 f vs μ = some x) : vs = [] ∧ f μ = some x := by
  unfold zA0 at h
  split at h
  · exact ⟨rfl, h⟩
  · cases h
def zA1 (f : Int32 → zM → Option (Int32 × zM)) : List Int32 → zM → Option (Int32 × zM) := fun vs μ => match vs with
  | [v1] => f v1 μ
  | _ => none
theorem zA1_inv {f : Int32 → zM → Option (Int32 × zM)} {vs : List Int32} {μ : zM} {x : Int32 × zM} (h : zA1 f vs μ = some x) : ∃ v1 : Int32, vs = [v1] ∧ f v1 μ = some x := by
  unfold zA1 at h
  split at h
  · exact ⟨_, rfl, h⟩
  · cases h
def zA2 (f : Int32 → Int32 → zM → Option (Int32 × zM)) : List Int32 → zM → Option (Int32 × zM) := fun vs μ => match vs with
  | [v1, v2] => f v1 v2 μ
  | _ => none
theorem zA2_inv {f : Int32 → Int32 → zM → Option (Int32 × zM)} {vs : List Int32} {μ : zM} {x : Int32 × zM} (h : zA2 f vs μ = some x) : ∃ v1 v2 : Int32, vs = [v1, v2] ∧ f v1 v2 μ = some x := by
  unfold zA2 at h
  split at h
  · exact ⟨_, _, rfl, h⟩
  · cases h
def zA3 (f : Int32 → Int32 → Int32 → zM → Option (Int32 × zM)) : List Int32 → zM → Option (Int32 × zM) := fun vs μ => match vs with
  | [v1, v2, v3] => f v1 v2 v3 μ
  | _ => none
theorem zA3_inv {f : Int32 → Int32 → Int32 → zM → Option (Int32 × zM)} {vs : List Int32} {μ : zM} {x : Int32 × zM} (h : zA3 f vs μ = some x) : ∃ v1 v2 v3 : Int32, vs = [v1, v2, v3] ∧ f v1 v2 v3 μ = some x := by
  unfold zA3 at h
  split at h
  · exact ⟨_, _, _, rfl, h⟩
  · cases h
def zA4 (f : Int32 → Int32 → Int32 → Int32 → zM → Option (Int32 × zM)) : List Int32 → zM → Option (Int32 × zM) := fun vs μ => match vs with
  | [v1, v2, v3, v4] => f v1 v2 v3 v4 μ
  | _ => none
theorem zA4_inv {f : Int32 → Int32 → Int32 → Int32 → zM → Option (Int32 × zM)} {vs : List Int32} {μ : zM} {x : Int32 × zM} (h : zA4 f vs μ = some x) : ∃ v1 v2 v3 v4 : Int32, vs = [v1, v2, v3, v4] ∧ f v1 v2 v3 v4 μ = some x := by
  unfold zA4 at h
  split at h
  · exact ⟨_, _, _, _, rfl, h⟩
  · cases h
def zA5 (f : Int32 → Int32 → Int32 → Int32 → Int32 → zM → Option (Int32 × zM)) : List Int32 → zM → Option (Int32 × zM) := fun vs μ => match vs with
  | [v1, v2, v3, v4, v5] => f v1 v2 v3 v4 v5 μ
  | _ => none
theorem zA5_inv {f : Int32 → Int32 → Int32 → Int32 → Int32 → zM → Option (Int32 × zM)} {vs : List Int32} {μ : zM} {x : Int32 × zM} (h : zA5 f vs μ = some x) : ∃ v1 v2 v3 v4 v5 : Int32, vs = [v1, v2, v3, v4, v5] ∧ f v1 v2 v3 v4 v5 μ = some x := by
  unfold zA5 at h
  split at h
  · exact ⟨_, _, _, _, _, rfl, h⟩
  · cases h
section ZGL
variable {w : zN} {S : zS} {κ : List (Nat × Nat)} {d pc N B C : Nat} {vd : Bool}
theorem zc_cmpt (p1 p2 : Nat) {T F t : Nat} {a b : zX} {o : Int32 → Int32 → Bool} (h1 : zEv w S κ d pc p1 a) (h2 : zEv w S κ (d + 1) p1 p2 b) (h3 : zJ2 S p2 t true o) (hT : zRch S.1 3 t T) (hF : zRch S.1 3 (p2 + 3) F) : zCj w S κ d pc T F (zcmp o a b) := zc_cmp p1 p2 true h1 h2 h3 hT hF
theorem zc_cmpf (p1 p2 : Nat) {T F t : Nat} {a b : zX} {o : Int32 → Int32 → Bool} (h1 : zEv w S κ d pc p1 a) (h2 : zEv w S κ (d + 1) p1 p2 b) (h3 : zJ2 S p2 t false o) (hT : zRch S.1 3 (p2 + 3) T) (hF : zRch S.1 3 t F) : zCj w S κ d pc T F (zcmp o a b) := zc_cmp p1 p2 false h1 h2 h3 hT hF
theorem zc_cm0t (p1 : Nat) {T F t : Nat} {a : zX} {o : Int32 → Bool} (h1 : zEv w S κ d pc p1 a) (h3 : zJ1 S p1 t true o) (hT : zRch S.1 3 t T) (hF : zRch S.1 3 (p1 + 3) F) : zCj w S κ d pc T F (zcm0 o a) := zc_cm0 p1 true h1 h3 hT hF
theorem zc_cm0f (p1 : Nat) {T F t : Nat} {a : zX} {o : Int32 → Bool} (h1 : zEv w S κ d pc p1 a) (h3 : zJ1 S p1 t false o) (hT : zRch S.1 3 (p1 + 3) T) (hF : zRch S.1 3 t F) : zCj w S κ d pc T F (zcm0 o a) := zc_cm0 p1 false h1 h3 hT hF
/-- a reference that is null, or not -/
theorem zc_nul1 (p1 : Nat) {n ci k T F t : Nat} {off : Int} {fl : List (Option (Option Nat))} (h1 : zRv w S κ pc p1 n) (h2 : zGf S p1 ci k) (hn : n ∈ znm w) (hs : zsh w n = (2, ci, fl)) (hf : fl[k]? = some (some none)) (dd : decode S.1 (p1 + 3) = .ok (.ifnull off, 3)) (ht : ((p1 + 3 : Nat) : Int) + off = (t : Int)) (hT : zRch S.1 3 t T) : zCj w S κ d pc T F (zcb true) := by
  intro x hO ρ μ v' μ' hq H ls lo st hL hH hc k1 k2
  cases hq
  refine h1 x hO ρ μ H ls lo st hL hH (h2 w x hO μ n fl _ H ls lo st hH hn hs (zfs_get hf) ?_)
  have k9 := zW_r hO hT (k1 H lo hH rfl)
  obtain ⟨p, l, e, s, m, args, below, meth, c, Q⟩ := x
  exact lv_ifnullN hO.1 hO.2.1 dd ht k9
theorem zc_nul0 (p1 : Nat) {n ci k n' T F t : Nat} {off : Int} {fl : List (Option (Option Nat))} (h1 : zRv w S κ pc p1 n) (h2 : zGf S p1 ci k) (hn : n ∈ znm w) (hs : zsh w n = (2, ci, fl)) (hf : fl[k]? = some (some (some n'))) (dd : decode S.1 (p1 + 3) = .ok (.ifnull off, 3)) (_ : ((p1 + 3 : Nat) : Int) + off = (t : Int)) (_ : zRch S.1 3 t T) (hF : zRch S.1 3 (p1 + 6) F) : zCj w S κ d pc T F (zcb false) := by
  intro x hO ρ μ v' μ' hq H ls lo st hL hH hc k1 k2
  cases hq
  refine h1 x hO ρ μ H ls lo st hL hH (h2 w x hO μ n fl _ H ls lo st hH hn hs (zfs_get hf) ?_)
  have k9 := zW_r hO hF (k2 H lo hH rfl)
  obtain ⟨p, l, e, s, m, args, below, meth, c, Q⟩ := x
  exact lv_ifnull hO.1 hO.2.1 dd k9
/-- a long on the stack that is an int -/
def zLv (w : zN) (S : zS) (κ : List (Nat × Nat)) (d pc pc' : Nat) (f : zX) : Prop :=
  ∀ x : zK, zOk w S x → ∀ (ρ : zE) (μ : zM) (v : Int32) (μ' : zM), f ρ μ = some (v, μ') → ∀ (H : Heap) (ls : Array Slot) (lo : List Loc) (st : List Value), zL w S κ ls ρ → zH w x μ H lo → zc st ≤ d →
    (∀ (H' : Heap) (lo' : List Loc), zH w x μ' H' lo' → zW S x H' lo' pc' ls (.long v.toInt64 :: st)) → zW S x H lo pc ls st
theorem zv_il (p1 : Nat) {e : zX} (h1 : zEv w S κ d pc p1 e) (dd : decode S.1 p1 = .ok (.i2l, 1)) : zLv w S κ d pc (p1 + 1) e := by
  intro x hO ρ μ v' μ' hf H ls lo st hL hH hc k
  refine h1 x hO ρ μ _ _ hf H ls lo st hL hH hc fun H1 lo1 hH1 => ?_
  have k := k H1 lo1 hH1
  obtain ⟨p, l, e, s, m, args, below, meth, c, Q⟩ := x
  exact lv_i2l hO.1 hO.2.1 dd rfl k
theorem zv_lc {n : Fin 2} {v : Int32} (dd : decode S.1 pc = .ok (.lconst n, 1)) (hv : Int64.ofNat (n : Nat) = v.toInt64) : zLv w S κ d pc (pc + 1) (zk v) := by
  intro x hO ρ μ v' μ' hf H ls lo st hL hH hc k
  cases hf
  have k := k H lo hH
  obtain ⟨p, l, e, s, m, args, below, meth, c, Q⟩ := x
  exact lv_lconst hO.1 hO.2.1 dd hv k
theorem zv_ld {n : Nat} {z : Int64} {v : Int32} (dd : decode S.1 pc = .ok (.ldc2_w n, 3)) (hw : Cond.constantLong S.2.2.1 n z ∈ S.2.2.2.1) (hv : z = v.toInt64) : zLv w S κ d pc (pc + 3) (zk v) := by
  intro x hO ρ μ v' μ' hf H ls lo st hL hH hc k
  cases hf
  have k := k H lo hH
  subst hv
  obtain ⟨p, l, e, s, m, args, below, meth, c, Q⟩ := x
  exact W.ldc2 hO.1 hO.2.1 hO.2.2.2.1 (hO.2.2.2.2.1 _ hw) rfl dd k
theorem zv_cond (p1 p2 p3 : Nat) {p4 : Nat} {c : zC} {a b : zX} (h1 : zCj w S κ d pc p1 p3 c) (h2 : zLv w S κ d p1 p2 a) (hg : zRch S.1 3 p2 p4) (h3 : zLv w S κ d p3 p4 b) : zLv w S κ d pc p4 (zcond c a b) := by
  intro x hO ρ μ v' μ' hf H ls lo st hL hH hc k
  unfold zcond at hf
  split at hf
  · cases hf
  · rename_i μ1 e1
    exact h1 x hO ρ μ true μ1 e1 H ls lo st hL hH hc (fun H1 lo1 hH1 _ => h2 x hO ρ μ1 v' μ' hf H1 ls lo1 st hL hH1 hc fun H2 lo2 hH2 => zW_r hO hg (k H2 lo2 hH2)) (fun H1 lo1 hH1 e => by cases e)
  · rename_i μ1 e1
    exact h1 x hO ρ μ false μ1 e1 H ls lo st hL hH hc (fun H1 lo1 hH1 e => by cases e) (fun H1 lo1 hH1 _ => h3 x hO ρ μ1 v' μ' hf H1 ls lo1 st hL hH1 hc k)
theorem zc_long (v : Int64) (st : List Value) : zc (.long v :: st) = zc st + 2 := by simp [zc, Value.category]; omega
def zmi (vs : List Int32) : List Value := match vs with
  | [a, b, c] => [.long a.toInt64, .long b.toInt64, .long c.toInt64]
  | _ => []
theorem za_in (p1 p2 : Nat) {p3 : Nat} {a b c : zX} (h1 : zLv w S κ d pc p1 a) (h2 : zLv w S κ (d + 2) p1 p2 b) (h3 : zLv w S κ (d + 2 + 2) p2 p3 c) : zAv w S κ d pc p3 zmi (zai a (zai b (zai c zan))) := by
  intro x hO ρ μ v' μ' hf H ls lo st hL hH hc k
  unfold zai at hf
  split at hf
  · cases hf
  · rename_i v1 μ1 e1
    split at hf
    · cases hf
    · rename_i vs μ2 e2
      cases hf
      split at e2
      · cases e2
      · rename_i v2 μ3 e3
        split at e2
        · cases e2
        · rename_i vs2 μ4 e4
          cases e2
          split at e4
          · cases e4
          · rename_i v3 μ5 e5
            cases e4
            exact h1 x hO ρ μ _ _ e1 H ls lo st hL hH hc fun H1 lo1 hH1 => h2 x hO ρ _ _ _ e3 H1 ls lo1 _ hL hH1 (by rw [zc_long]; omega) fun H2 lo2 hH2 => h3 x hO ρ _ _ _ e5 H2 ls lo2 _ hL hH2 (by rw [zc_long, zc_long]; omega) fun H3 lo3 hH3 => k H3 lo3 hH3
/-- System.arraycopy between inner arrays -/
def zcyd (b0 K L : Nat) (i j sp dp q : zX) : zT := fun ρ μ => match i ρ μ with
  | none => none
  | some (a, μ1) => match j ρ μ1 with
    | none => none
    | some (b, μ2) => if (0 ≤ a.toInt ∧ a.toInt < (K : Int)) ∧ (0 ≤ b.toInt ∧ b.toInt < (K : Int)) then zcy (b0 + a.toInt.toNat) (b0 + b.toInt.toNat) L L sp dp q ρ μ2 else none
theorem zrj (p1 p2 : Nat) {p3 n len : Nat} {i : zX} {fl : List (Option (Option Nat))} {b0 : Nat} (h1 : zRv w S κ pc p1 n) (h2 : zEv w S κ (d + 1) p1 p2 i) (hn : n ∈ znm w) (hs : zsh w n = (3, len, fl)) (hfl : ∀ j : Nat, j < len → fl[j]? = some (some (some (b0 + j)))) (dd : decode S.1 p2 = .ok (.aaload, 1)) (h3 : p2 + 1 = p3) :
    ∀ x : zK, zOk w S x → ∀ (ρ : zE) (μ : zM) (v : Int32) (μ' : zM), i ρ μ = some (v, μ') → zib v len → ∀ (H : Heap) (ls : Array Slot) (lo : List Loc) (st : List Value), zL w S κ ls ρ → zH w x μ H lo → zc st ≤ d → (∀ (H' : Heap) (lo' : List Loc), zH w x μ' H' lo' → zW S x H' lo' p3 ls (.ref (zad w (b0 + v.toInt.toNat)) :: st)) → zW S x H lo pc ls st := by
  intro x hO ρ μ u μ' hf hin H ls lo st hL hH hc k
  subst h3
  refine h1 x hO ρ μ H ls lo st hL hH (h2 x hO ρ μ _ _ hf H ls lo _ hL hH (by rw [zc_ref]; omega) fun H1 lo1 hH1 => ?_)
  have k9 := k H1 lo1 hH1
  obtain ⟨i, g1, g2⟩ := zws_h hH1 hn
  rw [zce_3 hs] at g2
  have hlt : u.toInt.toNat < len := by have h := hin.1; have h' := hin.2; omega
  rw [← zqsel (ad := zad w) (hfl _ hlt)] at k9
  obtain ⟨p, l, e, s, m, args, below, meth, c, Q⟩ := x
  obtain ⟨hx, hb, hml, hown, hts, hK, -⟩ := hO
  exact W.aald (v := va_rf (zqs (zad w) fl u.toNatClampNeg)) (ty := .array .int) hx hb (hH1.1 i _ g2) ((hK.2 2 _ rfl).1 len (fun j => va_rf (zqs (zad w) fl j))) rfl (fun q => by cases q) (by show ¬ (u < 0 ∨ (arrV _ _ _).slots.size ≤ _); rw [arrV_size]; exact zib_in hin) (by show (arrV _ _ _).slots[_]? = _; exact arrV_read _ _ hlt) rfl rfl dd k9
/-- an expression that makes no difference to anything but its answer -/
def zPur (f : zX) : Prop := ∀ (ρ : zE) (μ : zM) (v : Int32) (μ' : zM), f ρ μ = some (v, μ') → μ' = μ
theorem zpur_k {v : Int32} : zPur (zk v) := fun ρ μ v' μ' h => by cases h; rfl
theorem zpur_l {k : Nat} : zPur (zl k) := fun ρ μ v' μ' h => by
  unfold zl at h
  split at h
  · cases h
  · cases h; rfl
theorem zpur_bin {o : Int32 → Int32 → Int32} {a b : zX} (ha : zPur a) (hb : zPur b) : zPur (zbin o a b) := fun ρ μ v' μ' h => by
  unfold zbin at h
  split at h
  · cases h
  · rename_i x μ1 e1
    split at h
    · cases h
    · rename_i y μ2 e2
      cases h
      rw [hb _ _ _ _ e2, ha _ _ _ _ e1]
theorem zs_cyd (p1 p2 p3 p4 p5 p6 p7 : Nat) {n idx K L : Nat} {i j sp dp q : zX} (h1 : zRv w S κ pc p1 n) (h2 : zEv w S κ 1 p1 p2 i) (d1 : decode S.1 p2 = .ok (.aaload, 1)) (h3 : zEv w S κ 1 (p2 + 1) p3 sp) (h4 : zRv w S κ p3 p4 n) (h5 : zEv w S κ 3 p4 p5 j) (d2 : decode S.1 p5 = .ok (.aaload, 1)) (h6 : zEv w S κ 3 (p5 + 1) p6 dp) (h7 : zEv w S κ 4 p6 p7 q) (ha : (n ∈ znm w ∧ zsh w n = (3, K, (List.range K).map (fun j => some (some (n + 1 + j))))) ∧ ∀ j, j < K → (n + 1 + j ∈ znm w ∧ zsh w (n + 1 + j) = (0, L, []))) (dd : decode S.1 p7 = .ok (.invokestatic idx, 3)) (w1 : Cond.methodLink S.2.2.1 idx arraycopyName ∈ S.2.2.2.1) (w2 : Cond.native arraycopyName ∈ S.2.2.2.1) (w3 : Cond.static arraycopyName ∈ S.2.2.2.1) (w4 : Cond.initialized "java/lang/System" ∈ S.2.2.2.1) (hfr : 1 ≤ S.2.2.2.2.frames) (hlo : 40 ≤ S.2.2.2.2.locals) (hr : zRch S.1 3 (p7 + 3) N) (pi : zPur i) (pj : zPur j) (ps : zPur sp) : zSj w S κ vd pc N B C (zcyd (n + 1) K L i j sp dp q) := by
  intro x hO ρ μ t v ρ' μ' hf H ls lo hL hH k0 k1 k2 k3
  have rg : ∀ j : Nat, j < K → ((List.range K).map (fun j => some (some (n + 1 + j))) : List (Option (Option Nat)))[j]? = some (some (some (n + 1 + j))) := fun j hj => by rw [List.getElem?_map, List.getElem?_range hj]; rfl
  unfold zcyd at hf
  split at hf
  · cases hf
  · rename_i a μ1 e1
    have m1 := pi _ _ _ _ e1
    subst m1
    split at hf
    · cases hf
    · rename_i b μ2 e2
      have m2 := pj _ _ _ _ e2
      subst m2
      split at hf
      · rename_i hin
        unfold zcy at hf
        split at hf
        · cases hf
        · rename_i c μ3 e3
          have m3 := ps _ _ _ _ e3
          subst m3
          split at hf
          · cases hf
          · rename_i dd0 μ4 e4
            split at hf
            · cases hf
            · rename_i z μ5 e5
              split at hf
              · rename_i hq
                cases hf
                refine zrj (d := 0) p1 p2 h1 h2 ha.1.1 ha.1.2 rg d1 rfl x hO ρ μ3 a μ3 e1 hin.1 H ls lo [] hL hH (Nat.le_refl _) fun H1 lo1 hH1 => ?_
                refine h3 x hO ρ _ _ _ e3 H1 ls lo1 _ hL hH1 (by simp [zc, Value.category]) fun H2 lo2 hH2 => ?_
                refine zrj (d := 2) p4 p5 h4 h5 ha.1.1 ha.1.2 rg d2 rfl x hO ρ μ3 b μ3 e2 hin.2 H2 ls lo2 _ hL hH2 (by simp [zc, Value.category]) fun H3 lo3 hH3 => ?_
                refine h6 x hO ρ _ _ _ e4 H3 ls lo3 _ hL hH3 (by simp [zc, Value.category]) fun H4 lo4 hH4 => ?_
                refine h7 x hO ρ _ _ _ e5 H4 ls lo4 _ hL hH4 (by simp [zc, Value.category]) fun H5 lo5 hH5 => ?_
                have la : a.toInt.toNat < K := by have h := hin.1.1; have h' := hin.1.2; omega
                have lb : b.toInt.toNat < K := by have h := hin.2.1; have h' := hin.2.2; omega
                obtain ⟨hn, hs⟩ := ha.2 _ la
                obtain ⟨hn', hs'⟩ := ha.2 _ lb
                obtain ⟨i0, g1, g2⟩ := zws_h hH5 hn
                rw [zce_0 hs] at g2
                obtain ⟨i1, g3, g4⟩ := zws_h hH5 hn'
                rw [zce_0 hs'] at g4
                have hp := fun f H1 lo1 => zar_put (μ := μ5) (f := f) (H1 := H1) (lo1 := lo1) hO g3 (zce_0 hs')
                have kk := fun H4 lo4 hH4 => zW_r hO hr (k0 rfl H4 ls lo4 hL hH4)
                obtain ⟨qa, qb0, qq, hl1, hl2⟩ := hq
                have nlt : ∀ {u : Int32}, 0 ≤ u.toInt → ¬ u < 0 := fun {u} h q => by
                  have := Int32.lt_iff_toInt_lt.mp q
                  have h0 : (0 : Int32).toInt = 0 := rfl
                  omega
                have ea : ∀ u : Int32, u.toNatClampNeg = u.toInt.toNat := fun _ => rfl
                obtain ⟨p, l, e, s, m, args, below, meth, c, Q⟩ := x
                obtain ⟨hx, hb, hml, hown, hts, hK, -⟩ := hO
                have hroom : (([] : List Value).map fun v => v.category).sum + (nativeFrameWords "java/lang/System" "arraycopy" 5 + 11) ≤ S.2.2.2.2.locals := Nat.le_trans (Nat.le_of_ble_eq_true rfl) hlo
                exact va_copyi hx hb (hml.trans hL.1.symm) hown (hts _ w1) (hts _ w2) (hts _ w3) (hts _ w4) hK hH5.1 hH5.2.1 hH5.2.2 i0 i1 0 0 g2 g4 rfl rfl rfl (nlt qa) (nlt qb0) (nlt qq) (by rw [ea, ea]; omega) (by rw [ea, ea]; omega) (fun i _ => rfl) hfr hroom dd fun H4 lo4 a1 a2 a3 => kk H4 lo4 (hp _ H4 lo4 a1 a2 a3)
              · cases hf
      · cases hf
/-- two keys -/
theorem zs_lw2 (p1 : Nat) {e : zX} {dflt o1 o2 k1 k2 : Int} {len t1 t2 td : Nat} {s1 s2 sd : zT} (h1 : zEv w S κ 0 pc p1 e) (dd : decode S.1 p1 = .ok (.lookupswitch dflt #[(k1, o1), (k2, o2)], len)) (hk : decide (k1 < k2) = true) (e1 : (p1 : Int) + o1 = (t1 : Int)) (e2 : (p1 : Int) + o2 = (t2 : Int)) (ed : (p1 : Int) + dflt = (td : Int)) (g1 : zSj w S κ vd t1 N N C s1) (g2 : zSj w S κ vd t2 N N C s2) (gd : zSj w S κ vd td N N C sd) : zSj w S κ vd pc N B C (zlw e (fun v => if v.toInt = k1 then s1 else if v.toInt = k2 then s2 else sd)) := by
  refine zs_lw p1 h1 dd (by simp [of_decide_eq_true hk]) fun v => ?_
  by_cases a1 : v.toInt = k1
  · refine ⟨t1, ?_, by rw [if_pos a1]; exact g1⟩
    rw [← e1]
    simp [lookupswitch.offset, a1]
  · by_cases a2 : v.toInt = k2
    · refine ⟨t2, ?_, by rw [if_neg a1, if_pos a2]; exact g2⟩
      rw [← e2]
      simp [lookupswitch.offset, a2, Ne.symm (a2 ▸ a1)]
    · refine ⟨td, ?_, by rw [if_neg a1, if_neg a2]; exact gd⟩
      rw [← ed]
      simp [lookupswitch.offset, Ne.symm a1, Ne.symm a2]
/-! the ends of methods -/
theorem zm_i {y : MethodName} {ws ws' : List Cond} {rm : Room} {cc : ByteArray} {maxL : Nat} {body : zT} {av : List Value} {l0 : List (Nat × Int32)} {μ μ' : zM} {r : Int32}
    (hy : plainName y.cls = true) (hw : ws = Cond.code y cc maxL (some .int) :: ws') (hj : zSj w (cc, maxL, y.cls, ws, rm) κ false 0 0 0 0 body) (hrm : rm.cells = 0 ∧ rm.slots = 0)
    (hsz : (lg_sl av).length ≤ maxL) (hl0 : ∀ q ∈ l0, (q.1, Value.int q.2) ∈ lv_args 0 av) (hκ : ∀ q ∈ κ, (q.1, Value.ref (zad w q.2)) ∈ lv_args 0 av) (h : zfi body (zenv l0) μ = some (r, μ')) (l : Launch) :
    Met l y ws rm (va_Pc av (zPre w μ)) (zQ w false r μ') 0 0 (zFr w) := by
  refine zmet (vd := false) (n := 0) (rc := []) (pe := 0) hy hw ⟨_, rfl, rfl⟩ hj hrm hsz hl0 hκ ?_ l
  unfold zfi at h
  split at h
  · cases h
  · rename_i t v ρ' μ1 e1
    split at h
    · rename_i ht
      cases h
      exact ⟨t, _, ρ', e1, Or.inl ⟨ht, Or.inr rfl⟩⟩
    · cases h
theorem zm_z {y : MethodName} {ws ws' : List Cond} {rm : Room} {cc : ByteArray} {maxL : Nat} {body : zT} {av : List Value} {l0 : List (Nat × Int32)} {μ μ' : zM} {r : Int32}
    (hy : plainName y.cls = true) (hw : ws = Cond.code y cc maxL (some .boolean) :: ws') (hj : zSj w (cc, maxL, y.cls, ws, rm) κ false 0 0 0 0 body) (hrm : rm.cells = 0 ∧ rm.slots = 0)
    (hsz : (lg_sl av).length ≤ maxL) (hl0 : ∀ q ∈ l0, (q.1, Value.int q.2) ∈ lv_args 0 av) (hκ : ∀ q ∈ κ, (q.1, Value.ref (zad w q.2)) ∈ lv_args 0 av) (h : zfz body (zenv l0) μ = some (r, μ')) (l : Launch) :
    Met l y ws rm (va_Pc av (zPre w μ)) (zQ w false r μ') 0 0 (zFr w) := by
  unfold zfz at h
  split at h
  · cases h
  · rename_i t v ρ' μ1 e1
    split at h
    · rename_i ht
      cases h
      exact zmet (vd := false) (n := 0) (rc := []) (pe := 0) hy hw ⟨_, rfl, znar_z ht.2⟩ hj hrm hsz hl0 hκ ⟨t, _, ρ', e1, Or.inl ⟨ht.1, Or.inr rfl⟩⟩ l
    · cases h
theorem zm_v {y : MethodName} {ws ws' : List Cond} {rm : Room} {cc : ByteArray} {maxL pe : Nat} {body : zT} {av : List Value} {l0 : List (Nat × Int32)} {μ μ' : zM} {r : Int32}
    (hy : plainName y.cls = true) (hw : ws = Cond.code y cc maxL none :: ws') (hj : zSj w (cc, maxL, y.cls, ws, rm) κ true 0 pe 0 0 body) (hrm : rm.cells = 0 ∧ rm.slots = 0)
    (hsz : (lg_sl av).length ≤ maxL) (hl0 : ∀ q ∈ l0, (q.1, Value.int q.2) ∈ lv_args 0 av) (hκ : ∀ q ∈ κ, (q.1, Value.ref (zad w q.2)) ∈ lv_args 0 av) (hd : decode cc pe = .ok (.return_, 1)) (h : zfo0 body (zenv l0) μ = some (r, μ')) (l : Launch) :
    Met l y ws rm (va_Pc av (zPre w μ)) (zQ w true r μ') 0 0 (zFr w) := by
  refine zmet (n := 0) (rc := []) (pe := pe) hy hw rfl hj hrm hsz hl0 hκ ?_ l
  unfold zfo0 at h
  split at h
  · cases h
  · rename_i t v ρ' μ1 e1
    split at h
    · rename_i ht
      cases h
      rcases ht with rfl | rfl
      · exact ⟨_, _, ρ', e1, Or.inr ⟨rfl, rfl, hd⟩⟩
      · exact ⟨_, _, ρ', e1, Or.inl ⟨rfl, Or.inl rfl⟩⟩
    · cases h
end ZGL
