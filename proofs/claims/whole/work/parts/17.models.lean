/-! shapes of the objects, rows of the fields, the bodies and methods as functions -/
def zAr (w : zN) (n len : Nat) : Prop := n ∈ znm w ∧ zsh w n = (0, len, [])
def zAz (w : zN) (n len : Nat) : Prop := n ∈ znm w ∧ zsh w n = (1, len, [])
def zA2 (w : zN) (n k len : Nat) : Prop := (n ∈ znm w ∧ zsh w n = (3, k, (List.range k).map (fun j => some (some (n + 1 + j))))) ∧ ∀ j, j < k → zAr w (n + 1 + j) len
theorem zrg {k n : Nat} : ∀ j : Nat, j < k → ((List.range k).map (fun j => some (some (n + j))) : List (Option (Option Nat)))[j]? = some (some (some (n + j))) := fun j hj => by rw [List.getElem?_map, List.getElem?_range hj]; rfl
def zL6 (b : Nat) : List (Option (Option Nat)) := [some (some (b + 1)), some (some (b + 2)), some (some (b + 3)), some (some (b + 4)), some (some (b + 5)), some (some (b + 6)), none, none, none]
def zC6 (w : zN) (b : Nat) : Prop := (b ∈ znm w ∧ zsh w b = (2, 6, zL6 b)) ∧ zAr w (b + 1) 900 ∧ zAr w (b + 2) 6 ∧ zAr w (b + 3) 6 ∧ zAr w (b + 4) 4 ∧ zAr w (b + 5) 13 ∧ zAr w (b + 6) 13
def zL5 (b : Nat) : List (Option (Option Nat)) := [some (some (b + 1)), some (some (b + 8)), none]
def zC5 (w : zN) (b : Nat) : Prop := (b ∈ znm w ∧ zsh w b = (2, 5, zL5 b)) ∧ zC6 w (b + 1) ∧ zAr w (b + 8) 118
def zL3 (b : Nat) : List (Option (Option Nat)) := [some (some (b + 1))]
def zC3 (w : zN) (b : Nat) : Prop := (b ∈ znm w ∧ zsh w b = (2, 3, zL3 b)) ∧ zA2 w (b + 1) 7 13
def zL0 (b : Nat) : List (Option (Option Nat)) := [some (some (b + 1)), some (some (b + 2)), some (some (b + 3)), some (some (b + 4)), some (some (b + 5)), some (some (b + 6)), none, none, none, none]
def zC0 (w : zN) (b : Nat) : Prop := (b ∈ znm w ∧ zsh w b = (2, 0, zL0 b)) ∧ zAr w (b + 1) 1500 ∧ zAr w (b + 2) 1500 ∧ zAr w (b + 3) 1500 ∧ zAr w (b + 4) 1500 ∧ zAr w (b + 5) 1500 ∧ zAz w (b + 6) 1500
def zL1 (b : Nat) : List (Option (Option Nat)) := [some (some (b + 1)), some (some (b + 10)), some (some (b + 11)), some (some (b + 12)), some (some (b + 13)), some (some (b + 14)), some (some (b + 15)), some (some (b + 16)), some (some (b + 17)), none, none, none, none, none, none, none]
def zC1 (w : zN) (b : Nat) : Prop := (b ∈ znm w ∧ zsh w b = (2, 1, zL1 b)) ∧ zC5 w (b + 1) ∧ zAr w (b + 10) 150000 ∧ zAr w (b + 11) 9000 ∧ zAr w (b + 12) 1500 ∧ zAr w (b + 13) 1500 ∧ zAr w (b + 14) 1500 ∧ zAr w (b + 15) 1500 ∧ zAr w (b + 16) 4096 ∧ zC0 w (b + 17)
def zL8 (b : Nat) (sf : Option (Option Nat)) : List (Option (Option Nat)) := [some (some (b + 1)), some (some (b + 8)), some (some (b + 17)), sf, none, none, none, none]
def zC8 (w : zN) (b : Nat) (sf : Option (Option Nat)) : Prop := (b ∈ znm w ∧ zsh w b = (2, 8, zL8 b sf)) ∧ zC6 w (b + 1) ∧ zC5 w (b + 8) ∧ zC3 w (b + 17)
def zL9 (b : Nat) : List (Option (Option Nat)) := [some (some (b + 1)), some (some (b + 2)), some (some (b + 3)), none, none, none, some (some (b + 4)), none, none, none, some (some (b + 5)), none, none, none, some (some (b + 6)), none, none, none, none, none, some (some (b + 7)), some (some (b + 8)), some (some (b + 9)), some (some (b + 10)), some (some (b + 11)), some (some (b + 12)), some (some (b + 13)), some (some (b + 14)), some (some (b + 15)), some (some (b + 16)), some (some (b + 17)), some (some (b + 18))]
def zC9 (w : zN) (b : Nat) : Prop := (b ∈ znm w ∧ zsh w b = (2, 9, zL9 b)) ∧ zAr w (b + 1) 2880 ∧ zAr w (b + 2) 960 ∧ zAr w (b + 3) 100 ∧ zAr w (b + 4) 16 ∧ zAr w (b + 5) 7 ∧ zAr w (b + 6) 100 ∧ zAr w (b + 7) 150000 ∧ zAr w (b + 8) 1500 ∧ zAr w (b + 9) 2048 ∧ zAr w (b + 10) 1500 ∧ zAr w (b + 11) 9000 ∧ zAz w (b + 12) 9000 ∧ zAr w (b + 13) 1500 ∧ zAr w (b + 14) 1500 ∧ zAr w (b + 15) 1500 ∧ zAr w (b + 16) 1500 ∧ zAz w (b + 17) 1500 ∧ zAr w (b + 18) 1500
theorem gf_0_15 {cc : ByteArray} {nL : Nat} {c0 : Cond} {rm : Room} {pc : Nat} (d : decode cc pc = .ok (.getfield 15, 3)) : zGf (cc, nL, RX0, c0 :: zGW, rm) pc 0 1 := zgf_own (T := TX0) (N := 10) d rfl (fun q h => List.mem_cons_of_mem _ (uin_X0 q h)) (Nat.le_of_ble_eq_true rfl) (List.mem_cons_of_mem _ qw_647)
theorem gf_0_18 {cc : ByteArray} {nL : Nat} {c0 : Cond} {rm : Room} {pc : Nat} (d : decode cc pc = .ok (.getfield 18, 3)) : zGf (cc, nL, RX0, c0 :: zGW, rm) pc 0 2 := zgf_own (T := TX0) (N := 10) d rfl (fun q h => List.mem_cons_of_mem _ (uin_X0 q h)) (Nat.le_of_ble_eq_true rfl) (List.mem_cons_of_mem _ qw_648)
theorem gf_0_21 {cc : ByteArray} {nL : Nat} {c0 : Cond} {rm : Room} {pc : Nat} (d : decode cc pc = .ok (.getfield 21, 3)) : zGf (cc, nL, RX0, c0 :: zGW, rm) pc 0 3 := zgf_own (T := TX0) (N := 10) d rfl (fun q h => List.mem_cons_of_mem _ (uin_X0 q h)) (Nat.le_of_ble_eq_true rfl) (List.mem_cons_of_mem _ qw_649)
theorem gf_0_24 {cc : ByteArray} {nL : Nat} {c0 : Cond} {rm : Room} {pc : Nat} (d : decode cc pc = .ok (.getfield 24, 3)) : zGf (cc, nL, RX0, c0 :: zGW, rm) pc 0 4 := zgf_own (T := TX0) (N := 10) d rfl (fun q h => List.mem_cons_of_mem _ (uin_X0 q h)) (Nat.le_of_ble_eq_true rfl) (List.mem_cons_of_mem _ qw_650)
theorem gf_0_27 {cc : ByteArray} {nL : Nat} {c0 : Cond} {rm : Room} {pc : Nat} (d : decode cc pc = .ok (.getfield 27, 3)) : zGf (cc, nL, RX0, c0 :: zGW, rm) pc 0 5 := zgf_own (T := TX0) (N := 10) d rfl (fun q h => List.mem_cons_of_mem _ (uin_X0 q h)) (Nat.le_of_ble_eq_true rfl) (List.mem_cons_of_mem _ qw_651)
theorem gf_0_31 {cc : ByteArray} {nL : Nat} {c0 : Cond} {rm : Room} {pc : Nat} (d : decode cc pc = .ok (.getfield 31, 3)) : zGf (cc, nL, RX0, c0 :: zGW, rm) pc 0 6 := zgf_own (T := TX0) (N := 10) d rfl (fun q h => List.mem_cons_of_mem _ (uin_X0 q h)) (Nat.le_of_ble_eq_true rfl) (List.mem_cons_of_mem _ qw_652)
theorem gf_0_35 {cc : ByteArray} {nL : Nat} {c0 : Cond} {rm : Room} {pc : Nat} (d : decode cc pc = .ok (.getfield 35, 3)) : zGf (cc, nL, RX0, c0 :: zGW, rm) pc 0 7 := zgf_own (T := TX0) (N := 10) d rfl (fun q h => List.mem_cons_of_mem _ (uin_X0 q h)) (Nat.le_of_ble_eq_true rfl) (List.mem_cons_of_mem _ qw_653)
theorem gf_0_38 {cc : ByteArray} {nL : Nat} {c0 : Cond} {rm : Room} {pc : Nat} (d : decode cc pc = .ok (.getfield 38, 3)) : zGf (cc, nL, RX0, c0 :: zGW, rm) pc 0 8 := zgf_own (T := TX0) (N := 10) d rfl (fun q h => List.mem_cons_of_mem _ (uin_X0 q h)) (Nat.le_of_ble_eq_true rfl) (List.mem_cons_of_mem _ qw_654)
theorem gf_0_41 {cc : ByteArray} {nL : Nat} {c0 : Cond} {rm : Room} {pc : Nat} (d : decode cc pc = .ok (.getfield 41, 3)) : zGf (cc, nL, RX0, c0 :: zGW, rm) pc 0 9 := zgf_own (T := TX0) (N := 10) d rfl (fun q h => List.mem_cons_of_mem _ (uin_X0 q h)) (Nat.le_of_ble_eq_true rfl) (List.mem_cons_of_mem _ qw_655)
theorem gf_0_9 {cc : ByteArray} {nL : Nat} {c0 : Cond} {rm : Room} {pc : Nat} (d : decode cc pc = .ok (.getfield 9, 3)) : zGf (cc, nL, RX0, c0 :: zGW, rm) pc 0 0 := zgf_own (T := TX0) (N := 10) d rfl (fun q h => List.mem_cons_of_mem _ (uin_X0 q h)) (Nat.le_of_ble_eq_true rfl) (List.mem_cons_of_mem _ qw_646)
theorem gf_1_105 {cc : ByteArray} {nL : Nat} {c0 : Cond} {rm : Room} {pc : Nat} (d : decode cc pc = .ok (.getfield 105, 3)) : zGf (cc, nL, RX1, c0 :: zGW, rm) pc 5 1 := zgf_nest (T := TX5) (N := 3) d rfl (fun q h => List.mem_cons_of_mem _ (uin_X5 q h)) (Nat.le_of_ble_eq_true rfl) (List.mem_of_getElem? (i := 24) rfl)
theorem gf_1_12 {cc : ByteArray} {nL : Nat} {c0 : Cond} {rm : Room} {pc : Nat} (d : decode cc pc = .ok (.getfield 12, 3)) : zGf (cc, nL, RX1, c0 :: zGW, rm) pc 1 0 := zgf_own (T := TX1) (N := 16) d rfl (fun q h => List.mem_cons_of_mem _ (uin_X1 q h)) (Nat.le_of_ble_eq_true rfl) (List.mem_cons_of_mem _ qw_678)
theorem gf_1_137 {cc : ByteArray} {nL : Nat} {c0 : Cond} {rm : Room} {pc : Nat} (d : decode cc pc = .ok (.getfield 137, 3)) : zGf (cc, nL, RX1, c0 :: zGW, rm) pc 5 0 := zgf_nest (T := TX5) (N := 3) d rfl (fun q h => List.mem_cons_of_mem _ (uin_X5 q h)) (Nat.le_of_ble_eq_true rfl) (List.mem_of_getElem? (i := 21) rfl)
theorem gf_1_141 {cc : ByteArray} {nL : Nat} {c0 : Cond} {rm : Room} {pc : Nat} (d : decode cc pc = .ok (.getfield 141, 3)) : zGf (cc, nL, RX1, c0 :: zGW, rm) pc 6 8 := zgf_nest (T := TX6) (N := 9) d rfl (fun q h => List.mem_cons_of_mem _ (uin_X6 q h)) (Nat.le_of_ble_eq_true rfl) (List.mem_of_getElem? (i := 18) rfl)
theorem gf_1_21 {cc : ByteArray} {nL : Nat} {c0 : Cond} {rm : Room} {pc : Nat} (d : decode cc pc = .ok (.getfield 21, 3)) : zGf (cc, nL, RX1, c0 :: zGW, rm) pc 1 1 := zgf_own (T := TX1) (N := 16) d rfl (fun q h => List.mem_cons_of_mem _ (uin_X1 q h)) (Nat.le_of_ble_eq_true rfl) (List.mem_cons_of_mem _ qw_680)
theorem gf_1_25 {cc : ByteArray} {nL : Nat} {c0 : Cond} {rm : Room} {pc : Nat} (d : decode cc pc = .ok (.getfield 25, 3)) : zGf (cc, nL, RX1, c0 :: zGW, rm) pc 1 2 := zgf_own (T := TX1) (N := 16) d rfl (fun q h => List.mem_cons_of_mem _ (uin_X1 q h)) (Nat.le_of_ble_eq_true rfl) (List.mem_cons_of_mem _ qw_682)
theorem gf_1_28 {cc : ByteArray} {nL : Nat} {c0 : Cond} {rm : Room} {pc : Nat} (d : decode cc pc = .ok (.getfield 28, 3)) : zGf (cc, nL, RX1, c0 :: zGW, rm) pc 1 3 := zgf_own (T := TX1) (N := 16) d rfl (fun q h => List.mem_cons_of_mem _ (uin_X1 q h)) (Nat.le_of_ble_eq_true rfl) (List.mem_cons_of_mem _ qw_684)
theorem gf_1_31 {cc : ByteArray} {nL : Nat} {c0 : Cond} {rm : Room} {pc : Nat} (d : decode cc pc = .ok (.getfield 31, 3)) : zGf (cc, nL, RX1, c0 :: zGW, rm) pc 1 4 := zgf_own (T := TX1) (N := 16) d rfl (fun q h => List.mem_cons_of_mem _ (uin_X1 q h)) (Nat.le_of_ble_eq_true rfl) (List.mem_cons_of_mem _ qw_685)
theorem gf_1_34 {cc : ByteArray} {nL : Nat} {c0 : Cond} {rm : Room} {pc : Nat} (d : decode cc pc = .ok (.getfield 34, 3)) : zGf (cc, nL, RX1, c0 :: zGW, rm) pc 1 5 := zgf_own (T := TX1) (N := 16) d rfl (fun q h => List.mem_cons_of_mem _ (uin_X1 q h)) (Nat.le_of_ble_eq_true rfl) (List.mem_cons_of_mem _ qw_687)
theorem gf_1_37 {cc : ByteArray} {nL : Nat} {c0 : Cond} {rm : Room} {pc : Nat} (d : decode cc pc = .ok (.getfield 37, 3)) : zGf (cc, nL, RX1, c0 :: zGW, rm) pc 1 6 := zgf_own (T := TX1) (N := 16) d rfl (fun q h => List.mem_cons_of_mem _ (uin_X1 q h)) (Nat.le_of_ble_eq_true rfl) (List.mem_cons_of_mem _ qw_689)
theorem gf_1_40 {cc : ByteArray} {nL : Nat} {c0 : Cond} {rm : Room} {pc : Nat} (d : decode cc pc = .ok (.getfield 40, 3)) : zGf (cc, nL, RX1, c0 :: zGW, rm) pc 1 7 := zgf_own (T := TX1) (N := 16) d rfl (fun q h => List.mem_cons_of_mem _ (uin_X1 q h)) (Nat.le_of_ble_eq_true rfl) (List.mem_cons_of_mem _ qw_690)
theorem gf_1_46 {cc : ByteArray} {nL : Nat} {c0 : Cond} {rm : Room} {pc : Nat} (d : decode cc pc = .ok (.getfield 46, 3)) : zGf (cc, nL, RX1, c0 :: zGW, rm) pc 1 8 := zgf_own (T := TX1) (N := 16) d rfl (fun q h => List.mem_cons_of_mem _ (uin_X1 q h)) (Nat.le_of_ble_eq_true rfl) (List.mem_cons_of_mem _ qw_691)
theorem gf_1_50 {cc : ByteArray} {nL : Nat} {c0 : Cond} {rm : Room} {pc : Nat} (d : decode cc pc = .ok (.getfield 50, 3)) : zGf (cc, nL, RX1, c0 :: zGW, rm) pc 1 9 := zgf_own (T := TX1) (N := 16) d rfl (fun q h => List.mem_cons_of_mem _ (uin_X1 q h)) (Nat.le_of_ble_eq_true rfl) (List.mem_cons_of_mem _ qw_692)
theorem gf_1_54 {cc : ByteArray} {nL : Nat} {c0 : Cond} {rm : Room} {pc : Nat} (d : decode cc pc = .ok (.getfield 54, 3)) : zGf (cc, nL, RX1, c0 :: zGW, rm) pc 1 10 := zgf_own (T := TX1) (N := 16) d rfl (fun q h => List.mem_cons_of_mem _ (uin_X1 q h)) (Nat.le_of_ble_eq_true rfl) (List.mem_cons_of_mem _ qw_694)
theorem gf_1_57 {cc : ByteArray} {nL : Nat} {c0 : Cond} {rm : Room} {pc : Nat} (d : decode cc pc = .ok (.getfield 57, 3)) : zGf (cc, nL, RX1, c0 :: zGW, rm) pc 1 11 := zgf_own (T := TX1) (N := 16) d rfl (fun q h => List.mem_cons_of_mem _ (uin_X1 q h)) (Nat.le_of_ble_eq_true rfl) (List.mem_cons_of_mem _ qw_696)
theorem gf_1_61 {cc : ByteArray} {nL : Nat} {c0 : Cond} {rm : Room} {pc : Nat} (d : decode cc pc = .ok (.getfield 61, 3)) : zGf (cc, nL, RX1, c0 :: zGW, rm) pc 1 12 := zgf_own (T := TX1) (N := 16) d rfl (fun q h => List.mem_cons_of_mem _ (uin_X1 q h)) (Nat.le_of_ble_eq_true rfl) (List.mem_cons_of_mem _ qw_698)
theorem gf_1_67 {cc : ByteArray} {nL : Nat} {c0 : Cond} {rm : Room} {pc : Nat} (d : decode cc pc = .ok (.getfield 67, 3)) : zGf (cc, nL, RX1, c0 :: zGW, rm) pc 1 14 := zgf_own (T := TX1) (N := 16) d rfl (fun q h => List.mem_cons_of_mem _ (uin_X1 q h)) (Nat.le_of_ble_eq_true rfl) (List.mem_cons_of_mem _ qw_701)
theorem gf_1_70 {cc : ByteArray} {nL : Nat} {c0 : Cond} {rm : Room} {pc : Nat} (d : decode cc pc = .ok (.getfield 70, 3)) : zGf (cc, nL, RX1, c0 :: zGW, rm) pc 1 15 := zgf_own (T := TX1) (N := 16) d rfl (fun q h => List.mem_cons_of_mem _ (uin_X1 q h)) (Nat.le_of_ble_eq_true rfl) (List.mem_cons_of_mem _ qw_702)
theorem gf_3_13 {cc : ByteArray} {nL : Nat} {c0 : Cond} {rm : Room} {pc : Nat} (d : decode cc pc = .ok (.getfield 13, 3)) : zGf (cc, nL, RX3, c0 :: zGW, rm) pc 3 0 := zgf_own (T := TX3) (N := 1) d rfl (fun q h => List.mem_cons_of_mem _ (uin_X3 q h)) (Nat.le_of_ble_eq_true rfl) (List.mem_cons_of_mem _ qw_225)
theorem gf_3_22 {cc : ByteArray} {nL : Nat} {c0 : Cond} {rm : Room} {pc : Nat} (d : decode cc pc = .ok (.getfield 22, 3)) : zGf (cc, nL, RX3, c0 :: zGW, rm) pc 5 0 := zgf_nest (T := TX5) (N := 3) d rfl (fun q h => List.mem_cons_of_mem _ (uin_X5 q h)) (Nat.le_of_ble_eq_true rfl) (List.mem_of_getElem? (i := 20) rfl)
theorem gf_3_26 {cc : ByteArray} {nL : Nat} {c0 : Cond} {rm : Room} {pc : Nat} (d : decode cc pc = .ok (.getfield 26, 3)) : zGf (cc, nL, RX3, c0 :: zGW, rm) pc 6 8 := zgf_nest (T := TX6) (N := 9) d rfl (fun q h => List.mem_cons_of_mem _ (uin_X6 q h)) (Nat.le_of_ble_eq_true rfl) (List.mem_of_getElem? (i := 17) rfl)
theorem gf_3_40 {cc : ByteArray} {nL : Nat} {c0 : Cond} {rm : Room} {pc : Nat} (d : decode cc pc = .ok (.getfield 40, 3)) : zGf (cc, nL, RX3, c0 :: zGW, rm) pc 5 1 := zgf_nest (T := TX5) (N := 3) d rfl (fun q h => List.mem_cons_of_mem _ (uin_X5 q h)) (Nat.le_of_ble_eq_true rfl) (List.mem_of_getElem? (i := 23) rfl)
theorem gf_3_60 {cc : ByteArray} {nL : Nat} {c0 : Cond} {rm : Room} {pc : Nat} (d : decode cc pc = .ok (.getfield 60, 3)) : zGf (cc, nL, RX3, c0 :: zGW, rm) pc 6 3 := zgf_nest (T := TX6) (N := 9) d rfl (fun q h => List.mem_cons_of_mem _ (uin_X6 q h)) (Nat.le_of_ble_eq_true rfl) (List.mem_of_getElem? (i := 7) rfl)
theorem gf_3_72 {cc : ByteArray} {nL : Nat} {c0 : Cond} {rm : Room} {pc : Nat} (d : decode cc pc = .ok (.getfield 72, 3)) : zGf (cc, nL, RX3, c0 :: zGW, rm) pc 6 2 := zgf_nest (T := TX6) (N := 9) d rfl (fun q h => List.mem_cons_of_mem _ (uin_X6 q h)) (Nat.le_of_ble_eq_true rfl) (List.mem_of_getElem? (i := 5) rfl)
theorem gf_3_75 {cc : ByteArray} {nL : Nat} {c0 : Cond} {rm : Room} {pc : Nat} (d : decode cc pc = .ok (.getfield 75, 3)) : zGf (cc, nL, RX3, c0 :: zGW, rm) pc 6 4 := zgf_nest (T := TX6) (N := 9) d rfl (fun q h => List.mem_cons_of_mem _ (uin_X6 q h)) (Nat.le_of_ble_eq_true rfl) (List.mem_of_getElem? (i := 9) rfl)
theorem gf_3_78 {cc : ByteArray} {nL : Nat} {c0 : Cond} {rm : Room} {pc : Nat} (d : decode cc pc = .ok (.getfield 78, 3)) : zGf (cc, nL, RX3, c0 :: zGW, rm) pc 6 5 := zgf_nest (T := TX6) (N := 9) d rfl (fun q h => List.mem_cons_of_mem _ (uin_X6 q h)) (Nat.le_of_ble_eq_true rfl) (List.mem_of_getElem? (i := 11) rfl)
theorem gf_5_108 {cc : ByteArray} {nL : Nat} {c0 : Cond} {rm : Room} {pc : Nat} (d : decode cc pc = .ok (.getfield 108, 3)) : zGf (cc, nL, RX5, c0 :: zGW, rm) pc 6 5 := zgf_nest (T := TX6) (N := 9) d rfl (fun q h => List.mem_cons_of_mem _ (uin_X6 q h)) (Nat.le_of_ble_eq_true rfl) (List.mem_of_getElem? (i := 12) rfl)
theorem gf_5_12 {cc : ByteArray} {nL : Nat} {c0 : Cond} {rm : Room} {pc : Nat} (d : decode cc pc = .ok (.getfield 12, 3)) : zGf (cc, nL, RX5, c0 :: zGW, rm) pc 5 0 := zgf_own (T := TX5) (N := 3) d rfl (fun q h => List.mem_cons_of_mem _ (uin_X5 q h)) (Nat.le_of_ble_eq_true rfl) (List.mem_cons_of_mem _ qw_201)
theorem gf_5_120 {cc : ByteArray} {nL : Nat} {c0 : Cond} {rm : Room} {pc : Nat} (d : decode cc pc = .ok (.getfield 120, 3)) : zGf (cc, nL, RX5, c0 :: zGW, rm) pc 6 1 := zgf_nest (T := TX6) (N := 9) d rfl (fun q h => List.mem_cons_of_mem _ (uin_X6 q h)) (Nat.le_of_ble_eq_true rfl) (List.mem_of_getElem? (i := 3) rfl)
theorem gf_5_181 {cc : ByteArray} {nL : Nat} {c0 : Cond} {rm : Room} {pc : Nat} (d : decode cc pc = .ok (.getfield 181, 3)) : zGf (cc, nL, RX5, c0 :: zGW, rm) pc 6 6 := zgf_nest (T := TX6) (N := 9) d rfl (fun q h => List.mem_cons_of_mem _ (uin_X6 q h)) (Nat.le_of_ble_eq_true rfl) (List.mem_of_getElem? (i := 14) rfl)
theorem gf_5_20 {cc : ByteArray} {nL : Nat} {c0 : Cond} {rm : Room} {pc : Nat} (d : decode cc pc = .ok (.getfield 20, 3)) : zGf (cc, nL, RX5, c0 :: zGW, rm) pc 5 1 := zgf_own (T := TX5) (N := 3) d rfl (fun q h => List.mem_cons_of_mem _ (uin_X5 q h)) (Nat.le_of_ble_eq_true rfl) (List.mem_cons_of_mem _ qw_205)
theorem gf_5_24 {cc : ByteArray} {nL : Nat} {c0 : Cond} {rm : Room} {pc : Nat} (d : decode cc pc = .ok (.getfield 24, 3)) : zGf (cc, nL, RX5, c0 :: zGW, rm) pc 5 2 := zgf_own (T := TX5) (N := 3) d rfl (fun q h => List.mem_cons_of_mem _ (uin_X5 q h)) (Nat.le_of_ble_eq_true rfl) (List.mem_cons_of_mem _ qw_209)
theorem gf_5_38 {cc : ByteArray} {nL : Nat} {c0 : Cond} {rm : Room} {pc : Nat} (d : decode cc pc = .ok (.getfield 38, 3)) : zGf (cc, nL, RX5, c0 :: zGW, rm) pc 6 3 := zgf_nest (T := TX6) (N := 9) d rfl (fun q h => List.mem_cons_of_mem _ (uin_X6 q h)) (Nat.le_of_ble_eq_true rfl) (List.mem_of_getElem? (i := 6) rfl)
theorem gf_5_49 {cc : ByteArray} {nL : Nat} {c0 : Cond} {rm : Room} {pc : Nat} (d : decode cc pc = .ok (.getfield 49, 3)) : zGf (cc, nL, RX5, c0 :: zGW, rm) pc 6 7 := zgf_nest (T := TX6) (N := 9) d rfl (fun q h => List.mem_cons_of_mem _ (uin_X6 q h)) (Nat.le_of_ble_eq_true rfl) (List.mem_of_getElem? (i := 15) rfl)
theorem gf_5_68 {cc : ByteArray} {nL : Nat} {c0 : Cond} {rm : Room} {pc : Nat} (d : decode cc pc = .ok (.getfield 68, 3)) : zGf (cc, nL, RX5, c0 :: zGW, rm) pc 6 4 := zgf_nest (T := TX6) (N := 9) d rfl (fun q h => List.mem_cons_of_mem _ (uin_X6 q h)) (Nat.le_of_ble_eq_true rfl) (List.mem_of_getElem? (i := 10) rfl)
theorem gf_5_83 {cc : ByteArray} {nL : Nat} {c0 : Cond} {rm : Room} {pc : Nat} (d : decode cc pc = .ok (.getfield 83, 3)) : zGf (cc, nL, RX5, c0 :: zGW, rm) pc 6 0 := zgf_nest (T := TX6) (N := 9) d rfl (fun q h => List.mem_cons_of_mem _ (uin_X6 q h)) (Nat.le_of_ble_eq_true rfl) (List.mem_of_getElem? (i := 1) rfl)
theorem gf_6_11 {cc : ByteArray} {nL : Nat} {c0 : Cond} {rm : Room} {pc : Nat} (d : decode cc pc = .ok (.getfield 11, 3)) : zGf (cc, nL, RX6, c0 :: zGW, rm) pc 6 0 := zgf_own (T := TX6) (N := 9) d rfl (fun q h => List.mem_cons_of_mem _ (uin_X6 q h)) (Nat.le_of_ble_eq_true rfl) (List.mem_cons_of_mem _ qw_144)
theorem gf_6_15 {cc : ByteArray} {nL : Nat} {c0 : Cond} {rm : Room} {pc : Nat} (d : decode cc pc = .ok (.getfield 15, 3)) : zGf (cc, nL, RX6, c0 :: zGW, rm) pc 6 1 := zgf_own (T := TX6) (N := 9) d rfl (fun q h => List.mem_cons_of_mem _ (uin_X6 q h)) (Nat.le_of_ble_eq_true rfl) (List.mem_cons_of_mem _ qw_147)
theorem gf_6_18 {cc : ByteArray} {nL : Nat} {c0 : Cond} {rm : Room} {pc : Nat} (d : decode cc pc = .ok (.getfield 18, 3)) : zGf (cc, nL, RX6, c0 :: zGW, rm) pc 6 2 := zgf_own (T := TX6) (N := 9) d rfl (fun q h => List.mem_cons_of_mem _ (uin_X6 q h)) (Nat.le_of_ble_eq_true rfl) (List.mem_cons_of_mem _ qw_150)
theorem gf_6_21 {cc : ByteArray} {nL : Nat} {c0 : Cond} {rm : Room} {pc : Nat} (d : decode cc pc = .ok (.getfield 21, 3)) : zGf (cc, nL, RX6, c0 :: zGW, rm) pc 6 3 := zgf_own (T := TX6) (N := 9) d rfl (fun q h => List.mem_cons_of_mem _ (uin_X6 q h)) (Nat.le_of_ble_eq_true rfl) (List.mem_cons_of_mem _ qw_153)
theorem gf_6_24 {cc : ByteArray} {nL : Nat} {c0 : Cond} {rm : Room} {pc : Nat} (d : decode cc pc = .ok (.getfield 24, 3)) : zGf (cc, nL, RX6, c0 :: zGW, rm) pc 6 4 := zgf_own (T := TX6) (N := 9) d rfl (fun q h => List.mem_cons_of_mem _ (uin_X6 q h)) (Nat.le_of_ble_eq_true rfl) (List.mem_cons_of_mem _ qw_157)
theorem gf_6_27 {cc : ByteArray} {nL : Nat} {c0 : Cond} {rm : Room} {pc : Nat} (d : decode cc pc = .ok (.getfield 27, 3)) : zGf (cc, nL, RX6, c0 :: zGW, rm) pc 6 5 := zgf_own (T := TX6) (N := 9) d rfl (fun q h => List.mem_cons_of_mem _ (uin_X6 q h)) (Nat.le_of_ble_eq_true rfl) (List.mem_cons_of_mem _ qw_160)
theorem gf_6_30 {cc : ByteArray} {nL : Nat} {c0 : Cond} {rm : Room} {pc : Nat} (d : decode cc pc = .ok (.getfield 30, 3)) : zGf (cc, nL, RX6, c0 :: zGW, rm) pc 6 6 := zgf_own (T := TX6) (N := 9) d rfl (fun q h => List.mem_cons_of_mem _ (uin_X6 q h)) (Nat.le_of_ble_eq_true rfl) (List.mem_cons_of_mem _ qw_163)
theorem gf_6_34 {cc : ByteArray} {nL : Nat} {c0 : Cond} {rm : Room} {pc : Nat} (d : decode cc pc = .ok (.getfield 34, 3)) : zGf (cc, nL, RX6, c0 :: zGW, rm) pc 6 7 := zgf_own (T := TX6) (N := 9) d rfl (fun q h => List.mem_cons_of_mem _ (uin_X6 q h)) (Nat.le_of_ble_eq_true rfl) (List.mem_cons_of_mem _ qw_166)
theorem gf_6_38 {cc : ByteArray} {nL : Nat} {c0 : Cond} {rm : Room} {pc : Nat} (d : decode cc pc = .ok (.getfield 38, 3)) : zGf (cc, nL, RX6, c0 :: zGW, rm) pc 6 8 := zgf_own (T := TX6) (N := 9) d rfl (fun q h => List.mem_cons_of_mem _ (uin_X6 q h)) (Nat.le_of_ble_eq_true rfl) (List.mem_cons_of_mem _ qw_169)
theorem gf_8_100 {cc : ByteArray} {nL : Nat} {c0 : Cond} {rm : Room} {pc : Nat} (d : decode cc pc = .ok (.getfield 100, 3)) : zGf (cc, nL, RX8, c0 :: zGW, rm) pc 6 6 := zgf_nest (T := TX6) (N := 9) d rfl (fun q h => List.mem_cons_of_mem _ (uin_X6 q h)) (Nat.le_of_ble_eq_true rfl) (List.mem_of_getElem? (i := 13) rfl)
theorem gf_8_103 {cc : ByteArray} {nL : Nat} {c0 : Cond} {rm : Room} {pc : Nat} (d : decode cc pc = .ok (.getfield 103, 3)) : zGf (cc, nL, RX8, c0 :: zGW, rm) pc 6 7 := zgf_nest (T := TX6) (N := 9) d rfl (fun q h => List.mem_cons_of_mem _ (uin_X6 q h)) (Nat.le_of_ble_eq_true rfl) (List.mem_of_getElem? (i := 16) rfl)
theorem gf_8_106 {cc : ByteArray} {nL : Nat} {c0 : Cond} {rm : Room} {pc : Nat} (d : decode cc pc = .ok (.getfield 106, 3)) : zGf (cc, nL, RX8, c0 :: zGW, rm) pc 6 8 := zgf_nest (T := TX6) (N := 9) d rfl (fun q h => List.mem_cons_of_mem _ (uin_X6 q h)) (Nat.le_of_ble_eq_true rfl) (List.mem_of_getElem? (i := 19) rfl)
theorem gf_8_12 {cc : ByteArray} {nL : Nat} {c0 : Cond} {rm : Room} {pc : Nat} (d : decode cc pc = .ok (.getfield 12, 3)) : zGf (cc, nL, RX8, c0 :: zGW, rm) pc 8 0 := zgf_own (T := TX8) (N := 8) d rfl (fun q h => List.mem_cons_of_mem _ (uin_X8 q h)) (Nat.le_of_ble_eq_true rfl) (List.mem_cons_of_mem _ qw_229)
theorem gf_8_131 {cc : ByteArray} {nL : Nat} {c0 : Cond} {rm : Room} {pc : Nat} (d : decode cc pc = .ok (.getfield 131, 3)) : zGf (cc, nL, RX8, c0 :: zGW, rm) pc 5 1 := zgf_nest (T := TX5) (N := 3) d rfl (fun q h => List.mem_cons_of_mem _ (uin_X5 q h)) (Nat.le_of_ble_eq_true rfl) (List.mem_of_getElem? (i := 25) rfl)
theorem gf_8_161 {cc : ByteArray} {nL : Nat} {c0 : Cond} {rm : Room} {pc : Nat} (d : decode cc pc = .ok (.getfield 161, 3)) : zGf (cc, nL, RX8, c0 :: zGW, rm) pc 5 0 := zgf_nest (T := TX5) (N := 3) d rfl (fun q h => List.mem_cons_of_mem _ (uin_X5 q h)) (Nat.le_of_ble_eq_true rfl) (List.mem_of_getElem? (i := 22) rfl)
theorem gf_8_170 {cc : ByteArray} {nL : Nat} {c0 : Cond} {rm : Room} {pc : Nat} (d : decode cc pc = .ok (.getfield 170, 3)) : zGf (cc, nL, RX8, c0 :: zGW, rm) pc 1 0 := zgf_nest (T := TX1) (N := 16) d rfl (fun q h => List.mem_cons_of_mem _ (uin_X1 q h)) (Nat.le_of_ble_eq_true rfl) (List.mem_of_getElem? (i := 26) rfl)
theorem gf_8_173 {cc : ByteArray} {nL : Nat} {c0 : Cond} {rm : Room} {pc : Nat} (d : decode cc pc = .ok (.getfield 173, 3)) : zGf (cc, nL, RX8, c0 :: zGW, rm) pc 1 9 := zgf_nest (T := TX1) (N := 16) d rfl (fun q h => List.mem_cons_of_mem _ (uin_X1 q h)) (Nat.le_of_ble_eq_true rfl) (List.mem_of_getElem? (i := 31) rfl)
theorem gf_8_19 {cc : ByteArray} {nL : Nat} {c0 : Cond} {rm : Room} {pc : Nat} (d : decode cc pc = .ok (.getfield 19, 3)) : zGf (cc, nL, RX8, c0 :: zGW, rm) pc 8 1 := zgf_own (T := TX8) (N := 8) d rfl (fun q h => List.mem_cons_of_mem _ (uin_X8 q h)) (Nat.le_of_ble_eq_true rfl) (List.mem_cons_of_mem _ qw_230)
theorem gf_8_200 {cc : ByteArray} {nL : Nat} {c0 : Cond} {rm : Room} {pc : Nat} (d : decode cc pc = .ok (.getfield 200, 3)) : zGf (cc, nL, RX8, c0 :: zGW, rm) pc 1 2 := zgf_nest (T := TX1) (N := 16) d rfl (fun q h => List.mem_cons_of_mem _ (uin_X1 q h)) (Nat.le_of_ble_eq_true rfl) (List.mem_of_getElem? (i := 28) rfl)
theorem gf_8_203 {cc : ByteArray} {nL : Nat} {c0 : Cond} {rm : Room} {pc : Nat} (d : decode cc pc = .ok (.getfield 203, 3)) : zGf (cc, nL, RX8, c0 :: zGW, rm) pc 1 5 := zgf_nest (T := TX1) (N := 16) d rfl (fun q h => List.mem_cons_of_mem _ (uin_X1 q h)) (Nat.le_of_ble_eq_true rfl) (List.mem_of_getElem? (i := 30) rfl)
theorem gf_8_206 {cc : ByteArray} {nL : Nat} {c0 : Cond} {rm : Room} {pc : Nat} (d : decode cc pc = .ok (.getfield 206, 3)) : zGf (cc, nL, RX8, c0 :: zGW, rm) pc 1 1 := zgf_nest (T := TX1) (N := 16) d rfl (fun q h => List.mem_cons_of_mem _ (uin_X1 q h)) (Nat.le_of_ble_eq_true rfl) (List.mem_of_getElem? (i := 27) rfl)
theorem gf_8_213 {cc : ByteArray} {nL : Nat} {c0 : Cond} {rm : Room} {pc : Nat} (d : decode cc pc = .ok (.getfield 213, 3)) : zGf (cc, nL, RX8, c0 :: zGW, rm) pc 1 4 := zgf_nest (T := TX1) (N := 16) d rfl (fun q h => List.mem_cons_of_mem _ (uin_X1 q h)) (Nat.le_of_ble_eq_true rfl) (List.mem_of_getElem? (i := 29) rfl)
theorem gf_8_216 {cc : ByteArray} {nL : Nat} {c0 : Cond} {rm : Room} {pc : Nat} (d : decode cc pc = .ok (.getfield 216, 3)) : zGf (cc, nL, RX8, c0 :: zGW, rm) pc 1 13 := zgf_nest (T := TX1) (N := 16) d rfl (fun q h => List.mem_cons_of_mem _ (uin_X1 q h)) (Nat.le_of_ble_eq_true rfl) (List.mem_of_getElem? (i := 34) rfl)
theorem gf_8_26 {cc : ByteArray} {nL : Nat} {c0 : Cond} {rm : Room} {pc : Nat} (d : decode cc pc = .ok (.getfield 26, 3)) : zGf (cc, nL, RX8, c0 :: zGW, rm) pc 8 2 := zgf_own (T := TX8) (N := 8) d rfl (fun q h => List.mem_cons_of_mem _ (uin_X8 q h)) (Nat.le_of_ble_eq_true rfl) (List.mem_cons_of_mem _ qw_231)
theorem gf_8_30 {cc : ByteArray} {nL : Nat} {c0 : Cond} {rm : Room} {pc : Nat} (d : decode cc pc = .ok (.getfield 30, 3)) : zGf (cc, nL, RX8, c0 :: zGW, rm) pc 8 3 := zgf_own (T := TX8) (N := 8) d rfl (fun q h => List.mem_cons_of_mem _ (uin_X8 q h)) (Nat.le_of_ble_eq_true rfl) (List.mem_cons_of_mem _ qw_232)
theorem gf_8_34 {cc : ByteArray} {nL : Nat} {c0 : Cond} {rm : Room} {pc : Nat} (d : decode cc pc = .ok (.getfield 34, 3)) : zGf (cc, nL, RX8, c0 :: zGW, rm) pc 8 4 := zgf_own (T := TX8) (N := 8) d rfl (fun q h => List.mem_cons_of_mem _ (uin_X8 q h)) (Nat.le_of_ble_eq_true rfl) (List.mem_cons_of_mem _ qw_233)
theorem gf_8_38 {cc : ByteArray} {nL : Nat} {c0 : Cond} {rm : Room} {pc : Nat} (d : decode cc pc = .ok (.getfield 38, 3)) : zGf (cc, nL, RX8, c0 :: zGW, rm) pc 8 5 := zgf_own (T := TX8) (N := 8) d rfl (fun q h => List.mem_cons_of_mem _ (uin_X8 q h)) (Nat.le_of_ble_eq_true rfl) (List.mem_cons_of_mem _ qw_234)
theorem gf_8_42 {cc : ByteArray} {nL : Nat} {c0 : Cond} {rm : Room} {pc : Nat} (d : decode cc pc = .ok (.getfield 42, 3)) : zGf (cc, nL, RX8, c0 :: zGW, rm) pc 8 6 := zgf_own (T := TX8) (N := 8) d rfl (fun q h => List.mem_cons_of_mem _ (uin_X8 q h)) (Nat.le_of_ble_eq_true rfl) (List.mem_cons_of_mem _ qw_235)
theorem gf_8_66 {cc : ByteArray} {nL : Nat} {c0 : Cond} {rm : Room} {pc : Nat} (d : decode cc pc = .ok (.getfield 66, 3)) : zGf (cc, nL, RX8, c0 :: zGW, rm) pc 6 1 := zgf_nest (T := TX6) (N := 9) d rfl (fun q h => List.mem_cons_of_mem _ (uin_X6 q h)) (Nat.le_of_ble_eq_true rfl) (List.mem_of_getElem? (i := 2) rfl)
theorem gf_8_70 {cc : ByteArray} {nL : Nat} {c0 : Cond} {rm : Room} {pc : Nat} (d : decode cc pc = .ok (.getfield 70, 3)) : zGf (cc, nL, RX8, c0 :: zGW, rm) pc 6 2 := zgf_nest (T := TX6) (N := 9) d rfl (fun q h => List.mem_cons_of_mem _ (uin_X6 q h)) (Nat.le_of_ble_eq_true rfl) (List.mem_of_getElem? (i := 4) rfl)
theorem gf_8_77 {cc : ByteArray} {nL : Nat} {c0 : Cond} {rm : Room} {pc : Nat} (d : decode cc pc = .ok (.getfield 77, 3)) : zGf (cc, nL, RX8, c0 :: zGW, rm) pc 6 0 := zgf_nest (T := TX6) (N := 9) d rfl (fun q h => List.mem_cons_of_mem _ (uin_X6 q h)) (Nat.le_of_ble_eq_true rfl) (List.mem_of_getElem? (i := 0) rfl)
theorem gf_8_91 {cc : ByteArray} {nL : Nat} {c0 : Cond} {rm : Room} {pc : Nat} (d : decode cc pc = .ok (.getfield 91, 3)) : zGf (cc, nL, RX8, c0 :: zGW, rm) pc 6 3 := zgf_nest (T := TX6) (N := 9) d rfl (fun q h => List.mem_cons_of_mem _ (uin_X6 q h)) (Nat.le_of_ble_eq_true rfl) (List.mem_of_getElem? (i := 8) rfl)
theorem gf_9_13 {cc : ByteArray} {nL : Nat} {c0 : Cond} {rm : Room} {pc : Nat} (d : decode cc pc = .ok (.getfield 13, 3)) : zGf (cc, nL, RX9, c0 :: zGW, rm) pc 9 1 := zgf_own (T := TX9) (N := 32) d rfl (fun q h => List.mem_cons_of_mem _ (uin_X9 q h)) (Nat.le_of_ble_eq_true rfl) (List.mem_cons_of_mem _ qw_896)
theorem gf_9_133 {cc : ByteArray} {nL : Nat} {c0 : Cond} {rm : Room} {pc : Nat} (d : decode cc pc = .ok (.getfield 133, 3)) : zGf (cc, nL, RX9, c0 :: zGW, rm) pc 9 3 := zgf_own (T := TX9) (N := 32) d rfl (fun q h => List.mem_cons_of_mem _ (uin_X9 q h)) (Nat.le_of_ble_eq_true rfl) (List.mem_cons_of_mem _ qw_898)
theorem gf_9_16 {cc : ByteArray} {nL : Nat} {c0 : Cond} {rm : Room} {pc : Nat} (d : decode cc pc = .ok (.getfield 16, 3)) : zGf (cc, nL, RX9, c0 :: zGW, rm) pc 9 2 := zgf_own (T := TX9) (N := 32) d rfl (fun q h => List.mem_cons_of_mem _ (uin_X9 q h)) (Nat.le_of_ble_eq_true rfl) (List.mem_cons_of_mem _ qw_897)
theorem gf_9_170 {cc : ByteArray} {nL : Nat} {c0 : Cond} {rm : Room} {pc : Nat} (d : decode cc pc = .ok (.getfield 170, 3)) : zGf (cc, nL, RX9, c0 :: zGW, rm) pc 9 5 := zgf_own (T := TX9) (N := 32) d rfl (fun q h => List.mem_cons_of_mem _ (uin_X9 q h)) (Nat.le_of_ble_eq_true rfl) (List.mem_cons_of_mem _ qw_900)
theorem gf_9_19 {cc : ByteArray} {nL : Nat} {c0 : Cond} {rm : Room} {pc : Nat} (d : decode cc pc = .ok (.getfield 19, 3)) : zGf (cc, nL, RX9, c0 :: zGW, rm) pc 9 6 := zgf_own (T := TX9) (N := 32) d rfl (fun q h => List.mem_cons_of_mem _ (uin_X9 q h)) (Nat.le_of_ble_eq_true rfl) (List.mem_cons_of_mem _ qw_901)
theorem gf_9_22 {cc : ByteArray} {nL : Nat} {c0 : Cond} {rm : Room} {pc : Nat} (d : decode cc pc = .ok (.getfield 22, 3)) : zGf (cc, nL, RX9, c0 :: zGW, rm) pc 9 10 := zgf_own (T := TX9) (N := 32) d rfl (fun q h => List.mem_cons_of_mem _ (uin_X9 q h)) (Nat.le_of_ble_eq_true rfl) (List.mem_cons_of_mem _ qw_905)
theorem gf_9_234 {cc : ByteArray} {nL : Nat} {c0 : Cond} {rm : Room} {pc : Nat} (d : decode cc pc = .ok (.getfield 234, 3)) : zGf (cc, nL, RX9, c0 :: zGW, rm) pc 9 4 := zgf_own (T := TX9) (N := 32) d rfl (fun q h => List.mem_cons_of_mem _ (uin_X9 q h)) (Nat.le_of_ble_eq_true rfl) (List.mem_cons_of_mem _ qw_899)
theorem gf_9_249 {cc : ByteArray} {nL : Nat} {c0 : Cond} {rm : Room} {pc : Nat} (d : decode cc pc = .ok (.getfield 249, 3)) : zGf (cc, nL, RX9, c0 :: zGW, rm) pc 9 7 := zgf_own (T := TX9) (N := 32) d rfl (fun q h => List.mem_cons_of_mem _ (uin_X9 q h)) (Nat.le_of_ble_eq_true rfl) (List.mem_cons_of_mem _ qw_902)
theorem gf_9_25 {cc : ByteArray} {nL : Nat} {c0 : Cond} {rm : Room} {pc : Nat} (d : decode cc pc = .ok (.getfield 25, 3)) : zGf (cc, nL, RX9, c0 :: zGW, rm) pc 9 14 := zgf_own (T := TX9) (N := 32) d rfl (fun q h => List.mem_cons_of_mem _ (uin_X9 q h)) (Nat.le_of_ble_eq_true rfl) (List.mem_cons_of_mem _ qw_909)
theorem gf_9_252 {cc : ByteArray} {nL : Nat} {c0 : Cond} {rm : Room} {pc : Nat} (d : decode cc pc = .ok (.getfield 252, 3)) : zGf (cc, nL, RX9, c0 :: zGW, rm) pc 9 9 := zgf_own (T := TX9) (N := 32) d rfl (fun q h => List.mem_cons_of_mem _ (uin_X9 q h)) (Nat.le_of_ble_eq_true rfl) (List.mem_cons_of_mem _ qw_904)
theorem gf_9_258 {cc : ByteArray} {nL : Nat} {c0 : Cond} {rm : Room} {pc : Nat} (d : decode cc pc = .ok (.getfield 258, 3)) : zGf (cc, nL, RX9, c0 :: zGW, rm) pc 9 8 := zgf_own (T := TX9) (N := 32) d rfl (fun q h => List.mem_cons_of_mem _ (uin_X9 q h)) (Nat.le_of_ble_eq_true rfl) (List.mem_cons_of_mem _ qw_903)
theorem gf_9_29 {cc : ByteArray} {nL : Nat} {c0 : Cond} {rm : Room} {pc : Nat} (d : decode cc pc = .ok (.getfield 29, 3)) : zGf (cc, nL, RX9, c0 :: zGW, rm) pc 9 20 := zgf_own (T := TX9) (N := 32) d rfl (fun q h => List.mem_cons_of_mem _ (uin_X9 q h)) (Nat.le_of_ble_eq_true rfl) (List.mem_cons_of_mem _ qw_915)
theorem gf_9_291 {cc : ByteArray} {nL : Nat} {c0 : Cond} {rm : Room} {pc : Nat} (d : decode cc pc = .ok (.getfield 291, 3)) : zGf (cc, nL, RX9, c0 :: zGW, rm) pc 9 11 := zgf_own (T := TX9) (N := 32) d rfl (fun q h => List.mem_cons_of_mem _ (uin_X9 q h)) (Nat.le_of_ble_eq_true rfl) (List.mem_cons_of_mem _ qw_906)
theorem gf_9_300 {cc : ByteArray} {nL : Nat} {c0 : Cond} {rm : Room} {pc : Nat} (d : decode cc pc = .ok (.getfield 300, 3)) : zGf (cc, nL, RX9, c0 :: zGW, rm) pc 9 12 := zgf_own (T := TX9) (N := 32) d rfl (fun q h => List.mem_cons_of_mem _ (uin_X9 q h)) (Nat.le_of_ble_eq_true rfl) (List.mem_cons_of_mem _ qw_907)
theorem gf_9_303 {cc : ByteArray} {nL : Nat} {c0 : Cond} {rm : Room} {pc : Nat} (d : decode cc pc = .ok (.getfield 303, 3)) : zGf (cc, nL, RX9, c0 :: zGW, rm) pc 9 13 := zgf_own (T := TX9) (N := 32) d rfl (fun q h => List.mem_cons_of_mem _ (uin_X9 q h)) (Nat.le_of_ble_eq_true rfl) (List.mem_cons_of_mem _ qw_908)
theorem gf_9_32 {cc : ByteArray} {nL : Nat} {c0 : Cond} {rm : Room} {pc : Nat} (d : decode cc pc = .ok (.getfield 32, 3)) : zGf (cc, nL, RX9, c0 :: zGW, rm) pc 9 21 := zgf_own (T := TX9) (N := 32) d rfl (fun q h => List.mem_cons_of_mem _ (uin_X9 q h)) (Nat.le_of_ble_eq_true rfl) (List.mem_cons_of_mem _ qw_916)
theorem gf_9_328 {cc : ByteArray} {nL : Nat} {c0 : Cond} {rm : Room} {pc : Nat} (d : decode cc pc = .ok (.getfield 328, 3)) : zGf (cc, nL, RX9, c0 :: zGW, rm) pc 9 17 := zgf_own (T := TX9) (N := 32) d rfl (fun q h => List.mem_cons_of_mem _ (uin_X9 q h)) (Nat.le_of_ble_eq_true rfl) (List.mem_cons_of_mem _ qw_912)
theorem gf_9_331 {cc : ByteArray} {nL : Nat} {c0 : Cond} {rm : Room} {pc : Nat} (d : decode cc pc = .ok (.getfield 331, 3)) : zGf (cc, nL, RX9, c0 :: zGW, rm) pc 9 15 := zgf_own (T := TX9) (N := 32) d rfl (fun q h => List.mem_cons_of_mem _ (uin_X9 q h)) (Nat.le_of_ble_eq_true rfl) (List.mem_cons_of_mem _ qw_910)
theorem gf_9_334 {cc : ByteArray} {nL : Nat} {c0 : Cond} {rm : Room} {pc : Nat} (d : decode cc pc = .ok (.getfield 334, 3)) : zGf (cc, nL, RX9, c0 :: zGW, rm) pc 9 16 := zgf_own (T := TX9) (N := 32) d rfl (fun q h => List.mem_cons_of_mem _ (uin_X9 q h)) (Nat.le_of_ble_eq_true rfl) (List.mem_cons_of_mem _ qw_911)
theorem gf_9_337 {cc : ByteArray} {nL : Nat} {c0 : Cond} {rm : Room} {pc : Nat} (d : decode cc pc = .ok (.getfield 337, 3)) : zGf (cc, nL, RX9, c0 :: zGW, rm) pc 9 19 := zgf_own (T := TX9) (N := 32) d rfl (fun q h => List.mem_cons_of_mem _ (uin_X9 q h)) (Nat.le_of_ble_eq_true rfl) (List.mem_cons_of_mem _ qw_914)
theorem gf_9_340 {cc : ByteArray} {nL : Nat} {c0 : Cond} {rm : Room} {pc : Nat} (d : decode cc pc = .ok (.getfield 340, 3)) : zGf (cc, nL, RX9, c0 :: zGW, rm) pc 9 18 := zgf_own (T := TX9) (N := 32) d rfl (fun q h => List.mem_cons_of_mem _ (uin_X9 q h)) (Nat.le_of_ble_eq_true rfl) (List.mem_cons_of_mem _ qw_913)
theorem gf_9_35 {cc : ByteArray} {nL : Nat} {c0 : Cond} {rm : Room} {pc : Nat} (d : decode cc pc = .ok (.getfield 35, 3)) : zGf (cc, nL, RX9, c0 :: zGW, rm) pc 9 22 := zgf_own (T := TX9) (N := 32) d rfl (fun q h => List.mem_cons_of_mem _ (uin_X9 q h)) (Nat.le_of_ble_eq_true rfl) (List.mem_cons_of_mem _ qw_917)
theorem gf_9_38 {cc : ByteArray} {nL : Nat} {c0 : Cond} {rm : Room} {pc : Nat} (d : decode cc pc = .ok (.getfield 38, 3)) : zGf (cc, nL, RX9, c0 :: zGW, rm) pc 9 23 := zgf_own (T := TX9) (N := 32) d rfl (fun q h => List.mem_cons_of_mem _ (uin_X9 q h)) (Nat.le_of_ble_eq_true rfl) (List.mem_cons_of_mem _ qw_918)
theorem gf_9_41 {cc : ByteArray} {nL : Nat} {c0 : Cond} {rm : Room} {pc : Nat} (d : decode cc pc = .ok (.getfield 41, 3)) : zGf (cc, nL, RX9, c0 :: zGW, rm) pc 9 24 := zgf_own (T := TX9) (N := 32) d rfl (fun q h => List.mem_cons_of_mem _ (uin_X9 q h)) (Nat.le_of_ble_eq_true rfl) (List.mem_cons_of_mem _ qw_919)
theorem gf_9_44 {cc : ByteArray} {nL : Nat} {c0 : Cond} {rm : Room} {pc : Nat} (d : decode cc pc = .ok (.getfield 44, 3)) : zGf (cc, nL, RX9, c0 :: zGW, rm) pc 9 25 := zgf_own (T := TX9) (N := 32) d rfl (fun q h => List.mem_cons_of_mem _ (uin_X9 q h)) (Nat.le_of_ble_eq_true rfl) (List.mem_cons_of_mem _ qw_920)
theorem gf_9_48 {cc : ByteArray} {nL : Nat} {c0 : Cond} {rm : Room} {pc : Nat} (d : decode cc pc = .ok (.getfield 48, 3)) : zGf (cc, nL, RX9, c0 :: zGW, rm) pc 9 26 := zgf_own (T := TX9) (N := 32) d rfl (fun q h => List.mem_cons_of_mem _ (uin_X9 q h)) (Nat.le_of_ble_eq_true rfl) (List.mem_cons_of_mem _ qw_921)
theorem gf_9_51 {cc : ByteArray} {nL : Nat} {c0 : Cond} {rm : Room} {pc : Nat} (d : decode cc pc = .ok (.getfield 51, 3)) : zGf (cc, nL, RX9, c0 :: zGW, rm) pc 9 27 := zgf_own (T := TX9) (N := 32) d rfl (fun q h => List.mem_cons_of_mem _ (uin_X9 q h)) (Nat.le_of_ble_eq_true rfl) (List.mem_cons_of_mem _ qw_922)
theorem gf_9_54 {cc : ByteArray} {nL : Nat} {c0 : Cond} {rm : Room} {pc : Nat} (d : decode cc pc = .ok (.getfield 54, 3)) : zGf (cc, nL, RX9, c0 :: zGW, rm) pc 9 28 := zgf_own (T := TX9) (N := 32) d rfl (fun q h => List.mem_cons_of_mem _ (uin_X9 q h)) (Nat.le_of_ble_eq_true rfl) (List.mem_cons_of_mem _ qw_923)
theorem gf_9_57 {cc : ByteArray} {nL : Nat} {c0 : Cond} {rm : Room} {pc : Nat} (d : decode cc pc = .ok (.getfield 57, 3)) : zGf (cc, nL, RX9, c0 :: zGW, rm) pc 9 29 := zgf_own (T := TX9) (N := 32) d rfl (fun q h => List.mem_cons_of_mem _ (uin_X9 q h)) (Nat.le_of_ble_eq_true rfl) (List.mem_cons_of_mem _ qw_924)
theorem gf_9_60 {cc : ByteArray} {nL : Nat} {c0 : Cond} {rm : Room} {pc : Nat} (d : decode cc pc = .ok (.getfield 60, 3)) : zGf (cc, nL, RX9, c0 :: zGW, rm) pc 9 30 := zgf_own (T := TX9) (N := 32) d rfl (fun q h => List.mem_cons_of_mem _ (uin_X9 q h)) (Nat.le_of_ble_eq_true rfl) (List.mem_cons_of_mem _ qw_925)
theorem gf_9_63 {cc : ByteArray} {nL : Nat} {c0 : Cond} {rm : Room} {pc : Nat} (d : decode cc pc = .ok (.getfield 63, 3)) : zGf (cc, nL, RX9, c0 :: zGW, rm) pc 9 31 := zgf_own (T := TX9) (N := 32) d rfl (fun q h => List.mem_cons_of_mem _ (uin_X9 q h)) (Nat.le_of_ble_eq_true rfl) (List.mem_cons_of_mem _ qw_926)
theorem gf_9_7 {cc : ByteArray} {nL : Nat} {c0 : Cond} {rm : Room} {pc : Nat} (d : decode cc pc = .ok (.getfield 7, 3)) : zGf (cc, nL, RX9, c0 :: zGW, rm) pc 9 0 := zgf_own (T := TX9) (N := 32) d rfl (fun q h => List.mem_cons_of_mem _ (uin_X9 q h)) (Nat.le_of_ble_eq_true rfl) (List.mem_cons_of_mem _ qw_895)
theorem pf_0_31 {cc : ByteArray} {nL : Nat} {c0 : Cond} {rm : Room} {pc : Nat} (d : decode cc pc = .ok (.putfield 31, 3)) : zPf (cc, nL, RX0, c0 :: zGW, rm) pc 0 6 .int := zpf_own (T := TX0) (N := 10) tyX0 tyX0_ok nmX0 d rfl (fun q h => List.mem_cons_of_mem _ (uin_X0 q h)) (Nat.le_of_ble_eq_true rfl) rfl (by decide +kernel) (List.mem_cons_of_mem _ qw_652)
theorem pf_0_35 {cc : ByteArray} {nL : Nat} {c0 : Cond} {rm : Room} {pc : Nat} (d : decode cc pc = .ok (.putfield 35, 3)) : zPf (cc, nL, RX0, c0 :: zGW, rm) pc 0 7 .int := zpf_own (T := TX0) (N := 10) tyX0 tyX0_ok nmX0 d rfl (fun q h => List.mem_cons_of_mem _ (uin_X0 q h)) (Nat.le_of_ble_eq_true rfl) rfl (by decide +kernel) (List.mem_cons_of_mem _ qw_653)
theorem pf_0_38 {cc : ByteArray} {nL : Nat} {c0 : Cond} {rm : Room} {pc : Nat} (d : decode cc pc = .ok (.putfield 38, 3)) : zPf (cc, nL, RX0, c0 :: zGW, rm) pc 0 8 .int := zpf_own (T := TX0) (N := 10) tyX0 tyX0_ok nmX0 d rfl (fun q h => List.mem_cons_of_mem _ (uin_X0 q h)) (Nat.le_of_ble_eq_true rfl) rfl (by decide +kernel) (List.mem_cons_of_mem _ qw_654)
theorem pf_0_41 {cc : ByteArray} {nL : Nat} {c0 : Cond} {rm : Room} {pc : Nat} (d : decode cc pc = .ok (.putfield 41, 3)) : zPf (cc, nL, RX0, c0 :: zGW, rm) pc 0 9 .int := zpf_own (T := TX0) (N := 10) tyX0 tyX0_ok nmX0 d rfl (fun q h => List.mem_cons_of_mem _ (uin_X0 q h)) (Nat.le_of_ble_eq_true rfl) rfl (by decide +kernel) (List.mem_cons_of_mem _ qw_655)
theorem pf_1_54 {cc : ByteArray} {nL : Nat} {c0 : Cond} {rm : Room} {pc : Nat} (d : decode cc pc = .ok (.putfield 54, 3)) : zPf (cc, nL, RX1, c0 :: zGW, rm) pc 1 10 .boolean := zpf_own (T := TX1) (N := 16) tyX1 tyX1_ok nmX1 d rfl (fun q h => List.mem_cons_of_mem _ (uin_X1 q h)) (Nat.le_of_ble_eq_true rfl) rfl (by decide +kernel) (List.mem_cons_of_mem _ qw_694)
theorem pf_1_57 {cc : ByteArray} {nL : Nat} {c0 : Cond} {rm : Room} {pc : Nat} (d : decode cc pc = .ok (.putfield 57, 3)) : zPf (cc, nL, RX1, c0 :: zGW, rm) pc 1 11 .int := zpf_own (T := TX1) (N := 16) tyX1 tyX1_ok nmX1 d rfl (fun q h => List.mem_cons_of_mem _ (uin_X1 q h)) (Nat.le_of_ble_eq_true rfl) rfl (by decide +kernel) (List.mem_cons_of_mem _ qw_696)
theorem pf_1_61 {cc : ByteArray} {nL : Nat} {c0 : Cond} {rm : Room} {pc : Nat} (d : decode cc pc = .ok (.putfield 61, 3)) : zPf (cc, nL, RX1, c0 :: zGW, rm) pc 1 12 .int := zpf_own (T := TX1) (N := 16) tyX1 tyX1_ok nmX1 d rfl (fun q h => List.mem_cons_of_mem _ (uin_X1 q h)) (Nat.le_of_ble_eq_true rfl) rfl (by decide +kernel) (List.mem_cons_of_mem _ qw_698)
theorem pf_1_64 {cc : ByteArray} {nL : Nat} {c0 : Cond} {rm : Room} {pc : Nat} (d : decode cc pc = .ok (.putfield 64, 3)) : zPf (cc, nL, RX1, c0 :: zGW, rm) pc 1 13 .int := zpf_own (T := TX1) (N := 16) tyX1 tyX1_ok nmX1 d rfl (fun q h => List.mem_cons_of_mem _ (uin_X1 q h)) (Nat.le_of_ble_eq_true rfl) rfl (by decide +kernel) (List.mem_cons_of_mem _ qw_699)
theorem pf_1_67 {cc : ByteArray} {nL : Nat} {c0 : Cond} {rm : Room} {pc : Nat} (d : decode cc pc = .ok (.putfield 67, 3)) : zPf (cc, nL, RX1, c0 :: zGW, rm) pc 1 14 .int := zpf_own (T := TX1) (N := 16) tyX1 tyX1_ok nmX1 d rfl (fun q h => List.mem_cons_of_mem _ (uin_X1 q h)) (Nat.le_of_ble_eq_true rfl) rfl (by decide +kernel) (List.mem_cons_of_mem _ qw_701)
theorem pf_1_70 {cc : ByteArray} {nL : Nat} {c0 : Cond} {rm : Room} {pc : Nat} (d : decode cc pc = .ok (.putfield 70, 3)) : zPf (cc, nL, RX1, c0 :: zGW, rm) pc 1 15 .int := zpf_own (T := TX1) (N := 16) tyX1 tyX1_ok nmX1 d rfl (fun q h => List.mem_cons_of_mem _ (uin_X1 q h)) (Nat.le_of_ble_eq_true rfl) rfl (by decide +kernel) (List.mem_cons_of_mem _ qw_702)
theorem pf_5_24 {cc : ByteArray} {nL : Nat} {c0 : Cond} {rm : Room} {pc : Nat} (d : decode cc pc = .ok (.putfield 24, 3)) : zPf (cc, nL, RX5, c0 :: zGW, rm) pc 5 2 .boolean := zpf_own (T := TX5) (N := 3) tyX5 tyX5_ok nmX5 d rfl (fun q h => List.mem_cons_of_mem _ (uin_X5 q h)) (Nat.le_of_ble_eq_true rfl) rfl (by decide +kernel) (List.mem_cons_of_mem _ qw_209)
theorem pf_6_30 {cc : ByteArray} {nL : Nat} {c0 : Cond} {rm : Room} {pc : Nat} (d : decode cc pc = .ok (.putfield 30, 3)) : zPf (cc, nL, RX6, c0 :: zGW, rm) pc 6 6 .int := zpf_own (T := TX6) (N := 9) tyX6 tyX6_ok nmX6 d rfl (fun q h => List.mem_cons_of_mem _ (uin_X6 q h)) (Nat.le_of_ble_eq_true rfl) rfl (by decide +kernel) (List.mem_cons_of_mem _ qw_163)
theorem pf_6_34 {cc : ByteArray} {nL : Nat} {c0 : Cond} {rm : Room} {pc : Nat} (d : decode cc pc = .ok (.putfield 34, 3)) : zPf (cc, nL, RX6, c0 :: zGW, rm) pc 6 7 .boolean := zpf_own (T := TX6) (N := 9) tyX6 tyX6_ok nmX6 d rfl (fun q h => List.mem_cons_of_mem _ (uin_X6 q h)) (Nat.le_of_ble_eq_true rfl) rfl (by decide +kernel) (List.mem_cons_of_mem _ qw_166)
theorem pf_6_38 {cc : ByteArray} {nL : Nat} {c0 : Cond} {rm : Room} {pc : Nat} (d : decode cc pc = .ok (.putfield 38, 3)) : zPf (cc, nL, RX6, c0 :: zGW, rm) pc 6 8 .int := zpf_own (T := TX6) (N := 9) tyX6 tyX6_ok nmX6 d rfl (fun q h => List.mem_cons_of_mem _ (uin_X6 q h)) (Nat.le_of_ble_eq_true rfl) rfl (by decide +kernel) (List.mem_cons_of_mem _ qw_169)
theorem pf_8_100 {cc : ByteArray} {nL : Nat} {c0 : Cond} {rm : Room} {pc : Nat} (d : decode cc pc = .ok (.putfield 100, 3)) : zPf (cc, nL, RX8, c0 :: zGW, rm) pc 6 6 .int := zpf_nest (T := TX6) (N := 9) tyX6 tyX6_ok nmX6 d rfl (fun q h => List.mem_cons_of_mem _ (uin_X6 q h)) (Nat.le_of_ble_eq_true rfl) rfl (by decide +kernel) (List.mem_of_getElem? (i := 13) rfl)
theorem pf_8_103 {cc : ByteArray} {nL : Nat} {c0 : Cond} {rm : Room} {pc : Nat} (d : decode cc pc = .ok (.putfield 103, 3)) : zPf (cc, nL, RX8, c0 :: zGW, rm) pc 6 7 .boolean := zpf_nest (T := TX6) (N := 9) tyX6 tyX6_ok nmX6 d rfl (fun q h => List.mem_cons_of_mem _ (uin_X6 q h)) (Nat.le_of_ble_eq_true rfl) rfl (by decide +kernel) (List.mem_of_getElem? (i := 16) rfl)
theorem pf_8_106 {cc : ByteArray} {nL : Nat} {c0 : Cond} {rm : Room} {pc : Nat} (d : decode cc pc = .ok (.putfield 106, 3)) : zPf (cc, nL, RX8, c0 :: zGW, rm) pc 6 8 .int := zpf_nest (T := TX6) (N := 9) tyX6 tyX6_ok nmX6 d rfl (fun q h => List.mem_cons_of_mem _ (uin_X6 q h)) (Nat.le_of_ble_eq_true rfl) rfl (by decide +kernel) (List.mem_of_getElem? (i := 19) rfl)
theorem pf_8_34 {cc : ByteArray} {nL : Nat} {c0 : Cond} {rm : Room} {pc : Nat} (d : decode cc pc = .ok (.putfield 34, 3)) : zPf (cc, nL, RX8, c0 :: zGW, rm) pc 8 4 .boolean := zpf_own (T := TX8) (N := 8) tyX8 tyX8_ok nmX8 d rfl (fun q h => List.mem_cons_of_mem _ (uin_X8 q h)) (Nat.le_of_ble_eq_true rfl) rfl (by decide +kernel) (List.mem_cons_of_mem _ qw_233)
theorem pf_8_38 {cc : ByteArray} {nL : Nat} {c0 : Cond} {rm : Room} {pc : Nat} (d : decode cc pc = .ok (.putfield 38, 3)) : zPf (cc, nL, RX8, c0 :: zGW, rm) pc 8 5 .int := zpf_own (T := TX8) (N := 8) tyX8 tyX8_ok nmX8 d rfl (fun q h => List.mem_cons_of_mem _ (uin_X8 q h)) (Nat.le_of_ble_eq_true rfl) rfl (by decide +kernel) (List.mem_cons_of_mem _ qw_234)
theorem pf_8_42 {cc : ByteArray} {nL : Nat} {c0 : Cond} {rm : Room} {pc : Nat} (d : decode cc pc = .ok (.putfield 42, 3)) : zPf (cc, nL, RX8, c0 :: zGW, rm) pc 8 6 .int := zpf_own (T := TX8) (N := 8) tyX8 tyX8_ok nmX8 d rfl (fun q h => List.mem_cons_of_mem _ (uin_X8 q h)) (Nat.le_of_ble_eq_true rfl) rfl (by decide +kernel) (List.mem_cons_of_mem _ qw_235)
theorem pf_9_133 {cc : ByteArray} {nL : Nat} {c0 : Cond} {rm : Room} {pc : Nat} (d : decode cc pc = .ok (.putfield 133, 3)) : zPf (cc, nL, RX9, c0 :: zGW, rm) pc 9 3 .boolean := zpf_own (T := TX9) (N := 32) tyX9 tyX9_ok nmX9 d rfl (fun q h => List.mem_cons_of_mem _ (uin_X9 q h)) (Nat.le_of_ble_eq_true rfl) rfl (by decide +kernel) (List.mem_cons_of_mem _ qw_898)
theorem pf_9_170 {cc : ByteArray} {nL : Nat} {c0 : Cond} {rm : Room} {pc : Nat} (d : decode cc pc = .ok (.putfield 170, 3)) : zPf (cc, nL, RX9, c0 :: zGW, rm) pc 9 5 .int := zpf_own (T := TX9) (N := 32) tyX9 tyX9_ok nmX9 d rfl (fun q h => List.mem_cons_of_mem _ (uin_X9 q h)) (Nat.le_of_ble_eq_true rfl) rfl (by decide +kernel) (List.mem_cons_of_mem _ qw_900)
theorem pf_9_234 {cc : ByteArray} {nL : Nat} {c0 : Cond} {rm : Room} {pc : Nat} (d : decode cc pc = .ok (.putfield 234, 3)) : zPf (cc, nL, RX9, c0 :: zGW, rm) pc 9 4 .boolean := zpf_own (T := TX9) (N := 32) tyX9 tyX9_ok nmX9 d rfl (fun q h => List.mem_cons_of_mem _ (uin_X9 q h)) (Nat.le_of_ble_eq_true rfl) rfl (by decide +kernel) (List.mem_cons_of_mem _ qw_899)
theorem pf_9_249 {cc : ByteArray} {nL : Nat} {c0 : Cond} {rm : Room} {pc : Nat} (d : decode cc pc = .ok (.putfield 249, 3)) : zPf (cc, nL, RX9, c0 :: zGW, rm) pc 9 7 .int := zpf_own (T := TX9) (N := 32) tyX9 tyX9_ok nmX9 d rfl (fun q h => List.mem_cons_of_mem _ (uin_X9 q h)) (Nat.le_of_ble_eq_true rfl) rfl (by decide +kernel) (List.mem_cons_of_mem _ qw_902)
theorem pf_9_252 {cc : ByteArray} {nL : Nat} {c0 : Cond} {rm : Room} {pc : Nat} (d : decode cc pc = .ok (.putfield 252, 3)) : zPf (cc, nL, RX9, c0 :: zGW, rm) pc 9 9 .int := zpf_own (T := TX9) (N := 32) tyX9 tyX9_ok nmX9 d rfl (fun q h => List.mem_cons_of_mem _ (uin_X9 q h)) (Nat.le_of_ble_eq_true rfl) rfl (by decide +kernel) (List.mem_cons_of_mem _ qw_904)
theorem pf_9_258 {cc : ByteArray} {nL : Nat} {c0 : Cond} {rm : Room} {pc : Nat} (d : decode cc pc = .ok (.putfield 258, 3)) : zPf (cc, nL, RX9, c0 :: zGW, rm) pc 9 8 .int := zpf_own (T := TX9) (N := 32) tyX9 tyX9_ok nmX9 d rfl (fun q h => List.mem_cons_of_mem _ (uin_X9 q h)) (Nat.le_of_ble_eq_true rfl) rfl (by decide +kernel) (List.mem_cons_of_mem _ qw_903)
theorem pf_9_291 {cc : ByteArray} {nL : Nat} {c0 : Cond} {rm : Room} {pc : Nat} (d : decode cc pc = .ok (.putfield 291, 3)) : zPf (cc, nL, RX9, c0 :: zGW, rm) pc 9 11 .boolean := zpf_own (T := TX9) (N := 32) tyX9 tyX9_ok nmX9 d rfl (fun q h => List.mem_cons_of_mem _ (uin_X9 q h)) (Nat.le_of_ble_eq_true rfl) rfl (by decide +kernel) (List.mem_cons_of_mem _ qw_906)
theorem pf_9_300 {cc : ByteArray} {nL : Nat} {c0 : Cond} {rm : Room} {pc : Nat} (d : decode cc pc = .ok (.putfield 300, 3)) : zPf (cc, nL, RX9, c0 :: zGW, rm) pc 9 12 .int := zpf_own (T := TX9) (N := 32) tyX9 tyX9_ok nmX9 d rfl (fun q h => List.mem_cons_of_mem _ (uin_X9 q h)) (Nat.le_of_ble_eq_true rfl) rfl (by decide +kernel) (List.mem_cons_of_mem _ qw_907)
theorem pf_9_303 {cc : ByteArray} {nL : Nat} {c0 : Cond} {rm : Room} {pc : Nat} (d : decode cc pc = .ok (.putfield 303, 3)) : zPf (cc, nL, RX9, c0 :: zGW, rm) pc 9 13 .int := zpf_own (T := TX9) (N := 32) tyX9 tyX9_ok nmX9 d rfl (fun q h => List.mem_cons_of_mem _ (uin_X9 q h)) (Nat.le_of_ble_eq_true rfl) rfl (by decide +kernel) (List.mem_cons_of_mem _ qw_908)
theorem pf_9_328 {cc : ByteArray} {nL : Nat} {c0 : Cond} {rm : Room} {pc : Nat} (d : decode cc pc = .ok (.putfield 328, 3)) : zPf (cc, nL, RX9, c0 :: zGW, rm) pc 9 17 .int := zpf_own (T := TX9) (N := 32) tyX9 tyX9_ok nmX9 d rfl (fun q h => List.mem_cons_of_mem _ (uin_X9 q h)) (Nat.le_of_ble_eq_true rfl) rfl (by decide +kernel) (List.mem_cons_of_mem _ qw_912)
theorem pf_9_331 {cc : ByteArray} {nL : Nat} {c0 : Cond} {rm : Room} {pc : Nat} (d : decode cc pc = .ok (.putfield 331, 3)) : zPf (cc, nL, RX9, c0 :: zGW, rm) pc 9 15 .int := zpf_own (T := TX9) (N := 32) tyX9 tyX9_ok nmX9 d rfl (fun q h => List.mem_cons_of_mem _ (uin_X9 q h)) (Nat.le_of_ble_eq_true rfl) rfl (by decide +kernel) (List.mem_cons_of_mem _ qw_910)
theorem pf_9_334 {cc : ByteArray} {nL : Nat} {c0 : Cond} {rm : Room} {pc : Nat} (d : decode cc pc = .ok (.putfield 334, 3)) : zPf (cc, nL, RX9, c0 :: zGW, rm) pc 9 16 .boolean := zpf_own (T := TX9) (N := 32) tyX9 tyX9_ok nmX9 d rfl (fun q h => List.mem_cons_of_mem _ (uin_X9 q h)) (Nat.le_of_ble_eq_true rfl) rfl (by decide +kernel) (List.mem_cons_of_mem _ qw_911)
theorem pf_9_337 {cc : ByteArray} {nL : Nat} {c0 : Cond} {rm : Room} {pc : Nat} (d : decode cc pc = .ok (.putfield 337, 3)) : zPf (cc, nL, RX9, c0 :: zGW, rm) pc 9 19 .int := zpf_own (T := TX9) (N := 32) tyX9 tyX9_ok nmX9 d rfl (fun q h => List.mem_cons_of_mem _ (uin_X9 q h)) (Nat.le_of_ble_eq_true rfl) rfl (by decide +kernel) (List.mem_cons_of_mem _ qw_914)
theorem pf_9_340 {cc : ByteArray} {nL : Nat} {c0 : Cond} {rm : Room} {pc : Nat} (d : decode cc pc = .ok (.putfield 340, 3)) : zPf (cc, nL, RX9, c0 :: zGW, rm) pc 9 18 .boolean := zpf_own (T := TX9) (N := 32) tyX9 tyX9_ok nmX9 d rfl (fun q h => List.mem_cons_of_mem _ (uin_X9 q h)) (Nat.le_of_ble_eq_true rfl) rfl (by decide +kernel) (List.mem_cons_of_mem _ qw_913)
def B_fill (len n : Nat) : zT := zsq (zse 2 (zk 0)) (zsq (zse 3 (zal len)) (zwh zFU (zcmp zlt (zl 2) (zl 3)) (zas n len (zl 2) (zl 1)) (zse 2 (zbin ziadd (zl 2) (zk 1)))))
def M_fill (len n : Nat) (vs : List Int32) (μ : zM) : Option (Int32 × zM) := match vs with
  | [v1] => zfo0 (B_fill len n) (zenv [(1, v1)]) μ
  | _ => none
def M_fillD (len n : Nat) (vs : List Int32) (μ : zM) : Option (Int32 × zM) := match vs with
  | [v0, v1] => if v0.toInt.toNat < 7 then M_fill len (n + v0.toInt.toNat) [v1] μ else none
  | _ => none
abbrev rm_fill : Room := { frames := 0, cells := 0, slots := 0, locals := 0 }
def M_X9_in (vs : List Int32) (μ : zM) : Option (Int32 × zM) := match vs with
  | [v1, v2, v3] => some (if v2 ≤ v1 ∧ v1 ≤ v3 then 1 else 0, μ)
  | _ => none
abbrev rm_X9_in : Room := { frames := 0, cells := 0, slots := 0, locals := 0 }
def B_X8_manner (b : Nat) : zT := (zsq (zif (zor (zcm0 (fun a => zlt a 0) (zl 1)) (zcmp zgt (zl 1) (zk 4))) (zrt (zk (-1))) zsk) (zsq (zse 2 (zfd (b + 1) 6)) (zsq (zpf (b + 1) 6 (zl 1)) (zrt (zl 2)))))
def M_X8_manner (b : Nat) (vs : List Int32) (μ : zM) : Option (Int32 × zM) := match vs with
  | [v1] => zfi (B_X8_manner b) (zenv [(1, v1)]) μ
  | _ => none
abbrev rm_X8_manner : Room := { frames := 0, cells := 0, slots := 0, locals := 0 }
def B_X8_late (b : Nat) : zT := (zsq (zse 2 (zcond (zcm0 (fun a => zne a 0) (zfd (b + 1) 7)) (zk 1) (zk 0))) (zsq (zpz (b + 1) 7 (zl 1)) (zrt (zl 2))))
def M_X8_late (b : Nat) (vs : List Int32) (μ : zM) : Option (Int32 × zM) := match vs with
  | [v1] => zfi (B_X8_late b) (zenv [(1, v1)]) μ
  | _ => none
abbrev rm_X8_late : Room := { frames := 0, cells := 0, slots := 0, locals := 0 }
def B_X8_model (b : Nat) : zT := (zsq (zif (zor (zcm0 (fun a => zlt a 0) (zl 1)) (zcmp zgt (zl 1) (zk 4))) (zrt (zk (-1))) zsk) (zsq (zse 2 (zfd (b + 1) 8)) (zsq (zpf (b + 1) 8 (zl 1)) (zrt (zl 2)))))
def M_X8_model (b : Nat) (vs : List Int32) (μ : zM) : Option (Int32 × zM) := match vs with
  | [v1] => zfi (B_X8_model b) (zenv [(1, v1)]) μ
  | _ => none
abbrev rm_X8_model : Room := { frames := 0, cells := 0, slots := 0, locals := 0 }
def B_X8_node (b : Nat) : zT := (zsq (zif (zor (zcm0 (fun a => zlt a 0) (zl 1)) (zcmp zge (zl 1) (zk 6))) (zrt (zk (-1))) zsk) (zsq (zif (znt (zcm0 (fun a => zne a 0) (zfd b 4))) (zrt (zk (-2))) zsk) (zrt (zbin zmin (zald (b + 8 + 8) 118 (zbin ziadd (zk 20) (zl 1))) (zk 2)))))
def M_X8_node (b : Nat) (vs : List Int32) (μ : zM) : Option (Int32 × zM) := match vs with
  | [v1] => zfi (B_X8_node b) (zenv [(1, v1)]) μ
  | _ => none
abbrev rm_X8_node : Room := { frames := 1, cells := 0, slots := 0, locals := 33 }
def B_X8_epoch (b : Nat) : zT := (zrt (zcond (zcm0 (fun a => zne a 0) (zfd b 4)) (zald (b + 8 + 8) 118 (zk 26)) (zk (-2))))
def M_X8_epoch (b : Nat) (vs : List Int32) (μ : zM) : Option (Int32 × zM) := match vs with
  | [] => zfi (B_X8_epoch b) (zenv []) μ
  | _ => none
abbrev rm_X8_epoch : Room := { frames := 0, cells := 0, slots := 0, locals := 0 }
def B_X8_explored_0 (b : Nat) : zT := (zsq (zif (zor (zcm0 (fun a => zlt a 0) (zl 1)) (zcmp zgt (zl 1) (zk 7))) (zrt (zk (-1))) zsk) (zsq (zif (zcb true) (zrt (zk (-2))) zno) zno))
def M_X8_explored_0 (b : Nat) (vs : List Int32) (μ : zM) : Option (Int32 × zM) := match vs with
  | [v1] => zfi (B_X8_explored_0 b) (zenv [(1, v1)]) μ
  | _ => none
abbrev rm_X8_explored_0 : Room := { frames := 0, cells := 0, slots := 0, locals := 0 }
def B_X8_first_0 (b : Nat) : zT := (zsq (zif (zcm0 (fun a => zlt a 0) (zl 1)) (zrt (zk (-1))) zsk) (zsq (zif (zcb true) (zrt (zk (-2))) zno) zno))
def M_X8_first_0 (b : Nat) (vs : List Int32) (μ : zM) : Option (Int32 × zM) := match vs with
  | [v1] => zfi (B_X8_first_0 b) (zenv [(1, v1)]) μ
  | _ => none
abbrev rm_X8_first_0 : Room := { frames := 0, cells := 0, slots := 0, locals := 0 }
def B_X8_walk_0 (b : Nat) : zT := (zsq (zif (zcm0 (fun a => zlt a 0) (zl 2)) (zrt (zk (-1))) zsk) (zsq (zif (zcb true) (zrt (zk (-2))) zno) zno))
def M_X8_walk_0 (b : Nat) (vs : List Int32) (μ : zM) : Option (Int32 × zM) := match vs with
  | [v1, v2] => zfi (B_X8_walk_0 b) (zenv [(1, v1), (2, v2)]) μ
  | _ => none
abbrev rm_X8_walk_0 : Room := { frames := 0, cells := 0, slots := 0, locals := 0 }
def B_X8_go_0 (b : Nat) : zT := (zsq (zif (zcb true) (zrt (zk (-2))) zno) zno)
def M_X8_go_0 (b : Nat) (vs : List Int32) (μ : zM) : Option (Int32 × zM) := match vs with
  | [v1] => zfi (B_X8_go_0 b) (zenv [(1, v1)]) μ
  | _ => none
abbrev rm_X8_go_0 : Room := { frames := 0, cells := 0, slots := 0, locals := 0 }
def B_X8_answers_0 (b : Nat) : zT := (zsq (zif (zcb true) (zrt (zk (-2))) zno) zno)
def M_X8_answers_0 (b : Nat) (vs : List Int32) (μ : zM) : Option (Int32 × zM) := match vs with
  | [] => zfi (B_X8_answers_0 b) (zenv []) μ
  | _ => none
abbrev rm_X8_answers_0 : Room := { frames := 0, cells := 0, slots := 0, locals := 0 }
def B_X8_answers_1 (b : Nat) : zT := (zsq (zif (zor (zcb false) (znt (zcm0 (fun a => zne a 0) (zfd (b + 26) 9)))) (zrt (zk (-2))) zsk) (zrt (zfd (b + 26) 13)))
def M_X8_answers_1 (b : Nat) (vs : List Int32) (μ : zM) : Option (Int32 × zM) := match vs with
  | [] => zfi (B_X8_answers_1 b) (zenv []) μ
  | _ => none
abbrev rm_X8_answers_1 : Room := { frames := 0, cells := 0, slots := 0, locals := 0 }
def B_X8_isRoutine  : zT := (zrt (zcond (zand (zcm0 (fun a => zge a 0) (zl 0)) (zcmp zlt (zl 0) (zk 6))) (zk 1) (zk 0)))
def M_X8_isRoutine (vs : List Int32) (μ : zM) : Option (Int32 × zM) := match vs with
  | [v1] => zfz (B_X8_isRoutine) (zenv [(0, v1)]) μ
  | _ => none
abbrev rm_X8_isRoutine : Room := { frames := 0, cells := 0, slots := 0, locals := 0 }
def B_X8_isThread  : zT := (zrt (zcond (zand (zcm0 (fun a => zge a 0) (zl 0)) (zcmp zlt (zl 0) (zk 3))) (zk 1) (zk 0)))
def M_X8_isThread (vs : List Int32) (μ : zM) : Option (Int32 × zM) := match vs with
  | [v1] => zfz (B_X8_isThread) (zenv [(0, v1)]) μ
  | _ => none
abbrev rm_X8_isThread : Room := { frames := 0, cells := 0, slots := 0, locals := 0 }
def B_X8_isChoice  : zT := (zrt (zcond (zand (zcm0 (fun a => zge a 0) (zl 0)) (zcmp zlt (zl 0) (zk 6))) (zk 1) (zk 0)))
def M_X8_isChoice (vs : List Int32) (μ : zM) : Option (Int32 × zM) := match vs with
  | [v1] => zfz (B_X8_isChoice) (zenv [(0, v1)]) μ
  | _ => none
abbrev rm_X8_isChoice : Room := { frames := 0, cells := 0, slots := 0, locals := 0 }
def B_X8_toldOfRoutine (b : Nat) : zT := (zsq (zif (zcm0 (fun a => zeq a 0) (zl 2)) (zrt (zcond (zcm0 (fun a => zlt a 0) (zald (b + 1 + 2) 6 (zl 1))) (zk (-4)) (zald (b + 1 + 2) 6 (zl 1)))) zsk) (zrt (zcond (zcmp zeq (zl 2) (zk 1)) (zald (b + 1 + 3) 6 (zl 1)) (zk (-1000)))))
def M_X8_toldOfRoutine (b : Nat) (vs : List Int32) (μ : zM) : Option (Int32 × zM) := match vs with
  | [v1, v2] => zfi (B_X8_toldOfRoutine b) (zenv [(1, v1), (2, v2)]) μ
  | _ => none
abbrev rm_X8_toldOfRoutine : Room := { frames := 0, cells := 0, slots := 0, locals := 0 }
def B_X8_lessOne  : zT := (zrt (zcond (zcm0 (fun a => zeq a 0) (zl 0)) (zk (-4)) (zbin zisub (zl 0) (zk 1))))
def M_X8_lessOne (vs : List Int32) (μ : zM) : Option (Int32 × zM) := match vs with
  | [v1] => zfi (B_X8_lessOne) (zenv [(0, v1)]) μ
  | _ => none
abbrev rm_X8_lessOne : Room := { frames := 0, cells := 0, slots := 0, locals := 0 }
def B_X9_use (b : Nat) : zT := (zsq (zse 2 (zk 0)) (zwh zFU (zcmp zlt (zl 2) (zk 960)) (zas (b + 2) 960 (zl 2) (zald (b + 1) 2880 (zbin ziadd (zbin zimul (zk 960) (zl 1)) (zl 2)))) (zse 2 (zbin ziadd (zl 2) (zk 1)))))
def M_X9_use (b : Nat) (vs : List Int32) (μ : zM) : Option (Int32 × zM) := match vs with
  | [v1] => zfo0 (B_X9_use b) (zenv [(1, v1)]) μ
  | _ => none
abbrev rm_X9_use : Room := { frames := 0, cells := 0, slots := 0, locals := 0 }
def B_X9_keepProgram (b : Nat) : zT := (zsq (zse 2 (zk 0)) (zwh zFU (zcmp zlt (zl 2) (zk 960)) (zas (b + 1) 2880 (zbin ziadd (zbin zimul (zk 960) (zl 1)) (zl 2)) (zald (b + 1) 2880 (zl 2))) (zse 2 (zbin ziadd (zl 2) (zk 1)))))
def M_X9_keepProgram (b : Nat) (vs : List Int32) (μ : zM) : Option (Int32 × zM) := match vs with
  | [v1] => zfo0 (B_X9_keepProgram b) (zenv [(1, v1)]) μ
  | _ => none
abbrev rm_X9_keepProgram : Room := { frames := 0, cells := 0, slots := 0, locals := 0 }
def B_X9_isOwn  : zT := (zrt (zcall M_X9_in (zai (zl 0) (zai (zk 20) (zai (zk 26) zan)))))
def M_X9_isOwn (vs : List Int32) (μ : zM) : Option (Int32 × zM) := match vs with
  | [v1] => zfz (B_X9_isOwn) (zenv [(0, v1)]) μ
  | _ => none
abbrev rm_X9_isOwn : Room := { frames := 1, cells := 0, slots := 0, locals := 25 }
def B_X9_isLocal  : zT := (zrt (zcall M_X9_in (zai (zl 0) (zai (zk 0) (zai (zk 5) zan)))))
def M_X9_isLocal (vs : List Int32) (μ : zM) : Option (Int32 × zM) := match vs with
  | [v1] => zfz (B_X9_isLocal) (zenv [(0, v1)]) μ
  | _ => none
abbrev rm_X9_isLocal : Room := { frames := 1, cells := 0, slots := 0, locals := 25 }
def B_X9_isGlobal  : zT := (zrt (zcall M_X9_in (zai (zl 0) (zai (zk 0) (zai (zk 7) zan)))))
def M_X9_isGlobal (vs : List Int32) (μ : zM) : Option (Int32 × zM) := match vs with
  | [v1] => zfz (B_X9_isGlobal) (zenv [(0, v1)]) μ
  | _ => none
abbrev rm_X9_isGlobal : Room := { frames := 1, cells := 0, slots := 0, locals := 25 }
def B_X9_isBit  : zT := (zrt (zcall M_X9_in (zai (zl 0) (zai (zk 0) (zai (zk 1) zan)))))
def M_X9_isBit (vs : List Int32) (μ : zM) : Option (Int32 × zM) := match vs with
  | [v1] => zfz (B_X9_isBit) (zenv [(0, v1)]) μ
  | _ => none
abbrev rm_X9_isBit : Room := { frames := 1, cells := 0, slots := 0, locals := 25 }
def B_X9_isNumber  : zT := (zrt (zcall M_X9_in (zai (zl 0) (zai (zk (-99)) (zai (zk 99) zan)))))
def M_X9_isNumber (vs : List Int32) (μ : zM) : Option (Int32 × zM) := match vs with
  | [v1] => zfz (B_X9_isNumber) (zenv [(0, v1)]) μ
  | _ => none
abbrev rm_X9_isNumber : Room := { frames := 1, cells := 0, slots := 0, locals := 25 }
def B_X9_isAct  : zT := (zsw (zl 0) 0 [(zrt (zcond (zand (zcm0 (fun a => zne a 0) (zcall (M_X9_isLocal) (zai (zl 1) zan))) (zcm0 (fun a => zne a 0) (zcall (M_X9_isGlobal) (zai (zl 2) zan)))) (zk 1) (zk 0))), (zrt (zcond (zand (zand (zcm0 (fun a => zne a 0) (zcall (M_X9_isLocal) (zai (zl 1) zan))) (zcm0 (fun a => zne a 0) (zcall (M_X9_isLocal) (zai (zl 2) zan)))) (zcm0 (fun a => zne a 0) (zcall (M_X9_isBit) (zai (zl 3) zan)))) (zk 1) (zk 0))), (zrt (zcond (zand (zcm0 (fun a => zne a 0) (zcall (M_X9_isGlobal) (zai (zl 1) zan))) (zcm0 (fun a => zne a 0) (zcall (M_X9_isLocal) (zai (zl 2) zan)))) (zk 1) (zk 0))), (zrt (zcond (zand (zand (zcm0 (fun a => zne a 0) (zcall (M_X9_isLocal) (zai (zl 1) zan))) (zcm0 (fun a => zne a 0) (zcall (M_X9_isBit) (zai (zl 2) zan)))) (zcm0 (fun a => zne a 0) (zcall (M_X9_isLocal) (zai (zl 3) zan)))) (zk 1) (zk 0))), (zrt (zcond (zand (zand (zcm0 (fun a => zne a 0) (zcall (M_X9_isGlobal) (zai (zl 1) zan))) (zcm0 (fun a => zne a 0) (zcall (M_X9_isLocal) (zai (zl 2) zan)))) (zcm0 (fun a => zne a 0) (zcall (M_X9_isLocal) (zai (zl 3) zan)))) (zk 1) (zk 0))), (zrt (zcond (zand (zand (zcm0 (fun a => zne a 0) (zcall (M_X9_isLocal) (zai (zl 1) zan))) (zcm0 (fun a => zne a 0) (zcall (M_X9_isLocal) (zai (zl 2) zan)))) (zcm0 (fun a => zne a 0) (zcall (M_X9_isLocal) (zai (zl 3) zan)))) (zk 1) (zk 0))), (zrt (zcond (zand (zcm0 (fun a => zne a 0) (zcall (M_X9_isGlobal) (zai (zl 1) zan))) (zcm0 (fun a => zne a 0) (zcall (M_X9_isNumber) (zai (zl 2) zan)))) (zk 1) (zk 0))), (zrt (zk 1)), (zrt (zcall (M_X9_isLocal) (zai (zl 1) zan))), (zrt (zcall (M_X9_isLocal) (zai (zl 1) zan))), (zrt (zcond (zand (zcm0 (fun a => zne a 0) (zcall (M_X9_isBit) (zai (zl 1) zan))) (zcm0 (fun a => zne a 0) (zcall (M_X9_isLocal) (zai (zl 2) zan)))) (zk 1) (zk 0))), (zrt (zk 1)), (zrt (zk 1)), (zrt (zcall (M_X9_isLocal) (zai (zl 1) zan))), (zrt (zk 0)), (zrt (zk 0)), (zrt (zk 0)), (zrt (zk 0)), (zrt (zk 0)), (zrt (zk 0)), (zrt (zcond (zand (zcm0 (fun a => zne a 0) (zcall (M_X9_isLocal) (zai (zl 1) zan))) (zcm0 (fun a => zne a 0) (zcall (M_X9_isNumber) (zai (zl 2) zan)))) (zk 1) (zk 0))), (zrt (zcall (M_X9_isLocal) (zai (zl 1) zan))), (zrt (zcond (zand (zcm0 (fun a => zne a 0) (zcall (M_X9_isLocal) (zai (zl 1) zan))) (zcm0 (fun a => zne a 0) (zcall (M_X9_isLocal) (zai (zl 2) zan)))) (zk 1) (zk 0))), (zrt (zcond (zand (zcm0 (fun a => zne a 0) (zcall (M_X9_isLocal) (zai (zl 1) zan))) (zcm0 (fun a => zne a 0) (zcall (M_X9_isBit) (zai (zl 2) zan)))) (zk 1) (zk 0))), (zrt (zcall M_X9_in (zai (zl 1) (zai (zk 0) (zai (zk 40) zan))))), (zrt (zcond (zand (zand (zcm0 (fun a => zne a 0) (zcall (M_X9_isLocal) (zai (zl 1) zan))) (zcm0 (fun a => zne a 0) (zcall (M_X9_isLocal) (zai (zl 2) zan)))) (zcm0 (fun a => zne a 0) (zcall M_X9_in (zai (zl 3) (zai (zk 0) (zai (zk 40) zan)))))) (zk 1) (zk 0))), (zrt (zcond (zand (zcm0 (fun a => zne a 0) (zcall (M_X9_isLocal) (zai (zl 1) zan))) (zcm0 (fun a => zne a 0) (zcall (M_X9_isNumber) (zai (zl 2) zan)))) (zk 1) (zk 0)))] (zrt (zk 0)))
def M_X9_isAct (vs : List Int32) (μ : zM) : Option (Int32 × zM) := match vs with
  | [v1, v2, v3, v4] => zfz (B_X9_isAct) (zenv [(0, v1), (1, v2), (2, v3), (3, v4)]) μ
  | _ => none
abbrev rm_X9_isAct : Room := { frames := 2, cells := 0, slots := 0, locals := 45 }
def B_X9_isRoutine  : zT := (zrt (zcall M_X9_in (zai (zl 0) (zai (zk 0) (zai (zk 5) zan)))))
def M_X9_isRoutine (vs : List Int32) (μ : zM) : Option (Int32 × zM) := match vs with
  | [v1] => zfz (B_X9_isRoutine) (zenv [(0, v1)]) μ
  | _ => none
abbrev rm_X9_isRoutine : Room := { frames := 1, cells := 0, slots := 0, locals := 25 }
def B_X9_act (b : Nat) : zT := (zsq (zif (zor (znt (zcm0 (fun a => zne a 0) (zcall (M_X9_isRoutine) (zai (zl 1) zan)))) (znt (zcm0 (fun a => zne a 0) (zcall (M_X9_isAct) (zai (zl 2) (zai (zl 3) (zai (zl 4) (zai (zl 5) zan)))))))) (zrt (zk (-1))) zsk) (zsq (zse 6 (zcond (zcm0 (fun a => zlt a 0) (zald (b + 1) 2880 (zbin ziadd (zk 0) (zl 1)))) (zk 0) (zald (b + 1) 2880 (zbin ziadd (zk 0) (zl 1))))) (zsq (zif (zcmp zeq (zl 6) (zk 30)) (zrt (zk (-3))) zsk) (zsq (zse 7 (zbin ziadd (zbin ziadd (zk 6) (zbin zimul (zk 120) (zl 1))) (zbin zimul (zk 4) (zl 6)))) (zsq (zas (b + 1) 2880 (zl 7) (zl 2)) (zsq (zas (b + 1) 2880 (zbin ziadd (zl 7) (zk 1)) (zl 3)) (zsq (zas (b + 1) 2880 (zbin ziadd (zl 7) (zk 2)) (zl 4)) (zsq (zas (b + 1) 2880 (zbin ziadd (zl 7) (zk 3)) (zl 5)) (zsq (zas (b + 1) 2880 (zbin ziadd (zbin ziadd (zk 732) (zbin zimul (zk 30) (zl 1))) (zl 6)) (zk 0)) (zsq (zas (b + 1) 2880 (zbin ziadd (zk 0) (zl 1)) (zbin ziadd (zl 6) (zk 1))) (zrt (zbin ziadd (zl 6) (zk 1)))))))))))))
def M_X9_act (b : Nat) (vs : List Int32) (μ : zM) : Option (Int32 × zM) := match vs with
  | [v1, v2, v3, v4, v5] => zfi (B_X9_act b) (zenv [(1, v1), (2, v2), (3, v3), (4, v4), (5, v5)]) μ
  | _ => none
abbrev rm_X9_act : Room := { frames := 3, cells := 0, slots := 0, locals := 68 }
def B_X9_tear (b : Nat) : zT := (zsq (zif (zor (znt (zcm0 (fun a => zne a 0) (zcall (M_X9_isRoutine) (zai (zl 1) zan)))) (znt (zcm0 (fun a => zne a 0) (zcall M_X9_in (zai (zl 2) (zai (zk (-1)) (zai (zcond (zcm0 (fun a => zlt a 0) (zald (b + 1) 2880 (zbin ziadd (zk 0) (zl 1)))) (zk 0) (zald (b + 1) 2880 (zbin ziadd (zk 0) (zl 1)))) zan))))))) (zrt (zk (-1))) zsk) (zsq (zse 3 (zcond (zcm0 (fun a => zlt a 0) (zald (b + 1) 2880 (zbin ziadd (zk 0) (zl 1)))) (zk 0) (zald (b + 1) 2880 (zbin ziadd (zk 0) (zl 1))))) (zsq (zas (b + 1) 2880 (zbin ziadd (zk 0) (zl 1)) (zl 2)) (zrt (zl 3)))))
def M_X9_tear (b : Nat) (vs : List Int32) (μ : zM) : Option (Int32 × zM) := match vs with
  | [v1, v2] => zfi (B_X9_tear b) (zenv [(1, v1), (2, v2)]) μ
  | _ => none
abbrev rm_X9_tear : Room := { frames := 2, cells := 0, slots := 0, locals := 45 }
def B_X9_means (b : Nat) : zT := (zsq (zif (zor (znt (zcm0 (fun a => zne a 0) (zcall (M_X9_isRoutine) (zai (zl 1) zan)))) (znt (zcm0 (fun a => zne a 0) (zcall M_X9_in (zai (zl 2) (zai (zk 0) (zai (zk 2) zan))))))) (zrt (zk (-1))) zsk) (zsq (zse 3 (zald (b + 1) 2880 (zbin ziadd (zk 726) (zl 1)))) (zsq (zas (b + 1) 2880 (zbin ziadd (zk 726) (zl 1)) (zl 2)) (zrt (zl 3)))))
def M_X9_means (b : Nat) (vs : List Int32) (μ : zM) : Option (Int32 × zM) := match vs with
  | [v1, v2] => zfi (B_X9_means b) (zenv [(1, v1), (2, v2)]) μ
  | _ => none
abbrev rm_X9_means : Room := { frames := 2, cells := 0, slots := 0, locals := 45 }
def B_X9_hasAct (b : Nat) : zT := (zrt (zcond (zand (zcm0 (fun a => zne a 0) (zcall (M_X9_isRoutine) (zai (zl 1) zan))) (zcm0 (fun a => zne a 0) (zcall M_X9_in (zai (zl 2) (zai (zk 0) (zai (zbin zisub (zald (b + 1) 2880 (zbin ziadd (zk 0) (zl 1))) (zk 1)) zan)))))) (zk 1) (zk 0)))
def M_X9_hasAct (b : Nat) (vs : List Int32) (μ : zM) : Option (Int32 × zM) := match vs with
  | [v1, v2] => zfz (B_X9_hasAct b) (zenv [(1, v1), (2, v2)]) μ
  | _ => none
abbrev rm_X9_hasAct : Room := { frames := 2, cells := 0, slots := 0, locals := 45 }
def B_X9_moment (b : Nat) : zT := (zsq (zif (zor (znt (zcm0 (fun a => zne a 0) (zcall (M_X9_hasAct b) (zai (zl 1) (zai (zl 2) zan))))) (zcmp zgt (zald (b + 1) 2880 (zbin ziadd (zbin ziadd (zk 6) (zbin zimul (zk 120) (zl 1))) (zbin zimul (zk 4) (zl 2)))) (zk 6))) (zrt (zk (-1))) zsk) (zsq (zse 4 (zbin ziadd (zbin ziadd (zk 732) (zbin zimul (zk 30) (zl 1))) (zl 2))) (zsq (zse 5 (zald (b + 1) 2880 (zl 4))) (zsq (zas (b + 1) 2880 (zl 4) (zcond (zcm0 (fun a => zne a 0) (zl 3)) (zk 1) (zk 0))) (zrt (zl 5))))))
def M_X9_moment (b : Nat) (vs : List Int32) (μ : zM) : Option (Int32 × zM) := match vs with
  | [v1, v2, v3] => zfi (B_X9_moment b) (zenv [(1, v1), (2, v2), (3, v3)]) μ
  | _ => none
abbrev rm_X9_moment : Room := { frames := 3, cells := 0, slots := 0, locals := 67 }
def B_X9_call (b : Nat) : zT := (zsq (zif (zor (zor (znt (zcm0 (fun a => zne a 0) (zcall M_X9_in (zai (zl 1) (zai (zk 0) (zai (zk 3) zan)))))) (znt (zcm0 (fun a => zne a 0) (zcall (M_X9_isRoutine) (zai (zl 2) zan))))) (znt (zcm0 (fun a => zne a 0) (zcall (M_X9_isNumber) (zai (zl 3) zan))))) (zrt (zk (-1))) zsk) (zsq (zse 4 (zald (b + 1) 2880 (zbin ziadd (zk 912) (zl 1)))) (zsq (zse 5 (zbin ziadd (zbin ziadd (zald (b + 1) 2880 (zk 912)) (zald (b + 1) 2880 (zk 913))) (zald (b + 1) 2880 (zk 914)))) (zsq (zif (zor (zcmp zeq (zl 4) (zcond (zcmp zeq (zl 1) (zk 3)) (zk 4) (zk 3))) (zand (zcmp zlt (zl 1) (zk 3)) (zcmp zeq (zl 5) (zk 6)))) (zrt (zk (-3))) zsk) (zsq (zas (b + 1) 2880 (zbin ziadd (zbin ziadd (zk 916) (zbin zimul (zk 4) (zl 1))) (zl 4)) (zl 2)) (zsq (zas (b + 1) 2880 (zbin ziadd (zbin ziadd (zk 932) (zbin zimul (zk 4) (zl 1))) (zl 4)) (zl 3)) (zsq (zas (b + 1) 2880 (zbin ziadd (zk 912) (zl 1)) (zbin ziadd (zl 4) (zk 1))) (zrt (zbin ziadd (zl 4) (zk 1))))))))))
def M_X9_call (b : Nat) (vs : List Int32) (μ : zM) : Option (Int32 × zM) := match vs with
  | [v1, v2, v3] => zfi (B_X9_call b) (zenv [(1, v1), (2, v2), (3, v3)]) μ
  | _ => none
abbrev rm_X9_call : Room := { frames := 2, cells := 0, slots := 0, locals := 45 }
def B_X9_clear (b : Nat) : zT := (zsq (zse 1 (zk 0)) (zsq (zsq (zse 2 (zk 0)) (zwh zFU (zcmp zlt (zl 2) (zk 4)) (zsq (zse 1 (zbin ziadd (zl 1) (zald (b + 1) 2880 (zbin ziadd (zk 912) (zl 2))))) (zas (b + 1) 2880 (zbin ziadd (zk 912) (zl 2)) (zk 0))) (zse 2 (zbin ziadd (zl 2) (zk 1))))) (zrt (zl 1))))
def M_X9_clear (b : Nat) (vs : List Int32) (μ : zM) : Option (Int32 × zM) := match vs with
  | [] => zfi (B_X9_clear b) (zenv []) μ
  | _ => none
abbrev rm_X9_clear : Room := { frames := 0, cells := 0, slots := 0, locals := 0 }
def B_X9_manner (b : Nat) : zT := (zsq (zif (znt (zcm0 (fun a => zne a 0) (zcall M_X9_in (zai (zl 1) (zai (zk 0) (zai (zk 4) zan)))))) (zrt (zk (-1))) zsk) (zsq (zse 2 (zald (b + 1) 2880 (zk 948))) (zsq (zas (b + 1) 2880 (zk 948) (zl 1)) (zrt (zl 2)))))
def M_X9_manner (b : Nat) (vs : List Int32) (μ : zM) : Option (Int32 × zM) := match vs with
  | [v1] => zfi (B_X9_manner b) (zenv [(1, v1)]) μ
  | _ => none
abbrev rm_X9_manner : Room := { frames := 1, cells := 0, slots := 0, locals := 25 }
def B_X9_late (b : Nat) : zT := (zsq (zse 2 (zald (b + 1) 2880 (zk 949))) (zsq (zas (b + 1) 2880 (zk 949) (zcond (zcm0 (fun a => zne a 0) (zl 1)) (zk 1) (zk 0))) (zrt (zl 2))))
def M_X9_late (b : Nat) (vs : List Int32) (μ : zM) : Option (Int32 × zM) := match vs with
  | [v1] => zfi (B_X9_late b) (zenv [(1, v1)]) μ
  | _ => none
abbrev rm_X9_late : Room := { frames := 0, cells := 0, slots := 0, locals := 0 }
def B_X9_model (b : Nat) : zT := (zsq (zif (znt (zcm0 (fun a => zne a 0) (zcall M_X9_in (zai (zl 1) (zai (zk 0) (zai (zk 4) zan)))))) (zrt (zk (-1))) zsk) (zsq (zse 2 (zald (b + 1) 2880 (zk 950))) (zsq (zas (b + 1) 2880 (zk 950) (zl 1)) (zrt (zl 2)))))
def M_X9_model (b : Nat) (vs : List Int32) (μ : zM) : Option (Int32 × zM) := match vs with
  | [v1] => zfi (B_X9_model b) (zenv [(1, v1)]) μ
  | _ => none
abbrev rm_X9_model : Room := { frames := 1, cells := 0, slots := 0, locals := 25 }
def B_X9_told (b : Nat) : zT := (zsq (zif (znt (zcm0 (fun a => zne a 0) (zcall (M_X9_isRoutine) (zai (zl 1) zan)))) (zrt (zk (-1000))) zsk) (zsq (zif (zcmp zeq (zl 2) (zk (-1))) (zrt (zcond (zcm0 (fun a => zeq a 0) (zl 3)) (zcond (zcm0 (fun a => zlt a 0) (zald (b + 1) 2880 (zbin ziadd (zk 0) (zl 1)))) (zk (-4)) (zald (b + 1) 2880 (zbin ziadd (zk 0) (zl 1)))) (zcond (zcmp zeq (zl 3) (zk 1)) (zald (b + 1) 2880 (zbin ziadd (zk 726) (zl 1))) (zk (-1000))))) zsk) (zsq (zif (zor (znt (zcm0 (fun a => zne a 0) (zcall (M_X9_hasAct b) (zai (zl 1) (zai (zl 2) zan))))) (znt (zcm0 (fun a => zne a 0) (zcall M_X9_in (zai (zl 3) (zai (zk 0) (zai (zk 4) zan))))))) (zrt (zk (-1000))) zsk) (zrt (zcond (zcmp zeq (zl 3) (zk 4)) (zald (b + 1) 2880 (zbin ziadd (zbin ziadd (zk 732) (zbin zimul (zk 30) (zl 1))) (zl 2))) (zald (b + 1) 2880 (zbin ziadd (zbin ziadd (zbin ziadd (zk 6) (zbin zimul (zk 120) (zl 1))) (zbin zimul (zk 4) (zl 2))) (zl 3))))))))
def M_X9_told (b : Nat) (vs : List Int32) (μ : zM) : Option (Int32 × zM) := match vs with
  | [v1, v2, v3] => zfi (B_X9_told b) (zenv [(1, v1), (2, v2), (3, v3)]) μ
  | _ => none
abbrev rm_X9_told : Room := { frames := 3, cells := 0, slots := 0, locals := 67 }
def B_X9_numberOf  : zT := (zrt (zbin zisub (zbin ziand (zbin zishr (zl 0) (zk 2)) (zk 255)) (zk 99)))
def M_X9_numberOf (vs : List Int32) (μ : zM) : Option (Int32 × zM) := match vs with
  | [v1] => zfi (B_X9_numberOf) (zenv [(0, v1)]) μ
  | _ => none
abbrev rm_X9_numberOf : Room := { frames := 0, cells := 0, slots := 0, locals := 0 }
def B_X9_nodeOf  : zT := (zrt (zbin ziand (zbin zishr (zl 0) (zk 2)) (zk 255)))
def M_X9_nodeOf (vs : List Int32) (μ : zM) : Option (Int32 × zM) := match vs with
  | [v1] => zfi (B_X9_nodeOf) (zenv [(0, v1)]) μ
  | _ => none
abbrev rm_X9_nodeOf : Room := { frames := 0, cells := 0, slots := 0, locals := 0 }
def B_X9_asNumber  : zT := (zsq (zse 1 (zcond (zcmp zgt (zl 0) (zk 99)) (zk 99) (zcond (zcmp zlt (zl 0) (zk (-99))) (zk (-99)) (zl 0)))) (zrt (zbin zior (zk 1) (zbin zishl (zbin ziadd (zl 1) (zk 99)) (zk 2)))))
def M_X9_asNumber (vs : List Int32) (μ : zM) : Option (Int32 × zM) := match vs with
  | [v1] => zfi (B_X9_asNumber) (zenv [(0, v1)]) μ
  | _ => none
abbrev rm_X9_asNumber : Room := { frames := 0, cells := 0, slots := 0, locals := 0 }
def B_X9_asNode  : zT := (zrt (zbin zior (zk 2) (zbin zishl (zl 0) (zk 2))))
def M_X9_asNode (vs : List Int32) (μ : zM) : Option (Int32 × zM) := match vs with
  | [v1] => zfi (B_X9_asNode) (zenv [(0, v1)]) μ
  | _ => none
abbrev rm_X9_asNode : Room := { frames := 0, cells := 0, slots := 0, locals := 0 }
def B_X9_alike  : zT := (zrt (zcond (zcmp zeq (zbin ziand (zl 0) (zk 2047)) (zbin ziand (zl 1) (zk 2047))) (zk 1) (zk 0)))
def M_X9_alike (vs : List Int32) (μ : zM) : Option (Int32 × zM) := match vs with
  | [v1, v2] => zfz (B_X9_alike) (zenv [(0, v1), (1, v2)]) μ
  | _ => none
abbrev rm_X9_alike : Room := { frames := 0, cells := 0, slots := 0, locals := 0 }
def B_X9_countOf  : zT := (zrt (zbin ziand (zbin zishr (zl 0) (zk 11)) (zk 3)))
def M_X9_countOf (vs : List Int32) (μ : zM) : Option (Int32 × zM) := match vs with
  | [v1] => zfi (B_X9_countOf) (zenv [(0, v1)]) μ
  | _ => none
abbrev rm_X9_countOf : Room := { frames := 0, cells := 0, slots := 0, locals := 0 }
def B_X9_becomes (b : Nat) : zT := (zsq (zse 3 (zcall (M_X9_countOf) (zai (zald (b + 3) 100 (zl 1)) zan))) (zsq (zse 3 (zcond (zcmp zeq (zald (b + 2) 960 (zk 948)) (zk 2)) (zbin ziand (zbin ziadd (zl 3) (zk 1)) (zk 3)) (zl 3))) (zas (b + 3) 100 (zl 1) (zbin zior (zbin ziand (zl 2) (zk 2047)) (zbin zishl (zl 3) (zk 11))))))
def M_X9_becomes (b : Nat) (vs : List Int32) (μ : zM) : Option (Int32 × zM) := match vs with
  | [v1, v2] => zfo0 (B_X9_becomes b) (zenv [(1, v1), (2, v2)]) μ
  | _ => none
abbrev rm_X9_becomes : Room := { frames := 1, cells := 0, slots := 0, locals := 20 }
def B_X9_at  : zT := (zrt (zbin ziadd (zk 27) (zbin zimul (zk 18) (zl 0))))
def M_X9_at (vs : List Int32) (μ : zM) : Option (Int32 × zM) := match vs with
  | [v1] => zfi (B_X9_at) (zenv [(0, v1)]) μ
  | _ => none
abbrev rm_X9_at : Room := { frames := 0, cells := 0, slots := 0, locals := 0 }
def B_X9_localOf (b : Nat) : zT := (zrt (zald (b + 3) 100 (zbin ziadd (zbin ziadd (zcall (M_X9_at) (zai (zl 1) zan)) (zk 12)) (zl 2))))
def M_X9_localOf (b : Nat) (vs : List Int32) (μ : zM) : Option (Int32 × zM) := match vs with
  | [v1, v2] => zfi (B_X9_localOf b) (zenv [(1, v1), (2, v2)]) μ
  | _ => none
abbrev rm_X9_localOf : Room := { frames := 1, cells := 0, slots := 0, locals := 20 }
def B_X9_setLocal (b : Nat) : zT := (zas (b + 3) 100 (zbin ziadd (zbin ziadd (zcall (M_X9_at) (zai (zl 1) zan)) (zk 12)) (zl 2)) (zl 3))
def M_X9_setLocal (b : Nat) (vs : List Int32) (μ : zM) : Option (Int32 × zM) := match vs with
  | [v1, v2, v3] => zfo0 (B_X9_setLocal b) (zenv [(1, v1), (2, v2), (3, v3)]) μ
  | _ => none
abbrev rm_X9_setLocal : Room := { frames := 1, cells := 0, slots := 0, locals := 20 }
def B_X9_comes (b : Nat) : zT := (zsq (zse 2 (zcall (M_X9_at) (zai (zl 1) zan))) (zsq (zex (zcall (M_X9_becomes b) (zai (zbin zishr (zald (b + 3) 100 (zbin ziadd (zl 2) (zk 8))) (zk 16)) (zai (zbin ziand (zald (b + 3) 100 (zbin ziadd (zl 2) (zk 8))) (zk 2047)) zan)))) (zsq (zao (b + 3) 100 (zbin ziadd (zl 2) (zk 7)) zisub (zk 1)) (zsq (zsq (zse 3 (zk 0)) (zwh zFU (zcmp zlt (zl 3) (zk 3)) (zas (b + 3) 100 (zbin ziadd (zbin ziadd (zl 2) (zk 8)) (zl 3)) (zald (b + 3) 100 (zbin ziadd (zbin ziadd (zbin ziadd (zl 2) (zk 8)) (zl 3)) (zk 1)))) (zse 3 (zbin ziadd (zl 3) (zk 1))))) (zas (b + 3) 100 (zbin ziadd (zbin ziadd (zl 2) (zk 8)) (zk 3)) (zk 0))))))
def M_X9_comes (b : Nat) (vs : List Int32) (μ : zM) : Option (Int32 × zM) := match vs with
  | [v1] => zfo0 (B_X9_comes b) (zenv [(1, v1)]) μ
  | _ => none
abbrev rm_X9_comes : Room := { frames := 2, cells := 0, slots := 0, locals := 43 }
def B_X9_flush (b : Nat) : zT := (zwh zFU (zcm0 (fun a => zgt a 0) (zald (b + 3) 100 (zbin ziadd (zcall (M_X9_at) (zai (zl 1) zan)) (zk 7)))) (zex (zcall (M_X9_comes b) (zai (zl 1) zan))) zsk)
def M_X9_flush (b : Nat) (vs : List Int32) (μ : zM) : Option (Int32 × zM) := match vs with
  | [v1] => zfo0 (B_X9_flush b) (zenv [(1, v1)]) μ
  | _ => none
abbrev rm_X9_flush : Room := { frames := 3, cells := 0, slots := 0, locals := 66 }
def B_X9_isLate (b : Nat) : zT := (zrt (zcond (zand (zcmp zeq (zald (b + 2) 960 (zk 949)) (zk 1)) (znt (zcm0 (fun a => zne a 0) (zfd b 3)))) (zk 1) (zk 0)))
def M_X9_isLate (b : Nat) (vs : List Int32) (μ : zM) : Option (Int32 × zM) := match vs with
  | [] => zfz (B_X9_isLate b) (zenv []) μ
  | _ => none
abbrev rm_X9_isLate : Room := { frames := 0, cells := 0, slots := 0, locals := 0 }
def B_X9_writes (b : Nat) : zT := (zsq (zif (znt (zcm0 (fun a => zne a 0) (zcall (M_X9_isLate b) zan))) (zsq (zex (zcall (M_X9_becomes b) (zai (zl 2) (zai (zl 3) zan)))) zrv) zsk) (zsq (zse 4 (zcall (M_X9_at) (zai (zl 1) zan))) (zsq (zif (zcmp zeq (zald (b + 3) 100 (zbin ziadd (zl 4) (zk 7))) (zk 4)) (zex (zcall (M_X9_comes b) (zai (zl 1) zan))) zsk) (zsq (zas (b + 3) 100 (zbin ziadd (zbin ziadd (zl 4) (zk 8)) (zald (b + 3) 100 (zbin ziadd (zl 4) (zk 7)))) (zbin zior (zbin zishl (zl 2) (zk 16)) (zbin ziand (zl 3) (zk 2047)))) (zao (b + 3) 100 (zbin ziadd (zl 4) (zk 7)) ziadd (zk 1))))))
def M_X9_writes (b : Nat) (vs : List Int32) (μ : zM) : Option (Int32 × zM) := match vs with
  | [v1, v2, v3] => zfo0 (B_X9_writes b) (zenv [(1, v1), (2, v2), (3, v3)]) μ
  | _ => none
abbrev rm_X9_writes : Room := { frames := 3, cells := 0, slots := 0, locals := 66 }
def B_X9_sees (b : Nat) : zT := (zsq (zse 3 (zcall (M_X9_at) (zai (zl 1) zan))) (zsq (zse 4 (zbin ziand (zald (b + 3) 100 (zl 2)) (zk 2047))) (zsq (zsq (zse 5 (zk 0)) (zwh zFU (zcmp zlt (zl 5) (zald (b + 3) 100 (zbin ziadd (zl 3) (zk 7)))) (zse 4 (zcond (zcmp zeq (zbin zishr (zald (b + 3) 100 (zbin ziadd (zbin ziadd (zl 3) (zk 8)) (zl 5))) (zk 16)) (zl 2)) (zbin ziand (zald (b + 3) 100 (zbin ziadd (zbin ziadd (zl 3) (zk 8)) (zl 5))) (zk 2047)) (zl 4))) (zse 5 (zbin ziadd (zl 5) (zk 1))))) (zrt (zbin zior (zl 4) (zbin zishl (zcall (M_X9_countOf) (zai (zald (b + 3) 100 (zl 2)) zan)) (zk 11)))))))
def M_X9_sees (b : Nat) (vs : List Int32) (μ : zM) : Option (Int32 × zM) := match vs with
  | [v1, v2] => zfi (B_X9_sees b) (zenv [(1, v1), (2, v2)]) μ
  | _ => none
abbrev rm_X9_sees : Room := { frames := 1, cells := 0, slots := 0, locals := 20 }
def B_X9_isGuarded (b : Nat) : zT := (zsq (zse 2 (zk 0)) (zsq (zsq (zse 3 (zk 0)) (zwh zFU (zcmp zlt (zl 3) (zk 3)) (zse 2 (zcond (zor (zor (zcm0 (fun a => zne a 0) (zl 2)) (zcmp zeq (zald (b + 3) 100 (zbin ziadd (zcall (M_X9_at) (zai (zl 3) zan)) (zk 5))) (zbin ziadd (zl 1) (zk 1)))) (zcmp zeq (zald (b + 3) 100 (zbin ziadd (zbin ziadd (zcall (M_X9_at) (zai (zl 3) zan)) (zk 5)) (zk 1))) (zbin ziadd (zl 1) (zk 1)))) (zk 1) (zk 0))) (zse 3 (zbin ziadd (zl 3) (zk 1))))) (zrt (zl 2))))
def M_X9_isGuarded (b : Nat) (vs : List Int32) (μ : zM) : Option (Int32 × zM) := match vs with
  | [v1] => zfz (B_X9_isGuarded b) (zenv [(1, v1)]) μ
  | _ => none
abbrev rm_X9_isGuarded : Room := { frames := 1, cells := 0, slots := 0, locals := 20 }
def B_X9_looks (b : Nat) : zT := (zsq (zse 1 (zk 0)) (zwh zFU (zand (zcmp zlt (zl 1) (zk 6)) (zcmp zeq (zald (b + 2) 960 (zk 948)) (zk 3))) (zif (zand (zcmp zgt (zald (b + 3) 100 (zbin ziadd (zk 20) (zl 1))) (zk 1)) (znt (zcm0 (fun a => zne a 0) (zcall (M_X9_isGuarded b) (zai (zl 1) zan))))) (zas (b + 3) 100 (zbin ziadd (zk 20) (zl 1)) (zk 0)) zsk) (zse 1 (zbin ziadd (zl 1) (zk 1)))))
def M_X9_looks (b : Nat) (vs : List Int32) (μ : zM) : Option (Int32 × zM) := match vs with
  | [] => zfo0 (B_X9_looks b) (zenv []) μ
  | _ => none
abbrev rm_X9_looks : Room := { frames := 2, cells := 0, slots := 0, locals := 43 }
def B_X9_epochMoves (b : Nat) : zT := (zsq (zif (zcmp zne (zald (b + 2) 960 (zk 948)) (zk 4)) zrv zsk) (zsq (zse 1 (zk 0)) (zsq (zsq (zse 2 (zk 0)) (zwh zFU (zcmp zlt (zl 2) (zk 6)) (zse 1 (zcond (zor (zcm0 (fun a => zne a 0) (zl 1)) (zcmp zgt (zald (b + 3) 100 (zbin ziadd (zk 20) (zl 2))) (zk 1))) (zk 1) (zk 0))) (zse 2 (zbin ziadd (zl 2) (zk 1))))) (zsq (zse 2 (zk 1)) (zsq (zsq (zse 3 (zk 0)) (zwh zFU (zcmp zlt (zl 3) (zk 3)) (zse 2 (zcond (zand (zcm0 (fun a => zne a 0) (zl 2)) (zor (zcm0 (fun a => zeq a 0) (zald (b + 3) 100 (zbin ziadd (zcall (M_X9_at) (zai (zl 3) zan)) (zk 4)))) (zcmp zeq (zald (b + 3) 100 (zbin ziadd (zcall (M_X9_at) (zai (zl 3) zan)) (zk 4))) (zbin ziadd (zald (b + 3) 100 (zk 26)) (zk 1))))) (zk 1) (zk 0))) (zse 3 (zbin ziadd (zl 3) (zk 1))))) (zif (zand (zcm0 (fun a => zne a 0) (zl 1)) (zcm0 (fun a => zne a 0) (zl 2))) (zsq (zao (b + 3) 100 (zk 26) ziadd (zk 1)) (zsq (zse 3 (zk 0)) (zwh zFU (zcmp zlt (zl 3) (zk 6)) (zif (zand (zcmp zgt (zald (b + 3) 100 (zbin ziadd (zk 20) (zl 3))) (zk 1)) (zcmp zle (zbin ziadd (zbin zisub (zald (b + 3) 100 (zbin ziadd (zk 20) (zl 3))) (zk 2)) (zk 2)) (zald (b + 3) 100 (zk 26)))) (zas (b + 3) 100 (zbin ziadd (zk 20) (zl 3)) (zk 0)) zsk) (zse 3 (zbin ziadd (zl 3) (zk 1)))))) zsk))))))
def M_X9_epochMoves (b : Nat) (vs : List Int32) (μ : zM) : Option (Int32 × zM) := match vs with
  | [] => zfo0 (B_X9_epochMoves b) (zenv []) μ
  | _ => none
abbrev rm_X9_epochMoves : Room := { frames := 1, cells := 0, slots := 0, locals := 20 }
def B_X9_routineOf (b : Nat) : zT := (zrt (zald (b + 2) 960 (zbin ziadd (zbin ziadd (zk 916) (zbin zimul (zk 4) (zcond (zcm0 (fun a => zne a 0) (zfd b 3)) (zk 3) (zl 1)))) (zald (b + 3) 100 (zbin ziadd (zcall (M_X9_at) (zai (zl 1) zan)) (zk 0))))))
def M_X9_routineOf (b : Nat) (vs : List Int32) (μ : zM) : Option (Int32 × zM) := match vs with
  | [v1] => zfi (B_X9_routineOf b) (zenv [(1, v1)]) μ
  | _ => none
abbrev rm_X9_routineOf : Room := { frames := 1, cells := 0, slots := 0, locals := 20 }
def B_X9_opAt (b : Nat) : zT := (zsq (zse 2 (zcall (M_X9_routineOf b) (zai (zl 1) zan))) (zsq (zse 3 (zald (b + 3) 100 (zbin ziadd (zcall (M_X9_at) (zai (zl 1) zan)) (zk 2)))) (zrt (zcond (zcmp zlt (zl 3) (zald (b + 2) 960 (zbin ziadd (zk 0) (zl 2)))) (zald (b + 2) 960 (zbin ziadd (zbin ziadd (zk 6) (zbin zimul (zk 120) (zl 2))) (zbin zimul (zk 4) (zl 3)))) (zk (-1))))))
def M_X9_opAt (b : Nat) (vs : List Int32) (μ : zM) : Option (Int32 × zM) := match vs with
  | [v1] => zfi (B_X9_opAt b) (zenv [(1, v1)]) μ
  | _ => none
abbrev rm_X9_opAt : Room := { frames := 2, cells := 0, slots := 0, locals := 41 }
def B_X9_argumentOf (b : Nat) : zT := (zrt (zald (b + 2) 960 (zbin ziadd (zbin ziadd (zbin ziadd (zk 6) (zbin zimul (zk 120) (zcall (M_X9_routineOf b) (zai (zl 1) zan)))) (zbin zimul (zk 4) (zald (b + 3) 100 (zbin ziadd (zcall (M_X9_at) (zai (zl 1) zan)) (zk 2))))) (zl 2))))
def M_X9_argumentOf (b : Nat) (vs : List Int32) (μ : zM) : Option (Int32 × zM) := match vs with
  | [v1, v2] => zfi (B_X9_argumentOf b) (zenv [(1, v1), (2, v2)]) μ
  | _ => none
abbrev rm_X9_argumentOf : Room := { frames := 2, cells := 0, slots := 0, locals := 41 }
def B_X9_finds (b : Nat) : zT := (zas (b + 3) 100 (zbin ziadd (zcall (M_X9_at) (zai (zl 1) zan)) (zk 3)) (zl 2))
def M_X9_finds (b : Nat) (vs : List Int32) (μ : zM) : Option (Int32 × zM) := match vs with
  | [v1, v2] => zfo0 (B_X9_finds b) (zenv [(1, v1), (2, v2)]) μ
  | _ => none
abbrev rm_X9_finds : Room := { frames := 1, cells := 0, slots := 0, locals := 20 }
def B_X9_begins (b : Nat) : zT := (zsq (zse 2 (zcall (M_X9_at) (zai (zl 1) zan))) (zsq (zsq (zse 3 (zk 0)) (zwh zFU (zcmp zlt (zl 3) (zk 6)) (zex (zcall (M_X9_setLocal b) (zai (zl 1) (zai (zl 3) (zai (zk 0) zan))))) (zse 3 (zbin ziadd (zl 3) (zk 1))))) (zsq (zex (zcall (M_X9_setLocal b) (zai (zl 1) (zai (zk 0) (zai (zcall (M_X9_asNumber) (zai (zald (b + 2) 960 (zbin ziadd (zbin ziadd (zk 932) (zbin zimul (zk 4) (zcond (zcm0 (fun a => zne a 0) (zfd b 3)) (zk 3) (zl 1)))) (zald (b + 3) 100 (zbin ziadd (zl 2) (zk 0))))) zan)) zan))))) (zsq (zas (b + 3) 100 (zbin ziadd (zl 2) (zk 2)) (zk 0)) (zsq (zas (b + 3) 100 (zbin ziadd (zl 2) (zk 1)) (zk 1)) (zsq (zse 3 (zk 0)) (zsq (zsq (zse 4 (zk 0)) (zwh zFU (zcmp zlt (zl 4) (zk 3)) (zsq (zse 5 (zk 0)) (zwh zFU (zcmp zlt (zl 5) (zald (b + 3) 100 (zbin ziadd (zcall (M_X9_at) (zai (zl 4) zan)) (zk 0)))) (zse 3 (zbin zior (zl 3) (zbin zishl (zk 1) (zbin ziadd (zbin zimul (zk 3) (zl 4)) (zl 5))))) (zse 5 (zbin ziadd (zl 5) (zk 1))))) (zse 4 (zbin ziadd (zl 4) (zk 1))))) (zif (znt (zcm0 (fun a => zne a 0) (zfd b 3))) (zas (b + 3) 100 (zbin ziadd (zk 81) (zbin zimul (zk 2) (zbin ziadd (zbin zimul (zk 3) (zl 1)) (zald (b + 3) 100 (zbin ziadd (zl 2) (zk 0)))))) (zl 3)) zsk))))))))
def M_X9_begins (b : Nat) (vs : List Int32) (μ : zM) : Option (Int32 × zM) := match vs with
  | [v1] => zfo0 (B_X9_begins b) (zenv [(1, v1)]) μ
  | _ => none
abbrev rm_X9_begins : Room := { frames := 2, cells := 0, slots := 0, locals := 43 }
def B_X9_own (b : Nat) : zT := (zsq (zse 2 (zcall (M_X9_at) (zai (zl 1) zan))) (zsq (zse 3 (zcall (M_X9_opAt b) (zai (zl 1) zan))) (zsq (zse 4 (zcall (M_X9_argumentOf b) (zai (zl 1) (zai (zk 1) zan)))) (zsq (zse 5 (zcall (M_X9_argumentOf b) (zai (zl 1) (zai (zk 2) zan)))) (zsq (zse 6 (zcond (zcmp zeq (zl 3) (zk 26)) (zbin ziand (zcall (M_X9_localOf b) (zai (zl 1) (zai (zl 4) zan))) (zk 3)) (zk 1))) (zsq (zif (zor (zcmp zne (zl 6) (zk 1)) (zcmp zeq (zfd b 5) (zk 30))) (zsq (zex (zcall (M_X9_finds b) (zai (zl 1) (zai (zcond (zcm0 (fun a => zeq a 0) (zl 6)) (zk 1) (zcond (zcmp zeq (zl 6) (zk 2)) (zk 2) (zk 6))) zan)))) zrv) zsk) (zsq (zfo b 5 ziadd (zk 1)) (zsq (zse 7 (zbin ziadd (zald (b + 3) 100 (zbin ziadd (zl 2) (zk 2))) (zk 1))) (zsq (zsw (zl 3) 20 [(zsq (zex (zcall (M_X9_setLocal b) (zai (zl 1) (zai (zl 4) (zai (zcall (M_X9_asNumber) (zai (zl 5) zan)) zan))))) zbk), (zsq (zex (zcall (M_X9_setLocal b) (zai (zl 1) (zai (zl 4) (zai (zk 0) zan))))) zbk), (zsq (zex (zcall (M_X9_setLocal b) (zai (zl 1) (zai (zl 4) (zai (zcall (M_X9_localOf b) (zai (zl 1) (zai (zl 5) zan))) zan))))) zbk), (zsq (zif (zcm0 (fun a => zne a 0) (zbin ziand (zcall (M_X9_localOf b) (zai (zl 1) (zai (zl 4) zan))) (zk 3))) (zex (zcall (M_X9_setLocal b) (zai (zl 1) (zai (zl 4) (zai (zbin zior (zbin ziand (zcall (M_X9_localOf b) (zai (zl 1) (zai (zl 4) zan))) (zk (-1025))) (zbin zishl (zl 5) (zk 10))) zan))))) zsk) zbk), (zsq (zse 7 (zl 4)) zbk), (zsq (zse 7 (zcond (zcm0 (fun a => zne a 0) (zcall (M_X9_alike) (zai (zcall (M_X9_localOf b) (zai (zl 1) (zai (zl 4) zan))) (zai (zcall (M_X9_localOf b) (zai (zl 1) (zai (zl 5) zan))) zan)))) (zcall (M_X9_argumentOf b) (zai (zl 1) (zai (zk 3) zan))) (zl 7))) zbk)] (zex (zcall (M_X9_setLocal b) (zai (zl 1) (zai (zl 4) (zai (zcall (M_X9_asNumber) (zai (zbin ziadd (zcall (M_X9_numberOf) (zai (zcall (M_X9_localOf b) (zai (zl 1) (zai (zl 4) zan))) zan)) (zl 5)) zan)) zan)))))) (zas (b + 3) 100 (zbin ziadd (zl 2) (zk 2)) (zl 7)))))))))))
def M_X9_own (b : Nat) (vs : List Int32) (μ : zM) : Option (Int32 × zM) := match vs with
  | [v1] => zfo0 (B_X9_own b) (zenv [(1, v1)]) μ
  | _ => none
abbrev rm_X9_own : Room := { frames := 3, cells := 0, slots := 0, locals := 64 }
def B_X9_notNode (b : Nat) : zT := (zsq (zse 3 (zbin ziand (zcall (M_X9_localOf b) (zai (zl 1) (zai (zl 2) zan))) (zk 3))) (zrt (zcond (zcm0 (fun a => zeq a 0) (zl 3)) (zk 1) (zcond (zcmp zeq (zl 3) (zk 1)) (zk 2) (zk 0)))))
def M_X9_notNode (b : Nat) (vs : List Int32) (μ : zM) : Option (Int32 × zM) := match vs with
  | [v1, v2] => zfi (B_X9_notNode b) (zenv [(1, v1), (2, v2)]) μ
  | _ => none
abbrev rm_X9_notNode : Room := { frames := 2, cells := 0, slots := 0, locals := 42 }
def B_X9_isFree (b : Nat) : zT := (zrt (zcond (zcm0 (fun a => zeq a 0) (zald (b + 3) 100 (zbin ziadd (zk 20) (zcall (M_X9_nodeOf) (zai (zcall (M_X9_localOf b) (zai (zl 1) (zai (zl 2) zan))) zan))))) (zk 1) (zk 0)))
def M_X9_isFree (b : Nat) (vs : List Int32) (μ : zM) : Option (Int32 × zM) := match vs with
  | [v1, v2] => zfz (B_X9_isFree b) (zenv [(1, v1), (2, v2)]) μ
  | _ => none
abbrev rm_X9_isFree : Room := { frames := 2, cells := 0, slots := 0, locals := 42 }
def B_X9_field (b : Nat) : zT := (zrt (zbin ziadd (zbin ziadd (zk 8) (zbin zimul (zk 2) (zcall (M_X9_nodeOf) (zai (zcall (M_X9_localOf b) (zai (zl 1) (zai (zl 2) zan))) zan)))) (zl 3)))
def M_X9_field (b : Nat) (vs : List Int32) (μ : zM) : Option (Int32 × zM) := match vs with
  | [v1, v2, v3] => zfi (B_X9_field b) (zenv [(1, v1), (2, v2), (3, v3)]) μ
  | _ => none
abbrev rm_X9_field : Room := { frames := 2, cells := 0, slots := 0, locals := 42 }
def B_X9_meets (b : Nat) : zT := (zsq (zif (zor (zor (zcm0 (fun a => zne a 0) (zcall M_X9_in (zai (zl 2) (zai (zk 4) (zai (zk 7) zan))))) (zcmp zeq (zl 2) (zk 9))) (zcmp zeq (zl 2) (zk 13))) (zex (zcall (M_X9_flush b) (zai (zl 1) zan))) zsk) (zsq (zse 5 (zcond (zcmp zeq (zl 2) (zk 1)) (zcall (M_X9_notNode b) (zai (zl 1) (zai (zl 4) zan))) (zcond (zor (zor (zcmp zeq (zl 2) (zk 3)) (zcmp zeq (zl 2) (zk 5))) (zcmp zeq (zl 2) (zk 9))) (zcall (M_X9_notNode b) (zai (zl 1) (zai (zl 3) zan))) (zk 0)))) (zsq (zif (zcm0 (fun a => zgt a 0) (zl 5)) (zrt (zl 5)) zsk) (zsq (zif (zand (zcmp zeq (zl 2) (zk 6)) (zcmp zeq (zbin ziand (zald (b + 3) 100 (zl 3)) (zk 3)) (zk 2))) (zrt (zk 2)) zsk) (zsq (zif (zor (zand (zcmp zeq (zl 2) (zk 1)) (zcm0 (fun a => zne a 0) (zcall (M_X9_isFree b) (zai (zl 1) (zai (zl 4) zan))))) (zand (zor (zcmp zeq (zl 2) (zk 3)) (zcmp zeq (zl 2) (zk 5))) (zcm0 (fun a => zne a 0) (zcall (M_X9_isFree b) (zai (zl 1) (zai (zl 3) zan)))))) (zrt (zk 4)) zsk) (zrt (zcond (zand (zcmp zeq (zl 2) (zk 9)) (zcmp zne (zald (b + 3) 100 (zbin ziadd (zk 20) (zcall (M_X9_nodeOf) (zai (zcall (M_X9_localOf b) (zai (zl 1) (zai (zl 3) zan))) zan)))) (zk 1))) (zk 5) (zk 0))))))))
def M_X9_meets (b : Nat) (vs : List Int32) (μ : zM) : Option (Int32 × zM) := match vs with
  | [v1, v2, v3, v4] => zfi (B_X9_meets b) (zenv [(1, v1), (2, v2), (3, v3), (4, v4)]) μ
  | _ => none
abbrev rm_X9_meets : Room := { frames := 4, cells := 0, slots := 0, locals := 87 }
def B_X9_happens (b : Nat) : zT := (zsq (zse 2 (zcall (M_X9_routineOf b) (zai (zl 1) zan))) (zsq (zif (zor (zcm0 (fun a => zne a 0) (zfd b 3)) (zcm0 (fun a => zeq a 0) (zald (b + 2) 960 (zbin ziadd (zbin ziadd (zk 732) (zbin zimul (zk 30) (zl 2))) (zald (b + 3) 100 (zbin ziadd (zcall (M_X9_at) (zai (zl 1) zan)) (zk 2))))))) zrv zsk) (zsq (zse 3 (zbin ziadd (zbin ziadd (zbin zimul (zk 3) (zl 1)) (zald (b + 3) 100 (zbin ziadd (zcall (M_X9_at) (zai (zl 1) zan)) (zk 0)))) (zk 1))) (zsq (zse 4 (zk 0)) (zsq (zse 5 (zk 0)) (zsq (zsq (zse 6 (zald (b + 3) 100 (zk 99))) (zwh zFU (zcm0 (fun a => zne a 0) (zl 6)) (zif (zcmp zne (zbin ziand (zl 6) (zk 15)) (zl 3)) (zsq (zse 4 (zbin zior (zl 4) (zbin zishl (zbin ziand (zl 6) (zk 15)) (zbin zimul (zk 4) (zl 5))))) (zse 5 (zbin ziadd (zl 5) (zk 1)))) zsk) (zse 6 (zbin zishr (zl 6) (zk 4))))) (zas (b + 3) 100 (zk 99) (zbin zior (zl 4) (zbin zishl (zl 3) (zbin zimul (zk 4) (zl 5)))))))))))
def M_X9_happens (b : Nat) (vs : List Int32) (μ : zM) : Option (Int32 × zM) := match vs with
  | [v1] => zfo0 (B_X9_happens b) (zenv [(1, v1)]) μ
  | _ => none
abbrev rm_X9_happens : Room := { frames := 2, cells := 0, slots := 0, locals := 41 }
def B_X9_adds (b : Nat) : zT := (zsq (zse 4 (zcall (M_X9_asNumber) (zai (zbin ziadd (zcond (zcm0 (fun a => zeq a 0) (zbin ziand (zald (b + 3) 100 (zl 2)) (zk 3))) (zk 0) (zcall (M_X9_numberOf) (zai (zald (b + 3) 100 (zl 2)) zan))) (zl 3)) zan))) (zsq (zex (zcall (M_X9_becomes b) (zai (zl 2) (zai (zl 4) zan)))) (zex (zcall (M_X9_setLocal b) (zai (zl 1) (zai (zk 5) (zai (zl 4) zan)))))))
def M_X9_adds (b : Nat) (vs : List Int32) (μ : zM) : Option (Int32 × zM) := match vs with
  | [v1, v2, v3] => zfo0 (B_X9_adds b) (zenv [(1, v1), (2, v2), (3, v3)]) μ
  | _ => none
abbrev rm_X9_adds : Room := { frames := 2, cells := 0, slots := 0, locals := 43 }
def B_X9_returns (b : Nat) : zT := (zsq (zse 3 (zcall (M_X9_at) (zai (zl 1) zan))) (zsq (zse 4 (zcond (zcm0 (fun a => zeq a 0) (zbin ziand (zl 2) (zk 3))) (zk (-100)) (zcond (zcmp zeq (zbin ziand (zl 2) (zk 3)) (zk 2)) (zk 100) (zcall (M_X9_numberOf) (zai (zl 2) zan))))) (zsq (zif (znt (zcm0 (fun a => zne a 0) (zfd b 3))) (zas (b + 3) 100 (zbin ziadd (zbin ziadd (zk 81) (zbin zimul (zk 2) (zbin ziadd (zbin zimul (zk 3) (zl 1)) (zald (b + 3) 100 (zbin ziadd (zl 3) (zk 0)))))) (zk 1)) (zbin ziadd (zl 4) (zk 1000))) zsk) (zsq (zao (b + 3) 100 (zbin ziadd (zl 3) (zk 0)) ziadd (zk 1)) (zsq (zas (b + 3) 100 (zbin ziadd (zl 3) (zk 1)) (zk 0)) (zsq (zas (b + 3) 100 (zbin ziadd (zl 3) (zk 2)) (zk 0)) (zsq (zas (b + 3) 100 (zbin ziadd (zl 3) (zk 4)) (zk 0)) (zsq (zas (b + 3) 100 (zbin ziadd (zl 3) (zk 5)) (zk 0)) (zsq (zas (b + 3) 100 (zbin ziadd (zbin ziadd (zl 3) (zk 5)) (zk 1)) (zk 0)) (zsq (zsq (zse 5 (zk 0)) (zwh zFU (zcmp zlt (zl 5) (zk 6)) (zex (zcall (M_X9_setLocal b) (zai (zl 1) (zai (zl 5) (zai (zk 0) zan))))) (zse 5 (zbin ziadd (zl 5) (zk 1))))) (zsq (zpz b 4 (zk 1)) (zsq (zex (zcall (M_X9_looks b) zan)) (zex (zcall (M_X9_epochMoves b) zan))))))))))))))
def M_X9_returns (b : Nat) (vs : List Int32) (μ : zM) : Option (Int32 × zM) := match vs with
  | [v1, v2] => zfo0 (B_X9_returns b) (zenv [(1, v1), (2, v2)]) μ
  | _ => none
abbrev rm_X9_returns : Room := { frames := 3, cells := 0, slots := 0, locals := 64 }
def B_X9_isThere (b : Nat) : zT := (zsq (zif (zcmp zgt (zl 1) (zk 2)) (zrt (zcond (zcm0 (fun a => zgt a 0) (zald (b + 3) 100 (zbin ziadd (zcall (M_X9_at) (zai (zbin zisub (zl 1) (zk 3)) zan)) (zk 7)))) (zk 1) (zk 0))) zsk) (zsq (zse 2 (zcall (M_X9_at) (zai (zl 1) zan))) (zrt (zcond (zand (zcm0 (fun a => zeq a 0) (zald (b + 3) 100 (zbin ziadd (zl 2) (zk 3)))) (zcmp zlt (zald (b + 3) 100 (zbin ziadd (zl 2) (zk 0))) (zald (b + 2) 960 (zbin ziadd (zk 912) (zl 1))))) (zk 1) (zk 0)))))
def M_X9_isThere (b : Nat) (vs : List Int32) (μ : zM) : Option (Int32 × zM) := match vs with
  | [v1] => zfz (B_X9_isThere b) (zenv [(1, v1)]) μ
  | _ => none
abbrev rm_X9_isThere : Room := { frames := 1, cells := 0, slots := 0, locals := 20 }
def B_X9_takes (b : Nat) : zT := (zsq (zif (zcmp zeq (zfd b 7) (zfd b 8)) (zrt (zk (-100))) zsk) (zsq (zif (zcmp zeq (zl 1) (zk 1)) (zsq (zfo b 7 zisub (zk 1)) (zrt (zald (b + 4) 16 (zfd b 7)))) zsk) (zsq (zfo b 8 ziadd (zk 1)) (zrt (zald (b + 4) 16 (zbin zisub (zfd b 8) (zk 1)))))))
def M_X9_takes (b : Nat) (vs : List Int32) (μ : zM) : Option (Int32 × zM) := match vs with
  | [v1] => zfi (B_X9_takes b) (zenv [(1, v1)]) μ
  | _ => none
abbrev rm_X9_takes : Room := { frames := 0, cells := 0, slots := 0, locals := 0 }
def B_X9_callMany (b : Nat) : zT := (zrt (zbin ziadd (zbin ziadd (zald (b + 2) 960 (zk 912)) (zald (b + 2) 960 (zk 913))) (zald (b + 2) 960 (zk 914))))
def M_X9_callMany (b : Nat) (vs : List Int32) (μ : zM) : Option (Int32 × zM) := match vs with
  | [] => zfi (B_X9_callMany b) (zenv []) μ
  | _ => none
abbrev rm_X9_callMany : Room := { frames := 0, cells := 0, slots := 0, locals := 0 }
def B_X9_isCall (b : Nat) : zT := (zrt (zcond (zcmp zlt (zbiq zirem (zl 1) (zk 3)) (zald (b + 2) 960 (zbin ziadd (zk 912) (zbiq zidiv (zl 1) (zk 3))))) (zk 1) (zk 0)))
def M_X9_isCall (b : Nat) (vs : List Int32) (μ : zM) : Option (Int32 × zM) := match vs with
  | [v1] => zfz (B_X9_isCall b) (zenv [(1, v1)]) μ
  | _ => none
abbrev rm_X9_isCall : Room := { frames := 0, cells := 0, slots := 0, locals := 0 }
def B_X9_hasFinding (b : Nat) : zT := (zrt (zcond (zor (zor (zcm0 (fun a => zgt a 0) (zald (b + 3) 100 (zbin ziadd (zcall (M_X9_at) (zai (zk 0) zan)) (zk 3)))) (zcm0 (fun a => zgt a 0) (zald (b + 3) 100 (zbin ziadd (zcall (M_X9_at) (zai (zk 1) zan)) (zk 3))))) (zcm0 (fun a => zgt a 0) (zald (b + 3) 100 (zbin ziadd (zcall (M_X9_at) (zai (zk 2) zan)) (zk 3))))) (zk 1) (zk 0)))
def M_X9_hasFinding (b : Nat) (vs : List Int32) (μ : zM) : Option (Int32 × zM) := match vs with
  | [] => zfz (B_X9_hasFinding b) (zenv []) μ
  | _ => none
abbrev rm_X9_hasFinding : Room := { frames := 1, cells := 0, slots := 0, locals := 20 }
def B_X9_isEnd (b : Nat) : zT := (zsq (zse 1 (zk 1)) (zsq (zsq (zse 2 (zk 0)) (zwh zFU (zcmp zlt (zl 2) (zk 6)) (zse 1 (zcond (zand (zcm0 (fun a => zne a 0) (zl 1)) (znt (zcm0 (fun a => zne a 0) (zcall (M_X9_isThere b) (zai (zl 2) zan))))) (zk 1) (zk 0))) (zse 2 (zbin ziadd (zl 2) (zk 1))))) (zrt (zl 1))))
def M_X9_isEnd (b : Nat) (vs : List Int32) (μ : zM) : Option (Int32 × zM) := match vs with
  | [] => zfz (B_X9_isEnd b) (zenv []) μ
  | _ => none
abbrev rm_X9_isEnd : Room := { frames := 2, cells := 0, slots := 0, locals := 42 }
def B_X9_takeRun (b : Nat) : zT := (zsq (zex (zcall (M_X9_use b) (zai (zk 1) zan))) (zsq (zse 1 (zk 0)) (zwh zFU (zcmp zlt (zl 1) (zk 100)) (zas (b + 3) 100 (zl 1) (zald (b + 6) 100 (zl 1))) (zse 1 (zbin ziadd (zl 1) (zk 1))))))
def M_X9_takeRun (b : Nat) (vs : List Int32) (μ : zM) : Option (Int32 × zM) := match vs with
  | [] => zfo0 (B_X9_takeRun b) (zenv []) μ
  | _ => none
abbrev rm_X9_takeRun : Room := { frames := 1, cells := 0, slots := 0, locals := 22 }
def B_X9_keepRun (b : Nat) : zT := (zsq (zse 1 (zk 0)) (zwh zFU (zcmp zlt (zl 1) (zk 100)) (zas (b + 6) 100 (zl 1) (zald (b + 3) 100 (zl 1))) (zse 1 (zbin ziadd (zl 1) (zk 1)))))
def M_X9_keepRun (b : Nat) (vs : List Int32) (μ : zM) : Option (Int32 × zM) := match vs with
  | [] => zfo0 (B_X9_keepRun b) (zenv []) μ
  | _ => none
abbrev rm_X9_keepRun : Room := { frames := 0, cells := 0, slots := 0, locals := 0 }
def B_X9_may (b : Nat) : zT := (zsq (zif (znt (zcm0 (fun a => zne a 0) (zcall M_X9_in (zai (zl 1) (zai (zk 0) (zai (zk 5) zan)))))) (zrt (zk (-1))) zsk) (zsq (zif (znt (zcm0 (fun a => zne a 0) (zfd b 11))) (zrt (zk (-2))) zsk) (zsq (zex (zcall (M_X9_takeRun b) zan)) (zrt (zcond (zcm0 (fun a => zne a 0) (zcall (M_X9_isThere b) (zai (zl 1) zan))) (zk 1) (zk 0))))))
def M_X9_may (b : Nat) (vs : List Int32) (μ : zM) : Option (Int32 × zM) := match vs with
  | [v1] => zfi (B_X9_may b) (zenv [(1, v1)]) μ
  | _ => none
abbrev rm_X9_may : Room := { frames := 2, cells := 0, slots := 0, locals := 43 }
def B_X9_whatOf  : zT := (zsq (zse 2 (zbin ziand (zl 0) (zk 3))) (zrt (zcond (zcm0 (fun a => zeq a 0) (zl 1)) (zl 2) (zcond (zcmp zeq (zl 1) (zk 1)) (zcond (zcmp zeq (zl 2) (zk 1)) (zcall (M_X9_numberOf) (zai (zl 0) zan)) (zcond (zcmp zeq (zl 2) (zk 2)) (zcall (M_X9_nodeOf) (zai (zl 0) zan)) (zk 0))) (zcond (zcmp zeq (zl 1) (zk 2)) (zbin ziand (zbin zishr (zl 0) (zk 10)) (zk 1)) (zcall (M_X9_countOf) (zai (zl 0) zan)))))))
def M_X9_whatOf (vs : List Int32) (μ : zM) : Option (Int32 × zM) := match vs with
  | [v1, v2] => zfi (B_X9_whatOf) (zenv [(0, v1), (1, v2)]) μ
  | _ => none
abbrev rm_X9_whatOf : Room := { frames := 1, cells := 0, slots := 0, locals := 20 }
def B_X9_word (b : Nat) : zT := (zsq (zif (zor (znt (zcm0 (fun a => zne a 0) (zcall M_X9_in (zai (zl 1) (zai (zk 0) (zai (zk 19) zan)))))) (znt (zcm0 (fun a => zne a 0) (zcall M_X9_in (zai (zl 2) (zai (zk 0) (zai (zk 3) zan))))))) (zrt (zk (-1000))) zsk) (zrt (zcond (zcm0 (fun a => zne a 0) (zfd b 11)) (zcall (M_X9_whatOf) (zai (zald (b + 6) 100 (zl 1)) (zai (zl 2) zan))) (zk (-2000)))))
def M_X9_word (b : Nat) (vs : List Int32) (μ : zM) : Option (Int32 × zM) := match vs with
  | [v1, v2] => zfi (B_X9_word b) (zenv [(1, v1), (2, v2)]) μ
  | _ => none
abbrev rm_X9_word : Room := { frames := 2, cells := 0, slots := 0, locals := 42 }
def B_X9_local (b : Nat) : zT := (zsq (zif (zor (zor (znt (zcm0 (fun a => zne a 0) (zcall M_X9_in (zai (zl 1) (zai (zk 0) (zai (zk 2) zan)))))) (znt (zcm0 (fun a => zne a 0) (zcall M_X9_in (zai (zl 2) (zai (zk 0) (zai (zk 5) zan))))))) (znt (zcm0 (fun a => zne a 0) (zcall M_X9_in (zai (zl 3) (zai (zk 0) (zai (zk 3) zan))))))) (zrt (zk (-1000))) zsk) (zrt (zcond (zcm0 (fun a => zne a 0) (zfd b 11)) (zcall (M_X9_whatOf) (zai (zald (b + 6) 100 (zbin ziadd (zbin ziadd (zcall (M_X9_at) (zai (zl 1) zan)) (zk 12)) (zl 2))) (zai (zl 3) zan))) (zk (-2000)))))
def M_X9_local (b : Nat) (vs : List Int32) (μ : zM) : Option (Int32 × zM) := match vs with
  | [v1, v2, v3] => zfi (B_X9_local b) (zenv [(1, v1), (2, v2), (3, v3)]) μ
  | _ => none
abbrev rm_X9_local : Room := { frames := 2, cells := 0, slots := 0, locals := 42 }
def B_X9_node (b : Nat) : zT := (zsq (zif (znt (zcm0 (fun a => zne a 0) (zcall M_X9_in (zai (zl 1) (zai (zk 0) (zai (zk 5) zan)))))) (zrt (zk (-1))) zsk) (zrt (zcond (znt (zcm0 (fun a => zne a 0) (zfd b 11))) (zk (-2)) (zcond (zcmp zgt (zald (b + 6) 100 (zbin ziadd (zk 20) (zl 1))) (zk 1)) (zk 2) (zald (b + 6) 100 (zbin ziadd (zk 20) (zl 1)))))))
def M_X9_node (b : Nat) (vs : List Int32) (μ : zM) : Option (Int32 × zM) := match vs with
  | [v1] => zfi (B_X9_node b) (zenv [(1, v1)]) μ
  | _ => none
abbrev rm_X9_node : Room := { frames := 1, cells := 0, slots := 0, locals := 25 }
def B_X9_thread (b : Nat) : zT := (zsq (zif (zor (znt (zcm0 (fun a => zne a 0) (zcall M_X9_in (zai (zl 1) (zai (zk 0) (zai (zk 2) zan)))))) (znt (zcm0 (fun a => zne a 0) (zcall M_X9_in (zai (zl 2) (zai (zk 0) (zai (zk 7) zan))))))) (zrt (zk (-1))) zsk) (zsq (zif (znt (zcm0 (fun a => zne a 0) (zfd b 11))) (zrt (zk (-2))) zsk) (zsq (zse 3 (zcall (M_X9_at) (zai (zl 1) zan))) (zsw (zl 2) 0 [(zrt (zald (b + 6) 100 (zbin ziadd (zl 3) (zk 0)))), (zrt (zald (b + 6) 100 (zbin ziadd (zl 3) (zk 1)))), (zrt (zald (b + 6) 100 (zbin ziadd (zl 3) (zk 2)))), (zrt (zald (b + 6) 100 (zbin ziadd (zl 3) (zk 3)))), (zrt (zald (b + 6) 100 (zbin ziadd (zl 3) (zk 7)))), (zrt (zcond (zcm0 (fun a => zeq a 0) (zald (b + 6) 100 (zbin zisub (zbin ziadd (zbin ziadd (zl 3) (zk 5)) (zl 2)) (zk 5)))) (zk (-4)) (zbin zisub (zald (b + 6) 100 (zbin zisub (zbin ziadd (zbin ziadd (zl 3) (zk 5)) (zl 2)) (zk 5))) (zk 1)))), (zrt (zcond (zcm0 (fun a => zeq a 0) (zald (b + 6) 100 (zbin zisub (zbin ziadd (zbin ziadd (zl 3) (zk 5)) (zl 2)) (zk 5)))) (zk (-4)) (zbin zisub (zald (b + 6) 100 (zbin zisub (zbin ziadd (zbin ziadd (zl 3) (zk 5)) (zl 2)) (zk 5))) (zk 1)))), (zrt (zcond (zcm0 (fun a => zeq a 0) (zald (b + 6) 100 (zbin ziadd (zl 3) (zk 4)))) (zk (-4)) (zbin zisub (zald (b + 6) 100 (zbin ziadd (zl 3) (zk 4))) (zk 1))))] (zrt (zcond (zcm0 (fun a => zeq a 0) (zald (b + 6) 100 (zbin zisub (zbin ziadd (zbin ziadd (zl 3) (zk 5)) (zl 2)) (zk 5)))) (zk (-4)) (zbin zisub (zald (b + 6) 100 (zbin zisub (zbin ziadd (zbin ziadd (zl 3) (zk 5)) (zl 2)) (zk 5))) (zk 1))))))))
def M_X9_thread (b : Nat) (vs : List Int32) (μ : zM) : Option (Int32 × zM) := match vs with
  | [v1, v2] => zfi (B_X9_thread b) (zenv [(1, v1), (2, v2)]) μ
  | _ => none
abbrev rm_X9_thread : Room := { frames := 1, cells := 0, slots := 0, locals := 25 }
def B_X9_answer (b : Nat) : zT := (zsq (zif (zor (znt (zcm0 (fun a => zne a 0) (zcall M_X9_in (zai (zl 1) (zai (zk 0) (zai (zk 2) zan)))))) (znt (zcm0 (fun a => zne a 0) (zcall M_X9_in (zai (zl 2) (zai (zk 0) (zai (zk 2) zan))))))) (zrt (zk (-1000))) zsk) (zsq (zif (znt (zcm0 (fun a => zne a 0) (zfd b 11))) (zrt (zk (-2000))) zsk) (zsq (zse 3 (zald (b + 6) 100 (zbin ziadd (zbin ziadd (zk 81) (zbin zimul (zk 2) (zbin ziadd (zbin zimul (zk 3) (zl 1)) (zl 2)))) (zk 1)))) (zrt (zcond (zcm0 (fun a => zeq a 0) (zl 3)) (zk (-4)) (zbin zisub (zl 3) (zk 1000)))))))
def M_X9_answer (b : Nat) (vs : List Int32) (μ : zM) : Option (Int32 × zM) := match vs with
  | [v1, v2] => zfi (B_X9_answer b) (zenv [(1, v1), (2, v2)]) μ
  | _ => none
abbrev rm_X9_answer : Room := { frames := 1, cells := 0, slots := 0, locals := 25 }
def B_X9_epoch (b : Nat) : zT := (zrt (zcond (zcm0 (fun a => zne a 0) (zfd b 11)) (zald (b + 6) 100 (zk 26)) (zk (-2))))
def M_X9_epoch (b : Nat) (vs : List Int32) (μ : zM) : Option (Int32 × zM) := match vs with
  | [] => zfi (B_X9_epoch b) (zenv []) μ
  | _ => none
abbrev rm_X9_epoch : Room := { frames := 0, cells := 0, slots := 0, locals := 0 }
def B_X9_load (b : Nat) : zT := (zsq (zse 2 (zk 0)) (zwh zFU (zcmp zlt (zl 2) (zk 100)) (zas (b + 3) 100 (zl 2) (zald (b + 7) 150000 (zbin ziadd (zbin zimul (zk 100) (zl 1)) (zl 2)))) (zse 2 (zbin ziadd (zl 2) (zk 1)))))
def M_X9_load (b : Nat) (vs : List Int32) (μ : zM) : Option (Int32 × zM) := match vs with
  | [v1] => zfo0 (B_X9_load b) (zenv [(1, v1)]) μ
  | _ => none
abbrev rm_X9_load : Room := { frames := 0, cells := 0, slots := 0, locals := 0 }
def B_X9_sumNow (b : Nat) : zT := (zsq (zse 1 (zk 17)) (zsq (zsq (zse 2 (zk 0)) (zwh zFU (zcmp zlt (zl 2) (zk 100)) (zse 1 (zbin ziadd (zbin zimul (zk 31) (zl 1)) (zald (b + 3) 100 (zl 2)))) (zse 2 (zbin ziadd (zl 2) (zk 1))))) (zrt (zl 1))))
def M_X9_sumNow (b : Nat) (vs : List Int32) (μ : zM) : Option (Int32 × zM) := match vs with
  | [] => zfi (B_X9_sumNow b) (zenv []) μ
  | _ => none
abbrev rm_X9_sumNow : Room := { frames := 0, cells := 0, slots := 0, locals := 0 }
def B_X9_found (b : Nat) : zT := (zsq (zsq (zse 2 (zbin zisub (zald (b + 9) 2048 (zbin ziand (zl 1) (zk 2047))) (zk 1))) (zwh zFU (zcm0 (fun a => zge a 0) (zl 2)) (zsq (zse 3 (zcond (zcmp zeq (zald (b + 8) 1500 (zl 2)) (zl 1)) (zk 1) (zk 0))) (zsq (zsq (zse 4 (zk 0)) (zwh zFU (zand (zcmp zlt (zl 4) (zk 100)) (zcm0 (fun a => zne a 0) (zl 3))) (zse 3 (zcond (zcmp zeq (zald (b + 7) 150000 (zbin ziadd (zbin zimul (zk 100) (zl 2)) (zl 4))) (zald (b + 3) 100 (zl 4))) (zk 1) (zk 0))) (zse 4 (zbin ziadd (zl 4) (zk 1))))) (zif (zcm0 (fun a => zne a 0) (zl 3)) (zrt (zl 2)) zsk))) (zse 2 (zbin zisub (zald (b + 10) 1500 (zl 2)) (zk 1))))) (zrt (zk (-1))))
def M_X9_found (b : Nat) (vs : List Int32) (μ : zM) : Option (Int32 × zM) := match vs with
  | [v1] => zfi (B_X9_found b) (zenv [(1, v1)]) μ
  | _ => none
abbrev rm_X9_found : Room := { frames := 0, cells := 0, slots := 0, locals := 0 }
def B_X9_marked (b : Nat) : zT := (zsq (zse 3 (zk 0)) (zsq (zsq (zse 4 (zk 0)) (zwh zFU (zcmp zlt (zl 4) (zfd b 17)) (zse 3 (zbin ziadd (zl 3) (zcond (zcmp zeq (zbin ziand (zald (b + 15) 1500 (zl 4)) (zl 1)) (zl 2)) (zk 1) (zk 0)))) (zse 4 (zbin ziadd (zl 4) (zk 1))))) (zrt (zl 3))))
def M_X9_marked (b : Nat) (vs : List Int32) (μ : zM) : Option (Int32 × zM) := match vs with
  | [v1, v2] => zfi (B_X9_marked b) (zenv [(1, v1), (2, v2)]) μ
  | _ => none
abbrev rm_X9_marked : Room := { frames := 0, cells := 0, slots := 0, locals := 0 }
def B_X9_mostWaiting (b : Nat) : zT := (zsq (zse 1 (zk 0)) (zsq (zsq (zse 2 (zk 0)) (zwh zFU (zcmp zlt (zl 2) (zfd b 17)) (zse 1 (zcond (zcmp zgt (zald (b + 16) 1500 (zl 2)) (zl 1)) (zald (b + 16) 1500 (zl 2)) (zl 1))) (zse 2 (zbin ziadd (zl 2) (zk 1))))) (zrt (zl 1))))
def M_X9_mostWaiting (b : Nat) (vs : List Int32) (μ : zM) : Option (Int32 × zM) := match vs with
  | [] => zfi (B_X9_mostWaiting b) (zenv []) μ
  | _ => none
abbrev rm_X9_mostWaiting : Room := { frames := 0, cells := 0, slots := 0, locals := 0 }
def B_X9_explored (b : Nat) : zT := (zsq (zif (znt (zcm0 (fun a => zne a 0) (zcall M_X9_in (zai (zl 1) (zai (zk 0) (zai (zk 7) zan)))))) (zrt (zk (-1))) zsk) (zsq (zif (znt (zcm0 (fun a => zne a 0) (zfd b 16))) (zrt (zk (-2))) zsk) (zsw (zl 1) 0 [(zrt (zfd b 17)), (zrt (zcall (M_X9_marked b) (zai (zk 1) (zai (zk 1) zan)))), (zrt (zcall (M_X9_marked b) (zai (zk 3) (zai (zk 1) zan)))), (zrt (zcond (zcm0 (fun a => zeq a 0) (zald (b + 1) 2880 (zk 2870))) (zk 0) (zcall (M_X9_marked b) (zai (zk 5) (zai (zk 1) zan))))), (zrt (zfd b 19)), (zrt (zcall (M_X9_marked b) (zai (zk 8) (zai (zk 8) zan)))), (zrt (zcall (M_X9_mostWaiting b) zan))] (zrt (zcond (zcm0 (fun a => zne a 0) (zfd b 18)) (zk 1) (zk 0))))))
def M_X9_explored (b : Nat) (vs : List Int32) (μ : zM) : Option (Int32 × zM) := match vs with
  | [v1] => zfi (B_X9_explored b) (zenv [(1, v1)]) μ
  | _ => none
abbrev rm_X9_explored : Room := { frames := 1, cells := 0, slots := 0, locals := 25 }
def B_X9_firstMarked (b : Nat) : zT := (zsq (zsq (zse 3 (zk 0)) (zwh zFU (zcmp zlt (zl 3) (zfd b 17)) (zif (zcmp zeq (zbin ziand (zald (b + 15) 1500 (zl 3)) (zl 1)) (zl 2)) (zrt (zl 3)) zsk) (zse 3 (zbin ziadd (zl 3) (zk 1))))) (zrt (zk (-4))))
def M_X9_firstMarked (b : Nat) (vs : List Int32) (μ : zM) : Option (Int32 × zM) := match vs with
  | [v1, v2] => zfi (B_X9_firstMarked b) (zenv [(1, v1), (2, v2)]) μ
  | _ => none
abbrev rm_X9_firstMarked : Room := { frames := 0, cells := 0, slots := 0, locals := 0 }
def B_X9_isInRing (b : Nat) : zT := (zsq (zsq (zse 2 (zk 0)) (zwh zFU (zcmp zlt (zl 2) (zfd b 17)) (zaz (b + 17) 1500 (zl 2) (zk 0)) (zse 2 (zbin ziadd (zl 2) (zk 1))))) (zsq (zse 2 (zk 1)) (zsq (zas (b + 18) 1500 (zk 0) (zl 1)) (zsq (zsq (zse 3 (zk 0)) (zwh zFU (zcmp zlt (zl 3) (zl 2)) (zsq (zse 4 (zk 0)) (zwh zFU (zcmp zlt (zl 4) (zk 6)) (zsq (zse 5 (zbin ziadd (zbin zimul (zk 6) (zald (b + 18) 1500 (zl 3))) (zl 4))) (zif (zand (zcm0 (fun a => zge a 0) (zald (b + 11) 9000 (zl 5))) (znt (zcm0 (fun a => zne a 0) (zald (b + 12) 9000 (zl 5))))) (zsq (zif (zcmp zeq (zald (b + 11) 9000 (zl 5)) (zl 1)) (zrt (zk 1)) zsk) (zif (znt (zcm0 (fun a => zne a 0) (zald (b + 17) 1500 (zald (b + 11) 9000 (zl 5))))) (zsq (zaz (b + 17) 1500 (zald (b + 11) 9000 (zl 5)) (zk 1)) (zsq (zas (b + 18) 1500 (zl 2) (zald (b + 11) 9000 (zl 5))) (zse 2 (zbin ziadd (zl 2) (zk 1))))) zsk)) zsk)) (zse 4 (zbin ziadd (zl 4) (zk 1))))) (zse 3 (zbin ziadd (zl 3) (zk 1))))) (zrt (zk 0))))))
def M_X9_isInRing (b : Nat) (vs : List Int32) (μ : zM) : Option (Int32 × zM) := match vs with
  | [v1] => zfz (B_X9_isInRing b) (zenv [(1, v1)]) μ
  | _ => none
abbrev rm_X9_isInRing : Room := { frames := 0, cells := 0, slots := 0, locals := 0 }
def B_X9_firstInRing (b : Nat) : zT := (zsq (zsq (zse 1 (zk 0)) (zwh zFU (zcmp zlt (zl 1) (zfd b 17)) (zif (zcm0 (fun a => zne a 0) (zcall (M_X9_isInRing b) (zai (zl 1) zan))) (zrt (zl 1)) zsk) (zse 1 (zbin ziadd (zl 1) (zk 1))))) (zrt (zk (-4))))
def M_X9_firstInRing (b : Nat) (vs : List Int32) (μ : zM) : Option (Int32 × zM) := match vs with
  | [] => zfi (B_X9_firstInRing b) (zenv []) μ
  | _ => none
abbrev rm_X9_firstInRing : Room := { frames := 1, cells := 0, slots := 0, locals := 25 }
def B_X9_endAt (b : Nat) : zT := (zsq (zse 2 (zl 1)) (zsq (zsq (zse 3 (zk 0)) (zwh zFU (zcmp zlt (zl 3) (zfd b 17)) (zif (zcmp zeq (zbin ziand (zald (b + 15) 1500 (zl 3)) (zk 1)) (zk 1)) (zsq (zif (zcm0 (fun a => zeq a 0) (zl 2)) (zrt (zl 3)) zsk) (zse 2 (zbin ziadd (zl 2) (zk (-1))))) zsk) (zse 3 (zbin ziadd (zl 3) (zk 1))))) (zrt (zk (-4)))))
def M_X9_endAt (b : Nat) (vs : List Int32) (μ : zM) : Option (Int32 × zM) := match vs with
  | [v1] => zfi (B_X9_endAt b) (zenv [(1, v1)]) μ
  | _ => none
abbrev rm_X9_endAt : Room := { frames := 0, cells := 0, slots := 0, locals := 0 }
def B_X9_isState (b : Nat) : zT := (zrt (zcond (zand (zcm0 (fun a => zne a 0) (zfd b 16)) (zcm0 (fun a => zne a 0) (zcall M_X9_in (zai (zl 1) (zai (zk 0) (zai (zbin zisub (zfd b 17) (zk 1)) zan)))))) (zk 1) (zk 0)))
def M_X9_isState (b : Nat) (vs : List Int32) (μ : zM) : Option (Int32 × zM) := match vs with
  | [v1] => zfz (B_X9_isState b) (zenv [(1, v1)]) μ
  | _ => none
abbrev rm_X9_isState : Room := { frames := 1, cells := 0, slots := 0, locals := 25 }
def B_X9_lengthOf (b : Nat) : zT := (zsq (zse 2 (zk 0)) (zsq (zsq (zse 3 (zl 1)) (zwh zFU (zcm0 (fun a => zgt a 0) (zl 3)) (zse 2 (zbin ziadd (zl 2) (zk 1))) (zse 3 (zald (b + 13) 1500 (zl 3))))) (zrt (zl 2))))
def M_X9_lengthOf (b : Nat) (vs : List Int32) (μ : zM) : Option (Int32 × zM) := match vs with
  | [v1] => zfi (B_X9_lengthOf b) (zenv [(1, v1)]) μ
  | _ => none
abbrev rm_X9_lengthOf : Room := { frames := 0, cells := 0, slots := 0, locals := 0 }
def B_X9_walk (b : Nat) : zT := (zsq (zif (zcm0 (fun a => zlt a 0) (zl 2)) (zrt (zk (-1))) zsk) (zsq (zif (znt (zcm0 (fun a => zne a 0) (zcall (M_X9_isState b) (zai (zl 1) zan)))) (zrt (zk (-2))) zsk) (zsq (zse 3 (zcall (M_X9_lengthOf b) (zai (zl 1) zan))) (zsq (zif (zcmp zge (zl 2) (zl 3)) (zrt (zk (-4))) zsk) (zsq (zse 4 (zl 1)) (zsq (zsq (zse 5 (zbin zisub (zl 3) (zk 1))) (zwh zFU (zcmp zgt (zl 5) (zl 2)) (zse 4 (zald (b + 13) 1500 (zl 4))) (zse 5 (zbin ziadd (zl 5) (zk (-1)))))) (zrt (zald (b + 14) 1500 (zl 4)))))))))
def M_X9_walk (b : Nat) (vs : List Int32) (μ : zM) : Option (Int32 × zM) := match vs with
  | [v1, v2] => zfi (B_X9_walk b) (zenv [(1, v1), (2, v2)]) μ
  | _ => none
abbrev rm_X9_walk : Room := { frames := 2, cells := 0, slots := 0, locals := 46 }
def B_X9_next (b : Nat) : zT := (zsq (zif (znt (zcm0 (fun a => zne a 0) (zcall M_X9_in (zai (zl 2) (zai (zk 0) (zai (zk 5) zan)))))) (zrt (zk (-1))) zsk) (zrt (zcond (zcm0 (fun a => zne a 0) (zcall (M_X9_isState b) (zai (zl 1) zan))) (zald (b + 11) 9000 (zbin ziadd (zbin zimul (zk 6) (zl 1)) (zl 2))) (zk (-2)))))
def M_X9_next (b : Nat) (vs : List Int32) (μ : zM) : Option (Int32 × zM) := match vs with
  | [v1, v2] => zfi (B_X9_next b) (zenv [(1, v1), (2, v2)]) μ
  | _ => none
abbrev rm_X9_next : Room := { frames := 2, cells := 0, slots := 0, locals := 46 }
def B_X9_go (b : Nat) : zT := (zsq (zif (znt (zcm0 (fun a => zne a 0) (zcall (M_X9_isState b) (zai (zl 1) zan)))) (zrt (zk (-2))) zsk) (zsq (zse 2 (zcall (M_X9_lengthOf b) (zai (zl 1) zan))) (zsq (zif (zcmp zgt (zl 2) (zk 100)) (zrt (zk (-3))) zsk) (zsq (zsq (zse 3 (zk 0)) (zwh zFU (zcmp zlt (zl 3) (zk 960)) (zas (b + 1) 2880 (zbin ziadd (zk 960) (zl 3)) (zald (b + 1) 2880 (zbin ziadd (zk 1920) (zl 3)))) (zse 3 (zbin ziadd (zl 3) (zk 1))))) (zsq (zex (zcall (M_X9_load b) (zai (zl 1) zan))) (zsq (zex (zcall (M_X9_keepRun b) zan)) (zsq (zpz b 11 (zk 1)) (zsq (zpf b 12 (zl 2)) (zsq (zpf b 13 (zcond (zcm0 (fun a => zeq a 0) (zl 2)) (zk (-1)) (zald (b + 14) 1500 (zl 1)))) (zrt (zl 2)))))))))))
def M_X9_go (b : Nat) (vs : List Int32) (μ : zM) : Option (Int32 × zM) := match vs with
  | [v1] => zfi (B_X9_go b) (zenv [(1, v1)]) μ
  | _ => none
abbrev rm_X9_go : Room := { frames := 2, cells := 0, slots := 0, locals := 46 }
def B_X9_answerAlike (b : Nat) : zT := (zsq (zse 3 (zk 1)) (zsq (zsq (zse 4 (zk 0)) (zwh zFU (zand (zcmp zlt (zl 4) (zk 9)) (zcm0 (fun a => zne a 0) (zl 3))) (zse 3 (zcond (zcmp zeq (zald (b + 7) 150000 (zbin ziadd (zbin ziadd (zbin ziadd (zbin zimul (zk 100) (zl 1)) (zk 81)) (zbin zimul (zk 2) (zl 4))) (zk 1))) (zald (b + 7) 150000 (zbin ziadd (zbin ziadd (zbin ziadd (zbin zimul (zk 100) (zl 2)) (zk 81)) (zbin zimul (zk 2) (zl 4))) (zk 1)))) (zk 1) (zk 0))) (zse 4 (zbin ziadd (zl 4) (zk 1))))) (zrt (zl 3))))
def M_X9_answerAlike (b : Nat) (vs : List Int32) (μ : zM) : Option (Int32 × zM) := match vs with
  | [v1, v2] => zfz (B_X9_answerAlike b) (zenv [(1, v1), (2, v2)]) μ
  | _ => none
abbrev rm_X9_answerAlike : Room := { frames := 0, cells := 0, slots := 0, locals := 0 }
def B_X9_answers (b : Nat) : zT := (zsq (zif (znt (zcm0 (fun a => zne a 0) (zfd b 16))) (zrt (zk (-2))) zsk) (zsq (zse 1 (zk 0)) (zsq (zsq (zse 2 (zk 0)) (zwh zFU (zcmp zlt (zl 2) (zfd b 17)) (zsq (zse 3 (zcond (zcmp zeq (zbin ziand (zald (b + 15) 1500 (zl 2)) (zk 3)) (zk 3)) (zk 1) (zk 0))) (zsq (zsq (zse 4 (zk 0)) (zwh zFU (zand (zcmp zlt (zl 4) (zl 2)) (zcm0 (fun a => zne a 0) (zl 3))) (zse 3 (zcond (zor (zcmp zne (zbin ziand (zald (b + 15) 1500 (zl 4)) (zk 3)) (zk 3)) (znt (zcm0 (fun a => zne a 0) (zcall (M_X9_answerAlike b) (zai (zl 2) (zai (zl 4) zan)))))) (zk 1) (zk 0))) (zse 4 (zbin ziadd (zl 4) (zk 1))))) (zse 1 (zbin ziadd (zl 1) (zcond (zcm0 (fun a => zne a 0) (zl 3)) (zk 1) (zk 0)))))) (zse 2 (zbin ziadd (zl 2) (zk 1))))) (zrt (zl 1)))))
def M_X9_answers (b : Nat) (vs : List Int32) (μ : zM) : Option (Int32 × zM) := match vs with
  | [] => zfi (B_X9_answers b) (zenv []) μ
  | _ => none
abbrev rm_X9_answers : Room := { frames := 1, cells := 0, slots := 0, locals := 24 }
def B_X2_fits  : zT := (zrt (zcond (zand (zcmp zge (zl 1) (ztb (zT1) 6 (zl 0))) (zcmp zle (zl 1) (ztb (zT2) 6 (zl 0)))) (zk 1) (zk 0)))
def M_X2_fits (vs : List Int32) (μ : zM) : Option (Int32 × zM) := match vs with
  | [v1, v2] => zfz (B_X2_fits) (zenv [(0, v1), (1, v2)]) μ
  | _ => none
abbrev rm_X2_fits : Room := { frames := 0, cells := 0, slots := 0, locals := 0 }
def B_X6_copyFrom (b : Nat) (q1 : Nat) : zT := (zsq (zcy (q1 + 1) (b + 1) 900 900 (zk 0) (zk 0) (zal 900)) (zsq (zcy (q1 + 2) (b + 2) 6 6 (zk 0) (zk 0) (zal 6)) (zsq (zcy (q1 + 3) (b + 3) 6 6 (zk 0) (zk 0) (zal 6)) (zsq (zcy (q1 + 4) (b + 4) 4 4 (zk 0) (zk 0) (zal 4)) (zsq (zcy (q1 + 5) (b + 5) 13 13 (zk 0) (zk 0) (zal 13)) (zsq (zcy (q1 + 6) (b + 6) 13 13 (zk 0) (zk 0) (zal 13)) (zsq (zpf b 6 (zfd q1 6)) (zsq (zpz b 7 (zfd q1 7)) (zpf b 8 (zfd q1 8))))))))))
def M_X6_copyFrom (b : Nat) (q1 : Nat) (vs : List Int32) (μ : zM) : Option (Int32 × zM) := match vs with
  | [] => zfo0 (B_X6_copyFrom b q1) (zenv []) μ
  | _ => none
abbrev rm_X6_copyFrom : Room := { frames := 1, cells := 0, slots := 0, locals := 40 }
def B_X6_size (b : Nat) : zT := (zrt (zbin zmax (zk 0) (zald (b + 2) 6 (zl 1))))
def M_X6_size (b : Nat) (vs : List Int32) (μ : zM) : Option (Int32 × zM) := match vs with
  | [v1] => zfi (B_X6_size b) (zenv [(1, v1)]) μ
  | _ => none
abbrev rm_X6_size : Room := { frames := 1, cells := 0, slots := 0, locals := 33 }
def B_X6_append (b : Nat) : zT := (zsq (zse 6 (zcall (M_X6_size b) (zai (zl 1) zan))) (zsq (zse 7 (zbin zimul (zbin ziadd (zbin zimul (zl 1) (zk 30)) (zl 6)) (zk 5))) (zsq (zas (b + 1) 900 (zl 7) (zl 2)) (zsq (zas (b + 1) 900 (zbin ziadd (zl 7) (zk 1)) (zl 3)) (zsq (zas (b + 1) 900 (zbin ziadd (zl 7) (zk 2)) (zl 4)) (zsq (zas (b + 1) 900 (zbin ziadd (zl 7) (zk 3)) (zl 5)) (zsq (zas (b + 1) 900 (zbin ziadd (zl 7) (zk 4)) (zk 0)) (zsq (zas (b + 2) 6 (zl 1) (zbin ziadd (zl 6) (zk 1))) (zrt (zbin ziadd (zl 6) (zk 1)))))))))))
def M_X6_append (b : Nat) (vs : List Int32) (μ : zM) : Option (Int32 × zM) := match vs with
  | [v1, v2, v3, v4, v5] => zfi (B_X6_append b) (zenv [(1, v1), (2, v2), (3, v3), (4, v4), (5, v5)]) μ
  | _ => none
abbrev rm_X6_append : Room := { frames := 2, cells := 0, slots := 0, locals := 54 }
def B_X6_find (b : Nat) : zT := (zsq (zif (zor (zcm0 (fun a => zlt a 0) (zl 2)) (zcmp zge (zl 2) (zald (b + 2) 6 (zl 1)))) (zrt (zk (-1))) zsk) (zrt (zbin zimul (zbin ziadd (zbin zimul (zl 1) (zk 30)) (zl 2)) (zk 5))))
def M_X6_find (b : Nat) (vs : List Int32) (μ : zM) : Option (Int32 × zM) := match vs with
  | [v1, v2] => zfi (B_X6_find b) (zenv [(1, v1), (2, v2)]) μ
  | _ => none
abbrev rm_X6_find : Room := { frames := 0, cells := 0, slots := 0, locals := 0 }
def B_X6_total (b : Nat) : zT := (zrt (zbin ziadd (zbin ziadd (zald (b + 4) 4 (zk 0)) (zald (b + 4) 4 (zk 1))) (zald (b + 4) 4 (zk 2))))
def M_X6_total (b : Nat) (vs : List Int32) (μ : zM) : Option (Int32 × zM) := match vs with
  | [] => zfi (B_X6_total b) (zenv []) μ
  | _ => none
abbrev rm_X6_total : Room := { frames := 0, cells := 0, slots := 0, locals := 0 }
def B_X6_isFullFor (b : Nat) : zT := (zsq (zif (zcmp zeq (zl 1) (zk 3)) (zrt (zcond (zcmp zge (zald (b + 4) 4 (zl 1)) (zk 4)) (zk 1) (zk 0))) zsk) (zrt (zcond (zor (zcmp zge (zald (b + 4) 4 (zl 1)) (zk 3)) (zcmp zge (zcall (M_X6_total b) zan) (zk 6))) (zk 1) (zk 0))))
def M_X6_isFullFor (b : Nat) (vs : List Int32) (μ : zM) : Option (Int32 × zM) := match vs with
  | [v1] => zfz (B_X6_isFullFor b) (zenv [(1, v1)]) μ
  | _ => none
abbrev rm_X6_isFullFor : Room := { frames := 1, cells := 0, slots := 0, locals := 20 }
def B_X6_addCall (b : Nat) : zT := (zsq (zse 4 (zbin ziadd (zbin zimul (zl 1) (zk 3)) (zald (b + 4) 4 (zl 1)))) (zsq (zas (b + 5) 13 (zl 4) (zl 2)) (zsq (zas (b + 6) 13 (zl 4) (zl 3)) (zsq (zao (b + 4) 4 (zl 1) ziadd (zk 1)) (zrt (zald (b + 4) 4 (zl 1)))))))
def M_X6_addCall (b : Nat) (vs : List Int32) (μ : zM) : Option (Int32 × zM) := match vs with
  | [v1, v2, v3] => zfi (B_X6_addCall b) (zenv [(1, v1), (2, v2), (3, v3)]) μ
  | _ => none
abbrev rm_X6_addCall : Room := { frames := 0, cells := 0, slots := 0, locals := 0 }
def B_X7_ofNumber  : zT := (zrt (zbin zior (zbin zishl (zbin zmax (zk (-99)) (zbin zmin (zk 99) (zl 0))) (zk 5)) (zk 8)))
def M_X7_ofNumber (vs : List Int32) (μ : zM) : Option (Int32 × zM) := match vs with
  | [v1] => zfi (B_X7_ofNumber) (zenv [(0, v1)]) μ
  | _ => none
abbrev rm_X7_ofNumber : Room := { frames := 1, cells := 0, slots := 0, locals := 33 }
def B_X7_ofNode  : zT := (zrt (zbin zior (zbin zishl (zl 0) (zk 5)) (zk 16)))
def M_X7_ofNode (vs : List Int32) (μ : zM) : Option (Int32 × zM) := match vs with
  | [v1] => zfi (B_X7_ofNode) (zenv [(0, v1)]) μ
  | _ => none
abbrev rm_X7_ofNode : Room := { frames := 0, cells := 0, slots := 0, locals := 0 }
def B_X7_kind  : zT := (zrt (zbin ziand (zbin zishr (zl 0) (zk 3)) (zk 3)))
def M_X7_kind (vs : List Int32) (μ : zM) : Option (Int32 × zM) := match vs with
  | [v1] => zfi (B_X7_kind) (zenv [(0, v1)]) μ
  | _ => none
abbrev rm_X7_kind : Room := { frames := 0, cells := 0, slots := 0, locals := 0 }
def B_X7_amount  : zT := (zrt (zbin zishr (zl 0) (zk 5)))
def M_X7_amount (vs : List Int32) (μ : zM) : Option (Int32 × zM) := match vs with
  | [v1] => zfi (B_X7_amount) (zenv [(0, v1)]) μ
  | _ => none
abbrev rm_X7_amount : Room := { frames := 0, cells := 0, slots := 0, locals := 0 }
def B_X7_answerFrom  : zT := (zlw (zcall (M_X7_kind) (zai (zl 0) zan)) (fun v => if v.toInt = 0 then (zrt (zk (-100))) else if v.toInt = 2 then (zrt (zk 100)) else (zrt (zcall (M_X7_amount) (zai (zl 0) zan)))))
def M_X7_answerFrom (vs : List Int32) (μ : zM) : Option (Int32 × zM) := match vs with
  | [v1] => zfi (B_X7_answerFrom) (zenv [(0, v1)]) μ
  | _ => none
abbrev rm_X7_answerFrom : Room := { frames := 1, cells := 0, slots := 0, locals := 20 }
def B_X7_areAlike  : zT := (zrt (zcond (zcmp zeq (zbin zishr (zl 0) (zk 2)) (zbin zishr (zl 1) (zk 2))) (zk 1) (zk 0)))
def M_X7_areAlike (vs : List Int32) (μ : zM) : Option (Int32 × zM) := match vs with
  | [v1, v2] => zfz (B_X7_areAlike) (zenv [(0, v1), (1, v2)]) μ
  | _ => none
abbrev rm_X7_areAlike : Room := { frames := 0, cells := 0, slots := 0, locals := 0 }
def B_X7_marked  : zT := (zsq (zif (zcm0 (fun a => zeq a 0) (zbin ziand (zbin zishr (zl 0) (zk 3)) (zk 3))) (zrt (zl 0)) zsk) (zrt (zbin zior (zbin ziand (zl 0) (zk (-5))) (zbin zishl (zl 1) (zk 2)))))
def M_X7_marked (vs : List Int32) (μ : zM) : Option (Int32 × zM) := match vs with
  | [v1, v2] => zfi (B_X7_marked) (zenv [(0, v1), (1, v2)]) μ
  | _ => none
abbrev rm_X7_marked : Room := { frames := 0, cells := 0, slots := 0, locals := 0 }
def B_X7_part  : zT := (zsw (zl 1) 0 [(zrt (zcall (M_X7_kind) (zai (zl 0) zan))), (zrt (zcall (M_X7_amount) (zai (zl 0) zan))), (zrt (zbin ziand (zbin zishr (zl 0) (zk 2)) (zk 1)))] (zrt (zbin ziand (zl 0) (zk 3))))
def M_X7_part (vs : List Int32) (μ : zM) : Option (Int32 × zM) := match vs with
  | [v1, v2] => zfi (B_X7_part) (zenv [(0, v1), (1, v2)]) μ
  | _ => none
abbrev rm_X7_part : Room := { frames := 1, cells := 0, slots := 0, locals := 20 }
def B_X7_lack  : zT := (zsq (zse 2 (zbin ziand (zbin zishr (zl 0) (zk 3)) (zk 3))) (zsq (zif (zcmp zeq (zl 2) (zl 1)) (zrt (zk 0)) zsk) (zrt (zcond (zcm0 (fun a => zeq a 0) (zl 2)) (zk 1) (zk 2)))))
def M_X7_lack (vs : List Int32) (μ : zM) : Option (Int32 × zM) := match vs with
  | [v1, v2] => zfi (B_X7_lack) (zenv [(0, v1), (1, v2)]) μ
  | _ => none
abbrev rm_X7_lack : Room := { frames := 0, cells := 0, slots := 0, locals := 0 }
def B_X4_ofThread  : zT := (zrt (zbin ziadd (zk 46) (zbin zimul (zl 0) (zk 18))))
def M_X4_ofThread (vs : List Int32) (μ : zM) : Option (Int32 × zM) := match vs with
  | [v1] => zfi (B_X4_ofThread) (zenv [(0, v1)]) μ
  | _ => none
abbrev rm_X4_ofThread : Room := { frames := 0, cells := 0, slots := 0, locals := 0 }
def B_X4_ofField  : zT := (zrt (zbin ziadd (zbin ziadd (zk 8) (zbin zimul (zk 2) (zl 0))) (zl 1)))
def M_X4_ofField (vs : List Int32) (μ : zM) : Option (Int32 × zM) := match vs with
  | [v1, v2] => zfi (B_X4_ofField) (zenv [(0, v1), (1, v2)]) μ
  | _ => none
abbrev rm_X4_ofField : Room := { frames := 0, cells := 0, slots := 0, locals := 0 }
def B_X5_resume (b : Nat) (q1 : Nat) (q2 : Nat) : zT := (zsq (zex (zcall (M_X6_copyFrom (b + 1) q1) zan)) (zsq (zex (zcall (M_fill 118 (b + 8)) (zai (zk 0) zan))) (zsq (zcy q2 (b + 8) 150000 118 (zl 3) (zk 0) (zk 100)) (zpz b 2 (zfd (b + 1) 7)))))
def M_X5_resume (b : Nat) (q1 : Nat) (q2 : Nat) (vs : List Int32) (μ : zM) : Option (Int32 × zM) := match vs with
  | [v1] => zfo0 (B_X5_resume b q1 q2) (zenv [(3, v1)]) μ
  | _ => none
abbrev rm_X5_resume : Room := { frames := 2, cells := 0, slots := 0, locals := 61 }
def B_X5_isPossible (b : Nat) : zT := (zsq (zse 2 (zcall (M_X4_ofThread) (zai (zbiq zirem (zl 1) (zk 3)) zan))) (zsq (zif (zcmp zge (zl 1) (zk 3)) (zrt (zcond (zcm0 (fun a => zgt a 0) (zald (b + 8) 118 (zbin ziadd (zl 2) (zk 13)))) (zk 1) (zk 0))) zsk) (zrt (zcond (zand (zcm0 (fun a => zeq a 0) (zald (b + 8) 118 (zbin ziadd (zl 2) (zk 12)))) (zcmp zlt (zald (b + 8) 118 (zbin ziadd (zl 2) (zk 10))) (zald (b + 1 + 4) 4 (zl 1)))) (zk 1) (zk 0)))))
def M_X5_isPossible (b : Nat) (vs : List Int32) (μ : zM) : Option (Int32 × zM) := match vs with
  | [v1] => zfz (B_X5_isPossible b) (zenv [(1, v1)]) μ
  | _ => none
abbrev rm_X5_isPossible : Room := { frames := 1, cells := 0, slots := 0, locals := 20 }
def B_X5_isAtEnd (b : Nat) : zT := (zsq (zsq (zse 1 (zk 0)) (zwh zFU (zcmp zlt (zl 1) (zk 6)) (zif (zcm0 (fun a => zne a 0) (zcall (M_X5_isPossible b) (zai (zl 1) zan))) (zrt (zk 0)) zsk) (zse 1 (zbin ziadd (zl 1) (zk 1))))) (zrt (zk 1)))
def M_X5_isAtEnd (b : Nat) (vs : List Int32) (μ : zM) : Option (Int32 × zM) := match vs with
  | [] => zfz (B_X5_isAtEnd b) (zenv []) μ
  | _ => none
abbrev rm_X5_isAtEnd : Room := { frames := 2, cells := 0, slots := 0, locals := 42 }
def B_X5_hasError (b : Nat) : zT := (zsq (zsq (zse 1 (zk 0)) (zwh zFU (zcmp zlt (zl 1) (zk 3)) (zif (zcm0 (fun a => zne a 0) (zald (b + 8) 118 (zbin ziadd (zcall (M_X4_ofThread) (zai (zl 1) zan)) (zk 12)))) (zrt (zk 1)) zsk) (zse 1 (zbin ziadd (zl 1) (zk 1))))) (zrt (zk 0)))
def M_X5_hasError (b : Nat) (vs : List Int32) (μ : zM) : Option (Int32 × zM) := match vs with
  | [] => zfz (B_X5_hasError b) (zenv []) μ
  | _ => none
abbrev rm_X5_hasError : Room := { frames := 1, cells := 0, slots := 0, locals := 20 }
def B_X5_waitingNodes (b : Nat) : zT := (zsq (zse 1 (zk 0)) (zsq (zsq (zse 2 (zk 0)) (zwh zFU (zcmp zlt (zl 2) (zk 6)) (zif (zcmp zge (zald (b + 8) 118 (zbin ziadd (zk 20) (zl 2))) (zk 2)) (zse 1 (zbin ziadd (zl 1) (zk 1))) zsk) (zse 2 (zbin ziadd (zl 2) (zk 1))))) (zrt (zl 1))))
def M_X5_waitingNodes (b : Nat) (vs : List Int32) (μ : zM) : Option (Int32 × zM) := match vs with
  | [] => zfi (B_X5_waitingNodes b) (zenv []) μ
  | _ => none
abbrev rm_X5_waitingNodes : Room := { frames := 0, cells := 0, slots := 0, locals := 0 }
def B_X5_callsOver (b : Nat) : zT := (zsq (zse 1 (zk 0)) (zsq (zsq (zse 2 (zk 0)) (zwh zFU (zcmp zlt (zl 2) (zk 3)) (zsq (zse 3 (zald (b + 8) 118 (zbin ziadd (zcall (M_X4_ofThread) (zai (zl 2) zan)) (zk 10)))) (zse 1 (zbin zior (zl 1) (zbin zishl (zbin zisub (zbin zishl (zk 1) (zl 3)) (zk 1)) (zbin zimul (zl 2) (zk 3)))))) (zse 2 (zbin ziadd (zl 2) (zk 1))))) (zrt (zl 1))))
def M_X5_callsOver (b : Nat) (vs : List Int32) (μ : zM) : Option (Int32 × zM) := match vs with
  | [] => zfi (B_X5_callsOver b) (zenv []) μ
  | _ => none
abbrev rm_X5_callsOver : Room := { frames := 1, cells := 0, slots := 0, locals := 20 }
def B_X5_ownError (b : Nat) : zT := (zsq (zse 4 (zk 0)) (zsq (zif (zcmp zeq (zald (b + 1 + 1) 900 (zl 2)) (zk 26)) (zse 4 (zcall (M_X7_lack) (zai (zald (b + 8) 118 (zbin ziadd (zl 1) (zald (b + 1 + 1) 900 (zbin ziadd (zl 2) (zk 1))))) (zai (zk 1) zan)))) zsk) (zsq (zif (zand (zcm0 (fun a => zeq a 0) (zl 4)) (zcm0 (fun a => zeq a 0) (zl 3))) (zse 4 (zk 6)) zsk) (zrt (zl 4)))))
def M_X5_ownError (b : Nat) (vs : List Int32) (μ : zM) : Option (Int32 × zM) := match vs with
  | [v1, v2, v3] => zfi (B_X5_ownError b) (zenv [(1, v1), (2, v2), (3, v3)]) μ
  | _ => none
abbrev rm_X5_ownError : Room := { frames := 1, cells := 0, slots := 0, locals := 22 }
def B_X5_ownAct (b : Nat) : zT := (zsq (zse 3 (zald (b + 1 + 1) 900 (zbin ziadd (zl 2) (zk 1)))) (zsq (zse 4 (zald (b + 1 + 1) 900 (zbin ziadd (zl 2) (zk 2)))) (zsw (zald (b + 1 + 1) 900 (zl 2)) 20 [(zsq (zas (b + 8) 118 (zbin ziadd (zl 1) (zl 3)) (zcall (M_X7_ofNumber) (zai (zl 4) zan))) zbk), (zsq (zas (b + 8) 118 (zbin ziadd (zl 1) (zl 3)) (zk 0)) zbk), (zsq (zas (b + 8) 118 (zbin ziadd (zl 1) (zl 3)) (zald (b + 8) 118 (zbin ziadd (zl 1) (zl 4)))) zbk), (zsq (zas (b + 8) 118 (zbin ziadd (zl 1) (zl 3)) (zcall (M_X7_marked) (zai (zald (b + 8) 118 (zbin ziadd (zl 1) (zl 3))) (zai (zl 4) zan)))) zbk), (zsq (zas (b + 8) 118 (zbin ziadd (zl 1) (zk 9)) (zl 3)) zbk), (zsq (zif (zcm0 (fun a => zne a 0) (zcall (M_X7_areAlike) (zai (zald (b + 8) 118 (zbin ziadd (zl 1) (zl 3))) (zai (zald (b + 8) 118 (zbin ziadd (zl 1) (zl 4))) zan)))) (zas (b + 8) 118 (zbin ziadd (zl 1) (zk 9)) (zald (b + 1 + 1) 900 (zbin ziadd (zl 2) (zk 3)))) zsk) zbk)] (zas (b + 8) 118 (zbin ziadd (zl 1) (zl 3)) (zcall (M_X7_ofNumber) (zai (zbin ziadd (zcall (M_X7_amount) (zai (zald (b + 8) 118 (zbin ziadd (zl 1) (zl 3))) zan)) (zl 4)) zan))))))
def M_X5_ownAct (b : Nat) (vs : List Int32) (μ : zM) : Option (Int32 × zM) := match vs with
  | [v1, v2] => zfo0 (B_X5_ownAct b) (zenv [(1, v1), (2, v2)]) μ
  | _ => none
abbrev rm_X5_ownAct : Room := { frames := 2, cells := 0, slots := 0, locals := 53 }
def B_X5_waitsForWrites  : zT := (zsw (zl 0) 4 [(zrt (zk 1)), (zrt (zk 1)), (zrt (zk 1)), (zrt (zk 1)), (zrt (zk 0)), (zrt (zk 1)), (zrt (zk 0)), (zrt (zk 0)), (zrt (zk 0)), (zrt (zk 1))] (zrt (zk 0)))
def M_X5_waitsForWrites (vs : List Int32) (μ : zM) : Option (Int32 × zM) := match vs with
  | [v1] => zfz (B_X5_waitsForWrites) (zenv [(0, v1)]) μ
  | _ => none
abbrev rm_X5_waitsForWrites : Room := { frames := 0, cells := 0, slots := 0, locals := 0 }
def B_X5_appends  : zT := (zrt (zcond (zor (zcmp zeq (zl 0) (zk 2)) (zcmp zeq (zl 0) (zk 3))) (zk 1) (zk 0)))
def M_X5_appends (vs : List Int32) (μ : zM) : Option (Int32 × zM) := match vs with
  | [v1] => zfz (B_X5_appends) (zenv [(0, v1)]) μ
  | _ => none
abbrev rm_X5_appends : Room := { frames := 0, cells := 0, slots := 0, locals := 0 }
def B_X5_nodeError (b : Nat) : zT := (zsq (zse 3 (zcall (M_X7_lack) (zai (zl 1) (zai (zk 2) zan)))) (zsq (zif (zcm0 (fun a => zne a 0) (zl 3)) (zrt (zl 3)) zsk) (zsq (zse 4 (zald (b + 8) 118 (zbin ziadd (zk 20) (zcall (M_X7_amount) (zai (zl 1) zan))))) (zsq (zif (zcm0 (fun a => zeq a 0) (zl 4)) (zrt (zl 2)) zsk) (zrt (zcond (zand (zcmp zeq (zl 2) (zk 5)) (zcmp zne (zl 4) (zk 1))) (zl 2) (zk 0)))))))
def M_X5_nodeError (b : Nat) (vs : List Int32) (μ : zM) : Option (Int32 × zM) := match vs with
  | [v1, v2] => zfi (B_X5_nodeError b) (zenv [(1, v1), (2, v2)]) μ
  | _ => none
abbrev rm_X5_nodeError : Room := { frames := 1, cells := 0, slots := 0, locals := 22 }
def B_X5_seen (b : Nat) : zT := (zsq (zse 3 (zbin zishr (zald (b + 8) 118 (zl 2)) (zk 2))) (zsq (zsq (zse 4 (zk 0)) (zwh zFU (zand (zcmp zlt (zl 4) (zk 4)) (zcmp zlt (zl 4) (zald (b + 8) 118 (zbin ziadd (zl 1) (zk 13))))) (zsq (zse 5 (zald (b + 8) 118 (zbin ziadd (zbin ziadd (zl 1) (zk 14)) (zl 4)))) (zif (zcmp zeq (zbin ziand (zl 5) (zk 31)) (zl 2)) (zse 3 (zbin zishr (zl 5) (zk 5))) zsk)) (zse 4 (zbin ziadd (zl 4) (zk 1))))) (zrt (zbin zior (zbin zishl (zl 3) (zk 2)) (zbin ziand (zald (b + 8) 118 (zl 2)) (zk 3))))))
def M_X5_seen (b : Nat) (vs : List Int32) (μ : zM) : Option (Int32 × zM) := match vs with
  | [v1, v2] => zfi (B_X5_seen b) (zenv [(1, v1), (2, v2)]) μ
  | _ => none
abbrev rm_X5_seen : Room := { frames := 0, cells := 0, slots := 0, locals := 0 }
def B_X5_store (b : Nat) : zT := (zsq (zse 3 (zbin ziand (zald (b + 8) 118 (zl 1)) (zk 3))) (zsq (zif (zcmp zeq (zfd (b + 1) 6) (zk 2)) (zse 3 (zbin ziand (zbin ziadd (zl 3) (zk 1)) (zk 3))) zsk) (zas (b + 8) 118 (zl 1) (zbin zior (zbin zishl (zl 2) (zk 2)) (zl 3)))))
def M_X5_store (b : Nat) (vs : List Int32) (μ : zM) : Option (Int32 × zM) := match vs with
  | [v1, v2] => zfo0 (B_X5_store b) (zenv [(1, v1), (2, v2)]) μ
  | _ => none
abbrev rm_X5_store : Room := { frames := 0, cells := 0, slots := 0, locals := 0 }
def B_X5_swap (b : Nat) : zT := (zsq (zse 5 (zcond (zcmp zeq (zald (b + 8) 118 (zl 2)) (zl 3)) (zk 1) (zk 0))) (zsq (zif (zcm0 (fun a => zne a 0) (zl 5)) (zex (zcall (M_X5_store b) (zai (zl 2) (zai (zbin zishr (zl 4) (zk 2)) zan)))) zsk) (zas (b + 8) 118 (zbin ziadd (zl 1) (zk 5)) (zcall (M_X7_ofNumber) (zai (zcond (zcm0 (fun a => zne a 0) (zl 5)) (zk 1) (zk 0)) zan)))))
def M_X5_swap (b : Nat) (vs : List Int32) (μ : zM) : Option (Int32 × zM) := match vs with
  | [v1, v2, v3, v4] => zfo0 (B_X5_swap b) (zenv [(1, v1), (2, v2), (3, v3), (4, v4)]) μ
  | _ => none
abbrev rm_X5_swap : Room := { frames := 2, cells := 0, slots := 0, locals := 53 }
def B_X5_takeNode (b : Nat) : zT := (zsq (zsq (zse 1 (zk 0)) (zwh zFU (zcmp zlt (zl 1) (zk 6)) (zsq (zif (zcm0 (fun a => zne a 0) (zald (b + 8) 118 (zbin ziadd (zk 20) (zl 1)))) zcn zsk) (zsq (zas (b + 8) 118 (zbin ziadd (zk 20) (zl 1)) (zk 1)) (zsq (zao (b + 8) 118 (zcall (M_X4_ofField) (zai (zl 1) (zai (zk 0) zan))) ziand (zk 3)) (zsq (zao (b + 8) 118 (zcall (M_X4_ofField) (zai (zl 1) (zai (zk 1) zan))) ziand (zk 3)) (zrt (zcall (M_X7_ofNode) (zai (zl 1) zan))))))) (zse 1 (zbin ziadd (zl 1) (zk 1))))) (zrt (zk 0)))
def M_X5_takeNode (b : Nat) (vs : List Int32) (μ : zM) : Option (Int32 × zM) := match vs with
  | [] => zfi (B_X5_takeNode b) (zenv []) μ
  | _ => none
abbrev rm_X5_takeNode : Room := { frames := 1, cells := 0, slots := 0, locals := 21 }
def B_X5_release (b : Nat) : zT := (zsq (zse 2 (zcond (zor (zcmp zeq (zfd (b + 1) 6) (zk 1)) (zcmp zeq (zfd (b + 1) 6) (zk 2))) (zk 1) (zk 0))) (zas (b + 8) 118 (zbin ziadd (zk 20) (zl 1)) (zcond (zcm0 (fun a => zne a 0) (zl 2)) (zk 0) (zbin ziadd (zk 2) (zald (b + 8) 118 (zk 26))))))
def M_X5_release (b : Nat) (vs : List Int32) (μ : zM) : Option (Int32 × zM) := match vs with
  | [v1] => zfo0 (B_X5_release b) (zenv [(1, v1)]) μ
  | _ => none
abbrev rm_X5_release : Room := { frames := 0, cells := 0, slots := 0, locals := 0 }
def B_X5_guardFor  : zT := (zrt (zcond (zcmp zeq (zcall (M_X7_kind) (zai (zl 0) zan)) (zk 2)) (zbin ziadd (zcall (M_X7_amount) (zai (zl 0) zan)) (zk 1)) (zk 0)))
def M_X5_guardFor (vs : List Int32) (μ : zM) : Option (Int32 × zM) := match vs with
  | [v1] => zfi (B_X5_guardFor) (zenv [(0, v1)]) μ
  | _ => none
abbrev rm_X5_guardFor : Room := { frames := 1, cells := 0, slots := 0, locals := 20 }
def B_X5_endCall (b : Nat) : zT := (zsq (zif (zcmp zlt (zl 2) (zk 9)) (zas (b + 8) 118 (zbin ziadd (zk 28) (zl 2)) (zl 3)) zsk) (zsq (zsq (zse 4 (zl 1)) (zwh zFU (zcmp zle (zl 4) (zbin ziadd (zl 1) (zk 9))) (zas (b + 8) 118 (zl 4) (zk 0)) (zse 4 (zbin ziadd (zl 4) (zk 1))))) (zsq (zas (b + 8) 118 (zbin ziadd (zl 1) (zk 11)) (zk 0)) (zao (b + 8) 118 (zbin ziadd (zl 1) (zk 10)) ziadd (zk 1)))))
def M_X5_endCall (b : Nat) (vs : List Int32) (μ : zM) : Option (Int32 × zM) := match vs with
  | [v1, v2, v3] => zfo0 (B_X5_endCall b) (zenv [(1, v1), (2, v2), (3, v3)]) μ
  | _ => none
abbrev rm_X5_endCall : Room := { frames := 0, cells := 0, slots := 0, locals := 0 }
def B_X5_noteMoment (b : Nat) : zT := (zsq (zse 4 (zald (b + 1 + 1) 900 (zl 2))) (zsq (zif (zor (zcm0 (fun a => zeq a 0) (zald (b + 1 + 1) 900 (zbin ziadd (zl 2) (zk 4)))) (zcmp zge (zl 3) (zk 9))) zrv zsk) (zsq (zif (zand (zor (zcmp zeq (zl 4) (zk 4)) (zcmp zeq (zl 4) (zk 5))) (zcm0 (fun a => zeq a 0) (zcall (M_X7_amount) (zai (zald (b + 8) 118 (zbin ziadd (zl 1) (zk 5))) zan)))) zrv zsk) (zsq (zse 5 (zk 0)) (zsq (zse 6 (zk 0)) (zsq (zsq (zse 7 (zk 0)) (zwh zFU (zcmp zlt (zl 7) (zk 6)) (zsq (zse 8 (zbin ziand (zbin zishr (zald (b + 8) 118 (zk 27)) (zbin zimul (zk 4) (zl 7))) (zk 15))) (zsq (zif (zor (zcm0 (fun a => zeq a 0) (zl 8)) (zcmp zeq (zl 8) (zbin ziadd (zl 3) (zk 1)))) zcn zsk) (zsq (zse 5 (zbin zior (zl 5) (zbin zishl (zl 8) (zl 6)))) (zse 6 (zbin ziadd (zl 6) (zk 4)))))) (zse 7 (zbin ziadd (zl 7) (zk 1))))) (zas (b + 8) 118 (zk 27) (zbin zior (zl 5) (zbin zishl (zbin ziadd (zl 3) (zk 1)) (zl 6))))))))))
def M_X5_noteMoment (b : Nat) (vs : List Int32) (μ : zM) : Option (Int32 × zM) := match vs with
  | [v1, v2, v3] => zfo0 (B_X5_noteMoment b) (zenv [(1, v1), (2, v2), (3, v3)]) μ
  | _ => none
abbrev rm_X5_noteMoment : Room := { frames := 1, cells := 0, slots := 0, locals := 20 }
def B_X5_isGuarded (b : Nat) : zT := (zsq (zsq (zse 2 (zk 0)) (zwh zFU (zcmp zle (zl 2) (zk 3)) (zsq (zse 3 (zbin ziadd (zcall (M_X4_ofThread) (zai (zl 2) zan)) (zk 6))) (zif (zor (zcmp zeq (zald (b + 8) 118 (zl 3)) (zbin ziadd (zl 1) (zk 1))) (zcmp zeq (zald (b + 8) 118 (zbin ziadd (zl 3) (zk 1))) (zbin ziadd (zl 1) (zk 1)))) (zrt (zk 1)) zsk)) (zse 2 (zbin ziadd (zl 2) (zk 1))))) (zrt (zk 0)))
def M_X5_isGuarded (b : Nat) (vs : List Int32) (μ : zM) : Option (Int32 × zM) := match vs with
  | [v1] => zfz (B_X5_isGuarded b) (zenv [(1, v1)]) μ
  | _ => none
abbrev rm_X5_isGuarded : Room := { frames := 1, cells := 0, slots := 0, locals := 20 }
def B_X5_areAllInPresent (b : Nat) : zT := (zsq (zsq (zse 1 (zk 0)) (zwh zFU (zcmp zle (zl 1) (zk 3)) (zsq (zse 2 (zald (b + 8) 118 (zbin ziadd (zcall (M_X4_ofThread) (zai (zl 1) zan)) (zk 8)))) (zif (zand (zcm0 (fun a => zne a 0) (zl 2)) (zcmp zne (zbin zisub (zl 2) (zk 1)) (zald (b + 8) 118 (zk 26)))) (zrt (zk 0)) zsk)) (zse 1 (zbin ziadd (zl 1) (zk 1))))) (zrt (zk 1)))
def M_X5_areAllInPresent (b : Nat) (vs : List Int32) (μ : zM) : Option (Int32 × zM) := match vs with
  | [] => zfz (B_X5_areAllInPresent b) (zenv []) μ
  | _ => none
abbrev rm_X5_areAllInPresent : Room := { frames := 1, cells := 0, slots := 0, locals := 20 }
def B_X3_canFollow (q0 : Nat) : zT := (zsq (zif (zor (zcmp zge (zbiq zirem (zl 1) (zk 3)) (zald (q0 + 1 + 4) 4 (zbiq zidiv (zl 1) (zk 3)))) (zcmp zeq (zbin ziand (zbin zishr (zl 2) (zl 1)) (zk 1)) (zk 1))) (zrt (zk 0)) zsk) (zrt (zcond (zcm0 (fun a => zeq a 0) (zbin ziand (zald (q0 + 8) 118 (zbin ziadd (zk 37) (zl 1))) (zbin zixor (zl 2) (zk (-1))))) (zk 1) (zk 0))))
def M_X3_canFollow (q0 : Nat) (vs : List Int32) (μ : zM) : Option (Int32 × zM) := match vs with
  | [v1, v2] => zfz (B_X3_canFollow q0) (zenv [(1, v1), (2, v2)]) μ
  | _ => none
abbrev rm_X3_canFollow : Room := { frames := 0, cells := 0, slots := 0, locals := 0 }
def B_X3_addTo (q0 : Nat) : zT := (zsq (zif (zcmp zge (zbin ziadd (zk 3) (zald q0 13 (zk 1))) (zk 13)) zrv zsk) (zsq (zas q0 13 (zbin ziadd (zk 3) (zald q0 13 (zk 1))) (zl 1)) (zao q0 13 (zk 1) ziadd (zk 1))))
def M_X3_addTo (q0 : Nat) (vs : List Int32) (μ : zM) : Option (Int32 × zM) := match vs with
  | [v1] => zfo0 (B_X3_addTo q0) (zenv [(1, v1)]) μ
  | _ => none
abbrev rm_X3_addTo : Room := { frames := 0, cells := 0, slots := 0, locals := 0 }
def B_X3_removeFrom (q0 : Nat) : zT := (zsq (zif (zcmp zge (zald q0 13 (zk 0)) (zald q0 13 (zk 1))) (zrt (zk (-100))) zsk) (zsq (zif (zcmp zeq (zl 1) (zk 1)) (zsq (zao q0 13 (zk 1) zisub (zk 1)) (zrt (zald q0 13 (zbin ziadd (zk 3) (zald q0 13 (zk 1)))))) zsk) (zsq (zao q0 13 (zk 0) ziadd (zk 1)) (zrt (zald q0 13 (zbin zisub (zbin ziadd (zk 3) (zald q0 13 (zk 0))) (zk 1)))))))
def M_X3_removeFrom (q0 : Nat) (vs : List Int32) (μ : zM) : Option (Int32 × zM) := match vs with
  | [v1] => zfi (B_X3_removeFrom q0) (zenv [(1, v1)]) μ
  | _ => none
abbrev rm_X3_removeFrom : Room := { frames := 0, cells := 0, slots := 0, locals := 0 }
def B_X1_isKept (b : Nat) : zT := (zrt (zcond (zand (zand (zcm0 (fun a => zne a 0) (zfd b 9)) (zcm0 (fun a => zge a 0) (zl 1))) (zcmp zlt (zl 1) (zfd b 11))) (zk 1) (zk 0)))
def M_X1_isKept (b : Nat) (vs : List Int32) (μ : zM) : Option (Int32 × zM) := match vs with
  | [v1] => zfz (B_X1_isKept b) (zenv [(1, v1)]) μ
  | _ => none
abbrev rm_X1_isKept : Room := { frames := 0, cells := 0, slots := 0, locals := 0 }
def B_X1_forget (b : Nat) : zT := (zsq (zpz b 10 (zk 0)) (zsq (zpf b 11 (zk 0)) (zsq (zpf b 12 (zk 0)) (zsq (zpf b 14 (zk (-9))) (zsq (zpf b 15 (zk (-9))) (zex (zcall (M_fill 4096 (b + 16)) (zai (zk 0) zan))))))))
def M_X1_forget (b : Nat) (vs : List Int32) (μ : zM) : Option (Int32 × zM) := match vs with
  | [] => zfo0 (B_X1_forget b) (zenv []) μ
  | _ => none
abbrev rm_X1_forget : Room := { frames := 1, cells := 0, slots := 0, locals := 23 }
def B_X1_load (b : Nat) : zT := (zcy (b + 10) (b + 1 + 8) 150000 118 (zbin zimul (zl 1) (zk 100)) (zk 0) (zk 100))
def M_X1_load (b : Nat) (vs : List Int32) (μ : zM) : Option (Int32 × zM) := match vs with
  | [v1] => zfo0 (B_X1_load b) (zenv [(1, v1)]) μ
  | _ => none
abbrev rm_X1_load : Room := { frames := 1, cells := 0, slots := 0, locals := 40 }
def B_X1_isSame (b : Nat) : zT := (zsq (zse 2 (zbin zimul (zl 1) (zk 100))) (zsq (zsq (zse 3 (zk 0)) (zwh zFU (zcmp zlt (zl 3) (zk 100)) (zif (zcmp zne (zald (b + 10) 150000 (zbin ziadd (zl 2) (zl 3))) (zald (b + 1 + 8) 118 (zl 3))) (zrt (zk 0)) zsk) (zse 3 (zbin ziadd (zl 3) (zk 1))))) (zrt (zk 1))))
def M_X1_isSame (b : Nat) (vs : List Int32) (μ : zM) : Option (Int32 × zM) := match vs with
  | [v1] => zfz (B_X1_isSame b) (zenv [(1, v1)]) μ
  | _ => none
abbrev rm_X1_isSame : Room := { frames := 0, cells := 0, slots := 0, locals := 0 }
def B_X1_countTrait (b : Nat) : zT := (zsq (zse 2 (zk 0)) (zsq (zsq (zse 3 (zk 0)) (zwh zFU (zcmp zlt (zl 3) (zfd b 11)) (zif (zcm0 (fun a => zne a 0) (zbin ziand (zald (b + 15) 1500 (zl 3)) (zl 1))) (zse 2 (zbin ziadd (zl 2) (zk 1))) zsk) (zse 3 (zbin ziadd (zl 3) (zk 1))))) (zrt (zl 2))))
def M_X1_countTrait (b : Nat) (vs : List Int32) (μ : zM) : Option (Int32 × zM) := match vs with
  | [v1] => zfi (B_X1_countTrait b) (zenv [(1, v1)]) μ
  | _ => none
abbrev rm_X1_countTrait : Room := { frames := 0, cells := 0, slots := 0, locals := 0 }
def B_X1_countPairs (b : Nat) : zT := (zsq (zse 1 (zk 0)) (zsq (zsq (zse 2 (zk 0)) (zwh zFU (zcmp zlt (zl 2) (zbin zimul (zfd b 11) (zk 6))) (zif (zcmp zne (zald (b + 11) 9000 (zl 2)) (zk (-4))) (zse 1 (zbin ziadd (zl 1) (zk 1))) zsk) (zse 2 (zbin ziadd (zl 2) (zk 1))))) (zrt (zl 1))))
def M_X1_countPairs (b : Nat) (vs : List Int32) (μ : zM) : Option (Int32 × zM) := match vs with
  | [] => zfi (B_X1_countPairs b) (zenv []) μ
  | _ => none
abbrev rm_X1_countPairs : Room := { frames := 0, cells := 0, slots := 0, locals := 0 }
def B_X1_withTrait (b : Nat) : zT := (zsq (zse 3 (zl 2)) (zsq (zsq (zse 4 (zk 0)) (zwh zFU (zcmp zlt (zl 4) (zfd b 11)) (zsq (zif (zcm0 (fun a => zeq a 0) (zbin ziand (zald (b + 15) 1500 (zl 4)) (zl 1))) zcn zsk) (zsq (zif (zcm0 (fun a => zeq a 0) (zl 3)) (zrt (zl 4)) zsk) (zse 3 (zbin ziadd (zl 3) (zk (-1)))))) (zse 4 (zbin ziadd (zl 4) (zk 1))))) (zrt (zk (-4)))))
def M_X1_withTrait (b : Nat) (vs : List Int32) (μ : zM) : Option (Int32 × zM) := match vs with
  | [v1, v2] => zfi (B_X1_withTrait b) (zenv [(1, v1), (2, v2)]) μ
  | _ => none
abbrev rm_X1_withTrait : Room := { frames := 0, cells := 0, slots := 0, locals := 0 }
def B_X1_withMostWaiting (b : Nat) : zT := (zsq (zsq (zse 1 (zk 0)) (zwh zFU (zcmp zlt (zl 1) (zfd b 11)) (zif (zcmp zeq (zbin zishr (zald (b + 15) 1500 (zl 1)) (zk 4)) (zfd b 12)) (zrt (zl 1)) zsk) (zse 1 (zbin ziadd (zl 1) (zk 1))))) (zrt (zk (-4))))
def M_X1_withMostWaiting (b : Nat) (vs : List Int32) (μ : zM) : Option (Int32 × zM) := match vs with
  | [] => zfi (B_X1_withMostWaiting b) (zenv []) μ
  | _ => none
abbrev rm_X1_withMostWaiting : Room := { frames := 0, cells := 0, slots := 0, locals := 0 }
def B_X1_isWithinCall (b : Nat) : zT := (zsq (zse 3 (zbin ziadd (zbin zimul (zl 1) (zk 100)) (zcall (M_X4_ofThread) (zai (zl 2) zan)))) (zrt (zcond (zand (zcm0 (fun a => zne a 0) (zald (b + 10) 150000 (zbin ziadd (zl 3) (zk 11)))) (zcm0 (fun a => zeq a 0) (zald (b + 10) 150000 (zbin ziadd (zl 3) (zk 12))))) (zk 1) (zk 0))))
def M_X1_isWithinCall (b : Nat) (vs : List Int32) (μ : zM) : Option (Int32 × zM) := match vs with
  | [v1, v2] => zfz (B_X1_isWithinCall b) (zenv [(1, v1), (2, v2)]) μ
  | _ => none
abbrev rm_X1_isWithinCall : Room := { frames := 1, cells := 0, slots := 0, locals := 20 }
def B_X1_choiceOfWalk (b : Nat) : zT := (zsq (zif (zcmp zge (zl 2) (zald (b + 14) 1500 (zl 1))) (zrt (zk (-4))) zsk) (zsq (zse 3 (zl 1)) (zsq (zsq (zse 4 (zbin zisub (zald (b + 14) 1500 (zl 1)) (zk 1))) (zwh zFU (zcmp zgt (zl 4) (zl 2)) (zse 3 (zald (b + 12) 1500 (zl 3))) (zse 4 (zbin ziadd (zl 4) (zk (-1)))))) (zrt (zald (b + 13) 1500 (zl 3))))))
def M_X1_choiceOfWalk (b : Nat) (vs : List Int32) (μ : zM) : Option (Int32 × zM) := match vs with
  | [v1, v2] => zfi (B_X1_choiceOfWalk b) (zenv [(1, v1), (2, v2)]) μ
  | _ => none
abbrev rm_X1_choiceOfWalk : Room := { frames := 0, cells := 0, slots := 0, locals := 0 }
def B_X1_hasSameAnswers (b : Nat) : zT := (zsq (zse 3 (zbin ziadd (zbin zimul (zl 1) (zk 100)) (zk 28))) (zsq (zsq (zse 4 (zk 0)) (zwh zFU (zcmp zlt (zl 4) (zk 9)) (zif (zcmp zne (zald (b + 10) 150000 (zbin ziadd (zl 3) (zl 4))) (zald (b + 10) 150000 (zbin ziadd (zl 2) (zl 4)))) (zrt (zk 0)) zsk) (zse 4 (zbin ziadd (zl 4) (zk 1))))) (zrt (zk 1))))
def M_X1_hasSameAnswers (b : Nat) (vs : List Int32) (μ : zM) : Option (Int32 × zM) := match vs with
  | [v1, v2] => zfz (B_X1_hasSameAnswers b) (zenv [(1, v1), (2, v2)]) μ
  | _ => none
abbrev rm_X1_hasSameAnswers : Room := { frames := 0, cells := 0, slots := 0, locals := 0 }
def B_X0_discover (b : Nat) : zT := (zsq (zfo b 6 ziadd (zk 1)) (zsq (zas (b + 1) 1500 (zl 1) (zfd b 6)) (zsq (zas (b + 2) 1500 (zl 1) (zfd b 6)) (zsq (zas (b + 4) 1500 (zfd b 7) (zl 1)) (zsq (zfo b 7 ziadd (zk 1)) (zsq (zas (b + 5) 1500 (zfd b 8) (zl 1)) (zsq (zfo b 8 ziadd (zk 1)) (zaz (b + 6) 1500 (zl 1) (zk 1)))))))))
def M_X0_discover (b : Nat) (vs : List Int32) (μ : zM) : Option (Int32 × zM) := match vs with
  | [v1] => zfo0 (B_X0_discover b) (zenv [(1, v1)]) μ
  | _ => none
abbrev rm_X0_discover : Room := { frames := 0, cells := 0, slots := 0, locals := 0 }
def B_X0_note (b : Nat) : zT := (zif (zor (zcmp zeq (zfd b 9) (zk (-4))) (zcmp zlt (zl 1) (zfd b 9))) (zpf b 9 (zl 1)) zsk)
def M_X0_note (b : Nat) (vs : List Int32) (μ : zM) : Option (Int32 × zM) := match vs with
  | [v1] => zfo0 (B_X0_note b) (zenv [(1, v1)]) μ
  | _ => none
abbrev rm_X0_note : Room := { frames := 0, cells := 0, slots := 0, locals := 0 }
def B_X8_tear (b : Nat) : zT := (zsq (zif (zor (zor (znt (zcm0 (fun a => zne a 0) (zcall (M_X8_isRoutine) (zai (zl 1) zan)))) (zcmp zlt (zl 2) (zk (-1)))) (zcmp zgt (zl 2) (zcall (M_X6_size (b + 1)) (zai (zl 1) zan)))) (zrt (zk (-1))) zsk) (zsq (zse 3 (zcall (M_X6_size (b + 1)) (zai (zl 1) zan))) (zsq (zas (b + 1 + 2) 6 (zl 1) (zl 2)) (zrt (zl 3)))))
def M_X8_tear (b : Nat) (vs : List Int32) (μ : zM) : Option (Int32 × zM) := match vs with
  | [v1, v2] => zfi (B_X8_tear b) (zenv [(1, v1), (2, v2)]) μ
  | _ => none
abbrev rm_X8_tear : Room := { frames := 2, cells := 0, slots := 0, locals := 54 }
def B_X8_means (b : Nat) : zT := (zsq (zif (zor (zor (znt (zcm0 (fun a => zne a 0) (zcall (M_X8_isRoutine) (zai (zl 1) zan)))) (zcm0 (fun a => zlt a 0) (zl 2))) (zcmp zgt (zl 2) (zk 2))) (zrt (zk (-1))) zsk) (zsq (zse 3 (zald (b + 1 + 3) 6 (zl 1))) (zsq (zas (b + 1 + 3) 6 (zl 1) (zl 2)) (zrt (zl 3)))))
def M_X8_means (b : Nat) (vs : List Int32) (μ : zM) : Option (Int32 × zM) := match vs with
  | [v1, v2] => zfi (B_X8_means b) (zenv [(1, v1), (2, v2)]) μ
  | _ => none
abbrev rm_X8_means : Room := { frames := 1, cells := 0, slots := 0, locals := 20 }
def B_X8_moment (b : Nat) : zT := (zsq (zse 4 (zcond (zcm0 (fun a => zne a 0) (zcall (M_X8_isRoutine) (zai (zl 1) zan))) (zcall (M_X6_find (b + 1)) (zai (zl 1) (zai (zl 2) zan))) (zk (-1)))) (zsq (zif (zor (zcm0 (fun a => zlt a 0) (zl 4)) (zcmp zgt (zald (b + 1 + 1) 900 (zl 4)) (zk 6))) (zrt (zk (-1))) zsk) (zsq (zse 5 (zald (b + 1 + 1) 900 (zbin ziadd (zl 4) (zk 4)))) (zsq (zas (b + 1 + 1) 900 (zbin ziadd (zl 4) (zk 4)) (zcond (zcm0 (fun a => zne a 0) (zl 3)) (zk 1) (zk 0))) (zrt (zl 5))))))
def M_X8_moment (b : Nat) (vs : List Int32) (μ : zM) : Option (Int32 × zM) := match vs with
  | [v1, v2, v3] => zfi (B_X8_moment b) (zenv [(1, v1), (2, v2), (3, v3)]) μ
  | _ => none
abbrev rm_X8_moment : Room := { frames := 1, cells := 0, slots := 0, locals := 22 }
def B_X8_call (b : Nat) : zT := (zsq (zif (zor (zor (zcm0 (fun a => zlt a 0) (zl 1)) (zcmp zgt (zl 1) (zk 3))) (znt (zcm0 (fun a => zne a 0) (zcall (M_X8_isRoutine) (zai (zl 2) zan))))) (zrt (zk (-1))) zsk) (zsq (zif (zor (zcmp zlt (zl 3) (zk (-99))) (zcmp zgt (zl 3) (zk 99))) (zrt (zk (-1))) zsk) (zsq (zif (zcm0 (fun a => zne a 0) (zcall (M_X6_isFullFor (b + 1)) (zai (zl 1) zan))) (zrt (zk (-3))) zsk) (zrt (zcall (M_X6_addCall (b + 1)) (zai (zl 1) (zai (zl 2) (zai (zl 3) zan))))))))
def M_X8_call (b : Nat) (vs : List Int32) (μ : zM) : Option (Int32 × zM) := match vs with
  | [v1, v2, v3] => zfi (B_X8_call b) (zenv [(1, v1), (2, v2), (3, v3)]) μ
  | _ => none
abbrev rm_X8_call : Room := { frames := 2, cells := 0, slots := 0, locals := 41 }
def B_X8_clear (b : Nat) : zT := (zsq (zse 1 (zbin ziadd (zcall (M_X6_total (b + 1)) zan) (zald (b + 1 + 4) 4 (zk 3)))) (zsq (zex (zcall (M_fill 4 (b + 1 + 4)) (zai (zk 0) zan))) (zrt (zl 1))))
def M_X8_clear (b : Nat) (vs : List Int32) (μ : zM) : Option (Int32 × zM) := match vs with
  | [] => zfi (B_X8_clear b) (zenv []) μ
  | _ => none
abbrev rm_X8_clear : Room := { frames := 1, cells := 0, slots := 0, locals := 23 }
def B_X8_told (b : Nat) : zT := (zsq (zif (znt (zcm0 (fun a => zne a 0) (zcall (M_X8_isRoutine) (zai (zl 1) zan)))) (zrt (zk (-1000))) zsk) (zsq (zif (zcmp zeq (zl 2) (zk (-1))) (zrt (zcall (M_X8_toldOfRoutine b) (zai (zl 1) (zai (zl 3) zan)))) zsk) (zsq (zse 4 (zcall (M_X6_find (b + 1)) (zai (zl 1) (zai (zl 2) zan)))) (zsq (zif (zor (zor (zcm0 (fun a => zlt a 0) (zl 4)) (zcm0 (fun a => zlt a 0) (zl 3))) (zcmp zgt (zl 3) (zk 4))) (zrt (zk (-1000))) zsk) (zrt (zald (b + 1 + 1) 900 (zbin ziadd (zl 4) (zl 3))))))))
def M_X8_told (b : Nat) (vs : List Int32) (μ : zM) : Option (Int32 × zM) := match vs with
  | [v1, v2, v3] => zfi (B_X8_told b) (zenv [(1, v1), (2, v2), (3, v3)]) μ
  | _ => none
abbrev rm_X8_told : Room := { frames := 1, cells := 0, slots := 0, locals := 22 }
def B_X8_may (b : Nat) : zT := (zsq (zif (znt (zcm0 (fun a => zne a 0) (zcall (M_X8_isChoice) (zai (zl 1) zan)))) (zrt (zk (-1))) zsk) (zsq (zif (znt (zcm0 (fun a => zne a 0) (zfd b 4))) (zrt (zk (-2))) zsk) (zrt (zcond (zcm0 (fun a => zne a 0) (zcall (M_X5_isPossible (b + 8)) (zai (zl 1) zan))) (zk 1) (zk 0)))))
def M_X8_may (b : Nat) (vs : List Int32) (μ : zM) : Option (Int32 × zM) := match vs with
  | [v1] => zfi (B_X8_may b) (zenv [(1, v1)]) μ
  | _ => none
abbrev rm_X8_may : Room := { frames := 2, cells := 0, slots := 0, locals := 42 }
def B_X8_word (b : Nat) : zT := (zsq (zif (zor (zor (zor (zcm0 (fun a => zlt a 0) (zl 1)) (zcmp zge (zl 1) (zk 20))) (zcm0 (fun a => zlt a 0) (zl 2))) (zcmp zgt (zl 2) (zk 3))) (zrt (zk (-1000))) zsk) (zsq (zif (znt (zcm0 (fun a => zne a 0) (zfd b 4))) (zrt (zk (-2000))) zsk) (zrt (zcall (M_X7_part) (zai (zald (b + 8 + 8) 118 (zl 1)) (zai (zl 2) zan))))))
def M_X8_word (b : Nat) (vs : List Int32) (μ : zM) : Option (Int32 × zM) := match vs with
  | [v1, v2] => zfi (B_X8_word b) (zenv [(1, v1), (2, v2)]) μ
  | _ => none
abbrev rm_X8_word : Room := { frames := 2, cells := 0, slots := 0, locals := 41 }
def B_X8_local (b : Nat) : zT := (zsq (zif (zor (zor (zor (zor (znt (zcm0 (fun a => zne a 0) (zcall (M_X8_isThread) (zai (zl 1) zan)))) (zcm0 (fun a => zlt a 0) (zl 2))) (zcmp zge (zl 2) (zk 6))) (zcm0 (fun a => zlt a 0) (zl 3))) (zcmp zgt (zl 3) (zk 3))) (zrt (zk (-1000))) zsk) (zsq (zif (znt (zcm0 (fun a => zne a 0) (zfd b 4))) (zrt (zk (-2000))) zsk) (zrt (zcall (M_X7_part) (zai (zald (b + 8 + 8) 118 (zbin ziadd (zcall (M_X4_ofThread) (zai (zl 1) zan)) (zl 2))) (zai (zl 3) zan))))))
def M_X8_local (b : Nat) (vs : List Int32) (μ : zM) : Option (Int32 × zM) := match vs with
  | [v1, v2, v3] => zfi (B_X8_local b) (zenv [(1, v1), (2, v2), (3, v3)]) μ
  | _ => none
abbrev rm_X8_local : Room := { frames := 2, cells := 0, slots := 0, locals := 41 }
def B_X8_answer (b : Nat) : zT := (zsq (zif (zor (zor (znt (zcm0 (fun a => zne a 0) (zcall (M_X8_isThread) (zai (zl 1) zan)))) (zcm0 (fun a => zlt a 0) (zl 2))) (zcmp zge (zl 2) (zk 3))) (zrt (zk (-1000))) zsk) (zsq (zif (znt (zcm0 (fun a => zne a 0) (zfd b 4))) (zrt (zk (-2000))) zsk) (zsq (zif (zcmp zge (zl 2) (zald (b + 8 + 8) 118 (zbin ziadd (zcall (M_X4_ofThread) (zai (zl 1) zan)) (zk 10)))) (zrt (zk (-4))) zsk) (zrt (zald (b + 8 + 8) 118 (zbin ziadd (zbin ziadd (zk 28) (zbin zimul (zl 1) (zk 3))) (zl 2)))))))
def M_X8_answer (b : Nat) (vs : List Int32) (μ : zM) : Option (Int32 × zM) := match vs with
  | [v1, v2] => zfi (B_X8_answer b) (zenv [(1, v1), (2, v2)]) μ
  | _ => none
abbrev rm_X8_answer : Room := { frames := 1, cells := 0, slots := 0, locals := 20 }
def B_X8_walk_1 (b : Nat) : zT := (zsq (zif (zcm0 (fun a => zlt a 0) (zl 2)) (zrt (zk (-1))) zsk) (zsq (zif (zor (zcb false) (znt (zcm0 (fun a => zne a 0) (zcall (M_X1_isKept (b + 26)) (zai (zl 1) zan))))) (zrt (zk (-2))) zsk) (zrt (zcall (M_X1_choiceOfWalk (b + 26)) (zai (zl 1) (zai (zl 2) zan))))))
def M_X8_walk_1 (b : Nat) (vs : List Int32) (μ : zM) : Option (Int32 × zM) := match vs with
  | [v1, v2] => zfi (B_X8_walk_1 b) (zenv [(1, v1), (2, v2)]) μ
  | _ => none
abbrev rm_X8_walk_1 : Room := { frames := 1, cells := 0, slots := 0, locals := 24 }
def B_X8_next_0 (b : Nat) : zT := (zsq (zif (znt (zcm0 (fun a => zne a 0) (zcall (M_X8_isChoice) (zai (zl 2) zan)))) (zrt (zk (-1))) zsk) (zsq (zif (zcb true) (zrt (zk (-2))) zno) zno))
def M_X8_next_0 (b : Nat) (vs : List Int32) (μ : zM) : Option (Int32 × zM) := match vs with
  | [v1, v2] => zfi (B_X8_next_0 b) (zenv [(1, v1), (2, v2)]) μ
  | _ => none
abbrev rm_X8_next_0 : Room := { frames := 1, cells := 0, slots := 0, locals := 20 }
def B_X8_next_1 (b : Nat) : zT := (zsq (zif (znt (zcm0 (fun a => zne a 0) (zcall (M_X8_isChoice) (zai (zl 2) zan)))) (zrt (zk (-1))) zsk) (zsq (zif (zor (zcb false) (znt (zcm0 (fun a => zne a 0) (zcall (M_X1_isKept (b + 26)) (zai (zl 1) zan))))) (zrt (zk (-2))) zsk) (zrt (zald (b + 26 + 11) 9000 (zbin ziadd (zbin zimul (zl 1) (zk 6)) (zl 2))))))
def M_X8_next_1 (b : Nat) (vs : List Int32) (μ : zM) : Option (Int32 × zM) := match vs with
  | [v1, v2] => zfi (B_X8_next_1 b) (zenv [(1, v1), (2, v2)]) μ
  | _ => none
abbrev rm_X8_next_1 : Room := { frames := 1, cells := 0, slots := 0, locals := 21 }
def B_X8_go_1 (b : Nat) : zT := (zsq (zif (zor (zcb false) (znt (zcm0 (fun a => zne a 0) (zcall (M_X1_isKept (b + 26)) (zai (zl 1) zan))))) (zrt (zk (-2))) zsk) (zsq (zse 2 (zald (b + 26 + 14) 1500 (zl 1))) (zsq (zif (zcmp zgt (zl 2) (zk 100)) (zrt (zk (-3))) zsk) (zsq (zex (zcall (M_X5_resume (b + 8) (b + 26 + 1 + 1) (b + 26 + 10)) (zai (zbin zimul (zl 1) (zk 100)) zan))) (zsq (zpz b 4 (zk 1)) (zsq (zpf b 5 (zl 2)) (zsq (zpf b 6 (zcond (zcm0 (fun a => zeq a 0) (zl 2)) (zk (-4)) (zald (b + 26 + 13) 1500 (zl 1)))) (zrt (zl 2)))))))))
def M_X8_go_1 (b : Nat) (vs : List Int32) (μ : zM) : Option (Int32 × zM) := match vs with
  | [v1] => zfi (B_X8_go_1 b) (zenv [(1, v1)]) μ
  | _ => none
abbrev rm_X8_go_1 : Room := { frames := 3, cells := 0, slots := 0, locals := 84 }
def B_X8_toldOfThread (b : Nat) : zT := (zlr 3 (zsw (zl 2) 0 [(zrt (zald (b + 8 + 8) 118 (zbin ziadd (zl 1) (zk 10)))), (zrt (zald (b + 8 + 8) 118 (zbin ziadd (zl 1) (zk 11)))), (zrt (zald (b + 8 + 8) 118 (zbin ziadd (zl 1) (zk 9)))), (zrt (zald (b + 8 + 8) 118 (zbin ziadd (zl 1) (zk 12)))), (zrt (zald (b + 8 + 8) 118 (zbin ziadd (zl 1) (zk 13)))), (zrt (zcall (M_X8_lessOne) (zai (zald (b + 8 + 8) 118 (zbin ziadd (zl 1) (zk 6))) zan))), (zrt (zcall (M_X8_lessOne) (zai (zald (b + 8 + 8) 118 (zbin ziadd (zbin ziadd (zl 1) (zk 6)) (zk 1))) zan)))] (zrt (zcall (M_X8_lessOne) (zai (zald (b + 8 + 8) 118 (zbin ziadd (zl 1) (zk 8))) zan)))))
def M_X8_toldOfThread (b : Nat) (vs : List Int32) (μ : zM) : Option (Int32 × zM) := match vs with
  | [v1, v2] => zfi (B_X8_toldOfThread b) (zenv [(1, v1), (2, v2)]) μ
  | _ => none
abbrev rm_X8_toldOfThread : Room := { frames := 1, cells := 0, slots := 0, locals := 20 }
def B_X8_choiceInTurn (b : Nat) : zT := (zsq (zse 1 (zcond (zcmp zeq (zfd b 6) (zk (-4))) (zk 0) (zbin ziadd (zfd b 6) (zk 1)))) (zsq (zsq (zse 2 (zk 0)) (zwh zFU (zcmp zlt (zl 2) (zk 6)) (zsq (zse 3 (zbiq zirem (zbin ziadd (zl 1) (zl 2)) (zk 6))) (zif (zcm0 (fun a => zne a 0) (zcall (M_X5_isPossible (b + 8)) (zai (zl 3) zan))) (zrt (zl 3)) zsk)) (zse 2 (zbin ziadd (zl 2) (zk 1))))) (zrt (zk (-4)))))
def M_X8_choiceInTurn (b : Nat) (vs : List Int32) (μ : zM) : Option (Int32 × zM) := match vs with
  | [] => zfi (B_X8_choiceInTurn b) (zenv []) μ
  | _ => none
abbrev rm_X8_choiceInTurn : Room := { frames := 2, cells := 0, slots := 0, locals := 42 }
def B_X9_owns (b : Nat) : zT := (zwh zFU (zand (zcm0 (fun a => zeq a 0) (zald (b + 3) 100 (zbin ziadd (zcall (M_X9_at) (zai (zl 1) zan)) (zk 3)))) (zcm0 (fun a => zne a 0) (zcall (M_X9_isOwn) (zai (zcall (M_X9_opAt b) (zai (zl 1) zan)) zan)))) (zex (zcall (M_X9_own b) (zai (zl 1) zan))) zsk)
def M_X9_owns (b : Nat) (vs : List Int32) (μ : zM) : Option (Int32 × zM) := match vs with
  | [v1] => zfo0 (B_X9_owns b) (zenv [(1, v1)]) μ
  | _ => none
abbrev rm_X9_owns : Room := { frames := 4, cells := 0, slots := 0, locals := 91 }
def B_X9_swaps (b : Nat) : zT := (zsq (zse 5 (zcond (zand (zcm0 (fun a => zne a 0) (zcall (M_X9_alike) (zai (zald (b + 3) 100 (zl 2)) (zai (zl 3) zan)))) (zor (zcmp zne (zald (b + 2) 960 (zk 948)) (zk 2)) (zcmp zeq (zcall (M_X9_countOf) (zai (zald (b + 3) 100 (zl 2)) zan)) (zcall (M_X9_countOf) (zai (zl 3) zan))))) (zk 1) (zk 0))) (zsq (zif (zcm0 (fun a => zne a 0) (zl 5)) (zex (zcall (M_X9_becomes b) (zai (zl 2) (zai (zl 4) zan)))) zsk) (zsq (zex (zcall (M_X9_setLocal b) (zai (zl 1) (zai (zk 5) (zai (zcall (M_X9_asNumber) (zai (zcond (zcm0 (fun a => zne a 0) (zl 5)) (zk 1) (zk 0)) zan)) zan))))) (zif (zcm0 (fun a => zne a 0) (zl 5)) (zex (zcall (M_X9_happens b) (zai (zl 1) zan))) zsk))))
def M_X9_swaps (b : Nat) (vs : List Int32) (μ : zM) : Option (Int32 × zM) := match vs with
  | [v1, v2, v3, v4] => zfo0 (B_X9_swaps b) (zenv [(1, v1), (2, v2), (3, v3), (4, v4)]) μ
  | _ => none
abbrev rm_X9_swaps : Room := { frames := 3, cells := 0, slots := 0, locals := 67 }
def B_X9_other (b : Nat) : zT := (zsq (zse 5 (zcall (M_X9_at) (zai (zl 1) zan))) (zsw (zl 2) 8 [(zsq (zse 6 (zk 0)) (zsq (zwh zFU (zand (zcmp zlt (zl 6) (zk 6)) (zcm0 (fun a => zne a 0) (zald (b + 3) 100 (zbin ziadd (zk 20) (zl 6))))) (zse 6 (zbin ziadd (zl 6) (zk 1))) zsk) (zsq (zex (zcall (M_X9_setLocal b) (zai (zl 1) (zai (zl 3) (zai (zcond (zcmp zlt (zl 6) (zk 6)) (zcall (M_X9_asNode) (zai (zl 6) zan)) (zk 0)) zan))))) (zsq (zif (zcmp zlt (zl 6) (zk 6)) (zsq (zas (b + 3) 100 (zbin ziadd (zk 20) (zl 6)) (zk 1)) (zsq (zao (b + 3) 100 (zbin ziadd (zk 8) (zbin zimul (zk 2) (zl 6))) ziand (zk (-2048))) (zao (b + 3) 100 (zbin ziadd (zk 9) (zbin zimul (zk 2) (zl 6))) ziand (zk (-2048))))) zsk) zbk)))), (zsq (zas (b + 3) 100 (zbin ziadd (zk 20) (zcall (M_X9_nodeOf) (zai (zcall (M_X9_localOf b) (zai (zl 1) (zai (zl 3) zan))) zan))) (zcond (zor (zcmp zeq (zald (b + 2) 960 (zk 948)) (zk 1)) (zcmp zeq (zald (b + 2) 960 (zk 948)) (zk 2))) (zk 0) (zbin ziadd (zk 2) (zald (b + 3) 100 (zk 26))))) (zsq (zex (zcall (M_X9_looks b) zan)) (zsq (zex (zcall (M_X9_epochMoves b) zan)) zbk))), (zsq (zas (b + 3) 100 (zbin ziadd (zbin ziadd (zl 5) (zk 5)) (zl 3)) (zcond (zcmp zeq (zbin ziand (zcall (M_X9_localOf b) (zai (zl 1) (zai (zl 4) zan))) (zk 3)) (zk 2)) (zbin ziadd (zcall (M_X9_nodeOf) (zai (zcall (M_X9_localOf b) (zai (zl 1) (zai (zl 4) zan))) zan)) (zk 1)) (zk 0))) (zsq (zex (zcall (M_X9_looks b) zan)) zbk)), (zsq (zas (b + 3) 100 (zbin ziadd (zl 5) (zk 4)) (zbin ziadd (zald (b + 3) 100 (zk 26)) (zk 1))) (zsq (zex (zcall (M_X9_epochMoves b) zan)) zbk)), (zsq (zas (b + 3) 100 (zbin ziadd (zl 5) (zk 4)) (zk 0)) (zsq (zex (zcall (M_X9_epochMoves b) zan)) zbk)), (zsq (zex (zcall (M_X9_returns b) (zai (zl 1) (zai (zcall (M_X9_localOf b) (zai (zl 1) (zai (zl 3) zan))) zan)))) zbk)] zsk))
def M_X9_other (b : Nat) (vs : List Int32) (μ : zM) : Option (Int32 × zM) := match vs with
  | [v1, v2, v3, v4] => zfo0 (B_X9_other b) (zenv [(1, v1), (2, v2), (3, v3), (4, v4)]) μ
  | _ => none
abbrev rm_X9_other : Room := { frames := 4, cells := 0, slots := 0, locals := 89 }
def B_X9_says (b : Nat) : zT := (zsq (zse 5 (zald (b + 2) 960 (zbin ziadd (zk 726) (zl 1)))) (zsq (zse 6 (zald (b + 2) 960 (zk 950))) (zsq (zse 7 (zk 0)) (zsq (zse 8 (zk 0)) (zsq (zif (zcmp zeq (zl 5) (zk 1)) (zif (zcmp zlt (zl 6) (zk 3)) (zsq (zas (b + 4) 16 (zfd b 7) (zl 2)) (zfo b 7 ziadd (zk 1))) (zsq (zpf b 9 (zcond (zcmp zeq (zl 6) (zk 3)) (zbin ziadd (zfd b 9) (zl 2)) (zl 2))) (zsq (zse 8 (zcond (zcmp zeq (zl 6) (zk 3)) (zk 1) (zk 0))) (zse 7 (zfd b 9))))) (zif (zcmp zeq (zl 5) (zk 2)) (zsq (zse 8 (zk 1)) (zse 7 (zcond (zcmp zlt (zl 6) (zk 3)) (zcall (M_X9_takes b) (zai (zl 6) zan)) (zfd b 9)))) zsk)) (zrt (zcond (zor (zor (znt (zcm0 (fun a => zne a 0) (zl 4))) (znt (zcm0 (fun a => zne a 0) (zl 8)))) (zcmp zeq (zl 3) (zl 7))) (zk 1) (zk 0))))))))
def M_X9_says (b : Nat) (vs : List Int32) (μ : zM) : Option (Int32 × zM) := match vs with
  | [v1, v2, v3, v4] => zfz (B_X9_says b) (zenv [(1, v1), (2, v2), (3, v3), (4, v4)]) μ
  | _ => none
abbrev rm_X9_says : Room := { frames := 1, cells := 0, slots := 0, locals := 21 }
def B_X9_fits (b : Nat) : zT := (zsq (zpf b 7 (zk 0)) (zsq (zpf b 8 (zk 0)) (zsq (zpf b 9 (zk 0)) (zsq (zsq (zse 2 (zk 0)) (zwh zFU (zcmp zlt (zl 2) (zald (b + 2) 960 (zk 915))) (zse 3 (zcall (M_X9_says b) (zai (zald (b + 2) 960 (zbin ziadd (zk 928) (zl 2))) (zai (zald (b + 2) 960 (zbin ziadd (zk 944) (zl 2))) (zai (zk 0) (zai (zk 0) zan)))))) (zse 2 (zbin ziadd (zl 2) (zk 1))))) (zsq (zse 2 (zk 1)) (zsq (zsq (zse 3 (zk 0)) (zwh zFU (zand (zcmp zlt (zl 3) (zl 1)) (zcm0 (fun a => zne a 0) (zl 2))) (zsq (zse 4 (zbiq zidiv (zald (b + 5) 7 (zl 3)) (zk 3))) (zsq (zse 5 (zbiq zirem (zald (b + 5) 7 (zl 3)) (zk 3))) (zse 2 (zcall (M_X9_says b) (zai (zald (b + 2) 960 (zbin ziadd (zbin ziadd (zk 916) (zbin zimul (zk 4) (zl 4))) (zl 5))) (zai (zald (b + 2) 960 (zbin ziadd (zbin ziadd (zk 932) (zbin zimul (zk 4) (zl 4))) (zl 5))) (zai (zbin zisub (zald (b + 3) 100 (zbin ziadd (zbin ziadd (zk 81) (zbin zimul (zk 2) (zald (b + 5) 7 (zl 3)))) (zk 1))) (zk 1000)) (zai (zk 1) zan)))))))) (zse 3 (zbin ziadd (zl 3) (zk 1))))) (zrt (zl 2))))))))
def M_X9_fits (b : Nat) (vs : List Int32) (μ : zM) : Option (Int32 × zM) := match vs with
  | [v1] => zfz (B_X9_fits b) (zenv [(1, v1)]) μ
  | _ => none
abbrev rm_X9_fits : Room := { frames := 2, cells := 0, slots := 0, locals := 49 }
def B_X9_mayStand (b : Nat) : zT := (zsq (zse 4 (zcond (zand (zand (zcm0 (fun a => zne a 0) (zcall (M_X9_isCall b) (zai (zl 1) zan))) (zcm0 (fun a => zeq a 0) (zbin ziand (zbin zishr (zl 2) (zl 1)) (zk 1)))) (zcm0 (fun a => zeq a 0) (zbin ziand (zald (b + 3) 100 (zbin ziadd (zk 81) (zbin zimul (zk 2) (zl 1)))) (zbin zixor (zl 2) (zk (-1)))))) (zk 1) (zk 0))) (zsq (zif (zcm0 (fun a => zne a 0) (zl 4)) (zas (b + 5) 7 (zl 3) (zl 1)) zsk) (zrt (zcond (zand (zcm0 (fun a => zne a 0) (zl 4)) (zcm0 (fun a => zne a 0) (zcall (M_X9_fits b) (zai (zbin ziadd (zl 3) (zk 1)) zan)))) (zk 1) (zk 0)))))
def M_X9_mayStand (b : Nat) (vs : List Int32) (μ : zM) : Option (Int32 × zM) := match vs with
  | [v1, v2, v3] => zfz (B_X9_mayStand b) (zenv [(1, v1), (2, v2), (3, v3)]) μ
  | _ => none
abbrev rm_X9_mayStand : Room := { frames := 3, cells := 0, slots := 0, locals := 74 }
def B_X9_keepsNow (b : Nat) : zT := (zsq (zse 1 (zk 0)) (zsq (zsq (zse 2 (zald (b + 3) 100 (zk 99))) (zwh zFU (zcm0 (fun a => zne a 0) (zl 2)) (zsq (zas (b + 5) 7 (zl 1) (zbin zisub (zbin ziand (zl 2) (zk 15)) (zk 1))) (zse 1 (zbin ziadd (zl 1) (zk 1)))) (zse 2 (zbin zishr (zl 2) (zk 4))))) (zsq (zse 2 (zcond (zcmp zeq (zl 1) (zcall (M_X9_callMany b) zan)) (zk 1) (zk 0))) (zsq (zsq (zse 3 (zk 0)) (zwh zFU (zcmp zlt (zl 3) (zk 9)) (zse 2 (zcond (zand (zcm0 (fun a => zne a 0) (zl 2)) (zor (znt (zcm0 (fun a => zne a 0) (zcall (M_X9_isCall b) (zai (zl 3) zan)))) (zcm0 (fun a => zgt a 0) (zald (b + 3) 100 (zbin ziadd (zbin ziadd (zk 81) (zbin zimul (zk 2) (zl 3))) (zk 1)))))) (zk 1) (zk 0))) (zse 3 (zbin ziadd (zl 3) (zk 1))))) (zrt (zcond (zand (zcm0 (fun a => zne a 0) (zl 2)) (zcm0 (fun a => zne a 0) (zcall (M_X9_fits b) (zai (zl 1) zan)))) (zk 1) (zk 0)))))))
def M_X9_keepsNow (b : Nat) (vs : List Int32) (μ : zM) : Option (Int32 × zM) := match vs with
  | [] => zfz (B_X9_keepsNow b) (zenv []) μ
  | _ => none
abbrev rm_X9_keepsNow : Room := { frames := 3, cells := 0, slots := 0, locals := 74 }
def B_X9_keeps (b : Nat) : zT := (zsq (zif (znt (zcm0 (fun a => zne a 0) (zfd b 11))) (zrt (zk (-2))) zsk) (zsq (zex (zcall (M_X9_takeRun b) zan)) (zrt (zcond (zor (znt (zcm0 (fun a => zne a 0) (zcall (M_X9_isEnd b) zan))) (zcm0 (fun a => zeq a 0) (zald (b + 2) 960 (zk 950)))) (zk (-2)) (zcond (zcm0 (fun a => zne a 0) (zcall (M_X9_keepsNow b) zan)) (zk 1) (zk 0))))))
def M_X9_keeps (b : Nat) (vs : List Int32) (μ : zM) : Option (Int32 × zM) := match vs with
  | [] => zfi (B_X9_keeps b) (zenv []) μ
  | _ => none
abbrev rm_X9_keeps : Room := { frames := 4, cells := 0, slots := 0, locals := 97 }
def B_X2_allows  : zT := (zsq (zif (zor (zor (zcm0 (fun a => zlt a 0) (zl 0)) (zand (zcmp zgt (zl 0) (zk 13)) (zcmp zlt (zl 0) (zk 20)))) (zcmp zge (zl 0) (zk 27))) (zrt (zk 0)) zsk) (zrt (zcond (zand (zand (zcm0 (fun a => zne a 0) (zcall (M_X2_fits) (zai (ztb (zT0) 81 (zbin zimul (zk 3) (zl 0))) (zai (zl 1) zan)))) (zcm0 (fun a => zne a 0) (zcall (M_X2_fits) (zai (ztb (zT0) 81 (zbin ziadd (zbin zimul (zk 3) (zl 0)) (zk 1))) (zai (zl 2) zan))))) (zcm0 (fun a => zne a 0) (zcall (M_X2_fits) (zai (ztb (zT0) 81 (zbin ziadd (zbin zimul (zk 3) (zl 0)) (zk 2))) (zai (zl 3) zan))))) (zk 1) (zk 0))))
def M_X2_allows (vs : List Int32) (μ : zM) : Option (Int32 × zM) := match vs with
  | [v1, v2, v3, v4] => zfz (B_X2_allows) (zenv [(0, v1), (1, v2), (2, v3), (3, v4)]) μ
  | _ => none
abbrev rm_X2_allows : Room := { frames := 1, cells := 0, slots := 0, locals := 21 }
def B_X5_beginCall (b : Nat) : zT := (zsq (zas (b + 8) 118 (zbin ziadd (zl 1) (zk 11)) (zk 1)) (zsq (zas (b + 8) 118 (zl 1) (zcall (M_X7_ofNumber) (zai (zald (b + 1 + 6) 13 (zl 2)) zan))) (zsq (zif (zcmp zlt (zl 2) (zk 9)) (zas (b + 8) 118 (zbin ziadd (zk 37) (zl 2)) (zcall (M_X5_callsOver b) zan)) zsk) (zif (zcm0 (fun a => zlt a 0) (zald (b + 1 + 2) 6 (zald (b + 1 + 5) 13 (zl 2)))) (zas (b + 8) 118 (zbin ziadd (zl 1) (zk 12)) (zk 1)) zsk))))
def M_X5_beginCall (b : Nat) (vs : List Int32) (μ : zM) : Option (Int32 × zM) := match vs with
  | [v1, v2] => zfo0 (B_X5_beginCall b) (zenv [(1, v1), (2, v2)]) μ
  | _ => none
abbrev rm_X5_beginCall : Room := { frames := 2, cells := 0, slots := 0, locals := 53 }
def B_X5_ownActs (b : Nat) : zT := (zsq (zsq (zse 4 (zl 3)) (zwh zFU (zcm0 (fun a => zge a 0) (zl 4)) (zsq (zse 5 (zcall (M_X6_find (b + 1)) (zai (zl 2) (zai (zald (b + 8) 118 (zbin ziadd (zl 1) (zk 9))) zan)))) (zsq (zif (zor (zcm0 (fun a => zlt a 0) (zl 5)) (zcmp zlt (zald (b + 1 + 1) 900 (zl 5)) (zk 20))) (zrt (zl 4)) zsk) (zsq (zse 6 (zcall (M_X5_ownError b) (zai (zl 1) (zai (zl 5) (zai (zl 4) zan))))) (zsq (zas (b + 8) 118 (zbin ziadd (zl 1) (zk 12)) (zl 6)) (zsq (zif (zcm0 (fun a => zne a 0) (zl 6)) (zrt (zk 0)) zsk) (zsq (zao (b + 8) 118 (zbin ziadd (zl 1) (zk 9)) ziadd (zk 1)) (zex (zcall (M_X5_ownAct b) (zai (zl 1) (zai (zl 5) zan)))))))))) (zse 4 (zbin ziadd (zl 4) (zk (-1)))))) (zrt (zk 0)))
def M_X5_ownActs (b : Nat) (vs : List Int32) (μ : zM) : Option (Int32 × zM) := match vs with
  | [v1, v2, v3] => zfi (B_X5_ownActs b) (zenv [(1, v1), (2, v2), (3, v3)]) μ
  | _ => none
abbrev rm_X5_ownActs : Room := { frames := 3, cells := 0, slots := 0, locals := 77 }
def B_X5_memoryError (b : Nat) : zT := (zsq (zse 3 (zald (b + 1 + 1) 900 (zbin ziadd (zl 2) (zk 1)))) (zsw (zald (b + 1 + 1) 900 (zl 2)) 1 [(zrt (zcall (M_X5_nodeError b) (zai (zald (b + 8) 118 (zbin ziadd (zl 1) (zald (b + 1 + 1) 900 (zbin ziadd (zl 2) (zk 2))))) (zai (zk 4) zan)))), (zrt (zk 0)), (zrt (zcall (M_X5_nodeError b) (zai (zald (b + 8) 118 (zbin ziadd (zl 1) (zl 3))) (zai (zk 4) zan)))), (zrt (zk 0)), (zrt (zcall (M_X5_nodeError b) (zai (zald (b + 8) 118 (zbin ziadd (zl 1) (zl 3))) (zai (zk 4) zan)))), (zrt (zcond (zcmp zeq (zcall (M_X7_kind) (zai (zald (b + 8) 118 (zl 3)) zan)) (zk 2)) (zk 2) (zk 0))), (zrt (zk 0)), (zrt (zk 0)), (zrt (zcall (M_X5_nodeError b) (zai (zald (b + 8) 118 (zbin ziadd (zl 1) (zl 3))) (zai (zk 5) zan))))] (zrt (zk 0))))
def M_X5_memoryError (b : Nat) (vs : List Int32) (μ : zM) : Option (Int32 × zM) := match vs with
  | [v1, v2] => zfi (B_X5_memoryError b) (zenv [(1, v1), (2, v2)]) μ
  | _ => none
abbrev rm_X5_memoryError : Room := { frames := 2, cells := 0, slots := 0, locals := 46 }
def B_X5_write (b : Nat) : zT := (zsq (zif (znt (zcm0 (fun a => zne a 0) (zfd b 2))) (zsq (zex (zcall (M_X5_store b) (zai (zl 2) (zai (zbin zishr (zl 3) (zk 2)) zan)))) zrv) zsk) (zsq (zif (zcmp zge (zald (b + 8) 118 (zbin ziadd (zl 1) (zk 13))) (zk 4)) zrv zsk) (zsq (zas (b + 8) 118 (zbin ziadd (zbin ziadd (zl 1) (zk 14)) (zald (b + 8) 118 (zbin ziadd (zl 1) (zk 13)))) (zbin zior (zbin zishl (zbin zishr (zl 3) (zk 2)) (zk 5)) (zl 2))) (zao (b + 8) 118 (zbin ziadd (zl 1) (zk 13)) ziadd (zk 1)))))
def M_X5_write (b : Nat) (vs : List Int32) (μ : zM) : Option (Int32 × zM) := match vs with
  | [v1, v2, v3] => zfo0 (B_X5_write b) (zenv [(1, v1), (2, v2), (3, v3)]) μ
  | _ => none
abbrev rm_X5_write : Room := { frames := 1, cells := 0, slots := 0, locals := 23 }
def B_X5_comeOldest (b : Nat) : zT := (zsq (zif (zcm0 (fun a => zeq a 0) (zald (b + 8) 118 (zbin ziadd (zl 1) (zk 13)))) zrv zsk) (zsq (zse 2 (zald (b + 8) 118 (zbin ziadd (zl 1) (zk 14)))) (zsq (zex (zcall (M_X5_store b) (zai (zbin ziand (zl 2) (zk 31)) (zai (zbin zishr (zl 2) (zk 5)) zan)))) (zsq (zsq (zse 3 (zbin ziadd (zl 1) (zk 14))) (zwh zFU (zcmp zlt (zl 3) (zbin zisub (zbin ziadd (zl 1) (zk 18)) (zk 1))) (zas (b + 8) 118 (zl 3) (zald (b + 8) 118 (zbin ziadd (zl 3) (zk 1)))) (zse 3 (zbin ziadd (zl 3) (zk 1))))) (zsq (zas (b + 8) 118 (zbin zisub (zbin ziadd (zl 1) (zk 18)) (zk 1)) (zk 0)) (zao (b + 8) 118 (zbin ziadd (zl 1) (zk 13)) zisub (zk 1)))))))
def M_X5_comeOldest (b : Nat) (vs : List Int32) (μ : zM) : Option (Int32 × zM) := match vs with
  | [v1] => zfo0 (B_X5_comeOldest b) (zenv [(1, v1)]) μ
  | _ => none
abbrev rm_X5_comeOldest : Room := { frames := 1, cells := 0, slots := 0, locals := 23 }
def B_X5_freeUnguarded (b : Nat) : zT := (zsq (zse 1 (zk 0)) (zwh zFU (zcmp zlt (zl 1) (zk 6)) (zif (zand (zcmp zge (zald (b + 8) 118 (zbin ziadd (zk 20) (zl 1))) (zk 2)) (znt (zcm0 (fun a => zne a 0) (zcall (M_X5_isGuarded b) (zai (zl 1) zan))))) (zas (b + 8) 118 (zbin ziadd (zk 20) (zl 1)) (zk 0)) zsk) (zse 1 (zbin ziadd (zl 1) (zk 1)))))
def M_X5_freeUnguarded (b : Nat) (vs : List Int32) (μ : zM) : Option (Int32 × zM) := match vs with
  | [] => zfo0 (B_X5_freeUnguarded b) (zenv []) μ
  | _ => none
abbrev rm_X5_freeUnguarded : Room := { frames := 2, cells := 0, slots := 0, locals := 43 }
def B_X5_turnEpoch (b : Nat) : zT := (zsq (zif (zor (zcm0 (fun a => zeq a 0) (zcall (M_X5_waitingNodes b) zan)) (znt (zcm0 (fun a => zne a 0) (zcall (M_X5_areAllInPresent b) zan)))) zrv zsk) (zsq (zse 1 (zpi (b + 8) 118 (zk 26))) (zsq (zse 2 (zk 0)) (zwh zFU (zcmp zlt (zl 2) (zk 6)) (zsq (zse 3 (zald (b + 8) 118 (zbin ziadd (zk 20) (zl 2)))) (zsq (zse 4 (zcond (zcmp zle (zbin ziadd (zbin zisub (zl 3) (zk 2)) (zk 2)) (zl 1)) (zk 1) (zk 0))) (zif (zand (zcmp zge (zl 3) (zk 2)) (zcm0 (fun a => zne a 0) (zl 4))) (zas (b + 8) 118 (zbin ziadd (zk 20) (zl 2)) (zk 0)) zsk))) (zse 2 (zbin ziadd (zl 2) (zk 1)))))))
def M_X5_turnEpoch (b : Nat) (vs : List Int32) (μ : zM) : Option (Int32 × zM) := match vs with
  | [] => zfo0 (B_X5_turnEpoch b) (zenv []) μ
  | _ => none
abbrev rm_X5_turnEpoch : Room := { frames := 2, cells := 0, slots := 0, locals := 42 }
def B_X3_serve (q0 : Nat) (q1 : Nat) : zT := (zsq (zse 4 (zald (q0 + 3) 6 (zald (q0 + 5) 13 (zl 1)))) (zsq (zse 5 (zald (q0 + 6) 13 (zl 1))) (zsq (zif (zcm0 (fun a => zeq a 0) (zl 4)) (zrt (zk 1)) zsk) (zsq (zif (zor (zcmp zeq (zfd q0 8) (zk 1)) (zcmp zeq (zfd q0 8) (zk 2))) (zsq (zif (zcmp zne (zl 4) (zk 1)) (zrt (zcond (zcmp zeq (zl 2) (zcall (M_X3_removeFrom q1) (zai (zfd q0 8) zan))) (zk 1) (zk 0))) zsk) (zsq (zex (zcall (M_X3_addTo q1) (zai (zl 5) zan))) (zrt (zk 1)))) zsk) (zsq (zif (zcmp zeq (zl 4) (zk 1)) (zas q1 13 (zk 2) (zcond (zcmp zeq (zfd q0 8) (zk 3)) (zbin ziadd (zald q1 13 (zk 2)) (zl 5)) (zl 5))) zsk) (zrt (zcond (zor (zcmp zeq (zl 2) (zald q1 13 (zk 2))) (zand (zcmp zeq (zl 4) (zk 1)) (zcmp zeq (zfd q0 8) (zk 4)))) (zk 1) (zk 0))))))))
def M_X3_serve (q0 : Nat) (q1 : Nat) (vs : List Int32) (μ : zM) : Option (Int32 × zM) := match vs with
  | [v1, v2] => zfz (B_X3_serve q0 q1) (zenv [(1, v1), (2, v2)]) μ
  | _ => none
abbrev rm_X3_serve : Room := { frames := 1, cells := 0, slots := 0, locals := 21 }
def M_X3_serveD (q0 q1 : Nat) (vs : List Int32) (μ : zM) : Option (Int32 × zM) := match vs with
  | [v1, v2, v3] => if v3.toInt.toNat < 7 then M_X3_serve q0 (q1 + v3.toInt.toNat) [v1, v2] μ else none
  | _ => none
def B_X1_findPlace (b : Nat) : zT := (zsq (zse 1 (zk 0)) (zsq (zsq (zse 2 (zk 0)) (zwh zFU (zcmp zlt (zl 2) (zk 100)) (zse 1 (zbin ziadd (zbin zimul (zl 1) (zk 31)) (zald (b + 1 + 8) 118 (zl 2)))) (zse 2 (zbin ziadd (zl 2) (zk 1))))) (zsq (zse 2 (zbin ziushr (zbin zimul (zl 1) (zk (-1640531535))) (zk 20))) (zsq (zsq (zse 3 (zk 0)) (zwh zFU (zcmp zlt (zl 3) (zk 4096)) (zsq (zif (zor (zcm0 (fun a => zeq a 0) (zald (b + 16) 4096 (zl 2))) (zcm0 (fun a => zne a 0) (zcall (M_X1_isSame b) (zai (zbin zisub (zald (b + 16) 4096 (zl 2)) (zk 1)) zan)))) zbk zsk) (zse 2 (zbin ziand (zbin ziadd (zl 2) (zk 1)) (zk 4095)))) (zse 3 (zbin ziadd (zl 3) (zk 1))))) (zrt (zl 2))))))
def M_X1_findPlace (b : Nat) (vs : List Int32) (μ : zM) : Option (Int32 × zM) := match vs with
  | [] => zfi (B_X1_findPlace b) (zenv []) μ
  | _ => none
abbrev rm_X1_findPlace : Room := { frames := 1, cells := 0, slots := 0, locals := 23 }
def B_X1_figure (b : Nat) : zT := (zsw (zl 1) 0 [(zrt (zfd b 11)), (zrt (zcall (M_X1_countTrait b) (zai (zk 1) zan))), (zrt (zcall (M_X1_countTrait b) (zai (zk 2) zan))), (zrt (zcall (M_X1_countTrait b) (zai (zk 4) zan))), (zrt (zcall (M_X1_countPairs b) zan)), (zrt (zcall (M_X1_countTrait b) (zai (zk 8) zan))), (zrt (zfd b 12))] (zrt (zcond (zcm0 (fun a => zne a 0) (zfd b 10)) (zk 1) (zk 0))))
def M_X1_figure (b : Nat) (vs : List Int32) (μ : zM) : Option (Int32 × zM) := match vs with
  | [v1] => zfi (B_X1_figure b) (zenv [(1, v1)]) μ
  | _ => none
abbrev rm_X1_figure : Room := { frames := 1, cells := 0, slots := 0, locals := 23 }
def B_X1_isNewResult (b : Nat) : zT := (zsq (zse 2 (zbin ziadd (zbin zimul (zl 1) (zk 100)) (zk 28))) (zsq (zse 3 (zk 0)) (zsq (zsq (zse 4 (zk 0)) (zwh zFU (zcmp zlt (zl 4) (zk 9)) (zse 3 (zbin ziadd (zbin zimul (zl 3) (zk 211)) (zald (b + 10) 150000 (zbin ziadd (zl 2) (zl 4))))) (zse 4 (zbin ziadd (zl 4) (zk 1))))) (zsq (zse 4 (zbin ziushr (zbin zimul (zl 3) (zk (-1640531535))) (zk 20))) (zsq (zsq (zse 5 (zk 0)) (zwh zFU (zand (zcmp zlt (zl 5) (zk 4096)) (zcm0 (fun a => zne a 0) (zald (b + 16) 4096 (zl 4)))) (zsq (zif (zcm0 (fun a => zne a 0) (zcall (M_X1_hasSameAnswers b) (zai (zbin zisub (zald (b + 16) 4096 (zl 4)) (zk 1)) (zai (zl 2) zan)))) (zrt (zk 0)) zsk) (zse 4 (zbin ziand (zbin ziadd (zl 4) (zk 1)) (zk 4095)))) (zse 5 (zbin ziadd (zl 5) (zk 1))))) (zsq (zas (b + 16) 4096 (zl 4) (zbin ziadd (zl 1) (zk 1))) (zrt (zk 1))))))))
def M_X1_isNewResult (b : Nat) (vs : List Int32) (μ : zM) : Option (Int32 × zM) := match vs with
  | [v1] => zfz (B_X1_isNewResult b) (zenv [(1, v1)]) μ
  | _ => none
abbrev rm_X1_isNewResult : Room := { frames := 1, cells := 0, slots := 0, locals := 24 }
def B_X0_tryNext (b : Nat) : zT := (zsq (zao (b + 3) 1500 (zl 1) ziadd (zk 1)) (zsq (zif (zcmp zeq (zl 2) (zk (-4))) zrv zsk) (zif (zcmp zeq (zl 2) (zl 1)) (zex (zcall (M_X0_note b) (zai (zl 1) zan))) (zif (zcm0 (fun a => zeq a 0) (zald (b + 1) 1500 (zl 2))) (zex (zcall (M_X0_discover b) (zai (zl 2) zan))) (zif (zcm0 (fun a => zne a 0) (zald (b + 6) 1500 (zl 2))) (zas (b + 2) 1500 (zl 1) (zbin zmin (zald (b + 2) 1500 (zl 1)) (zald (b + 1) 1500 (zl 2)))) zsk)))))
def M_X0_tryNext (b : Nat) (vs : List Int32) (μ : zM) : Option (Int32 × zM) := match vs with
  | [v1, v2] => zfo0 (B_X0_tryNext b) (zenv [(1, v1), (2, v2)]) μ
  | _ => none
abbrev rm_X0_tryNext : Room := { frames := 1, cells := 0, slots := 0, locals := 33 }
def B_X0_close (b : Nat) : zT := (zsq (zse 2 (zcond (zcmp zeq (zald (b + 5) 1500 (zbin zisub (zfd b 8) (zk 1))) (zl 1)) (zk 1) (zk 0))) (zsq (zse 3 (zbin zisub (zfd b 8) (zk 1))) (zwh zFU (zcm0 (fun a => zge a 0) (zl 3)) (zsq (zse 4 (zald (b + 5) 1500 (zl 3))) (zsq (zaz (b + 6) 1500 (zl 4) (zk 0)) (zsq (zpf b 8 (zl 3)) (zsq (zif (znt (zcm0 (fun a => zne a 0) (zl 2))) (zex (zcall (M_X0_note b) (zai (zl 4) zan))) zsk) (zif (zcmp zeq (zl 4) (zl 1)) zbk zsk))))) (zse 3 (zbin ziadd (zl 3) (zk (-1)))))))
def M_X0_close (b : Nat) (vs : List Int32) (μ : zM) : Option (Int32 × zM) := match vs with
  | [v1] => zfo0 (B_X0_close b) (zenv [(1, v1)]) μ
  | _ => none
abbrev rm_X0_close : Room := { frames := 1, cells := 0, slots := 0, locals := 21 }
def B_X8_act (b : Nat) : zT := (zsq (zif (zor (znt (zcm0 (fun a => zne a 0) (zcall (M_X8_isRoutine) (zai (zl 1) zan)))) (znt (zcm0 (fun a => zne a 0) (zcall (M_X2_allows) (zai (zl 2) (zai (zl 3) (zai (zl 4) (zai (zl 5) zan)))))))) (zrt (zk (-1))) zsk) (zsq (zif (zcmp zge (zcall (M_X6_size (b + 1)) (zai (zl 1) zan)) (zk 30)) (zrt (zk (-3))) zsk) (zrt (zcall (M_X6_append (b + 1)) (zai (zl 1) (zai (zl 2) (zai (zl 3) (zai (zl 4) (zai (zl 5) zan)))))))))
def M_X8_act (b : Nat) (vs : List Int32) (μ : zM) : Option (Int32 × zM) := match vs with
  | [v1, v2, v3, v4, v5] => zfi (B_X8_act b) (zenv [(1, v1), (2, v2), (3, v3), (4, v4), (5, v5)]) μ
  | _ => none
abbrev rm_X8_act : Room := { frames := 3, cells := 0, slots := 0, locals := 81 }
def B_X8_thread (b : Nat) : zT := (zsq (zif (zor (zor (znt (zcm0 (fun a => zne a 0) (zcall (M_X8_isThread) (zai (zl 1) zan)))) (zcm0 (fun a => zlt a 0) (zl 2))) (zcmp zgt (zl 2) (zk 7))) (zrt (zk (-1))) zsk) (zsq (zif (znt (zcm0 (fun a => zne a 0) (zfd b 4))) (zrt (zk (-2))) zsk) (zrt (zcall (M_X8_toldOfThread b) (zai (zcall (M_X4_ofThread) (zai (zl 1) zan)) (zai (zl 2) zan))))))
def M_X8_thread (b : Nat) (vs : List Int32) (μ : zM) : Option (Int32 × zM) := match vs with
  | [v1, v2] => zfi (B_X8_thread b) (zenv [(1, v1), (2, v2)]) μ
  | _ => none
abbrev rm_X8_thread : Room := { frames := 2, cells := 0, slots := 0, locals := 43 }
def B_X8_explored_1 (b : Nat) : zT := (zsq (zif (zor (zcm0 (fun a => zlt a 0) (zl 1)) (zcmp zgt (zl 1) (zk 7))) (zrt (zk (-1))) zsk) (zsq (zif (zor (zcb false) (znt (zcm0 (fun a => zne a 0) (zfd (b + 26) 9)))) (zrt (zk (-2))) zsk) (zrt (zcall (M_X1_figure (b + 26)) (zai (zl 1) zan)))))
def M_X8_explored_1 (b : Nat) (vs : List Int32) (μ : zM) : Option (Int32 × zM) := match vs with
  | [v1] => zfi (B_X8_explored_1 b) (zenv [(1, v1)]) μ
  | _ => none
abbrev rm_X8_explored_1 : Room := { frames := 2, cells := 0, slots := 0, locals := 44 }
def B_X9_memory (b : Nat) : zT := (zsq (zse 2 (zcall (M_X9_opAt b) (zai (zl 1) zan))) (zsq (zse 3 (zcall (M_X9_argumentOf b) (zai (zl 1) (zai (zk 1) zan)))) (zsq (zse 4 (zcall (M_X9_argumentOf b) (zai (zl 1) (zai (zk 2) zan)))) (zsq (zse 5 (zcall (M_X9_argumentOf b) (zai (zl 1) (zai (zk 3) zan)))) (zsq (zse 6 (zcall (M_X9_meets b) (zai (zl 1) (zai (zl 2) (zai (zl 3) (zai (zl 4) zan)))))) (zsq (zif (zcm0 (fun a => zgt a 0) (zl 6)) (zsq (zex (zcall (M_X9_finds b) (zai (zl 1) (zai (zl 6) zan)))) zrv) zsk) (zsq (zsw (zl 2) 0 [(zsq (zex (zcall (M_X9_setLocal b) (zai (zl 1) (zai (zl 3) (zai (zcall (M_X9_sees b) (zai (zl 1) (zai (zl 4) zan))) zan))))) (zsq (zex (zcall (M_X9_happens b) (zai (zl 1) zan))) zbk)), (zsq (zex (zcall (M_X9_setLocal b) (zai (zl 1) (zai (zl 3) (zai (zcall (M_X9_sees b) (zai (zl 1) (zai (zcall (M_X9_field b) (zai (zl 1) (zai (zl 4) (zai (zl 5) zan)))) zan))) zan))))) (zsq (zex (zcall (M_X9_happens b) (zai (zl 1) zan))) zbk)), (zsq (zex (zcall (M_X9_writes b) (zai (zl 1) (zai (zl 3) (zai (zcall (M_X9_localOf b) (zai (zl 1) (zai (zl 4) zan))) zan))))) (zsq (zex (zcall (M_X9_happens b) (zai (zl 1) zan))) zbk)), (zsq (zex (zcall (M_X9_writes b) (zai (zl 1) (zai (zcall (M_X9_field b) (zai (zl 1) (zai (zl 3) (zai (zl 4) zan)))) (zai (zcall (M_X9_localOf b) (zai (zl 1) (zai (zl 5) zan))) zan))))) (zsq (zex (zcall (M_X9_happens b) (zai (zl 1) zan))) zbk)), (zsq (zex (zcall (M_X9_swaps b) (zai (zl 1) (zai (zl 3) (zai (zcall (M_X9_localOf b) (zai (zl 1) (zai (zl 4) zan))) (zai (zcall (M_X9_localOf b) (zai (zl 1) (zai (zl 5) zan))) zan)))))) zbk), (zsq (zex (zcall (M_X9_swaps b) (zai (zl 1) (zai (zcall (M_X9_field b) (zai (zl 1) (zai (zl 3) (zai (zk 0) zan)))) (zai (zcall (M_X9_localOf b) (zai (zl 1) (zai (zl 4) zan))) (zai (zcall (M_X9_localOf b) (zai (zl 1) (zai (zl 5) zan))) zan)))))) zbk), (zsq (zex (zcall (M_X9_adds b) (zai (zl 1) (zai (zl 3) (zai (zl 4) zan))))) (zsq (zex (zcall (M_X9_happens b) (zai (zl 1) zan))) zbk))] (zex (zcall (M_X9_other b) (zai (zl 1) (zai (zl 2) (zai (zl 3) (zai (zl 4) zan))))))) (zif (zcmp zne (zl 2) (zk 13)) (zao (b + 3) 100 (zbin ziadd (zcall (M_X9_at) (zai (zl 1) zan)) (zk 2)) ziadd (zk 1)) zsk))))))))
def M_X9_memory (b : Nat) (vs : List Int32) (μ : zM) : Option (Int32 × zM) := match vs with
  | [v1] => zfo0 (B_X9_memory b) (zenv [(1, v1)]) μ
  | _ => none
abbrev rm_X9_memory : Room := { frames := 5, cells := 0, slots := 0, locals := 115 }
def B_X9_steps (b : Nat) : zT := (zsq (zse 2 (zcall (M_X9_at) (zai (zl 1) zan))) (zsq (zpz b 4 (zk 0)) (zsq (zpf b 5 (zk 0)) (zsq (zif (zcm0 (fun a => zeq a 0) (zald (b + 3) 100 (zbin ziadd (zl 2) (zk 1)))) (zsq (zex (zcall (M_X9_begins b) (zai (zl 1) zan))) (zsq (zif (zcm0 (fun a => zlt a 0) (zald (b + 2) 960 (zbin ziadd (zk 0) (zcall (M_X9_routineOf b) (zai (zl 1) zan))))) (zsq (zex (zcall (M_X9_finds b) (zai (zl 1) (zai (zk 1) zan)))) zrv) zsk) (zsq (zex (zcall (M_X9_owns b) (zai (zl 1) zan))) (zif (zcm0 (fun a => zgt a 0) (zald (b + 3) 100 (zbin ziadd (zl 2) (zk 3)))) zrv zsk)))) zsk) (zsq (zif (zcm0 (fun a => zlt a 0) (zcall (M_X9_opAt b) (zai (zl 1) zan))) (zsq (zex (zcall (M_X9_finds b) (zai (zl 1) (zai (zk 3) zan)))) zrv) zsk) (zsq (zex (zcall (M_X9_memory b) (zai (zl 1) zan))) (zif (zand (zcm0 (fun a => zeq a 0) (zald (b + 3) 100 (zbin ziadd (zl 2) (zk 3)))) (zcmp zeq (zald (b + 3) 100 (zbin ziadd (zl 2) (zk 1))) (zk 1))) (zex (zcall (M_X9_owns b) (zai (zl 1) zan))) zsk)))))))
def M_X9_steps (b : Nat) (vs : List Int32) (μ : zM) : Option (Int32 × zM) := match vs with
  | [v1] => zfo0 (B_X9_steps b) (zenv [(1, v1)]) μ
  | _ => none
abbrev rm_X9_steps : Room := { frames := 6, cells := 0, slots := 0, locals := 141 }
def B_X9_chooses (b : Nat) : zT := (zsq (zpz b 4 (zk 0)) (zif (zcmp zgt (zl 1) (zk 2)) (zex (zcall (M_X9_comes b) (zai (zbin zisub (zl 1) (zk 3)) zan))) (zex (zcall (M_X9_steps b) (zai (zl 1) zan)))))
def M_X9_chooses (b : Nat) (vs : List Int32) (μ : zM) : Option (Int32 × zM) := match vs with
  | [v1] => zfo0 (B_X9_chooses b) (zenv [(1, v1)]) μ
  | _ => none
abbrev rm_X9_chooses : Room := { frames := 7, cells := 0, slots := 0, locals := 163 }
def B_X9_prepared (b : Nat) : zT := (zsq (zsq (zse 1 (zk 0)) (zwh zFU (zcmp zlt (zl 1) (zk 100)) (zas (b + 3) 100 (zl 1) (zk 0)) (zse 1 (zbin ziadd (zl 1) (zk 1))))) (zsq (zpz b 3 (zk 1)) (zsq (zse 1 (zk 0)) (zsq (zse 2 (zk 0)) (zsq (zwh zFU (zand (zcmp zlt (zald (b + 3) 100 (zk 27)) (zald (b + 2) 960 (zk 915))) (zcm0 (fun a => zeq a 0) (zl 1))) (zsq (zex (zcall (M_X9_steps b) (zai (zk 0) zan))) (zsq (zse 2 (zbin ziadd (zl 2) (zk 1))) (zsq (zse 1 (zcond (zcm0 (fun a => zgt a 0) (zald (b + 3) 100 (zk 30))) (zald (b + 3) 100 (zk 30)) (zcond (zand (znt (zcm0 (fun a => zne a 0) (zfd b 4))) (zcmp zeq (zl 2) (zk 60))) (zk 6) (zk 0)))) (zse 2 (zcond (zcm0 (fun a => zne a 0) (zfd b 4)) (zk 0) (zl 2)))))) zsk) (zsq (zpz b 3 (zk 0)) (zsq (zsq (zse 3 (zk 0)) (zwh zFU (zcmp zlt (zl 3) (zk 18)) (zas (b + 3) 100 (zbin ziadd (zk 27) (zl 3)) (zk 0)) (zse 3 (zbin ziadd (zl 3) (zk 1))))) (zrt (zl 1)))))))))
def M_X9_prepared (b : Nat) (vs : List Int32) (μ : zM) : Option (Int32 × zM) := match vs with
  | [] => zfi (B_X9_prepared b) (zenv []) μ
  | _ => none
abbrev rm_X9_prepared : Room := { frames := 7, cells := 0, slots := 0, locals := 163 }
def B_X9_agreesNow (b : Nat) : zT := (zsq (zif (zcm0 (fun a => zne a 0) (zcall (M_X9_hasFinding b) zan)) (zrt (zk 0)) zsk) (zsq (zif (zcm0 (fun a => zeq a 0) (zald (b + 2) 960 (zk 950))) (zrt (zk 1)) zsk) (zsq (zse 1 (zcall (M_X9_callMany b) zan)) (zsq (zse 2 (zk 0)) (zsq (zse 3 (zk 0)) (zsq (zse 4 (zk 0)) (zwh zFU (zcb true) (zsq (zif (zcmp zeq (zl 2) (zl 1)) (zrt (zk 1)) zsk) (zsq (zse 5 (zl 4)) (zsq (zwh zFU (zand (zcmp zlt (zl 5) (zk 9)) (znt (zcm0 (fun a => zne a 0) (zcall (M_X9_mayStand b) (zai (zl 5) (zai (zl 3) (zai (zl 2) zan))))))) (zse 5 (zbin ziadd (zl 5) (zk 1))) zsk) (zif (zcmp zlt (zl 5) (zk 9)) (zsq (zse 3 (zbin zior (zl 3) (zbin zishl (zk 1) (zl 5)))) (zsq (zse 2 (zbin ziadd (zl 2) (zk 1))) (zse 4 (zk 0)))) (zsq (zif (zcm0 (fun a => zeq a 0) (zl 2)) (zrt (zk 0)) zsk) (zsq (zse 2 (zbin ziadd (zl 2) (zk (-1)))) (zsq (zse 3 (zbin ziand (zl 3) (zbin zixor (zbin zishl (zk 1) (zald (b + 5) 7 (zl 2))) (zk (-1))))) (zse 4 (zbin ziadd (zald (b + 5) 7 (zl 2)) (zk 1)))))))))) zsk)))))))
def M_X9_agreesNow (b : Nat) (vs : List Int32) (μ : zM) : Option (Int32 × zM) := match vs with
  | [] => zfz (B_X9_agreesNow b) (zenv []) μ
  | _ => none
abbrev rm_X9_agreesNow : Room := { frames := 4, cells := 0, slots := 0, locals := 98 }
def B_X9_begin (b : Nat) : zT := (zsq (zex (zcall (M_X9_use b) (zai (zk 0) zan))) (zsq (zif (zcm0 (fun a => zeq a 0) (zcall (M_X9_callMany b) zan)) (zrt (zk (-2))) zsk) (zsq (zse 1 (zcall (M_X9_prepared b) zan)) (zsq (zpz b 11 (zcond (zcm0 (fun a => zeq a 0) (zl 1)) (zk 1) (zk 0))) (zsq (zif (zcm0 (fun a => zgt a 0) (zl 1)) (zrt (zbin zisub (zk (-10)) (zl 1))) zsk) (zsq (zex (zcall (M_X9_keepProgram b) (zai (zk 1) zan))) (zsq (zex (zcall (M_X9_keepRun b) zan)) (zsq (zpz b 11 (zk 1)) (zsq (zpf b 12 (zk 0)) (zsq (zpf b 13 (zk (-1))) (zrt (zk 1))))))))))))
def M_X9_begin (b : Nat) (vs : List Int32) (μ : zM) : Option (Int32 × zM) := match vs with
  | [] => zfi (B_X9_begin b) (zenv []) μ
  | _ => none
abbrev rm_X9_begin : Room := { frames := 8, cells := 0, slots := 0, locals := 186 }
def B_X9_step (b : Nat) : zT := (zsq (zif (znt (zcm0 (fun a => zne a 0) (zcall M_X9_in (zai (zl 1) (zai (zk 0) (zai (zk 5) zan)))))) (zrt (zk (-1))) zsk) (zsq (zif (znt (zcm0 (fun a => zne a 0) (zfd b 11))) (zrt (zk (-2))) zsk) (zsq (zex (zcall (M_X9_takeRun b) zan)) (zsq (zif (znt (zcm0 (fun a => zne a 0) (zcall (M_X9_isThere b) (zai (zl 1) zan)))) (zrt (zk (-2))) zsk) (zsq (zif (zcmp zeq (zfd b 12) (zk 100)) (zrt (zk (-3))) zsk) (zsq (zex (zcall (M_X9_chooses b) (zai (zl 1) zan))) (zsq (zex (zcall (M_X9_keepRun b) zan)) (zsq (zfo b 12 ziadd (zk 1)) (zsq (zpf b 13 (zl 1)) (zrt (zfd b 12)))))))))))
def M_X9_step (b : Nat) (vs : List Int32) (μ : zM) : Option (Int32 × zM) := match vs with
  | [v1] => zfi (B_X9_step b) (zenv [(1, v1)]) μ
  | _ => none
abbrev rm_X9_step : Room := { frames := 8, cells := 0, slots := 0, locals := 184 }
def B_X9_run (b : Nat) : zT := (zsq (zif (znt (zcm0 (fun a => zne a 0) (zcall M_X9_in (zai (zl 1) (zai (zk 1) (zai (zk 100) zan)))))) (zrt (zk (-1))) zsk) (zsq (zif (znt (zcm0 (fun a => zne a 0) (zfd b 11))) (zrt (zk (-2))) zsk) (zsq (zex (zcall (M_X9_takeRun b) zan)) (zsq (zse 2 (zk 0)) (zsq (zse 3 (zk 1)) (zsq (zwh zFU (zand (zand (zcm0 (fun a => zne a 0) (zl 3)) (zcmp zlt (zl 2) (zl 1))) (zcmp zlt (zfd b 12) (zk 100))) (zsq (zse 3 (zk 0)) (zsq (zse 4 (zk 1)) (zwh zFU (zand (zcmp zlt (zl 4) (zk 7)) (znt (zcm0 (fun a => zne a 0) (zl 3)))) (zsq (zse 5 (zbiq zirem (zbin ziadd (zbin ziadd (zfd b 13) (zl 4)) (zk 6)) (zk 6))) (zif (zcm0 (fun a => zne a 0) (zcall (M_X9_isThere b) (zai (zl 5) zan))) (zsq (zse 3 (zk 1)) (zsq (zex (zcall (M_X9_chooses b) (zai (zl 5) zan))) (zsq (zpf b 13 (zl 5)) (zsq (zfo b 12 ziadd (zk 1)) (zse 2 (zbin ziadd (zl 2) (zk 1))))))) zsk)) (zse 4 (zbin ziadd (zl 4) (zk 1)))))) zsk) (zsq (zex (zcall (M_X9_keepRun b) zan)) (zrt (zl 2)))))))))
def M_X9_run (b : Nat) (vs : List Int32) (μ : zM) : Option (Int32 × zM) := match vs with
  | [v1] => zfi (B_X9_run b) (zenv [(1, v1)]) μ
  | _ => none
abbrev rm_X9_run : Room := { frames := 8, cells := 0, slots := 0, locals := 184 }
def B_X9_agrees (b : Nat) : zT := (zsq (zif (znt (zcm0 (fun a => zne a 0) (zfd b 11))) (zrt (zk (-2))) zsk) (zsq (zex (zcall (M_X9_takeRun b) zan)) (zrt (zcond (znt (zcm0 (fun a => zne a 0) (zcall (M_X9_isEnd b) zan))) (zk (-2)) (zcond (zcm0 (fun a => zne a 0) (zcall (M_X9_agreesNow b) zan)) (zk 1) (zk 0))))))
def M_X9_agrees (b : Nat) (vs : List Int32) (μ : zM) : Option (Int32 × zM) := match vs with
  | [] => zfi (B_X9_agrees b) (zenv []) μ
  | _ => none
abbrev rm_X9_agrees : Room := { frames := 5, cells := 0, slots := 0, locals := 123 }
def B_X9_keep (b : Nat) : zT := (zsq (zse 4 (zfd b 17)) (zsq (zsq (zse 5 (zk 0)) (zwh zFU (zcmp zlt (zl 5) (zk 100)) (zas (b + 7) 150000 (zbin ziadd (zbin zimul (zk 100) (zl 4)) (zl 5)) (zald (b + 3) 100 (zl 5))) (zse 5 (zbin ziadd (zl 5) (zk 1))))) (zsq (zas (b + 8) 1500 (zl 4) (zl 1)) (zsq (zas (b + 10) 1500 (zl 4) (zald (b + 9) 2048 (zbin ziand (zl 1) (zk 2047)))) (zsq (zas (b + 9) 2048 (zbin ziand (zl 1) (zk 2047)) (zbin ziadd (zl 4) (zk 1))) (zsq (zas (b + 13) 1500 (zl 4) (zl 2)) (zsq (zas (b + 14) 1500 (zl 4) (zl 3)) (zsq (zse 5 (zcall (M_X9_isEnd b) zan)) (zsq (zas (b + 15) 1500 (zl 4) (zbin zior (zbin zior (zbin zior (zcond (zcm0 (fun a => zne a 0) (zl 5)) (zk 1) (zk 0)) (zcond (zand (zcm0 (fun a => zne a 0) (zl 5)) (zcm0 (fun a => zne a 0) (zcall (M_X9_agreesNow b) zan))) (zk 2) (zk 0))) (zcond (zand (zand (zcm0 (fun a => zne a 0) (zl 5)) (zcm0 (fun a => zgt a 0) (zald (b + 2) 960 (zk 950)))) (zcm0 (fun a => zne a 0) (zcall (M_X9_keepsNow b) zan))) (zk 4) (zk 0))) (zcond (zcm0 (fun a => zne a 0) (zcall (M_X9_hasFinding b) zan)) (zk 8) (zk 0)))) (zsq (zse 6 (zk 0)) (zsq (zsq (zse 7 (zk 0)) (zwh zFU (zcmp zlt (zl 7) (zk 6)) (zse 6 (zbin ziadd (zl 6) (zcond (zcmp zgt (zald (b + 3) 100 (zbin ziadd (zk 20) (zl 7))) (zk 1)) (zk 1) (zk 0)))) (zse 7 (zbin ziadd (zl 7) (zk 1))))) (zsq (zas (b + 16) 1500 (zl 4) (zl 6)) (zfo b 17 ziadd (zk 1))))))))))))))
def M_X9_keep (b : Nat) (vs : List Int32) (μ : zM) : Option (Int32 × zM) := match vs with
  | [v1, v2, v3] => zfo0 (B_X9_keep b) (zenv [(1, v1), (2, v2), (3, v3)]) μ
  | _ => none
abbrev rm_X9_keep : Room := { frames := 5, cells := 0, slots := 0, locals := 123 }
def B_X9_goesOn (b : Nat) : zT := (zsq (zas (b + 11) 9000 (zbin ziadd (zbin zimul (zk 6) (zl 1)) (zl 2)) (zk (-4))) (zsq (zex (zcall (M_X9_load b) (zai (zl 1) zan))) (zsq (zif (znt (zcm0 (fun a => zne a 0) (zcall (M_X9_isThere b) (zai (zl 2) zan)))) zrv zsk) (zsq (zex (zcall (M_X9_chooses b) (zai (zl 2) zan))) (zsq (zaz (b + 12) 9000 (zbin ziadd (zbin zimul (zk 6) (zl 1)) (zl 2)) (zfd b 4)) (zsq (zse 3 (zcall (M_X9_sumNow b) zan)) (zsq (zse 4 (zcall (M_X9_found b) (zai (zl 3) zan))) (zsq (zif (zand (zcm0 (fun a => zlt a 0) (zl 4)) (zcmp zeq (zfd b 17) (zk 1500))) (zsq (zpz b 18 (zk 1)) zrv) zsk) (zsq (zif (zcm0 (fun a => zlt a 0) (zl 4)) (zsq (zse 4 (zfd b 17)) (zex (zcall (M_X9_keep b) (zai (zl 3) (zai (zl 1) (zai (zl 2) zan)))))) zsk) (zsq (zas (b + 11) 9000 (zbin ziadd (zbin zimul (zk 6) (zl 1)) (zl 2)) (zl 4)) (zfo b 19 ziadd (zk 1))))))))))))
def M_X9_goesOn (b : Nat) (vs : List Int32) (μ : zM) : Option (Int32 × zM) := match vs with
  | [v1, v2] => zfo0 (B_X9_goesOn b) (zenv [(1, v1), (2, v2)]) μ
  | _ => none
abbrev rm_X9_goesOn : Room := { frames := 8, cells := 0, slots := 0, locals := 184 }
def B_X9_isAlone (b : Nat) : zT := (zsq (zex (zcall (M_X9_load b) (zai (zl 1) zan))) (zsq (zse 3 (zcall (M_X9_at) (zai (zl 2) zan))) (zsq (zif (zor (zcm0 (fun a => zeq a 0) (zald (b + 3) 100 (zbin ziadd (zl 3) (zk 1)))) (zcm0 (fun a => zgt a 0) (zald (b + 3) 100 (zbin ziadd (zl 3) (zk 3))))) (zrt (zk 1)) zsk) (zsq (zse 4 (zk 0)) (zsq (zsq (zse 5 (zk 0)) (zwh zFU (zand (zcmp zlt (zl 5) (zk 60)) (znt (zcm0 (fun a => zne a 0) (zl 4)))) (zsq (zex (zcall (M_X9_steps b) (zai (zl 2) zan))) (zse 4 (zcond (zor (zcm0 (fun a => zne a 0) (zfd b 4)) (zcm0 (fun a => zgt a 0) (zald (b + 3) 100 (zbin ziadd (zl 3) (zk 3))))) (zk 1) (zk 0)))) (zse 5 (zbin ziadd (zl 5) (zk 1))))) (zrt (zl 4)))))))
def M_X9_isAlone (b : Nat) (vs : List Int32) (μ : zM) : Option (Int32 × zM) := match vs with
  | [v1, v2] => zfz (B_X9_isAlone b) (zenv [(1, v1), (2, v2)]) μ
  | _ => none
abbrev rm_X9_isAlone : Room := { frames := 7, cells := 0, slots := 0, locals := 163 }
def B_X9_firstNotAlone (b : Nat) : zT := (zsq (zex (zcall (M_X9_use b) (zai (zk 2) zan))) (zsq (zsq (zse 1 (zk 0)) (zwh zFU (zcmp zlt (zl 1) (zfd b 17)) (zif (zor (zor (znt (zcm0 (fun a => zne a 0) (zcall (M_X9_isAlone b) (zai (zl 1) (zai (zk 0) zan))))) (znt (zcm0 (fun a => zne a 0) (zcall (M_X9_isAlone b) (zai (zl 1) (zai (zk 1) zan)))))) (znt (zcm0 (fun a => zne a 0) (zcall (M_X9_isAlone b) (zai (zl 1) (zai (zk 2) zan)))))) (zrt (zl 1)) zsk) (zse 1 (zbin ziadd (zl 1) (zk 1))))) (zrt (zk (-4)))))
def M_X9_firstNotAlone (b : Nat) (vs : List Int32) (μ : zM) : Option (Int32 × zM) := match vs with
  | [] => zfi (B_X9_firstNotAlone b) (zenv []) μ
  | _ => none
abbrev rm_X9_firstNotAlone : Room := { frames := 8, cells := 0, slots := 0, locals := 188 }
def B_X9_first (b : Nat) : zT := (zsq (zif (zcm0 (fun a => zlt a 0) (zl 1)) (zrt (zk (-1))) zsk) (zsq (zif (znt (zcm0 (fun a => zne a 0) (zfd b 16))) (zrt (zk (-2))) zsk) (zsw (zl 1) 0 [(zrt (zcall (M_X9_firstMarked b) (zai (zk 3) (zai (zk 1) zan)))), (zrt (zcond (zcm0 (fun a => zeq a 0) (zald (b + 1) 2880 (zk 2870))) (zk (-4)) (zcall (M_X9_firstMarked b) (zai (zk 5) (zai (zk 1) zan))))), (zrt (zcall (M_X9_firstMarked b) (zai (zk 8) (zai (zk 8) zan)))), (zrt (zcall (M_X9_firstNotAlone b) zan)), (zrt (zcall (M_X9_firstInRing b) zan)), (zsq (zse 2 (zcall (M_X9_mostWaiting b) zan)) (zsq (zse 3 (zk 0)) (zsq (zwh zFU (zcmp zne (zald (b + 16) 1500 (zl 3)) (zl 2)) (zse 3 (zbin ziadd (zl 3) (zk 1))) zsk) (zrt (zl 3)))))] (zrt (zcall (M_X9_endAt b) (zai (zbin zisub (zl 1) (zk 6)) zan))))))
def M_X9_first (b : Nat) (vs : List Int32) (μ : zM) : Option (Int32 × zM) := match vs with
  | [v1] => zfi (B_X9_first b) (zenv [(1, v1)]) μ
  | _ => none
abbrev rm_X9_first : Room := { frames := 9, cells := 0, slots := 0, locals := 209 }
def B_X5_perform (b : Nat) : zT := (zsq (zse 4 (zald (b + 1 + 1) 900 (zbin ziadd (zl 2) (zk 1)))) (zsq (zse 5 (zald (b + 1 + 1) 900 (zbin ziadd (zl 2) (zk 2)))) (zsq (zse 6 (zald (b + 1 + 1) 900 (zbin ziadd (zl 2) (zk 3)))) (zsw (zald (b + 1 + 1) 900 (zl 2)) 0 [(zsq (zas (b + 8) 118 (zbin ziadd (zl 1) (zl 4)) (zcall (M_X5_seen b) (zai (zl 1) (zai (zl 5) zan)))) zbk), (zsq (zas (b + 8) 118 (zbin ziadd (zl 1) (zl 4)) (zcall (M_X5_seen b) (zai (zl 1) (zai (zcall (M_X4_ofField) (zai (zcall (M_X7_amount) (zai (zald (b + 8) 118 (zbin ziadd (zl 1) (zl 5))) zan)) (zai (zl 6) zan))) zan)))) zbk), (zsq (zex (zcall (M_X5_write b) (zai (zl 1) (zai (zl 4) (zai (zald (b + 8) 118 (zbin ziadd (zl 1) (zl 5))) zan))))) zbk), (zsq (zex (zcall (M_X5_write b) (zai (zl 1) (zai (zcall (M_X4_ofField) (zai (zcall (M_X7_amount) (zai (zald (b + 8) 118 (zbin ziadd (zl 1) (zl 4))) zan)) (zai (zl 5) zan))) (zai (zald (b + 8) 118 (zbin ziadd (zl 1) (zl 6))) zan))))) zbk), (zsq (zex (zcall (M_X5_swap b) (zai (zl 1) (zai (zl 4) (zai (zald (b + 8) 118 (zbin ziadd (zl 1) (zl 5))) (zai (zald (b + 8) 118 (zbin ziadd (zl 1) (zl 6))) zan)))))) zbk), (zsq (zex (zcall (M_X5_swap b) (zai (zl 1) (zai (zcall (M_X4_ofField) (zai (zcall (M_X7_amount) (zai (zald (b + 8) 118 (zbin ziadd (zl 1) (zl 4))) zan)) (zai (zk 0) zan))) (zai (zald (b + 8) 118 (zbin ziadd (zl 1) (zl 5))) (zai (zald (b + 8) 118 (zbin ziadd (zl 1) (zl 6))) zan)))))) zbk), (zsq (zas (b + 8) 118 (zbin ziadd (zl 1) (zk 5)) (zcall (M_X7_ofNumber) (zai (zbin ziadd (zcall (M_X7_amount) (zai (zald (b + 8) 118 (zl 4)) zan)) (zl 5)) zan))) (zsq (zex (zcall (M_X5_store b) (zai (zl 4) (zai (zbin zishr (zald (b + 8) 118 (zbin ziadd (zl 1) (zk 5))) (zk 2)) zan)))) zbk)), zsk, (zsq (zas (b + 8) 118 (zbin ziadd (zl 1) (zl 4)) (zcall (M_X5_takeNode b) zan)) zbk), (zsq (zex (zcall (M_X5_release b) (zai (zcall (M_X7_amount) (zai (zald (b + 8) 118 (zbin ziadd (zl 1) (zl 4))) zan)) zan))) zbk), (zsq (zas (b + 8) 118 (zbin ziadd (zbin ziadd (zl 1) (zk 6)) (zl 4)) (zcall (M_X5_guardFor) (zai (zald (b + 8) 118 (zbin ziadd (zl 1) (zl 5))) zan))) zbk), (zsq (zas (b + 8) 118 (zbin ziadd (zl 1) (zk 8)) (zbin ziadd (zald (b + 8) 118 (zk 26)) (zk 1))) zbk), (zsq (zas (b + 8) 118 (zbin ziadd (zl 1) (zk 8)) (zk 0)) zbk), (zsq (zex (zcall (M_X5_endCall b) (zai (zl 1) (zai (zl 3) (zai (zcall (M_X7_answerFrom) (zai (zald (b + 8) 118 (zbin ziadd (zl 1) (zl 4))) zan)) zan))))) zbk)] zsk))))
def M_X5_perform (b : Nat) (vs : List Int32) (μ : zM) : Option (Int32 × zM) := match vs with
  | [v1, v2, v3] => zfo0 (B_X5_perform b) (zenv [(1, v1), (2, v2), (3, v3)]) μ
  | _ => none
abbrev rm_X5_perform : Room := { frames := 3, cells := 0, slots := 0, locals := 78 }
def B_X5_letComeUntil (b : Nat) : zT := (zsq (zse 3 (zald (b + 8) 118 (zbin ziadd (zl 1) (zk 13)))) (zwh zFU (zcmp zgt (zl 3) (zl 2)) (zex (zcall (M_X5_comeOldest b) (zai (zl 1) zan))) (zse 3 (zbin ziadd (zl 3) (zk (-1))))))
def M_X5_letComeUntil (b : Nat) (vs : List Int32) (μ : zM) : Option (Int32 × zM) := match vs with
  | [v1, v2] => zfo0 (B_X5_letComeUntil b) (zenv [(1, v1), (2, v2)]) μ
  | _ => none
abbrev rm_X5_letComeUntil : Room := { frames := 2, cells := 0, slots := 0, locals := 46 }
def B_X5_settle (b : Nat) : zT := (zsq (zse 2 (zcond (zor (zcmp zeq (zl 1) (zk 9)) (zcmp zeq (zl 1) (zk 13))) (zk 1) (zk 0))) (zsq (zif (zand (zcmp zeq (zfd (b + 1) 6) (zk 3)) (zor (zcm0 (fun a => zne a 0) (zl 2)) (zcmp zeq (zl 1) (zk 10)))) (zex (zcall (M_X5_freeUnguarded b) zan)) zsk) (zif (zand (zcmp zeq (zfd (b + 1) 6) (zk 4)) (zor (zor (zcm0 (fun a => zne a 0) (zl 2)) (zcmp zeq (zl 1) (zk 11))) (zcmp zeq (zl 1) (zk 12)))) (zex (zcall (M_X5_turnEpoch b) zan)) zsk)))
def M_X5_settle (b : Nat) (vs : List Int32) (μ : zM) : Option (Int32 × zM) := match vs with
  | [v1] => zfo0 (B_X5_settle b) (zenv [(1, v1)]) μ
  | _ => none
abbrev rm_X5_settle : Room := { frames := 3, cells := 0, slots := 0, locals := 66 }
def B_X3_fillFirstShelf (b : Nat) (q1 : Nat) : zT := (zsq (zex (zcall (M_fillD 13 (b + 1 + 1)) (zaq 7 (zk 0) (zai (zk 0) zan)))) (zsq (zse 2 (zk 0)) (zwh zFU (zcmp zlt (zl 2) (zald (q1 + 4) 4 (zk 3))) (zex (zcall (M_X3_serveD q1 (b + 1 + 1)) (zai (zbin ziadd (zk 9) (zl 2)) (zai (zk 0) (zaq 7 (zk 0) zan))))) (zse 2 (zbin ziadd (zl 2) (zk 1))))))
def M_X3_fillFirstShelf (b : Nat) (q1 : Nat) (vs : List Int32) (μ : zM) : Option (Int32 × zM) := match vs with
  | [] => zfo0 (B_X3_fillFirstShelf b q1) (zenv []) μ
  | _ => none
abbrev rm_X3_fillFirstShelf : Room := { frames := 2, cells := 0, slots := 0, locals := 46 }
def B_X3_extendOrder (F : List Int32 → zM → Option (Int32 × zM)) (b : Nat) (q1 : Nat) : zT := (zsq (zif (zor (zcmp zge (zl 2) (zcall (M_X6_total (q1 + 1)) zan)) (zcmp zge (zl 2) (zk 6))) (zrt (zk 1)) zsk) (zsq (zsq (zse 4 (zk 0)) (zwh zFU (zcmp zlt (zl 4) (zk 9)) (zsq (zif (znt (zcm0 (fun a => zne a 0) (zcall (M_X3_canFollow q1) (zai (zl 4) (zai (zl 3) zan))))) zcn zsk) (zsq (zcyd (b + 1 + 1) 7 13 (zl 2) (zbin ziadd (zl 2) (zk 1)) (zk 0) (zk 0) (zk 13)) (zsq (zse 5 (zcall (M_X3_serveD (q1 + 1) (b + 1 + 1)) (zai (zl 4) (zai (zald (q1 + 8) 118 (zbin ziadd (zk 28) (zl 4))) (zaq 7 (zbin ziadd (zl 2) (zk 1)) zan))))) (zsq (zif (zand (zcm0 (fun a => zne a 0) (zl 5)) (zcm0 (fun a => zne a 0) (zcall F (zai (zbin ziadd (zl 2) (zk 1)) (zai (zbin zior (zl 3) (zbin zishl (zk 1) (zl 4))) zan))))) (zrt (zk 1)) zsk) (zif (zcm0 (fun a => zeq a 0) (zald (q1 + 1 + 3) 6 (zald (q1 + 1 + 5) 13 (zl 4)))) (zrt (zk 0)) zsk))))) (zse 4 (zbin ziadd (zl 4) (zk 1))))) (zrt (zk 0))))
def M_X3_extendOrderN : Nat → Nat → Nat → List Int32 → zM → Option (Int32 × zM)
  | 0, _, _ => fun _ _ => none
  | n + 1, b, q1 => fun vs μ => match vs with
    | [v1, v2] => zfz (B_X3_extendOrder (M_X3_extendOrderN n b q1) b q1) (zenv [(2, v1), (3, v2)]) μ
    | _ => none
def M_X3_extendOrder (b : Nat) (q1 : Nat) : List Int32 → zM → Option (Int32 × zM) := M_X3_extendOrderN 8 b q1
abbrev rm_X3_extendOrderN (n : Nat) : Room := { frames := 2 + n, cells := 0, slots := 0, locals := 46 + n * 25 }
abbrev rm_X3_extendOrder : Room := rm_X3_extendOrderN 8
def B_X1_keep (b : Nat) : zT := (zsq (zse 3 (zcall (M_X1_findPlace b) zan)) (zsq (zif (zcm0 (fun a => zne a 0) (zald (b + 16) 4096 (zl 3))) (zrt (zbin zisub (zald (b + 16) 4096 (zl 3)) (zk 1))) zsk) (zsq (zif (zcmp zge (zfd b 11) (zk 1500)) (zsq (zpz b 10 (zk 1)) (zrt (zk (-4)))) zsk) (zsq (zcy (b + 1 + 8) (b + 10) 118 150000 (zk 0) (zbin zimul (zfd b 11) (zk 100)) (zk 100)) (zsq (zas (b + 12) 1500 (zfd b 11) (zl 1)) (zsq (zas (b + 13) 1500 (zfd b 11) (zl 2)) (zsq (zas (b + 14) 1500 (zfd b 11) (zcond (zcmp zeq (zl 2) (zk (-4))) (zk 0) (zbin ziadd (zald (b + 14) 1500 (zl 1)) (zk 1)))) (zsq (zfo b 11 ziadd (zk 1)) (zsq (zas (b + 16) 4096 (zl 3) (zfd b 11)) (zrt (zbin zisub (zfd b 11) (zk 1))))))))))))
def M_X1_keep (b : Nat) (vs : List Int32) (μ : zM) : Option (Int32 × zM) := match vs with
  | [v1, v2] => zfi (B_X1_keep b) (zenv [(1, v1), (2, v2)]) μ
  | _ => none
abbrev rm_X1_keep : Room := { frames := 2, cells := 0, slots := 0, locals := 46 }
def B_X1_countResults (b : Nat) : zT := (zsq (zex (zcall (M_fill 4096 (b + 16)) (zai (zk 0) zan))) (zsq (zse 1 (zk 0)) (zsq (zsq (zse 2 (zk 0)) (zwh zFU (zcmp zlt (zl 2) (zfd b 11)) (zif (zand (zcmp zeq (zbin ziand (zald (b + 15) 1500 (zl 2)) (zk 3)) (zk 1)) (zcm0 (fun a => zne a 0) (zcall (M_X1_isNewResult b) (zai (zl 2) zan)))) (zse 1 (zbin ziadd (zl 1) (zk 1))) zsk) (zse 2 (zbin ziadd (zl 2) (zk 1))))) (zrt (zl 1)))))
def M_X1_countResults (b : Nat) (vs : List Int32) (μ : zM) : Option (Int32 × zM) := match vs with
  | [] => zfi (B_X1_countResults b) (zenv []) μ
  | _ => none
abbrev rm_X1_countResults : Room := { frames := 2, cells := 0, slots := 0, locals := 49 }
def B_X0_leave (b : Nat) : zT := (zsq (zfo b 7 zisub (zk 1)) (zsq (zif (zcm0 (fun a => zgt a 0) (zfd b 7)) (zsq (zse 2 (zald (b + 4) 1500 (zbin zisub (zfd b 7) (zk 1)))) (zas (b + 2) 1500 (zl 2) (zbin zmin (zald (b + 2) 1500 (zl 2)) (zald (b + 2) 1500 (zl 1))))) zsk) (zif (zcmp zeq (zald (b + 2) 1500 (zl 1)) (zald (b + 1) 1500 (zl 1))) (zex (zcall (M_X0_close b) (zai (zl 1) zan))) zsk)))
def M_X0_leave (b : Nat) (vs : List Int32) (μ : zM) : Option (Int32 × zM) := match vs with
  | [v1] => zfo0 (B_X0_leave b) (zenv [(1, v1)]) μ
  | _ => none
abbrev rm_X0_leave : Room := { frames := 2, cells := 0, slots := 0, locals := 45 }
def B_X9_explore (b : Nat) : zT := (zsq (zex (zcall (M_X9_use b) (zai (zk 0) zan))) (zsq (zif (zcm0 (fun a => zeq a 0) (zcall (M_X9_callMany b) zan)) (zrt (zk (-2))) zsk) (zsq (zif (zcmp zeq (zfd b 15) (zk 12)) (zrt (zk (-3))) zsk) (zsq (zfo b 15 ziadd (zk 1)) (zsq (zse 1 (zcall (M_X9_prepared b) zan)) (zsq (zpz b 16 (zcond (zcm0 (fun a => zeq a 0) (zl 1)) (zk 1) (zk 0))) (zsq (zif (zcm0 (fun a => zgt a 0) (zl 1)) (zrt (zbin zisub (zk (-10)) (zl 1))) zsk) (zsq (zex (zcall (M_X9_keepProgram b) (zai (zk 2) zan))) (zsq (zsq (zse 2 (zk 0)) (zwh zFU (zcmp zlt (zl 2) (zk 2048)) (zas (b + 9) 2048 (zl 2) (zk 0)) (zse 2 (zbin ziadd (zl 2) (zk 1))))) (zsq (zpf b 17 (zk 0)) (zsq (zpf b 19 (zk 0)) (zsq (zpz b 18 (zk 0)) (zsq (zex (zcall (M_X9_keep b) (zai (zcall (M_X9_sumNow b) zan) (zai (zk (-1)) (zai (zk 0) zan))))) (zsq (zsq (zse 2 (zk 0)) (zwh zFU (zcmp zlt (zl 2) (zfd b 17)) (zsq (zse 3 (zk 0)) (zwh zFU (zcmp zlt (zl 3) (zk 6)) (zex (zcall (M_X9_goesOn b) (zai (zl 2) (zai (zl 3) zan)))) (zse 3 (zbin ziadd (zl 3) (zk 1))))) (zse 2 (zbin ziadd (zl 2) (zk 1))))) (zrt (zcond (zcm0 (fun a => zne a 0) (zfd b 18)) (zk (-5)) (zfd b 17)))))))))))))))))
def M_X9_explore (b : Nat) (vs : List Int32) (μ : zM) : Option (Int32 × zM) := match vs with
  | [] => zfi (B_X9_explore b) (zenv []) μ
  | _ => none
abbrev rm_X9_explore : Room := { frames := 9, cells := 0, slots := 0, locals := 208 }
def B_X5_advance (b : Nat) : zT := (zsq (zse 2 (zcall (M_X4_ofThread) (zai (zl 1) zan))) (zsq (zif (zcmp zge (zald (b + 8) 118 (zbin ziadd (zl 2) (zk 10))) (zald (b + 1 + 4) 4 (zl 1))) zrv zsk) (zsq (zse 3 (zbin ziadd (zbin zimul (zl 1) (zk 3)) (zald (b + 8) 118 (zbin ziadd (zl 2) (zk 10))))) (zsq (zse 4 (zald (b + 1 + 5) 13 (zl 3))) (zsq (zse 5 (zk 30)) (zsq (zif (zcm0 (fun a => zeq a 0) (zald (b + 8) 118 (zbin ziadd (zl 2) (zk 11)))) (zsq (zex (zcall (M_X5_beginCall b) (zai (zl 2) (zai (zl 3) zan)))) (zsq (zse 5 (zcall (M_X5_ownActs b) (zai (zl 2) (zai (zl 4) (zai (zl 5) zan))))) (zif (zcm0 (fun a => zne a 0) (zald (b + 8) 118 (zbin ziadd (zl 2) (zk 12)))) zrv zsk))) zsk) (zsq (zse 6 (zcall (M_X6_find (b + 1)) (zai (zl 4) (zai (zald (b + 8) 118 (zbin ziadd (zl 2) (zk 9))) zan)))) (zsq (zif (zand (zcm0 (fun a => zge a 0) (zl 6)) (zcm0 (fun a => zne a 0) (zcall (M_X5_waitsForWrites) (zai (zald (b + 1 + 1) 900 (zl 6)) zan)))) (zex (zcall (M_X5_letComeUntil b) (zai (zl 2) (zai (zk 0) zan)))) zsk) (zsq (zse 7 (zcond (zcm0 (fun a => zlt a 0) (zl 6)) (zk 3) (zcall (M_X5_memoryError b) (zai (zl 2) (zai (zl 6) zan))))) (zsq (zas (b + 8) 118 (zbin ziadd (zl 2) (zk 12)) (zl 7)) (zsq (zif (zcm0 (fun a => zne a 0) (zl 7)) zrv zsk) (zsq (zao (b + 8) 118 (zbin ziadd (zl 2) (zk 9)) ziadd (zk 1)) (zsq (zif (zand (zcm0 (fun a => zne a 0) (zfd b 2)) (zcm0 (fun a => zne a 0) (zcall (M_X5_appends) (zai (zald (b + 1 + 1) 900 (zl 6)) zan)))) (zex (zcall (M_X5_letComeUntil b) (zai (zl 2) (zai (zk 3) zan)))) zsk) (zsq (zex (zcall (M_X5_perform b) (zai (zl 2) (zai (zl 6) (zai (zl 3) zan))))) (zsq (zex (zcall (M_X5_noteMoment b) (zai (zl 2) (zai (zl 6) (zai (zl 3) zan))))) (zsq (zex (zcall (M_X5_settle b) (zai (zald (b + 1 + 1) 900 (zl 6)) zan))) (zif (zcm0 (fun a => zne a 0) (zald (b + 8) 118 (zbin ziadd (zl 2) (zk 11)))) (zex (zcall (M_X5_ownActs b) (zai (zl 2) (zai (zl 4) (zai (zl 5) zan))))) zsk)))))))))))))))))
def M_X5_advance (b : Nat) (vs : List Int32) (μ : zM) : Option (Int32 × zM) := match vs with
  | [v1] => zfo0 (B_X5_advance b) (zenv [(1, v1)]) μ
  | _ => none
abbrev rm_X5_advance : Room := { frames := 4, cells := 0, slots := 0, locals := 104 }
def B_X3_findsOrder (b : Nat) (q1 : Nat) : zT := (zsq (zif (zcm0 (fun a => zne a 0) (zcall (M_X5_hasError q1) zan)) (zrt (zk 0)) zsk) (zsq (zif (zcm0 (fun a => zeq a 0) (zfd (q1 + 1) 8)) (zrt (zk 1)) zsk) (zsq (zex (zcall (M_X3_fillFirstShelf b (q1 + 1)) zan)) (zrt (zcall (M_X3_extendOrder b q1) (zai (zk 0) (zai (zk 0) zan)))))))
def M_X3_findsOrder (b : Nat) (q1 : Nat) (vs : List Int32) (μ : zM) : Option (Int32 × zM) := match vs with
  | [] => zfz (B_X3_findsOrder b q1) (zenv []) μ
  | _ => none
abbrev rm_X3_findsOrder : Room := { frames := 11, cells := 0, slots := 0, locals := 271 }
def B_X3_followsMoments (b : Nat) (q1 : Nat) : zT := (zsq (zif (zcm0 (fun a => zne a 0) (zcall (M_X5_hasError q1) zan)) (zrt (zk 0)) zsk) (zsq (zex (zcall (M_X3_fillFirstShelf b (q1 + 1)) zan)) (zsq (zse 2 (zald (q1 + 8) 118 (zk 27))) (zsq (zsq (zse 3 (zk 0)) (zwh zFU (zand (zcmp zlt (zl 3) (zcall (M_X6_total (q1 + 1)) zan)) (zcmp zlt (zl 3) (zk 6))) (zsq (zse 4 (zbin zisub (zbin ziand (zbin zishr (zl 2) (zbin zimul (zk 4) (zl 3))) (zk 15)) (zk 1))) (zif (zor (zcm0 (fun a => zlt a 0) (zl 4)) (znt (zcm0 (fun a => zne a 0) (zcall (M_X3_serveD (q1 + 1) (b + 1 + 1)) (zai (zl 4) (zai (zald (q1 + 8) 118 (zbin ziadd (zk 28) (zl 4))) (zaq 7 (zk 0) zan))))))) (zrt (zk 0)) zsk)) (zse 3 (zbin ziadd (zl 3) (zk 1))))) (zrt (zk 1))))))
def M_X3_followsMoments (b : Nat) (q1 : Nat) (vs : List Int32) (μ : zM) : Option (Int32 × zM) := match vs with
  | [] => zfz (B_X3_followsMoments b q1) (zenv []) μ
  | _ => none
abbrev rm_X3_followsMoments : Room := { frames := 3, cells := 0, slots := 0, locals := 68 }
def B_X1_describe (b : Nat) (q1 : Nat) : zT := (zsq (zse 3 (zcall (M_X5_waitingNodes (b + 1)) zan)) (zsq (zse 4 (zbin zishl (zl 3) (zk 4))) (zsq (zif (zcm0 (fun a => zne a 0) (zcall (M_X5_hasError (b + 1)) zan)) (zse 4 (zbin zior (zl 4) (zk 8))) zsk) (zsq (zif (zcm0 (fun a => zne a 0) (zcall (M_X5_isAtEnd (b + 1)) zan)) (zsq (zse 4 (zbin zior (zl 4) (zk 1))) (zsq (zif (znt (zcm0 (fun a => zne a 0) (zcall (M_X3_findsOrder q1 (b + 1)) zan))) (zse 4 (zbin zior (zl 4) (zk 2))) zsk) (zif (zand (zcm0 (fun a => zne a 0) (zfd (b + 1 + 1) 8)) (znt (zcm0 (fun a => zne a 0) (zcall (M_X3_followsMoments q1 (b + 1)) zan)))) (zse 4 (zbin zior (zl 4) (zk 4))) zsk))) zsk) (zsq (zas (b + 15) 1500 (zl 1) (zl 4)) (zpf b 12 (zbin zmax (zfd b 12) (zl 3))))))))
def M_X1_describe (b : Nat) (q1 : Nat) (vs : List Int32) (μ : zM) : Option (Int32 × zM) := match vs with
  | [v1] => zfo0 (B_X1_describe b q1) (zenv [(1, v1)]) μ
  | _ => none
abbrev rm_X1_describe : Room := { frames := 12, cells := 0, slots := 0, locals := 292 }
def B_X0_lowest (b : Nat) (q1 : Nat) : zT := (zsq (zex (zcall (M_fill 1500 (b + 1)) (zai (zk 0) zan))) (zsq (zex (zcall (M_fill 1500 (b + 3)) (zai (zk 0) zan))) (zsq (zpf b 6 (zk 0)) (zsq (zpf b 7 (zk 0)) (zsq (zpf b 8 (zk 0)) (zsq (zpf b 9 (zk (-4))) (zsq (zex (zcall (M_X0_discover b) (zai (zk 0) zan))) (zsq (zsq (zse 3 (zk 0)) (zwh zFU (zand (zcmp zlt (zl 3) (zk 10500)) (zcm0 (fun a => zgt a 0) (zfd b 7))) (zsq (zse 4 (zald (b + 4) 1500 (zbin zisub (zfd b 7) (zk 1)))) (zif (zcmp zlt (zald (b + 3) 1500 (zl 4)) (zk 6)) (zex (zcall (M_X0_tryNext b) (zai (zl 4) (zai (zald q1 9000 (zbin ziadd (zbin zimul (zl 4) (zk 6)) (zald (b + 3) 1500 (zl 4)))) zan)))) (zex (zcall (M_X0_leave b) (zai (zl 4) zan))))) (zse 3 (zbin ziadd (zl 3) (zk 1))))) (zrt (zfd b 9))))))))))
def M_X0_lowest (b : Nat) (q1 : Nat) (vs : List Int32) (μ : zM) : Option (Int32 × zM) := match vs with
  | [v1] => zfi (B_X0_lowest b q1) (zenv [(2, v1)]) μ
  | _ => none
abbrev rm_X0_lowest : Room := { frames := 3, cells := 0, slots := 0, locals := 67 }
def B_X8_agrees (b : Nat) : zT := (zsq (zif (zor (znt (zcm0 (fun a => zne a 0) (zfd b 4))) (znt (zcm0 (fun a => zne a 0) (zcall (M_X5_isAtEnd (b + 8)) zan)))) (zrt (zk (-2))) zsk) (zrt (zcond (zcm0 (fun a => zne a 0) (zcall (M_X3_findsOrder (b + 17) (b + 8)) zan)) (zk 1) (zk 0))))
def M_X8_agrees (b : Nat) (vs : List Int32) (μ : zM) : Option (Int32 × zM) := match vs with
  | [] => zfi (B_X8_agrees b) (zenv []) μ
  | _ => none
abbrev rm_X8_agrees : Room := { frames := 12, cells := 0, slots := 0, locals := 292 }
def B_X8_keeps (b : Nat) : zT := (zsq (zif (zor (zor (znt (zcm0 (fun a => zne a 0) (zfd b 4))) (znt (zcm0 (fun a => zne a 0) (zcall (M_X5_isAtEnd (b + 8)) zan)))) (zcm0 (fun a => zeq a 0) (zfd (b + 8 + 1) 8))) (zrt (zk (-2))) zsk) (zrt (zcond (zcm0 (fun a => zne a 0) (zcall (M_X3_followsMoments (b + 17) (b + 8)) zan)) (zk 1) (zk 0))))
def M_X8_keeps (b : Nat) (vs : List Int32) (μ : zM) : Option (Int32 × zM) := match vs with
  | [] => zfi (B_X8_keeps b) (zenv []) μ
  | _ => none
abbrev rm_X8_keeps : Room := { frames := 4, cells := 0, slots := 0, locals := 92 }
def B_X5_canFinish (b : Nat) : zT := (zsq (zse 2 (zcall (M_X4_ofThread) (zai (zl 1) zan))) (zsq (zse 3 (zald (b + 8) 118 (zbin ziadd (zl 2) (zk 10)))) (zsq (zsq (zse 4 (zk 0)) (zwh zFU (zcmp zlt (zl 4) (zk 60)) (zsq (zex (zcall (M_X5_advance b) (zai (zl 1) zan))) (zif (zor (zcm0 (fun a => zne a 0) (zald (b + 8) 118 (zbin ziadd (zl 2) (zk 12)))) (zcmp zgt (zald (b + 8) 118 (zbin ziadd (zl 2) (zk 10))) (zl 3))) (zrt (zk 1)) zsk)) (zse 4 (zbin ziadd (zl 4) (zk 1))))) (zrt (zk 0)))))
def M_X5_canFinish (b : Nat) (vs : List Int32) (μ : zM) : Option (Int32 × zM) := match vs with
  | [v1] => zfz (B_X5_canFinish b) (zenv [(1, v1)]) μ
  | _ => none
abbrev rm_X5_canFinish : Room := { frames := 5, cells := 0, slots := 0, locals := 131 }
def B_X5_choose (b : Nat) : zT := (zif (zcmp zlt (zl 1) (zk 3)) (zex (zcall (M_X5_advance b) (zai (zl 1) zan))) (zex (zcall (M_X5_comeOldest b) (zai (zcall (M_X4_ofThread) (zai (zbin zisub (zl 1) (zk 3)) zan)) zan))))
def M_X5_choose (b : Nat) (vs : List Int32) (μ : zM) : Option (Int32 × zM) := match vs with
  | [v1] => zfo0 (B_X5_choose b) (zenv [(1, v1)]) μ
  | _ => none
abbrev rm_X5_choose : Room := { frames := 5, cells := 0, slots := 0, locals := 131 }
def B_X1_goThrough (b : Nat) (q1 : Nat) : zT := (zsq (zex (zcall (M_X1_forget b) zan)) (zsq (zex (zcall (M_X1_keep b) (zai (zk 0) (zai (zk (-4)) zan)))) (zsq (zsq (zse 2 (zk 0)) (zwh zFU (zand (zcmp zlt (zl 2) (zk 1500)) (zcmp zlt (zl 2) (zfd b 11))) (zsq (zex (zcall (M_X1_load b) (zai (zl 2) zan))) (zsq (zex (zcall (M_X1_describe b q1) (zai (zl 2) zan))) (zsq (zse 3 (zk 0)) (zwh zFU (zcmp zlt (zl 3) (zk 6)) (zsq (zas (b + 11) 9000 (zbin ziadd (zbin zimul (zl 2) (zk 6)) (zl 3)) (zk (-4))) (zsq (zif (znt (zcm0 (fun a => zne a 0) (zcall (M_X5_isPossible (b + 1)) (zai (zl 3) zan)))) zcn zsk) (zsq (zex (zcall (M_X5_choose (b + 1)) (zai (zl 3) zan))) (zsq (zas (b + 11) 9000 (zbin ziadd (zbin zimul (zl 2) (zk 6)) (zl 3)) (zcall (M_X1_keep b) (zai (zl 2) (zai (zl 3) zan)))) (zex (zcall (M_X1_load b) (zai (zl 2) zan))))))) (zse 3 (zbin ziadd (zl 3) (zk 1))))))) (zse 2 (zbin ziadd (zl 2) (zk 1))))) (zpf b 13 (zcall (M_X1_countResults b) zan)))))
def M_X1_goThrough (b : Nat) (q1 : Nat) (vs : List Int32) (μ : zM) : Option (Int32 × zM) := match vs with
  | [] => zfo0 (B_X1_goThrough b q1) (zenv []) μ
  | _ => none
abbrev rm_X1_goThrough : Room := { frames := 13, cells := 0, slots := 0, locals := 316 }
def B_X1_stuckState (b : Nat) : zT := (zsq (zif (zcmp zne (zfd b 14) (zk (-9))) (zrt (zfd b 14)) zsk) (zsq (zpf b 14 (zk (-4))) (zsq (zsq (zse 1 (zk 0)) (zwh zFU (zand (zcmp zlt (zl 1) (zbin zimul (zfd b 11) (zk 3))) (zcmp zeq (zfd b 14) (zk (-4)))) (zsq (zse 2 (zbiq zidiv (zl 1) (zk 3))) (zsq (zse 3 (zbiq zirem (zl 1) (zk 3))) (zsq (zif (znt (zcm0 (fun a => zne a 0) (zcall (M_X1_isWithinCall b) (zai (zl 2) (zai (zl 3) zan))))) zcn zsk) (zsq (zex (zcall (M_X1_load b) (zai (zl 2) zan))) (zif (znt (zcm0 (fun a => zne a 0) (zcall (M_X5_canFinish (b + 1)) (zai (zl 3) zan)))) (zpf b 14 (zl 2)) zsk))))) (zse 1 (zbin ziadd (zl 1) (zk 1))))) (zrt (zfd b 14)))))
def M_X1_stuckState (b : Nat) (vs : List Int32) (μ : zM) : Option (Int32 × zM) := match vs with
  | [] => zfi (B_X1_stuckState b) (zenv []) μ
  | _ => none
abbrev rm_X1_stuckState : Room := { frames := 6, cells := 0, slots := 0, locals := 155 }
def B_X1_stateInCycle (b : Nat) : zT := (zsq (zif (zcmp zeq (zfd b 15) (zk (-9))) (zpf b 15 (zcall (M_X0_lowest (b + 17) (b + 11)) (zai (zfd b 11) zan))) zsk) (zrt (zfd b 15)))
def M_X1_stateInCycle (b : Nat) (vs : List Int32) (μ : zM) : Option (Int32 × zM) := match vs with
  | [] => zfi (B_X1_stateInCycle b) (zenv []) μ
  | _ => none
abbrev rm_X1_stateInCycle : Room := { frames := 4, cells := 0, slots := 0, locals := 91 }
def B_X8_choose (b : Nat) : zT := (zsq (zex (zcall (M_X5_choose (b + 8)) (zai (zl 1) zan))) (zsq (zfo b 5 ziadd (zk 1)) (zpf b 6 (zl 1))))
def M_X8_choose (b : Nat) (vs : List Int32) (μ : zM) : Option (Int32 × zM) := match vs with
  | [v1] => zfo0 (B_X8_choose b) (zenv [(1, v1)]) μ
  | _ => none
abbrev rm_X8_choose : Room := { frames := 6, cells := 0, slots := 0, locals := 152 }
def B_X5_start (b : Nat) (q1 : Nat) : zT := (zsq (zex (zcall (M_X6_copyFrom (b + 1) q1) zan)) (zsq (zex (zcall (M_fill 118 (b + 8)) (zai (zk 0) zan))) (zsq (zpz b 2 (zk 0)) (zsq (zse 2 (zk 0)) (zsq (zsq (zse 3 (zk 0)) (zwh zFU (zand (zcmp zlt (zl 3) (zald (b + 1 + 4) 4 (zk 3))) (zcm0 (fun a => zeq a 0) (zl 2))) (zse 2 (zcond (zcm0 (fun a => zne a 0) (zcall (M_X5_canFinish b) (zai (zk 3) zan))) (zald (b + 8) 118 (zbin ziadd (zcall (M_X4_ofThread) (zai (zk 3) zan)) (zk 12))) (zk 6))) (zse 3 (zbin ziadd (zl 3) (zk 1))))) (zsq (zpz b 2 (zfd (b + 1) 7)) (zrt (zl 2))))))))
def M_X5_start (b : Nat) (q1 : Nat) (vs : List Int32) (μ : zM) : Option (Int32 × zM) := match vs with
  | [] => zfi (B_X5_start b q1) (zenv []) μ
  | _ => none
abbrev rm_X5_start : Room := { frames := 6, cells := 0, slots := 0, locals := 155 }
def B_X1_find (b : Nat) : zT := (zsw (zl 1) 0 [(zrt (zcall (M_X1_withTrait b) (zai (zk 2) (zai (zk 0) zan)))), (zrt (zcall (M_X1_withTrait b) (zai (zk 4) (zai (zk 0) zan)))), (zrt (zcall (M_X1_withTrait b) (zai (zk 8) (zai (zk 0) zan)))), (zrt (zcall (M_X1_withTrait b) (zai (zk 1) (zai (zbin zisub (zl 1) (zk 6)) zan)))), (zrt (zcall (M_X1_stateInCycle b) zan)), (zrt (zcall (M_X1_withMostWaiting b) zan))] (zrt (zcall (M_X1_withTrait b) (zai (zk 1) (zai (zbin zisub (zl 1) (zk 6)) zan)))))
def M_X1_find (b : Nat) (vs : List Int32) (μ : zM) : Option (Int32 × zM) := match vs with
  | [v1] => zfi (B_X1_find b) (zenv [(1, v1)]) μ
  | _ => none
abbrev rm_X1_find : Room := { frames := 5, cells := 0, slots := 0, locals := 111 }
def B_X8_begin (b : Nat) : zT := (zsq (zif (zcm0 (fun a => zeq a 0) (zcall (M_X6_total (b + 1)) zan)) (zrt (zk (-2))) zsk) (zsq (zse 1 (zcall (M_X5_start (b + 8) (b + 1)) zan)) (zsq (zpz b 4 (zcond (zcm0 (fun a => zeq a 0) (zl 1)) (zk 1) (zk 0))) (zsq (zpf b 5 (zk 0)) (zsq (zpf b 6 (zk (-4))) (zrt (zcond (zcm0 (fun a => zne a 0) (zfd b 4)) (zk 1) (zbin zisub (zk (-10)) (zl 1)))))))))
def M_X8_begin (b : Nat) (vs : List Int32) (μ : zM) : Option (Int32 × zM) := match vs with
  | [] => zfi (B_X8_begin b) (zenv []) μ
  | _ => none
abbrev rm_X8_begin : Room := { frames := 7, cells := 0, slots := 0, locals := 178 }
def B_X8_step (b : Nat) : zT := (zsq (zif (znt (zcm0 (fun a => zne a 0) (zcall (M_X8_isChoice) (zai (zl 1) zan)))) (zrt (zk (-1))) zsk) (zsq (zif (zor (znt (zcm0 (fun a => zne a 0) (zfd b 4))) (znt (zcm0 (fun a => zne a 0) (zcall (M_X5_isPossible (b + 8)) (zai (zl 1) zan))))) (zrt (zk (-2))) zsk) (zsq (zif (zcmp zge (zfd b 5) (zk 100)) (zrt (zk (-3))) zsk) (zsq (zex (zcall (M_X8_choose b) (zai (zl 1) zan))) (zrt (zfd b 5))))))
def M_X8_step (b : Nat) (vs : List Int32) (μ : zM) : Option (Int32 × zM) := match vs with
  | [v1] => zfi (B_X8_step b) (zenv [(1, v1)]) μ
  | _ => none
abbrev rm_X8_step : Room := { frames := 7, cells := 0, slots := 0, locals := 173 }
def B_X8_run (b : Nat) : zT := (zsq (zif (zor (zcmp zlt (zl 1) (zk 1)) (zcmp zgt (zl 1) (zk 100))) (zrt (zk (-1))) zsk) (zsq (zif (znt (zcm0 (fun a => zne a 0) (zfd b 4))) (zrt (zk (-2))) zsk) (zsq (zse 2 (zfd b 5)) (zsq (zsq (zse 3 (zk 0)) (zwh zFU (zand (zcmp zlt (zl 3) (zl 1)) (zcmp zlt (zfd b 5) (zk 100))) (zsq (zse 4 (zcall (M_X8_choiceInTurn b) zan)) (zsq (zif (zcmp zeq (zl 4) (zk (-4))) zbk zsk) (zex (zcall (M_X8_choose b) (zai (zl 4) zan))))) (zse 3 (zbin ziadd (zl 3) (zk 1))))) (zrt (zbin zisub (zfd b 5) (zl 2)))))))
def M_X8_run (b : Nat) (vs : List Int32) (μ : zM) : Option (Int32 × zM) := match vs with
  | [v1] => zfi (B_X8_run b) (zenv [(1, v1)]) μ
  | _ => none
abbrev rm_X8_run : Room := { frames := 7, cells := 0, slots := 0, locals := 173 }
def B_X8_first_1 (b : Nat) : zT := (zsq (zif (zcm0 (fun a => zlt a 0) (zl 1)) (zrt (zk (-1))) zsk) (zsq (zif (zor (zcb false) (znt (zcm0 (fun a => zne a 0) (zfd (b + 26) 9)))) (zrt (zk (-2))) zsk) (zrt (zcond (zcmp zeq (zl 1) (zk 3)) (zcall (M_X1_stuckState (b + 26)) zan) (zcall (M_X1_find (b + 26)) (zai (zl 1) zan))))))
def M_X8_first_1 (b : Nat) (vs : List Int32) (μ : zM) : Option (Int32 × zM) := match vs with
  | [v1] => zfi (B_X8_first_1 b) (zenv [(1, v1)]) μ
  | _ => none
abbrev rm_X8_first_1 : Room := { frames := 7, cells := 0, slots := 0, locals := 178 }
