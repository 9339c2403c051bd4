/-! printed by wip/whole/lift/lift.py: what stands at each place -/
def fc_rf2 (P : Nat) : Nat → Option Nat
  | 0 => some (P + 1)
  | _ => none
def fc_rf3 (P : Nat) : Nat → Option Nat
  | 6 => some (P + 1)
  | 7 => some (P + 2)
  | 8 => some (P + 3)
  | 9 => some (P + 4)
  | 10 => some (P + 5)
  | 11 => some (P + 6)
  | 12 => some (P + 7)
  | 13 => some (P + 8)
  | 14 => some (P + 9)
  | 15 => some (P + 10)
  | 16 => some (P + 11)
  | 17 => some (P + 12)
  | _ => none
def fc_rf4 (P : Nat) : Nat → Option Nat
  | 0 => some (P + 1)
  | 1 => some (P + 2)
  | 2 => some (P + 3)
  | 3 => some (P + 4)
  | _ => none
def fc_rf_0 : Nat → Option Nat
  | 0 => some 1
  | 1 => some 5
  | 2 => some 11
  | 3 => some 24
  | 4 => some 29
  | 5 => some 42
  | 6 => some 47
  | 7 => some 48
  | 8 => some 50
  | 9 => some 90
  | 10 => some 106
  | 11 => some 108
  | 12 => some 110
  | 13 => some 114
  | _ => none
def fc_rf_1 : Nat → Option Nat
  | 0 => some 2
  | 1 => some 3
  | 2 => some 4
  | _ => none
def fc_rf_5 : Nat → Option Nat
  | 0 => some 6
  | 1 => some 7
  | 3 => some 8
  | 4 => some 9
  | 5 => some 10
  | _ => none
def fc_rf_47 : Nat → Option Nat
  | 0 => some 5
  | 1 => some 29
  | _ => none
def fc_rf_48 : Nat → Option Nat
  | 0 => some 5
  | 1 => some 42
  | 2 => some 11
  | 3 => some 49
  | _ => none
def fc_rf_110 : Nat → Option Nat
  | 0 => some 111
  | 1 => some 112
  | 2 => some 113
  | _ => none
def fc_rf_114 : Nat → Option Nat
  | 0 => some 115
  | 1 => some 116
  | _ => none
def fr_rf_117 : Nat → Option Nat
  | 4 => some 118
  | 5 => some 119
  | 6 => some 120
  | 7 => some 121
  | 20 => some 122
  | 21 => some 123
  | 22 => some 124
  | 26 => some 125
  | 28 => some 126
  | 30 => some 127
  | _ => none
def fc_shl : List fu_K := [.inl (9, fc_rf_0),
  .inl (6, fc_rf_1),
  .inr (1, 240, fun _ => 0),
  .inr (0, 4, fun _ => 0),
  .inr (0, 4, fun _ => 0),
  .inl (7, fc_rf_5),
  .inr (1, 22, fun _ => 0),
  .inr (2, 900, fun _ => 0),
  .inr (0, 901, fun _ => 0),
  .inr (0, 901, fun _ => 0),
  .inr (1, 901, fun _ => 0),
  .inl (3, fc_rf3 11),
  .inr (0, 5, fun _ => 0),
  .inr (0, 5, fun _ => 0),
  .inr (0, 5, fun _ => 0),
  .inr (1, 7, fun _ => 0),
  .inr (0, 7, fun _ => 0),
  .inr (0, 7, fun _ => 0),
  .inr (0, 8, fun _ => 0),
  .inr (0, 8, fun _ => 0),
  .inr (0, 8, fun _ => 0),
  .inr (0, 8, fun _ => 0),
  .inr (0, 8, fun _ => 0),
  .inr (0, 8, fun _ => 0),
  .inl (4, fc_rf4 24),
  .inr (0, 60, fun _ => 0),
  .inr (0, 60, fun _ => 0),
  .inr (0, 60, fun _ => 0),
  .inr (0, 60, fun _ => 0),
  .inl (3, fc_rf3 29),
  .inr (0, 5, fun _ => 0),
  .inr (0, 5, fun _ => 0),
  .inr (0, 5, fun _ => 0),
  .inr (1, 7, fun _ => 0),
  .inr (0, 7, fun _ => 0),
  .inr (0, 7, fun _ => 0),
  .inr (0, 8, fun _ => 0),
  .inr (0, 8, fun _ => 0),
  .inr (0, 8, fun _ => 0),
  .inr (0, 8, fun _ => 0),
  .inr (0, 8, fun _ => 0),
  .inr (0, 8, fun _ => 0),
  .inl (4, fc_rf4 42),
  .inr (0, 60, fun _ => 0),
  .inr (0, 60, fun _ => 0),
  .inr (0, 60, fun _ => 0),
  .inr (0, 60, fun _ => 0),
  .inl (1, fc_rf_47),
  .inl (5, fc_rf_48),
  .inr (0, 3, fun _ => 0),
  .inr (3, 3, fc_rr_50),
  .inl (3, fc_rf3 51),
  .inr (0, 5, fun _ => 0),
  .inr (0, 5, fun _ => 0),
  .inr (0, 5, fun _ => 0),
  .inr (1, 7, fun _ => 0),
  .inr (0, 7, fun _ => 0),
  .inr (0, 7, fun _ => 0),
  .inr (0, 8, fun _ => 0),
  .inr (0, 8, fun _ => 0),
  .inr (0, 8, fun _ => 0),
  .inr (0, 8, fun _ => 0),
  .inr (0, 8, fun _ => 0),
  .inr (0, 8, fun _ => 0),
  .inl (3, fc_rf3 64),
  .inr (0, 5, fun _ => 0),
  .inr (0, 5, fun _ => 0),
  .inr (0, 5, fun _ => 0),
  .inr (1, 7, fun _ => 0),
  .inr (0, 7, fun _ => 0),
  .inr (0, 7, fun _ => 0),
  .inr (0, 8, fun _ => 0),
  .inr (0, 8, fun _ => 0),
  .inr (0, 8, fun _ => 0),
  .inr (0, 8, fun _ => 0),
  .inr (0, 8, fun _ => 0),
  .inr (0, 8, fun _ => 0),
  .inl (3, fc_rf3 77),
  .inr (0, 5, fun _ => 0),
  .inr (0, 5, fun _ => 0),
  .inr (0, 5, fun _ => 0),
  .inr (1, 7, fun _ => 0),
  .inr (0, 7, fun _ => 0),
  .inr (0, 7, fun _ => 0),
  .inr (0, 8, fun _ => 0),
  .inr (0, 8, fun _ => 0),
  .inr (0, 8, fun _ => 0),
  .inr (0, 8, fun _ => 0),
  .inr (0, 8, fun _ => 0),
  .inr (0, 8, fun _ => 0),
  .inr (4, 3, fc_rr_90),
  .inl (4, fc_rf4 91),
  .inr (0, 60, fun _ => 0),
  .inr (0, 60, fun _ => 0),
  .inr (0, 60, fun _ => 0),
  .inr (0, 60, fun _ => 0),
  .inl (4, fc_rf4 96),
  .inr (0, 60, fun _ => 0),
  .inr (0, 60, fun _ => 0),
  .inr (0, 60, fun _ => 0),
  .inr (0, 60, fun _ => 0),
  .inl (4, fc_rf4 101),
  .inr (0, 60, fun _ => 0),
  .inr (0, 60, fun _ => 0),
  .inr (0, 60, fun _ => 0),
  .inr (0, 60, fun _ => 0),
  .inl (2, fc_rf2 106),
  .inr (0, 60, fun _ => 0),
  .inl (2, fc_rf2 108),
  .inr (0, 60, fun _ => 0),
  .inl (8, fc_rf_110),
  .inr (0, 8, fun _ => 0),
  .inr (0, 8, fun _ => 0),
  .inr (0, 1152, fun _ => 0),
  .inl (0, fc_rf_114),
  .inr (0, 7, fun _ => 0),
  .inr (0, 7, fun _ => 0)]
def fc_sh (a : Nat) : Option fu_K := fc_shl[a]?
theorem fc_0 : fc_sh 0 = some (.inl (9, fc_rf_0)) := rfl
theorem fc_1 : fc_sh 1 = some (.inl (6, fc_rf_1)) := rfl
theorem fc_2 : fc_sh 2 = some (.inr (1, 240, fun _ => 0)) := rfl
theorem fc_3 : fc_sh 3 = some (.inr (0, 4, fun _ => 0)) := rfl
theorem fc_4 : fc_sh 4 = some (.inr (0, 4, fun _ => 0)) := rfl
theorem fc_5 : fc_sh 5 = some (.inl (7, fc_rf_5)) := rfl
theorem fc_6 : fc_sh 6 = some (.inr (1, 22, fun _ => 0)) := rfl
theorem fc_7 : fc_sh 7 = some (.inr (2, 900, fun _ => 0)) := rfl
theorem fc_8 : fc_sh 8 = some (.inr (0, 901, fun _ => 0)) := rfl
theorem fc_9 : fc_sh 9 = some (.inr (0, 901, fun _ => 0)) := rfl
theorem fc_10 : fc_sh 10 = some (.inr (1, 901, fun _ => 0)) := rfl
theorem fc_11 : fc_sh 11 = some (.inl (3, fc_rf3 11)) := rfl
theorem fc_12 : fc_sh 12 = some (.inr (0, 5, fun _ => 0)) := rfl
theorem fc_13 : fc_sh 13 = some (.inr (0, 5, fun _ => 0)) := rfl
theorem fc_14 : fc_sh 14 = some (.inr (0, 5, fun _ => 0)) := rfl
theorem fc_15 : fc_sh 15 = some (.inr (1, 7, fun _ => 0)) := rfl
theorem fc_16 : fc_sh 16 = some (.inr (0, 7, fun _ => 0)) := rfl
theorem fc_17 : fc_sh 17 = some (.inr (0, 7, fun _ => 0)) := rfl
theorem fc_18 : fc_sh 18 = some (.inr (0, 8, fun _ => 0)) := rfl
theorem fc_19 : fc_sh 19 = some (.inr (0, 8, fun _ => 0)) := rfl
theorem fc_20 : fc_sh 20 = some (.inr (0, 8, fun _ => 0)) := rfl
theorem fc_21 : fc_sh 21 = some (.inr (0, 8, fun _ => 0)) := rfl
theorem fc_22 : fc_sh 22 = some (.inr (0, 8, fun _ => 0)) := rfl
theorem fc_23 : fc_sh 23 = some (.inr (0, 8, fun _ => 0)) := rfl
theorem fc_24 : fc_sh 24 = some (.inl (4, fc_rf4 24)) := rfl
theorem fc_25 : fc_sh 25 = some (.inr (0, 60, fun _ => 0)) := rfl
theorem fc_26 : fc_sh 26 = some (.inr (0, 60, fun _ => 0)) := rfl
theorem fc_27 : fc_sh 27 = some (.inr (0, 60, fun _ => 0)) := rfl
theorem fc_28 : fc_sh 28 = some (.inr (0, 60, fun _ => 0)) := rfl
theorem fc_29 : fc_sh 29 = some (.inl (3, fc_rf3 29)) := rfl
theorem fc_30 : fc_sh 30 = some (.inr (0, 5, fun _ => 0)) := rfl
theorem fc_31 : fc_sh 31 = some (.inr (0, 5, fun _ => 0)) := rfl
theorem fc_32 : fc_sh 32 = some (.inr (0, 5, fun _ => 0)) := rfl
theorem fc_33 : fc_sh 33 = some (.inr (1, 7, fun _ => 0)) := rfl
theorem fc_34 : fc_sh 34 = some (.inr (0, 7, fun _ => 0)) := rfl
theorem fc_35 : fc_sh 35 = some (.inr (0, 7, fun _ => 0)) := rfl
theorem fc_36 : fc_sh 36 = some (.inr (0, 8, fun _ => 0)) := rfl
theorem fc_37 : fc_sh 37 = some (.inr (0, 8, fun _ => 0)) := rfl
theorem fc_38 : fc_sh 38 = some (.inr (0, 8, fun _ => 0)) := rfl
theorem fc_39 : fc_sh 39 = some (.inr (0, 8, fun _ => 0)) := rfl
theorem fc_40 : fc_sh 40 = some (.inr (0, 8, fun _ => 0)) := rfl
theorem fc_41 : fc_sh 41 = some (.inr (0, 8, fun _ => 0)) := rfl
theorem fc_42 : fc_sh 42 = some (.inl (4, fc_rf4 42)) := rfl
theorem fc_43 : fc_sh 43 = some (.inr (0, 60, fun _ => 0)) := rfl
theorem fc_44 : fc_sh 44 = some (.inr (0, 60, fun _ => 0)) := rfl
theorem fc_45 : fc_sh 45 = some (.inr (0, 60, fun _ => 0)) := rfl
theorem fc_46 : fc_sh 46 = some (.inr (0, 60, fun _ => 0)) := rfl
theorem fc_47 : fc_sh 47 = some (.inl (1, fc_rf_47)) := rfl
theorem fc_48 : fc_sh 48 = some (.inl (5, fc_rf_48)) := rfl
theorem fc_49 : fc_sh 49 = some (.inr (0, 3, fun _ => 0)) := rfl
theorem fc_50 : fc_sh 50 = some (.inr (3, 3, fc_rr_50)) := rfl
theorem fc_51 : fc_sh 51 = some (.inl (3, fc_rf3 51)) := rfl
theorem fc_52 : fc_sh 52 = some (.inr (0, 5, fun _ => 0)) := rfl
theorem fc_53 : fc_sh 53 = some (.inr (0, 5, fun _ => 0)) := rfl
theorem fc_54 : fc_sh 54 = some (.inr (0, 5, fun _ => 0)) := rfl
theorem fc_55 : fc_sh 55 = some (.inr (1, 7, fun _ => 0)) := rfl
theorem fc_56 : fc_sh 56 = some (.inr (0, 7, fun _ => 0)) := rfl
theorem fc_57 : fc_sh 57 = some (.inr (0, 7, fun _ => 0)) := rfl
theorem fc_58 : fc_sh 58 = some (.inr (0, 8, fun _ => 0)) := rfl
theorem fc_59 : fc_sh 59 = some (.inr (0, 8, fun _ => 0)) := rfl
theorem fc_60 : fc_sh 60 = some (.inr (0, 8, fun _ => 0)) := rfl
theorem fc_61 : fc_sh 61 = some (.inr (0, 8, fun _ => 0)) := rfl
theorem fc_62 : fc_sh 62 = some (.inr (0, 8, fun _ => 0)) := rfl
theorem fc_63 : fc_sh 63 = some (.inr (0, 8, fun _ => 0)) := rfl
theorem fc_64 : fc_sh 64 = some (.inl (3, fc_rf3 64)) := rfl
theorem fc_65 : fc_sh 65 = some (.inr (0, 5, fun _ => 0)) := rfl
theorem fc_66 : fc_sh 66 = some (.inr (0, 5, fun _ => 0)) := rfl
theorem fc_67 : fc_sh 67 = some (.inr (0, 5, fun _ => 0)) := rfl
theorem fc_68 : fc_sh 68 = some (.inr (1, 7, fun _ => 0)) := rfl
theorem fc_69 : fc_sh 69 = some (.inr (0, 7, fun _ => 0)) := rfl
theorem fc_70 : fc_sh 70 = some (.inr (0, 7, fun _ => 0)) := rfl
theorem fc_71 : fc_sh 71 = some (.inr (0, 8, fun _ => 0)) := rfl
theorem fc_72 : fc_sh 72 = some (.inr (0, 8, fun _ => 0)) := rfl
theorem fc_73 : fc_sh 73 = some (.inr (0, 8, fun _ => 0)) := rfl
theorem fc_74 : fc_sh 74 = some (.inr (0, 8, fun _ => 0)) := rfl
theorem fc_75 : fc_sh 75 = some (.inr (0, 8, fun _ => 0)) := rfl
theorem fc_76 : fc_sh 76 = some (.inr (0, 8, fun _ => 0)) := rfl
theorem fc_77 : fc_sh 77 = some (.inl (3, fc_rf3 77)) := rfl
theorem fc_78 : fc_sh 78 = some (.inr (0, 5, fun _ => 0)) := rfl
theorem fc_79 : fc_sh 79 = some (.inr (0, 5, fun _ => 0)) := rfl
theorem fc_80 : fc_sh 80 = some (.inr (0, 5, fun _ => 0)) := rfl
theorem fc_81 : fc_sh 81 = some (.inr (1, 7, fun _ => 0)) := rfl
theorem fc_82 : fc_sh 82 = some (.inr (0, 7, fun _ => 0)) := rfl
theorem fc_83 : fc_sh 83 = some (.inr (0, 7, fun _ => 0)) := rfl
theorem fc_84 : fc_sh 84 = some (.inr (0, 8, fun _ => 0)) := rfl
theorem fc_85 : fc_sh 85 = some (.inr (0, 8, fun _ => 0)) := rfl
theorem fc_86 : fc_sh 86 = some (.inr (0, 8, fun _ => 0)) := rfl
theorem fc_87 : fc_sh 87 = some (.inr (0, 8, fun _ => 0)) := rfl
theorem fc_88 : fc_sh 88 = some (.inr (0, 8, fun _ => 0)) := rfl
theorem fc_89 : fc_sh 89 = some (.inr (0, 8, fun _ => 0)) := rfl
theorem fc_90 : fc_sh 90 = some (.inr (4, 3, fc_rr_90)) := rfl
theorem fc_91 : fc_sh 91 = some (.inl (4, fc_rf4 91)) := rfl
theorem fc_92 : fc_sh 92 = some (.inr (0, 60, fun _ => 0)) := rfl
theorem fc_93 : fc_sh 93 = some (.inr (0, 60, fun _ => 0)) := rfl
theorem fc_94 : fc_sh 94 = some (.inr (0, 60, fun _ => 0)) := rfl
theorem fc_95 : fc_sh 95 = some (.inr (0, 60, fun _ => 0)) := rfl
theorem fc_96 : fc_sh 96 = some (.inl (4, fc_rf4 96)) := rfl
theorem fc_97 : fc_sh 97 = some (.inr (0, 60, fun _ => 0)) := rfl
theorem fc_98 : fc_sh 98 = some (.inr (0, 60, fun _ => 0)) := rfl
theorem fc_99 : fc_sh 99 = some (.inr (0, 60, fun _ => 0)) := rfl
theorem fc_100 : fc_sh 100 = some (.inr (0, 60, fun _ => 0)) := rfl
theorem fc_101 : fc_sh 101 = some (.inl (4, fc_rf4 101)) := rfl
theorem fc_102 : fc_sh 102 = some (.inr (0, 60, fun _ => 0)) := rfl
theorem fc_103 : fc_sh 103 = some (.inr (0, 60, fun _ => 0)) := rfl
theorem fc_104 : fc_sh 104 = some (.inr (0, 60, fun _ => 0)) := rfl
theorem fc_105 : fc_sh 105 = some (.inr (0, 60, fun _ => 0)) := rfl
theorem fc_106 : fc_sh 106 = some (.inl (2, fc_rf2 106)) := rfl
theorem fc_107 : fc_sh 107 = some (.inr (0, 60, fun _ => 0)) := rfl
theorem fc_108 : fc_sh 108 = some (.inl (2, fc_rf2 108)) := rfl
theorem fc_109 : fc_sh 109 = some (.inr (0, 60, fun _ => 0)) := rfl
theorem fc_110 : fc_sh 110 = some (.inl (8, fc_rf_110)) := rfl
theorem fc_111 : fc_sh 111 = some (.inr (0, 8, fun _ => 0)) := rfl
theorem fc_112 : fc_sh 112 = some (.inr (0, 8, fun _ => 0)) := rfl
theorem fc_113 : fc_sh 113 = some (.inr (0, 1152, fun _ => 0)) := rfl
theorem fc_114 : fc_sh 114 = some (.inl (0, fc_rf_114)) := rfl
theorem fc_115 : fc_sh 115 = some (.inr (0, 7, fun _ => 0)) := rfl
theorem fc_116 : fc_sh 116 = some (.inr (0, 7, fun _ => 0)) := rfl
def fr_shl : List fu_K := [.inl (10, fr_rf_117),
  .inr (0, 4, fun _ => 0),
  .inr (0, 4, fun _ => 0),
  .inr (1, 240, fun _ => 0),
  .inr (2, 900, fun _ => 0),
  .inr (0, 1775, fun _ => 0),
  .inr (0, 83, fun _ => 0),
  .inr (1, 35, fun _ => 0),
  .inr (0, 7, fun _ => 0),
  .inr (0, 7, fun _ => 0),
  .inr (0, 5, fun _ => 0)]
def fr_sh (a : Nat) : Option fu_K := bif Nat.blt a 117 then none else fr_shl[a - 117]?
theorem fr_117 : fr_sh 117 = some (.inl (10, fr_rf_117)) := rfl
theorem fr_118 : fr_sh 118 = some (.inr (0, 4, fun _ => 0)) := rfl
theorem fr_119 : fr_sh 119 = some (.inr (0, 4, fun _ => 0)) := rfl
theorem fr_120 : fr_sh 120 = some (.inr (1, 240, fun _ => 0)) := rfl
theorem fr_121 : fr_sh 121 = some (.inr (2, 900, fun _ => 0)) := rfl
theorem fr_122 : fr_sh 122 = some (.inr (0, 1775, fun _ => 0)) := rfl
theorem fr_123 : fr_sh 123 = some (.inr (0, 83, fun _ => 0)) := rfl
theorem fr_124 : fr_sh 124 = some (.inr (1, 35, fun _ => 0)) := rfl
theorem fr_125 : fr_sh 125 = some (.inr (0, 7, fun _ => 0)) := rfl
theorem fr_126 : fr_sh 126 = some (.inr (0, 7, fun _ => 0)) := rfl
theorem fr_127 : fr_sh 127 = some (.inr (0, 5, fun _ => 0)) := rfl
/-- an object of number 2 stands at P, its rows behind it -/
def fc_is2 (P : Nat) : Prop := fc_sh P = some (.inl (2, fc_rf2 P)) ∧ fc_sh (P + 1) = some (.inr (0, 60, fun _ => 0))
theorem fc_is2_106 : fc_is2 106 := ⟨fc_106, fc_107⟩
theorem fc_is2_108 : fc_is2 108 := ⟨fc_108, fc_109⟩
/-- an object of number 3 stands at P, its rows behind it -/
def fc_is3 (P : Nat) : Prop := fc_sh P = some (.inl (3, fc_rf3 P)) ∧ fc_sh (P + 1) = some (.inr (0, 5, fun _ => 0)) ∧ fc_sh (P + 2) = some (.inr (0, 5, fun _ => 0)) ∧ fc_sh (P + 3) = some (.inr (0, 5, fun _ => 0)) ∧ fc_sh (P + 4) = some (.inr (1, 7, fun _ => 0)) ∧ fc_sh (P + 5) = some (.inr (0, 7, fun _ => 0)) ∧ fc_sh (P + 6) = some (.inr (0, 7, fun _ => 0)) ∧ fc_sh (P + 7) = some (.inr (0, 8, fun _ => 0)) ∧ fc_sh (P + 8) = some (.inr (0, 8, fun _ => 0)) ∧ fc_sh (P + 9) = some (.inr (0, 8, fun _ => 0)) ∧ fc_sh (P + 10) = some (.inr (0, 8, fun _ => 0)) ∧ fc_sh (P + 11) = some (.inr (0, 8, fun _ => 0)) ∧ fc_sh (P + 12) = some (.inr (0, 8, fun _ => 0))
theorem fc_is3_11 : fc_is3 11 := ⟨fc_11, fc_12, fc_13, fc_14, fc_15, fc_16, fc_17, fc_18, fc_19, fc_20, fc_21, fc_22, fc_23⟩
theorem fc_is3_29 : fc_is3 29 := ⟨fc_29, fc_30, fc_31, fc_32, fc_33, fc_34, fc_35, fc_36, fc_37, fc_38, fc_39, fc_40, fc_41⟩
theorem fc_is3_51 : fc_is3 51 := ⟨fc_51, fc_52, fc_53, fc_54, fc_55, fc_56, fc_57, fc_58, fc_59, fc_60, fc_61, fc_62, fc_63⟩
theorem fc_is3_64 : fc_is3 64 := ⟨fc_64, fc_65, fc_66, fc_67, fc_68, fc_69, fc_70, fc_71, fc_72, fc_73, fc_74, fc_75, fc_76⟩
theorem fc_is3_77 : fc_is3 77 := ⟨fc_77, fc_78, fc_79, fc_80, fc_81, fc_82, fc_83, fc_84, fc_85, fc_86, fc_87, fc_88, fc_89⟩
/-- an object of number 4 stands at P, its rows behind it -/
def fc_is4 (P : Nat) : Prop := fc_sh P = some (.inl (4, fc_rf4 P)) ∧ fc_sh (P + 1) = some (.inr (0, 60, fun _ => 0)) ∧ fc_sh (P + 2) = some (.inr (0, 60, fun _ => 0)) ∧ fc_sh (P + 3) = some (.inr (0, 60, fun _ => 0)) ∧ fc_sh (P + 4) = some (.inr (0, 60, fun _ => 0))
theorem fc_is4_24 : fc_is4 24 := ⟨fc_24, fc_25, fc_26, fc_27, fc_28⟩
theorem fc_is4_42 : fc_is4 42 := ⟨fc_42, fc_43, fc_44, fc_45, fc_46⟩
theorem fc_is4_91 : fc_is4 91 := ⟨fc_91, fc_92, fc_93, fc_94, fc_95⟩
theorem fc_is4_96 : fc_is4 96 := ⟨fc_96, fc_97, fc_98, fc_99, fc_100⟩
theorem fc_is4_101 : fc_is4 101 := ⟨fc_101, fc_102, fc_103, fc_104, fc_105⟩
theorem fc_rr_50_ok {i : Int32} (h : am_in i 3 = true) : fc_is3 (fc_rr_50 i.toNatClampNeg) := by
  have h1 : i.toNatClampNeg < 3 := Nat.not_le.mp fun z => am_in_iff.mp h (Or.inr z)
  match i.toNatClampNeg, h1 with
  | 0, _ => exact fc_is3_51
  | 1, _ => exact fc_is3_64
  | 2, _ => exact fc_is3_77
  | k + 3, h => exact absurd h (by omega)
theorem fc_rr_90_ok {i : Int32} (h : am_in i 3 = true) : fc_is4 (fc_rr_90 i.toNatClampNeg) := by
  have h1 : i.toNatClampNeg < 3 := Nat.not_le.mp fun z => am_in_iff.mp h (Or.inr z)
  match i.toNatClampNeg, h1 with
  | 0, _ => exact fc_is4_91
  | 1, _ => exact fc_is4_96
  | 2, _ => exact fc_is4_101
  | k + 3, h => exact absurd h (by omega)
noncomputable abbrev fc_C (d : Nat) : Nat → List Value → fu_S → Option (Option Value × fu_S) := am_D (fu_ho fc_sh) am_m d
noncomputable abbrev fc_X (d : Nat) (rt : Option FieldType) (code : List am_I) (pc : Nat) (ls st : List Value) (s : fu_S) : Option (Option Value × fu_S) := am_X (fu_ho fc_sh) (am_D (fu_ho fc_sh) am_m d) rt code pc ls st s
noncomputable abbrev fr_C (d : Nat) : Nat → List Value → fu_S → Option (Option Value × fu_S) := am_D (fu_ho fr_sh) am_m d
noncomputable abbrev fr_X (d : Nat) (rt : Option FieldType) (code : List am_I) (pc : Nat) (ls st : List Value) (s : fu_S) : Option (Option Value × fu_S) := am_X (fu_ho fr_sh) (am_D (fu_ho fr_sh) am_m d) rt code pc ls st s
section FUL
variable {α η : Type} {k : η → Option α} {kp : η → α} {b : η} {ho : Nat → Nat → Nat → List Value → η → Option (List Value × η)} {C : Nat → List Value → η → Option (Option Value × η)} {rt : Option FieldType} {code : List am_I} {pc pc' : Nat} {ls ls' st st' : List Value} {s : η} {W : α → Option (Option Value × η)}
theorem fu_lets (e : am_X ho C rt code pc ls st s = am_X ho C rt code pc' ls' st' b) (h : ∀ s1, fu_J (k s1) W (am_X ho C rt code pc' ls' st' s1)) : fu_J (fu_lt b k) W (am_X ho C rt code pc ls st s) := fu_step e (h b)
theorem fu_letsS (e : am_X ho C rt code pc ls st s = am_X ho C rt code pc' ls' st' b) (h : ∀ s1, fu_J (some (kp s1)) W (am_X ho C rt code pc' ls' st' s1)) : fu_J (some (fu_lt b kp)) W (am_X ho C rt code pc ls st s) := fu_step e (h b)
end FUL
section FUK
variable {sh : Nat → Option fu_K} {C : Nat → List Value → fu_S → Option (Option Value × fu_S)} {rt : Option FieldType} {code : List am_I} {pc n p q : Nat} {ls st : List Value} {s : fu_S} {v : Value} {a N k : Nat} {f : Nat → Nat} {i x : Int32} {xl : Int64}
theorem fu_ldIk (hat : am_at code pc = some (.iaload, n, p, q, v)) (hs : sh a = some (.inr (0, N, f))) (hin : am_in i N = true) (hk : i.toNatClampNeg = k) : am_X (fu_ho sh) C rt code pc ls (.int i :: .ref a :: st) s = am_X (fu_ho sh) C rt code (pc + n) ls (.int (s.1 a k) :: st) s := by rw [← hk]; exact fu_ldI hat hs hin
theorem fu_stIk (hat : am_at code pc = some (.iastore, n, p, q, v)) (hs : sh a = some (.inr (0, N, f))) (hin : am_in i N = true) (hk : i.toNatClampNeg = k) : am_X (fu_ho sh) C rt code pc ls (.int x :: .int i :: .ref a :: st) s = am_X (fu_ho sh) C rt code (pc + n) ls st (fu_pi s a k x) := by rw [← hk]; exact fu_stI hat hs hin
theorem fu_cpIk {a0 n0 n1 sp' dp' n' : Nat} {f0 f1 : Nat → Nat} {sp dp nn : Int32} {r : List Value} (h0 : sh a0 = some (.inr (0, n0, f0))) (h1 : sh a = some (.inr (0, n1, f1))) (e1 : sp.toNatClampNeg = sp') (e2 : dp.toNatClampNeg = dp') (e3 : nn.toNatClampNeg = n') (hc : ¬ sp < 0 ∧ ¬ dp < 0 ∧ ¬ nn < 0 ∧ sp' + n' ≤ n0 ∧ dp' + n' ≤ n1) : fu_ho sh 1004 0 0 (.int nn :: .int dp :: .ref a :: .int sp :: .ref a0 :: r) s = some (r, fu_ci s a0 sp' a dp' n') := by subst e1 e2 e3; exact fu_cpI h0 h1 hc
theorem fu_cpLk {a0 n0 n1 sp' dp' n' : Nat} {f0 f1 : Nat → Nat} {sp dp nn : Int32} {r : List Value} (h0 : sh a0 = some (.inr (1, n0, f0))) (h1 : sh a = some (.inr (1, n1, f1))) (e1 : sp.toNatClampNeg = sp') (e2 : dp.toNatClampNeg = dp') (e3 : nn.toNatClampNeg = n') (hc : ¬ sp < 0 ∧ ¬ dp < 0 ∧ ¬ nn < 0 ∧ sp' + n' ≤ n0 ∧ dp' + n' ≤ n1) : fu_ho sh 1004 0 0 (.int nn :: .int dp :: .ref a :: .int sp :: .ref a0 :: r) s = some (r, fu_cl s a0 sp' a dp' n') := by subst e1 e2 e3; exact fu_cpL h0 h1 hc
end FUK
