/-! the methods' own words -/
theorem qo_ckL : qo_ck (qt_code 169) (qt_bytes 169) (qt_size 169) = true := by
  refine List.all_eq_true.mpr fun pc hpc => ?_
  have hpc : pc < 1155 := List.mem_range.mp hpc
  have e : pc = 100 * (pc / 100) + pc % 100 := by omega
  have hb : pc / 100 < 12 := by omega
  have hr : pc % 100 < 100 := by omega
  generalize pc / 100 = q at *
  generalize pc % 100 = r at *
  subst e
  match q, hb with
  | 0, _ => exact List.all_eq_true.mp qo_l0 r (List.mem_range.mpr (by omega))
  | 1, _ => exact List.all_eq_true.mp qo_l1 r (List.mem_range.mpr (by omega))
  | 2, _ => exact List.all_eq_true.mp qo_l2 r (List.mem_range.mpr (by omega))
  | 3, _ => exact List.all_eq_true.mp qo_l3 r (List.mem_range.mpr (by omega))
  | 4, _ => exact List.all_eq_true.mp qo_l4 r (List.mem_range.mpr (by omega))
  | 5, _ => exact List.all_eq_true.mp qo_l5 r (List.mem_range.mpr (by omega))
  | 6, _ => exact List.all_eq_true.mp qo_l6 r (List.mem_range.mpr (by omega))
  | 7, _ => exact List.all_eq_true.mp qo_l7 r (List.mem_range.mpr (by omega))
  | 8, _ => exact List.all_eq_true.mp qo_l8 r (List.mem_range.mpr (by omega))
  | 9, _ => exact List.all_eq_true.mp qo_l9 r (List.mem_range.mpr (by omega))
  | 10, _ => exact List.all_eq_true.mp qo_l10 r (List.mem_range.mpr (by omega))
  | 11, _ => exact List.all_eq_true.mp qo_l11 r (List.mem_range.mpr (by omega))
  | n + 12, h => exact absurd h (by omega)
theorem qo_ckA {m : Nat} (h : m < 170) : qo_ck (qt_code m) (qt_bytes m) (qt_size m) = true := by
  by_cases hl : m = 169
  · subst hl; exact qo_ckL
  have hb : m / 10 < 17 := by omega
  have e : m = 10 * (m / 10) + m % 10 := by omega
  have hr : m % 10 < 10 := by omega
  generalize m / 10 = q at *
  generalize m % 10 = r at *
  subst e
  match q, hb with
  | 0, _ => exact qo_d0 r (by omega)
  | 1, _ => exact qo_d1 r (by omega)
  | 2, _ => exact qo_d2 r (by omega)
  | 3, _ => exact qo_d3 r (by omega)
  | 4, _ => exact qo_d4 r (by omega)
  | 5, _ => exact qo_d5 r (by omega)
  | 6, _ => exact qo_d6 r (by omega)
  | 7, _ => exact qo_d7 r (by omega)
  | 8, _ => exact qo_d8 r (by omega)
  | 9, _ => exact qo_d9 r (by omega)
  | 10, _ => exact qo_d10 r (by omega)
  | 11, _ => exact qo_d11 r (by omega)
  | 12, _ => exact qo_d12 r (by omega)
  | 13, _ => exact qo_d13 r (by omega)
  | 14, _ => exact qo_d14 r (by omega)
  | 15, _ => exact qo_d15 r (by omega)
  | 16, _ => exact qo_d16 r (by omega)
  | n + 17, h => exact absurd h (by omega)
theorem qo_size {m pc : Nat} {q : Instr × Nat} (h : qt_code m pc = some q) (hm : m < qt_M) : pc < qt_size m := by
  by_cases hp : pc < qt_size m
  · exact hp
  · exfalso
    revert h
    have key : ∀ m, m < qt_M → ∀ pc, ¬ pc < qt_size m → qt_code m pc = none := by
      intro m hm pc hp
      match m, hm with
      | 0, _ => exact (show qc_0 pc = none from by unfold qc_0; rw [show Nat.blt pc 193 = false from qo_b1 hp]; rfl)
      | 1, _ => exact (show qc_1 pc = none from by unfold qc_1; rw [show Nat.blt pc 14 = false from qo_b1 hp]; rfl)
      | 2, _ => exact (show qc_2 pc = none from by unfold qc_2; rw [show Nat.blt pc 16 = false from qo_b1 hp]; rfl)
      | 3, _ => exact (show qc_3 pc = none from by unfold qc_3; rw [show Nat.blt pc 21 = false from qo_b1 hp]; rfl)
      | 4, _ => exact (show qc_4 pc = none from by unfold qc_4; rw [show Nat.blt pc 82 = false from qo_b1 hp]; rfl)
      | 5, _ => exact (show qc_5 pc = none from by unfold qc_5; rw [show Nat.blt pc 13 = false from qo_b1 hp]; rfl)
      | 6, _ => exact (show qc_6 pc = none from by unfold qc_6; rw [show Nat.blt pc 10 = false from qo_b1 hp]; rfl)
      | 7, _ => exact (show qc_7 pc = none from by unfold qc_7; rw [show Nat.blt pc 5 = false from qo_b1 hp]; rfl)
      | 8, _ => exact (show qc_8 pc = none from by unfold qc_8; rw [show Nat.blt pc 47 = false from qo_b1 hp]; rfl)
      | 9, _ => exact (show qc_9 pc = none from by unfold qc_9; rw [show Nat.blt pc 5 = false from qo_b1 hp]; rfl)
      | 10, _ => exact (show qc_10 pc = none from by unfold qc_10; rw [show Nat.blt pc 10 = false from qo_b1 hp]; rfl)
      | 11, _ => exact (show qc_11 pc = none from by unfold qc_11; rw [show Nat.blt pc 21 = false from qo_b1 hp]; rfl)
      | 12, _ => exact (show qc_12 pc = none from by unfold qc_12; rw [show Nat.blt pc 62 = false from qo_b1 hp]; rfl)
      | 13, _ => exact (show qc_13 pc = none from by unfold qc_13; rw [show Nat.blt pc 15 = false from qo_b1 hp]; rfl)
      | 14, _ => exact (show qc_14 pc = none from by unfold qc_14; rw [show Nat.blt pc 99 = false from qo_b1 hp]; rfl)
      | 15, _ => exact (show qc_15 pc = none from by unfold qc_15; rw [show Nat.blt pc 33 = false from qo_b1 hp]; rfl)
      | 16, _ => exact (show qc_16 pc = none from by unfold qc_16; rw [show Nat.blt pc 13 = false from qo_b1 hp]; rfl)
      | 17, _ => exact (show qc_17 pc = none from by unfold qc_17; rw [show Nat.blt pc 24 = false from qo_b1 hp]; rfl)
      | 18, _ => exact (show qc_18 pc = none from by unfold qc_18; rw [show Nat.blt pc 159 = false from qo_b1 hp]; rfl)
      | 19, _ => exact (show qc_19 pc = none from by unfold qc_19; rw [show Nat.blt pc 23 = false from qo_b1 hp]; rfl)
      | 20, _ => exact (show qc_20 pc = none from by unfold qc_20; rw [show Nat.blt pc 10 = false from qo_b1 hp]; rfl)
      | 21, _ => exact (show qc_21 pc = none from by unfold qc_21; rw [show Nat.blt pc 42 = false from qo_b1 hp]; rfl)
      | 22, _ => exact (show qc_22 pc = none from by unfold qc_22; rw [show Nat.blt pc 20 = false from qo_b1 hp]; rfl)
      | 23, _ => exact (show qc_23 pc = none from by unfold qc_23; rw [show Nat.blt pc 41 = false from qo_b1 hp]; rfl)
      | 24, _ => exact (show qc_24 pc = none from by unfold qc_24; rw [show Nat.blt pc 19 = false from qo_b1 hp]; rfl)
      | 25, _ => exact (show qc_25 pc = none from by unfold qc_25; rw [show Nat.blt pc 15 = false from qo_b1 hp]; rfl)
      | 26, _ => exact (show qc_26 pc = none from by unfold qc_26; rw [show Nat.blt pc 18 = false from qo_b1 hp]; rfl)
      | 27, _ => exact (show qc_27 pc = none from by unfold qc_27; rw [show Nat.blt pc 27 = false from qo_b1 hp]; rfl)
      | 28, _ => exact (show qc_28 pc = none from by unfold qc_28; rw [show Nat.blt pc 43 = false from qo_b1 hp]; rfl)
      | 29, _ => exact (show qc_29 pc = none from by unfold qc_29; rw [show Nat.blt pc 34 = false from qo_b1 hp]; rfl)
      | 30, _ => exact (show qc_30 pc = none from by unfold qc_30; rw [show Nat.blt pc 26 = false from qo_b1 hp]; rfl)
      | 31, _ => exact (show qc_31 pc = none from by unfold qc_31; rw [show Nat.blt pc 62 = false from qo_b1 hp]; rfl)
      | 32, _ => exact (show qc_32 pc = none from by unfold qc_32; rw [show Nat.blt pc 26 = false from qo_b1 hp]; rfl)
      | 33, _ => exact (show qc_33 pc = none from by unfold qc_33; rw [show Nat.blt pc 74 = false from qo_b1 hp]; rfl)
      | 34, _ => exact (show qc_34 pc = none from by unfold qc_34; rw [show Nat.blt pc 25 = false from qo_b1 hp]; rfl)
      | 35, _ => exact (show qc_35 pc = none from by unfold qc_35; rw [show Nat.blt pc 20 = false from qo_b1 hp]; rfl)
      | 36, _ => exact (show qc_36 pc = none from by unfold qc_36; rw [show Nat.blt pc 38 = false from qo_b1 hp]; rfl)
      | 37, _ => exact (show qc_37 pc = none from by unfold qc_37; rw [show Nat.blt pc 24 = false from qo_b1 hp]; rfl)
      | 38, _ => exact (show qc_38 pc = none from by unfold qc_38; rw [show Nat.blt pc 46 = false from qo_b1 hp]; rfl)
      | 39, _ => exact (show qc_39 pc = none from by unfold qc_39; rw [show Nat.blt pc 33 = false from qo_b1 hp]; rfl)
      | 40, _ => exact (show qc_40 pc = none from by unfold qc_40; rw [show Nat.blt pc 65 = false from qo_b1 hp]; rfl)
      | 41, _ => exact (show qc_41 pc = none from by unfold qc_41; rw [show Nat.blt pc 15 = false from qo_b1 hp]; rfl)
      | 42, _ => exact (show qc_42 pc = none from by unfold qc_42; rw [show Nat.blt pc 59 = false from qo_b1 hp]; rfl)
      | 43, _ => exact (show qc_43 pc = none from by unfold qc_43; rw [show Nat.blt pc 17 = false from qo_b1 hp]; rfl)
      | 44, _ => exact (show qc_44 pc = none from by unfold qc_44; rw [show Nat.blt pc 22 = false from qo_b1 hp]; rfl)
      | 45, _ => exact (show qc_45 pc = none from by unfold qc_45; rw [show Nat.blt pc 12 = false from qo_b1 hp]; rfl)
      | 46, _ => exact (show qc_46 pc = none from by unfold qc_46; rw [show Nat.blt pc 17 = false from qo_b1 hp]; rfl)
      | 47, _ => exact (show qc_47 pc = none from by unfold qc_47; rw [show Nat.blt pc 25 = false from qo_b1 hp]; rfl)
      | 48, _ => exact (show qc_48 pc = none from by unfold qc_48; rw [show Nat.blt pc 16 = false from qo_b1 hp]; rfl)
      | 49, _ => exact (show qc_49 pc = none from by unfold qc_49; rw [show Nat.blt pc 39 = false from qo_b1 hp]; rfl)
      | 50, _ => exact (show qc_50 pc = none from by unfold qc_50; rw [show Nat.blt pc 111 = false from qo_b1 hp]; rfl)
      | 51, _ => exact (show qc_51 pc = none from by unfold qc_51; rw [show Nat.blt pc 39 = false from qo_b1 hp]; rfl)
      | 52, _ => exact (show qc_52 pc = none from by unfold qc_52; rw [show Nat.blt pc 27 = false from qo_b1 hp]; rfl)
      | 53, _ => exact (show qc_53 pc = none from by unfold qc_53; rw [show Nat.blt pc 22 = false from qo_b1 hp]; rfl)
      | 54, _ => exact (show qc_54 pc = none from by unfold qc_54; rw [show Nat.blt pc 61 = false from qo_b1 hp]; rfl)
      | 55, _ => exact (show qc_55 pc = none from by unfold qc_55; rw [show Nat.blt pc 74 = false from qo_b1 hp]; rfl)
      | 56, _ => exact (show qc_56 pc = none from by unfold qc_56; rw [show Nat.blt pc 150 = false from qo_b1 hp]; rfl)
      | 57, _ => exact (show qc_57 pc = none from by unfold qc_57; rw [show Nat.blt pc 22 = false from qo_b1 hp]; rfl)
      | 58, _ => exact (show qc_58 pc = none from by unfold qc_58; rw [show Nat.blt pc 5 = false from qo_b1 hp]; rfl)
      | 59, _ => exact (show qc_59 pc = none from by unfold qc_59; rw [show Nat.blt pc 5 = false from qo_b1 hp]; rfl)
      | 60, _ => exact (show qc_60 pc = none from by unfold qc_60; rw [show Nat.blt pc 114 = false from qo_b1 hp]; rfl)
      | 61, _ => exact (show qc_61 pc = none from by unfold qc_61; rw [show Nat.blt pc 19 = false from qo_b1 hp]; rfl)
      | 62, _ => exact (show qc_62 pc = none from by unfold qc_62; rw [show Nat.blt pc 19 = false from qo_b1 hp]; rfl)
      | 63, _ => exact (show qc_63 pc = none from by unfold qc_63; rw [show Nat.blt pc 52 = false from qo_b1 hp]; rfl)
      | 64, _ => exact (show qc_64 pc = none from by unfold qc_64; rw [show Nat.blt pc 39 = false from qo_b1 hp]; rfl)
      | 65, _ => exact (show qc_65 pc = none from by unfold qc_65; rw [show Nat.blt pc 93 = false from qo_b1 hp]; rfl)
      | 66, _ => exact (show qc_66 pc = none from by unfold qc_66; rw [show Nat.blt pc 37 = false from qo_b1 hp]; rfl)
      | 67, _ => exact (show qc_67 pc = none from by unfold qc_67; rw [show Nat.blt pc 13 = false from qo_b1 hp]; rfl)
      | 68, _ => exact (show qc_68 pc = none from by unfold qc_68; rw [show Nat.blt pc 45 = false from qo_b1 hp]; rfl)
      | 69, _ => exact (show qc_69 pc = none from by unfold qc_69; rw [show Nat.blt pc 24 = false from qo_b1 hp]; rfl)
      | 70, _ => exact (show qc_70 pc = none from by unfold qc_70; rw [show Nat.blt pc 84 = false from qo_b1 hp]; rfl)
      | 71, _ => exact (show qc_71 pc = none from by unfold qc_71; rw [show Nat.blt pc 86 = false from qo_b1 hp]; rfl)
      | 72, _ => exact (show qc_72 pc = none from by unfold qc_72; rw [show Nat.blt pc 36 = false from qo_b1 hp]; rfl)
      | 73, _ => exact (show qc_73 pc = none from by unfold qc_73; rw [show Nat.blt pc 37 = false from qo_b1 hp]; rfl)
      | 74, _ => exact (show qc_74 pc = none from by unfold qc_74; rw [show Nat.blt pc 27 = false from qo_b1 hp]; rfl)
      | 75, _ => exact (show qc_75 pc = none from by unfold qc_75; rw [show Nat.blt pc 61 = false from qo_b1 hp]; rfl)
      | 76, _ => exact (show qc_76 pc = none from by unfold qc_76; rw [show Nat.blt pc 21 = false from qo_b1 hp]; rfl)
      | 77, _ => exact (show qc_77 pc = none from by unfold qc_77; rw [show Nat.blt pc 50 = false from qo_b1 hp]; rfl)
      | 78, _ => exact (show qc_78 pc = none from by unfold qc_78; rw [show Nat.blt pc 74 = false from qo_b1 hp]; rfl)
      | 79, _ => exact (show qc_79 pc = none from by unfold qc_79; rw [show Nat.blt pc 20 = false from qo_b1 hp]; rfl)
      | 80, _ => exact (show qc_80 pc = none from by unfold qc_80; rw [show Nat.blt pc 76 = false from qo_b1 hp]; rfl)
      | 81, _ => exact (show qc_81 pc = none from by unfold qc_81; rw [show Nat.blt pc 29 = false from qo_b1 hp]; rfl)
      | 82, _ => exact (show qc_82 pc = none from by unfold qc_82; rw [show Nat.blt pc 50 = false from qo_b1 hp]; rfl)
      | 83, _ => exact (show qc_83 pc = none from by unfold qc_83; rw [show Nat.blt pc 19 = false from qo_b1 hp]; rfl)
      | 84, _ => exact (show qc_84 pc = none from by unfold qc_84; rw [show Nat.blt pc 45 = false from qo_b1 hp]; rfl)
      | 85, _ => exact (show qc_85 pc = none from by unfold qc_85; rw [show Nat.blt pc 67 = false from qo_b1 hp]; rfl)
      | 86, _ => exact (show qc_86 pc = none from by unfold qc_86; rw [show Nat.blt pc 54 = false from qo_b1 hp]; rfl)
      | 87, _ => exact (show qc_87 pc = none from by unfold qc_87; rw [show Nat.blt pc 124 = false from qo_b1 hp]; rfl)
      | 88, _ => exact (show qc_88 pc = none from by unfold qc_88; rw [show Nat.blt pc 75 = false from qo_b1 hp]; rfl)
      | 89, _ => exact (show qc_89 pc = none from by unfold qc_89; rw [show Nat.blt pc 22 = false from qo_b1 hp]; rfl)
      | 90, _ => exact (show qc_90 pc = none from by unfold qc_90; rw [show Nat.blt pc 73 = false from qo_b1 hp]; rfl)
      | 91, _ => exact (show qc_91 pc = none from by unfold qc_91; rw [show Nat.blt pc 14 = false from qo_b1 hp]; rfl)
      | 92, _ => exact (show qc_92 pc = none from by unfold qc_92; rw [show Nat.blt pc 14 = false from qo_b1 hp]; rfl)
      | 93, _ => exact (show qc_93 pc = none from by unfold qc_93; rw [show Nat.blt pc 24 = false from qo_b1 hp]; rfl)
      | 94, _ => exact (show qc_94 pc = none from by unfold qc_94; rw [show Nat.blt pc 31 = false from qo_b1 hp]; rfl)
      | 95, _ => exact (show qc_95 pc = none from by unfold qc_95; rw [show Nat.blt pc 62 = false from qo_b1 hp]; rfl)
      | 96, _ => exact (show qc_96 pc = none from by unfold qc_96; rw [show Nat.blt pc 273 = false from qo_b1 hp]; rfl)
      | 97, _ => exact (show qc_97 pc = none from by unfold qc_97; rw [show Nat.blt pc 30 = false from qo_b1 hp]; rfl)
      | 98, _ => exact (show qc_98 pc = none from by unfold qc_98; rw [show Nat.blt pc 29 = false from qo_b1 hp]; rfl)
      | 99, _ => exact (show qc_99 pc = none from by unfold qc_99; rw [show Nat.blt pc 20 = false from qo_b1 hp]; rfl)
      | 100, _ => exact (show qc_100 pc = none from by unfold qc_100; rw [show Nat.blt pc 33 = false from qo_b1 hp]; rfl)
      | 101, _ => exact (show qc_101 pc = none from by unfold qc_101; rw [show Nat.blt pc 16 = false from qo_b1 hp]; rfl)
      | 102, _ => exact (show qc_102 pc = none from by unfold qc_102; rw [show Nat.blt pc 30 = false from qo_b1 hp]; rfl)
      | 103, _ => exact (show qc_103 pc = none from by unfold qc_103; rw [show Nat.blt pc 86 = false from qo_b1 hp]; rfl)
      | 104, _ => exact (show qc_104 pc = none from by unfold qc_104; rw [show Nat.blt pc 20 = false from qo_b1 hp]; rfl)
      | 105, _ => exact (show qc_105 pc = none from by unfold qc_105; rw [show Nat.blt pc 59 = false from qo_b1 hp]; rfl)
      | 106, _ => exact (show qc_106 pc = none from by unfold qc_106; rw [show Nat.blt pc 18 = false from qo_b1 hp]; rfl)
      | 107, _ => exact (show qc_107 pc = none from by unfold qc_107; rw [show Nat.blt pc 58 = false from qo_b1 hp]; rfl)
      | 108, _ => exact (show qc_108 pc = none from by unfold qc_108; rw [show Nat.blt pc 16 = false from qo_b1 hp]; rfl)
      | 109, _ => exact (show qc_109 pc = none from by unfold qc_109; rw [show Nat.blt pc 27 = false from qo_b1 hp]; rfl)
      | 110, _ => exact (show qc_110 pc = none from by unfold qc_110; rw [show Nat.blt pc 74 = false from qo_b1 hp]; rfl)
      | 111, _ => exact (show qc_111 pc = none from by unfold qc_111; rw [show Nat.blt pc 17 = false from qo_b1 hp]; rfl)
      | 112, _ => exact (show qc_112 pc = none from by unfold qc_112; rw [show Nat.blt pc 16 = false from qo_b1 hp]; rfl)
      | 113, _ => exact (show qc_113 pc = none from by unfold qc_113; rw [show Nat.blt pc 327 = false from qo_b1 hp]; rfl)
      | 114, _ => exact (show qc_114 pc = none from by unfold qc_114; rw [show Nat.blt pc 5 = false from qo_b1 hp]; rfl)
      | 115, _ => exact (show qc_115 pc = none from by unfold qc_115; rw [show Nat.blt pc 30 = false from qo_b1 hp]; rfl)
      | 116, _ => exact (show qc_116 pc = none from by unfold qc_116; rw [show Nat.blt pc 16 = false from qo_b1 hp]; rfl)
      | 117, _ => exact (show qc_117 pc = none from by unfold qc_117; rw [show Nat.blt pc 45 = false from qo_b1 hp]; rfl)
      | 118, _ => exact (show qc_118 pc = none from by unfold qc_118; rw [show Nat.blt pc 72 = false from qo_b1 hp]; rfl)
      | 119, _ => exact (show qc_119 pc = none from by unfold qc_119; rw [show Nat.blt pc 45 = false from qo_b1 hp]; rfl)
      | 120, _ => exact (show qc_120 pc = none from by unfold qc_120; rw [show Nat.blt pc 98 = false from qo_b1 hp]; rfl)
      | 121, _ => exact (show qc_121 pc = none from by unfold qc_121; rw [show Nat.blt pc 28 = false from qo_b1 hp]; rfl)
      | 122, _ => exact (show qc_122 pc = none from by unfold qc_122; rw [show Nat.blt pc 51 = false from qo_b1 hp]; rfl)
      | 123, _ => exact (show qc_123 pc = none from by unfold qc_123; rw [show Nat.blt pc 148 = false from qo_b1 hp]; rfl)
      | 124, _ => exact (show qc_124 pc = none from by unfold qc_124; rw [show Nat.blt pc 17 = false from qo_b1 hp]; rfl)
      | 125, _ => exact (show qc_125 pc = none from by unfold qc_125; rw [show Nat.blt pc 53 = false from qo_b1 hp]; rfl)
      | 126, _ => exact (show qc_126 pc = none from by unfold qc_126; rw [show Nat.blt pc 17 = false from qo_b1 hp]; rfl)
      | 127, _ => exact (show qc_127 pc = none from by unfold qc_127; rw [show Nat.blt pc 47 = false from qo_b1 hp]; rfl)
      | 128, _ => exact (show qc_128 pc = none from by unfold qc_128; rw [show Nat.blt pc 78 = false from qo_b1 hp]; rfl)
      | 129, _ => exact (show qc_129 pc = none from by unfold qc_129; rw [show Nat.blt pc 73 = false from qo_b1 hp]; rfl)
      | 130, _ => exact (show qc_130 pc = none from by unfold qc_130; rw [show Nat.blt pc 50 = false from qo_b1 hp]; rfl)
      | 131, _ => exact (show qc_131 pc = none from by unfold qc_131; rw [show Nat.blt pc 92 = false from qo_b1 hp]; rfl)
      | 132, _ => exact (show qc_132 pc = none from by unfold qc_132; rw [show Nat.blt pc 41 = false from qo_b1 hp]; rfl)
      | 133, _ => exact (show qc_133 pc = none from by unfold qc_133; rw [show Nat.blt pc 160 = false from qo_b1 hp]; rfl)
      | 134, _ => exact (show qc_134 pc = none from by unfold qc_134; rw [show Nat.blt pc 62 = false from qo_b1 hp]; rfl)
      | 135, _ => exact (show qc_135 pc = none from by unfold qc_135; rw [show Nat.blt pc 76 = false from qo_b1 hp]; rfl)
      | 136, _ => exact (show qc_136 pc = none from by unfold qc_136; rw [show Nat.blt pc 48 = false from qo_b1 hp]; rfl)
      | 137, _ => exact (show qc_137 pc = none from by unfold qc_137; rw [show Nat.blt pc 109 = false from qo_b1 hp]; rfl)
      | 138, _ => exact (show qc_138 pc = none from by unfold qc_138; rw [show Nat.blt pc 52 = false from qo_b1 hp]; rfl)
      | 139, _ => exact (show qc_139 pc = none from by unfold qc_139; rw [show Nat.blt pc 58 = false from qo_b1 hp]; rfl)
      | 140, _ => exact (show qc_140 pc = none from by unfold qc_140; rw [show Nat.blt pc 50 = false from qo_b1 hp]; rfl)
      | 141, _ => exact (show qc_141 pc = none from by unfold qc_141; rw [show Nat.blt pc 90 = false from qo_b1 hp]; rfl)
      | 142, _ => exact (show qc_142 pc = none from by unfold qc_142; rw [show Nat.blt pc 36 = false from qo_b1 hp]; rfl)
      | 143, _ => exact (show qc_143 pc = none from by unfold qc_143; rw [show Nat.blt pc 55 = false from qo_b1 hp]; rfl)
      | 144, _ => exact (show qc_144 pc = none from by unfold qc_144; rw [show Nat.blt pc 58 = false from qo_b1 hp]; rfl)
      | 145, _ => exact (show qc_145 pc = none from by unfold qc_145; rw [show Nat.blt pc 99 = false from qo_b1 hp]; rfl)
      | 146, _ => exact (show qc_146 pc = none from by unfold qc_146; rw [show Nat.blt pc 187 = false from qo_b1 hp]; rfl)
      | 147, _ => exact (show qc_147 pc = none from by unfold qc_147; rw [show Nat.blt pc 138 = false from qo_b1 hp]; rfl)
      | 148, _ => exact (show qc_148 pc = none from by unfold qc_148; rw [show Nat.blt pc 115 = false from qo_b1 hp]; rfl)
      | 149, _ => exact (show qc_149 pc = none from by unfold qc_149; rw [show Nat.blt pc 280 = false from qo_b1 hp]; rfl)
      | 150, _ => exact (show qc_150 pc = none from by unfold qc_150; rw [show Nat.blt pc 21 = false from qo_b1 hp]; rfl)
      | 151, _ => exact (show qc_151 pc = none from by unfold qc_151; rw [show Nat.blt pc 20 = false from qo_b1 hp]; rfl)
      | 152, _ => exact (show qc_152 pc = none from by unfold qc_152; rw [show Nat.blt pc 82 = false from qo_b1 hp]; rfl)
      | 153, _ => exact (show qc_153 pc = none from by unfold qc_153; rw [show Nat.blt pc 40 = false from qo_b1 hp]; rfl)
      | 154, _ => exact (show qc_154 pc = none from by unfold qc_154; rw [show Nat.blt pc 91 = false from qo_b1 hp]; rfl)
      | 155, _ => exact (show qc_155 pc = none from by unfold qc_155; rw [show Nat.blt pc 111 = false from qo_b1 hp]; rfl)
      | 156, _ => exact (show qc_156 pc = none from by unfold qc_156; rw [show Nat.blt pc 130 = false from qo_b1 hp]; rfl)
      | 157, _ => exact (show qc_157 pc = none from by unfold qc_157; rw [show Nat.blt pc 187 = false from qo_b1 hp]; rfl)
      | 158, _ => exact (show qc_158 pc = none from by unfold qc_158; rw [show Nat.blt pc 34 = false from qo_b1 hp]; rfl)
      | 159, _ => exact (show qc_159 pc = none from by unfold qc_159; rw [show Nat.blt pc 48 = false from qo_b1 hp]; rfl)
      | 160, _ => exact (show qc_160 pc = none from by unfold qc_160; rw [show Nat.blt pc 30 = false from qo_b1 hp]; rfl)
      | 161, _ => exact (show qc_161 pc = none from by unfold qc_161; rw [show Nat.blt pc 73 = false from qo_b1 hp]; rfl)
      | 162, _ => exact (show qc_162 pc = none from by unfold qc_162; rw [show Nat.blt pc 47 = false from qo_b1 hp]; rfl)
      | 163, _ => exact (show qc_163 pc = none from by unfold qc_163; rw [show Nat.blt pc 106 = false from qo_b1 hp]; rfl)
      | 164, _ => exact (show qc_164 pc = none from by unfold qc_164; rw [show Nat.blt pc 37 = false from qo_b1 hp]; rfl)
      | 165, _ => exact (show qc_165 pc = none from by unfold qc_165; rw [show Nat.blt pc 48 = false from qo_b1 hp]; rfl)
      | 166, _ => exact (show qc_166 pc = none from by unfold qc_166; rw [show Nat.blt pc 109 = false from qo_b1 hp]; rfl)
      | 167, _ => exact (show qc_167 pc = none from by unfold qc_167; rw [show Nat.blt pc 267 = false from qo_b1 hp]; rfl)
      | 168, _ => exact (show qc_168 pc = none from by unfold qc_168; rw [show Nat.blt pc 48 = false from qo_b1 hp]; rfl)
      | 169, _ => exact (show qc_169 pc = none from by unfold qc_169; rw [show Nat.blt pc 1155 = false from qo_b1 hp]; rfl)
      | n + 170, h => exact absurd h (by unfold qt_M; omega)
    rw [key m hm pc hp]
    intro h
    cases h
theorem qo_dec {m pc : Nat} {q : Instr × Nat} (h : qt_code m pc = some q) : decode (qt_bytes m) pc = .ok q := by
  by_cases hm : m < qt_M
  · have h1 := List.all_eq_true.mp (qo_ckA hm) pc (List.mem_range.mpr (qo_size h hm))
    rw [h] at h1
    exact of_decide_eq_true h1
  · unfold qt_code at h
    rw [show Nat.blt m 170 = false from qo_b1 hm] at h
    cases h
def qo_cond (y : Nat) : Cond := bif (qt_hraw y).isEmpty then .code (qt_y y) (qt_bytes y) (qt_maxL y) (qt_rty y) else .codeWith (qt_y y) (qt_bytes y) (qt_maxL y) (qt_rty y) (qt_hraw y)
set_option maxRecDepth 100000 in
theorem qo_w0 : qo_cond 0 ∈ qw := qo_in (i := 26) rfl rfl
set_option maxRecDepth 100000 in
theorem qo_w1 : qo_cond 1 ∈ qw := qo_in (i := 42) rfl rfl
set_option maxRecDepth 100000 in
theorem qo_w2 : qo_cond 2 ∈ qw := qo_in (i := 57) rfl rfl
set_option maxRecDepth 100000 in
theorem qo_w3 : qo_cond 3 ∈ qw := qo_in (i := 63) rfl rfl
set_option maxRecDepth 100000 in
theorem qo_w4 : qo_cond 4 ∈ qw := qo_in (i := 82) rfl rfl
set_option maxRecDepth 100000 in
theorem qo_w5 : qo_cond 5 ∈ qw := qo_in (i := 90) rfl rfl
set_option maxRecDepth 100000 in
theorem qo_w6 : qo_cond 6 ∈ qw := qo_in (i := 103) rfl rfl
set_option maxRecDepth 100000 in
theorem qo_w7 : qo_cond 7 ∈ qw := qo_in (i := 170) rfl rfl
set_option maxRecDepth 100000 in
theorem qo_w8 : qo_cond 8 ∈ qw := qo_in (i := 190) rfl rfl
set_option maxRecDepth 100000 in
theorem qo_w9 : qo_cond 9 ∈ qw := qo_in (i := 197) rfl rfl
set_option maxRecDepth 100000 in
theorem qo_w10 : qo_cond 10 ∈ qw := qo_in (i := 238) rfl rfl
set_option maxRecDepth 100000 in
theorem qo_w11 : qo_cond 11 ∈ qw := qo_in (i := 255) rfl rfl
set_option maxRecDepth 100000 in
theorem qo_w12 : qo_cond 12 ∈ qw := qo_in (i := 296) rfl rfl
set_option maxRecDepth 100000 in
theorem qo_w13 : qo_cond 13 ∈ qw := qo_in (i := 299) rfl rfl
set_option maxRecDepth 100000 in
theorem qo_w14 : qo_cond 14 ∈ qw := qo_in (i := 303) rfl rfl
set_option maxRecDepth 100000 in
theorem qo_w15 : qo_cond 15 ∈ qw := qo_in (i := 307) rfl rfl
set_option maxRecDepth 100000 in
theorem qo_w16 : qo_cond 16 ∈ qw := qo_in (i := 311) rfl rfl
set_option maxRecDepth 100000 in
theorem qo_w17 : qo_cond 17 ∈ qw := qo_in (i := 315) rfl rfl
set_option maxRecDepth 100000 in
theorem qo_w18 : qo_cond 18 ∈ qw := qo_in (i := 319) rfl rfl
set_option maxRecDepth 100000 in
theorem qo_w19 : qo_cond 19 ∈ qw := qo_in (i := 323) rfl rfl
set_option maxRecDepth 100000 in
theorem qo_w20 : qo_cond 20 ∈ qw := qo_in (i := 327) rfl rfl
set_option maxRecDepth 100000 in
theorem qo_w21 : qo_cond 21 ∈ qw := qo_in (i := 331) rfl rfl
set_option maxRecDepth 100000 in
theorem qo_w22 : qo_cond 22 ∈ qw := qo_in (i := 338) rfl rfl
set_option maxRecDepth 100000 in
theorem qo_w23 : qo_cond 23 ∈ qw := qo_in (i := 345) rfl rfl
set_option maxRecDepth 100000 in
theorem qo_w24 : qo_cond 24 ∈ qw := qo_in (i := 348) rfl rfl
set_option maxRecDepth 100000 in
theorem qo_w25 : qo_cond 25 ∈ qw := qo_in (i := 419) rfl rfl
set_option maxRecDepth 100000 in
theorem qo_w26 : qo_cond 26 ∈ qw := qo_in (i := 439) rfl rfl
set_option maxRecDepth 100000 in
theorem qo_w27 : qo_cond 27 ∈ qw := qo_in (i := 458) rfl rfl
set_option maxRecDepth 100000 in
theorem qo_w28 : qo_cond 28 ∈ qw := qo_in (i := 462) rfl rfl
set_option maxRecDepth 100000 in
theorem qo_w29 : qo_cond 29 ∈ qw := qo_in (i := 466) rfl rfl
set_option maxRecDepth 100000 in
theorem qo_w30 : qo_cond 30 ∈ qw := qo_in (i := 469) rfl rfl
set_option maxRecDepth 100000 in
theorem qo_w31 : qo_cond 31 ∈ qw := qo_in (i := 473) rfl rfl
set_option maxRecDepth 100000 in
theorem qo_w32 : qo_cond 32 ∈ qw := qo_in (i := 476) rfl rfl
set_option maxRecDepth 100000 in
theorem qo_w33 : qo_cond 33 ∈ qw := qo_in (i := 480) rfl rfl
set_option maxRecDepth 100000 in
theorem qo_w34 : qo_cond 34 ∈ qw := qo_in (i := 484) rfl rfl
set_option maxRecDepth 100000 in
theorem qo_w35 : qo_cond 35 ∈ qw := qo_in (i := 487) rfl rfl
set_option maxRecDepth 100000 in
theorem qo_w36 : qo_cond 36 ∈ qw := qo_in (i := 491) rfl rfl
set_option maxRecDepth 100000 in
theorem qo_w37 : qo_cond 37 ∈ qw := qo_in (i := 494) rfl rfl
set_option maxRecDepth 100000 in
theorem qo_w38 : qo_cond 38 ∈ qw := qo_in (i := 498) rfl rfl
set_option maxRecDepth 100000 in
theorem qo_w39 : qo_cond 39 ∈ qw := qo_in (i := 501) rfl rfl
set_option maxRecDepth 100000 in
theorem qo_w40 : qo_cond 40 ∈ qw := qo_in (i := 505) rfl rfl
set_option maxRecDepth 100000 in
theorem qo_w41 : qo_cond 41 ∈ qw := qo_in (i := 508) rfl rfl
set_option maxRecDepth 100000 in
theorem qo_w42 : qo_cond 42 ∈ qw := qo_in (i := 512) rfl rfl
set_option maxRecDepth 100000 in
theorem qo_w43 : qo_cond 43 ∈ qw := qo_in (i := 515) rfl rfl
set_option maxRecDepth 100000 in
theorem qo_w44 : qo_cond 44 ∈ qw := qo_in (i := 519) rfl rfl
set_option maxRecDepth 100000 in
theorem qo_w45 : qo_cond 45 ∈ qw := qo_in (i := 522) rfl rfl
set_option maxRecDepth 100000 in
theorem qo_w46 : qo_cond 46 ∈ qw := qo_in (i := 525) rfl rfl
set_option maxRecDepth 100000 in
theorem qo_w47 : qo_cond 47 ∈ qw := qo_in (i := 529) rfl rfl
set_option maxRecDepth 100000 in
theorem qo_w48 : qo_cond 48 ∈ qw := qo_in (i := 532) rfl rfl
set_option maxRecDepth 100000 in
theorem qo_w49 : qo_cond 49 ∈ qw := qo_in (i := 536) rfl rfl
set_option maxRecDepth 100000 in
theorem qo_w50 : qo_cond 50 ∈ qw := qo_in (i := 540) rfl rfl
set_option maxRecDepth 100000 in
theorem qo_w51 : qo_cond 51 ∈ qw := qo_in (i := 544) rfl rfl
set_option maxRecDepth 100000 in
theorem qo_w52 : qo_cond 52 ∈ qw := qo_in (i := 547) rfl rfl
set_option maxRecDepth 100000 in
theorem qo_w53 : qo_cond 53 ∈ qw := qo_in (i := 551) rfl rfl
set_option maxRecDepth 100000 in
theorem qo_w54 : qo_cond 54 ∈ qw := qo_in (i := 555) rfl rfl
set_option maxRecDepth 100000 in
theorem qo_w55 : qo_cond 55 ∈ qw := qo_in (i := 560) rfl rfl
set_option maxRecDepth 100000 in
theorem qo_w56 : qo_cond 56 ∈ qw := qo_in (i := 565) rfl rfl
set_option maxRecDepth 100000 in
theorem qo_w57 : qo_cond 57 ∈ qw := qo_in (i := 569) rfl rfl
set_option maxRecDepth 100000 in
theorem qo_w58 : qo_cond 58 ∈ qw := qo_in (i := 573) rfl rfl
set_option maxRecDepth 100000 in
theorem qo_w59 : qo_cond 59 ∈ qw := qo_in (i := 576) rfl rfl
set_option maxRecDepth 100000 in
theorem qo_w60 : qo_cond 60 ∈ qw := qo_in (i := 579) rfl rfl
set_option maxRecDepth 100000 in
theorem qo_w61 : qo_cond 61 ∈ qw := qo_in (i := 583) rfl rfl
set_option maxRecDepth 100000 in
theorem qo_w62 : qo_cond 62 ∈ qw := qo_in (i := 588) rfl rfl
set_option maxRecDepth 100000 in
theorem qo_w63 : qo_cond 63 ∈ qw := qo_in (i := 594) rfl rfl
set_option maxRecDepth 100000 in
theorem qo_w64 : qo_cond 64 ∈ qw := qo_in (i := 598) rfl rfl
set_option maxRecDepth 100000 in
theorem qo_w65 : qo_cond 65 ∈ qw := qo_in (i := 601) rfl rfl
set_option maxRecDepth 100000 in
theorem qo_w66 : qo_cond 66 ∈ qw := qo_in (i := 604) rfl rfl
set_option maxRecDepth 100000 in
theorem qo_w67 : qo_cond 67 ∈ qw := qo_in (i := 608) rfl rfl
set_option maxRecDepth 100000 in
theorem qo_w68 : qo_cond 68 ∈ qw := qo_in (i := 611) rfl rfl
set_option maxRecDepth 100000 in
theorem qo_w69 : qo_cond 69 ∈ qw := qo_in (i := 615) rfl rfl
set_option maxRecDepth 100000 in
theorem qo_w70 : qo_cond 70 ∈ qw := qo_in (i := 619) rfl rfl
set_option maxRecDepth 100000 in
theorem qo_w71 : qo_cond 71 ∈ qw := qo_in (i := 622) rfl rfl
set_option maxRecDepth 100000 in
theorem qo_w72 : qo_cond 72 ∈ qw := qo_in (i := 625) rfl rfl
set_option maxRecDepth 100000 in
theorem qo_w73 : qo_cond 73 ∈ qw := qo_in (i := 628) rfl rfl
set_option maxRecDepth 100000 in
theorem qo_w74 : qo_cond 74 ∈ qw := qo_in (i := 631) rfl rfl
set_option maxRecDepth 100000 in
theorem qo_w75 : qo_cond 75 ∈ qw := qo_in (i := 634) rfl rfl
set_option maxRecDepth 100000 in
theorem qo_w76 : qo_cond 76 ∈ qw := qo_in (i := 638) rfl rfl
set_option maxRecDepth 100000 in
theorem qo_w77 : qo_cond 77 ∈ qw := qo_in (i := 642) rfl rfl
set_option maxRecDepth 100000 in
theorem qo_w78 : qo_cond 78 ∈ qw := qo_in (i := 646) rfl rfl
set_option maxRecDepth 100000 in
theorem qo_w79 : qo_cond 79 ∈ qw := qo_in (i := 650) rfl rfl
set_option maxRecDepth 100000 in
theorem qo_w80 : qo_cond 80 ∈ qw := qo_in (i := 658) rfl rfl
set_option maxRecDepth 100000 in
theorem qo_w81 : qo_cond 81 ∈ qw := qo_in (i := 662) rfl rfl
set_option maxRecDepth 100000 in
theorem qo_w82 : qo_cond 82 ∈ qw := qo_in (i := 666) rfl rfl
set_option maxRecDepth 100000 in
theorem qo_w83 : qo_cond 83 ∈ qw := qo_in (i := 670) rfl rfl
set_option maxRecDepth 100000 in
theorem qo_w84 : qo_cond 84 ∈ qw := qo_in (i := 674) rfl rfl
set_option maxRecDepth 100000 in
theorem qo_w85 : qo_cond 85 ∈ qw := qo_in (i := 678) rfl rfl
set_option maxRecDepth 100000 in
theorem qo_w86 : qo_cond 86 ∈ qw := qo_in (i := 682) rfl rfl
set_option maxRecDepth 100000 in
theorem qo_w87 : qo_cond 87 ∈ qw := qo_in (i := 686) rfl rfl
set_option maxRecDepth 100000 in
theorem qo_w88 : qo_cond 88 ∈ qw := qo_in (i := 690) rfl rfl
set_option maxRecDepth 100000 in
theorem qo_w89 : qo_cond 89 ∈ qw := qo_in (i := 694) rfl rfl
set_option maxRecDepth 100000 in
theorem qo_w90 : qo_cond 90 ∈ qw := qo_in (i := 700) rfl rfl
set_option maxRecDepth 100000 in
theorem qo_w91 : qo_cond 91 ∈ qw := qo_in (i := 703) rfl rfl
set_option maxRecDepth 100000 in
theorem qo_w92 : qo_cond 92 ∈ qw := qo_in (i := 707) rfl rfl
set_option maxRecDepth 100000 in
theorem qo_w93 : qo_cond 93 ∈ qw := qo_in (i := 710) rfl rfl
set_option maxRecDepth 100000 in
theorem qo_w94 : qo_cond 94 ∈ qw := qo_in (i := 714) rfl rfl
set_option maxRecDepth 100000 in
theorem qo_w95 : qo_cond 95 ∈ qw := qo_in (i := 718) rfl rfl
set_option maxRecDepth 100000 in
theorem qo_w96 : qo_cond 96 ∈ qw := qo_in (i := 723) rfl rfl
set_option maxRecDepth 100000 in
theorem qo_w97 : qo_cond 97 ∈ qw := qo_in (i := 729) rfl rfl
set_option maxRecDepth 100000 in
theorem qo_w98 : qo_cond 98 ∈ qw := qo_in (i := 733) rfl rfl
set_option maxRecDepth 100000 in
theorem qo_w99 : qo_cond 99 ∈ qw := qo_in (i := 737) rfl rfl
set_option maxRecDepth 100000 in
theorem qo_w100 : qo_cond 100 ∈ qw := qo_in (i := 741) rfl rfl
set_option maxRecDepth 100000 in
theorem qo_w101 : qo_cond 101 ∈ qw := qo_in (i := 745) rfl rfl
set_option maxRecDepth 100000 in
theorem qo_w102 : qo_cond 102 ∈ qw := qo_in (i := 749) rfl rfl
set_option maxRecDepth 100000 in
theorem qo_w103 : qo_cond 103 ∈ qw := qo_in (i := 752) rfl rfl
set_option maxRecDepth 100000 in
theorem qo_w104 : qo_cond 104 ∈ qw := qo_in (i := 755) rfl rfl
set_option maxRecDepth 100000 in
theorem qo_w105 : qo_cond 105 ∈ qw := qo_in (i := 759) rfl rfl
set_option maxRecDepth 100000 in
theorem qo_w106 : qo_cond 106 ∈ qw := qo_in (i := 763) rfl rfl
set_option maxRecDepth 100000 in
theorem qo_w107 : qo_cond 107 ∈ qw := qo_in (i := 768) rfl rfl
set_option maxRecDepth 100000 in
theorem qo_w108 : qo_cond 108 ∈ qw := qo_in (i := 771) rfl rfl
set_option maxRecDepth 100000 in
theorem qo_w109 : qo_cond 109 ∈ qw := qo_in (i := 775) rfl rfl
set_option maxRecDepth 100000 in
theorem qo_w110 : qo_cond 110 ∈ qw := qo_in (i := 779) rfl rfl
set_option maxRecDepth 100000 in
theorem qo_w111 : qo_cond 111 ∈ qw := qo_in (i := 785) rfl rfl
set_option maxRecDepth 100000 in
theorem qo_w112 : qo_cond 112 ∈ qw := qo_in (i := 789) rfl rfl
set_option maxRecDepth 100000 in
theorem qo_w113 : qo_cond 113 ∈ qw := qo_in (i := 794) rfl rfl
set_option maxRecDepth 100000 in
theorem qo_w114 : qo_cond 114 ∈ qw := qo_in (i := 918) rfl rfl
set_option maxRecDepth 100000 in
theorem qo_w115 : qo_cond 115 ∈ qw := qo_in (i := 922) rfl rfl
set_option maxRecDepth 100000 in
theorem qo_w116 : qo_cond 116 ∈ qw := qo_in (i := 925) rfl rfl
set_option maxRecDepth 100000 in
theorem qo_w117 : qo_cond 117 ∈ qw := qo_in (i := 929) rfl rfl
set_option maxRecDepth 100000 in
theorem qo_w118 : qo_cond 118 ∈ qw := qo_in (i := 933) rfl rfl
set_option maxRecDepth 100000 in
theorem qo_w119 : qo_cond 119 ∈ qw := qo_in (i := 937) rfl rfl
set_option maxRecDepth 100000 in
theorem qo_w120 : qo_cond 120 ∈ qw := qo_in (i := 941) rfl rfl
set_option maxRecDepth 100000 in
theorem qo_w121 : qo_cond 121 ∈ qw := qo_in (i := 945) rfl rfl
set_option maxRecDepth 100000 in
theorem qo_w122 : qo_cond 122 ∈ qw := qo_in (i := 949) rfl rfl
set_option maxRecDepth 100000 in
theorem qo_w123 : qo_cond 123 ∈ qw := qo_in (i := 953) rfl rfl
set_option maxRecDepth 100000 in
theorem qo_w124 : qo_cond 124 ∈ qw := qo_in (i := 957) rfl rfl
set_option maxRecDepth 100000 in
theorem qo_w125 : qo_cond 125 ∈ qw := qo_in (i := 961) rfl rfl
set_option maxRecDepth 100000 in
theorem qo_w126 : qo_cond 126 ∈ qw := qo_in (i := 965) rfl rfl
set_option maxRecDepth 100000 in
theorem qo_w127 : qo_cond 127 ∈ qw := qo_in (i := 969) rfl rfl
set_option maxRecDepth 100000 in
theorem qo_w128 : qo_cond 128 ∈ qw := qo_in (i := 973) rfl rfl
set_option maxRecDepth 100000 in
theorem qo_w129 : qo_cond 129 ∈ qw := qo_in (i := 977) rfl rfl
set_option maxRecDepth 100000 in
theorem qo_w130 : qo_cond 130 ∈ qw := qo_in (i := 981) rfl rfl
set_option maxRecDepth 100000 in
theorem qo_w131 : qo_cond 131 ∈ qw := qo_in (i := 985) rfl rfl
set_option maxRecDepth 100000 in
theorem qo_w132 : qo_cond 132 ∈ qw := qo_in (i := 989) rfl rfl
set_option maxRecDepth 100000 in
theorem qo_w133 : qo_cond 133 ∈ qw := qo_in (i := 993) rfl rfl
set_option maxRecDepth 100000 in
theorem qo_w134 : qo_cond 134 ∈ qw := qo_in (i := 996) rfl rfl
set_option maxRecDepth 100000 in
theorem qo_w135 : qo_cond 135 ∈ qw := qo_in (i := 999) rfl rfl
set_option maxRecDepth 100000 in
theorem qo_w136 : qo_cond 136 ∈ qw := qo_in (i := 1002) rfl rfl
set_option maxRecDepth 100000 in
theorem qo_w137 : qo_cond 137 ∈ qw := qo_in (i := 1006) rfl rfl
set_option maxRecDepth 100000 in
theorem qo_w138 : qo_cond 138 ∈ qw := qo_in (i := 1010) rfl rfl
set_option maxRecDepth 100000 in
theorem qo_w139 : qo_cond 139 ∈ qw := qo_in (i := 1014) rfl rfl
set_option maxRecDepth 100000 in
theorem qo_w140 : qo_cond 140 ∈ qw := qo_in (i := 1018) rfl rfl
set_option maxRecDepth 100000 in
theorem qo_w141 : qo_cond 141 ∈ qw := qo_in (i := 1022) rfl rfl
set_option maxRecDepth 100000 in
theorem qo_w142 : qo_cond 142 ∈ qw := qo_in (i := 1026) rfl rfl
set_option maxRecDepth 100000 in
theorem qo_w143 : qo_cond 143 ∈ qw := qo_in (i := 1030) rfl rfl
set_option maxRecDepth 100000 in
theorem qo_w144 : qo_cond 144 ∈ qw := qo_in (i := 1034) rfl rfl
set_option maxRecDepth 100000 in
theorem qo_w145 : qo_cond 145 ∈ qw := qo_in (i := 1038) rfl rfl
set_option maxRecDepth 100000 in
theorem qo_w146 : qo_cond 146 ∈ qw := qo_in (i := 1042) rfl rfl
set_option maxRecDepth 100000 in
theorem qo_w147 : qo_cond 147 ∈ qw := qo_in (i := 1046) rfl rfl
set_option maxRecDepth 100000 in
theorem qo_w148 : qo_cond 148 ∈ qw := qo_in (i := 1050) rfl rfl
set_option maxRecDepth 100000 in
theorem qo_w149 : qo_cond 149 ∈ qw := qo_in (i := 1054) rfl rfl
set_option maxRecDepth 100000 in
theorem qo_w150 : qo_cond 150 ∈ qw := qo_in (i := 1058) rfl rfl
set_option maxRecDepth 100000 in
theorem qo_w151 : qo_cond 151 ∈ qw := qo_in (i := 1062) rfl rfl
set_option maxRecDepth 100000 in
theorem qo_w152 : qo_cond 152 ∈ qw := qo_in (i := 1065) rfl rfl
set_option maxRecDepth 100000 in
theorem qo_w153 : qo_cond 153 ∈ qw := qo_in (i := 1069) rfl rfl
set_option maxRecDepth 100000 in
theorem qo_w154 : qo_cond 154 ∈ qw := qo_in (i := 1073) rfl rfl
set_option maxRecDepth 100000 in
theorem qo_w155 : qo_cond 155 ∈ qw := qo_in (i := 1077) rfl rfl
set_option maxRecDepth 100000 in
theorem qo_w156 : qo_cond 156 ∈ qw := qo_in (i := 1081) rfl rfl
set_option maxRecDepth 100000 in
theorem qo_w157 : qo_cond 157 ∈ qw := qo_in (i := 1085) rfl rfl
set_option maxRecDepth 100000 in
theorem qo_w158 : qo_cond 158 ∈ qw := qo_in (i := 1089) rfl rfl
set_option maxRecDepth 100000 in
theorem qo_w159 : qo_cond 159 ∈ qw := qo_in (i := 1093) rfl rfl
set_option maxRecDepth 100000 in
theorem qo_w160 : qo_cond 160 ∈ qw := qo_in (i := 1097) rfl rfl
set_option maxRecDepth 100000 in
theorem qo_w161 : qo_cond 161 ∈ qw := qo_in (i := 1101) rfl rfl
set_option maxRecDepth 100000 in
theorem qo_w162 : qo_cond 162 ∈ qw := qo_in (i := 1105) rfl rfl
set_option maxRecDepth 100000 in
theorem qo_w163 : qo_cond 163 ∈ qw := qo_in (i := 1109) rfl rfl
set_option maxRecDepth 100000 in
theorem qo_w164 : qo_cond 164 ∈ qw := qo_in (i := 1114) rfl rfl
set_option maxRecDepth 100000 in
theorem qo_w165 : qo_cond 165 ∈ qw := qo_in (i := 1118) rfl rfl
set_option maxRecDepth 100000 in
theorem qo_w166 : qo_cond 166 ∈ qw := qo_in (i := 1122) rfl rfl
set_option maxRecDepth 100000 in
theorem qo_w167 : qo_cond 167 ∈ qw := qo_in (i := 1126) rfl rfl
set_option maxRecDepth 100000 in
theorem qo_w168 : qo_cond 168 ∈ qw := qo_in (i := 1130) rfl rfl
theorem qo_code {y : Nat} (h : y < 169) : qo_cond y ∈ qw := by
  match y, h with
  | 0, _ => exact qo_w0
  | 1, _ => exact qo_w1
  | 2, _ => exact qo_w2
  | 3, _ => exact qo_w3
  | 4, _ => exact qo_w4
  | 5, _ => exact qo_w5
  | 6, _ => exact qo_w6
  | 7, _ => exact qo_w7
  | 8, _ => exact qo_w8
  | 9, _ => exact qo_w9
  | 10, _ => exact qo_w10
  | 11, _ => exact qo_w11
  | 12, _ => exact qo_w12
  | 13, _ => exact qo_w13
  | 14, _ => exact qo_w14
  | 15, _ => exact qo_w15
  | 16, _ => exact qo_w16
  | 17, _ => exact qo_w17
  | 18, _ => exact qo_w18
  | 19, _ => exact qo_w19
  | 20, _ => exact qo_w20
  | 21, _ => exact qo_w21
  | 22, _ => exact qo_w22
  | 23, _ => exact qo_w23
  | 24, _ => exact qo_w24
  | 25, _ => exact qo_w25
  | 26, _ => exact qo_w26
  | 27, _ => exact qo_w27
  | 28, _ => exact qo_w28
  | 29, _ => exact qo_w29
  | 30, _ => exact qo_w30
  | 31, _ => exact qo_w31
  | 32, _ => exact qo_w32
  | 33, _ => exact qo_w33
  | 34, _ => exact qo_w34
  | 35, _ => exact qo_w35
  | 36, _ => exact qo_w36
  | 37, _ => exact qo_w37
  | 38, _ => exact qo_w38
  | 39, _ => exact qo_w39
  | 40, _ => exact qo_w40
  | 41, _ => exact qo_w41
  | 42, _ => exact qo_w42
  | 43, _ => exact qo_w43
  | 44, _ => exact qo_w44
  | 45, _ => exact qo_w45
  | 46, _ => exact qo_w46
  | 47, _ => exact qo_w47
  | 48, _ => exact qo_w48
  | 49, _ => exact qo_w49
  | 50, _ => exact qo_w50
  | 51, _ => exact qo_w51
  | 52, _ => exact qo_w52
  | 53, _ => exact qo_w53
  | 54, _ => exact qo_w54
  | 55, _ => exact qo_w55
  | 56, _ => exact qo_w56
  | 57, _ => exact qo_w57
  | 58, _ => exact qo_w58
  | 59, _ => exact qo_w59
  | 60, _ => exact qo_w60
  | 61, _ => exact qo_w61
  | 62, _ => exact qo_w62
  | 63, _ => exact qo_w63
  | 64, _ => exact qo_w64
  | 65, _ => exact qo_w65
  | 66, _ => exact qo_w66
  | 67, _ => exact qo_w67
  | 68, _ => exact qo_w68
  | 69, _ => exact qo_w69
  | 70, _ => exact qo_w70
  | 71, _ => exact qo_w71
  | 72, _ => exact qo_w72
  | 73, _ => exact qo_w73
  | 74, _ => exact qo_w74
  | 75, _ => exact qo_w75
  | 76, _ => exact qo_w76
  | 77, _ => exact qo_w77
  | 78, _ => exact qo_w78
  | 79, _ => exact qo_w79
  | 80, _ => exact qo_w80
  | 81, _ => exact qo_w81
  | 82, _ => exact qo_w82
  | 83, _ => exact qo_w83
  | 84, _ => exact qo_w84
  | 85, _ => exact qo_w85
  | 86, _ => exact qo_w86
  | 87, _ => exact qo_w87
  | 88, _ => exact qo_w88
  | 89, _ => exact qo_w89
  | 90, _ => exact qo_w90
  | 91, _ => exact qo_w91
  | 92, _ => exact qo_w92
  | 93, _ => exact qo_w93
  | 94, _ => exact qo_w94
  | 95, _ => exact qo_w95
  | 96, _ => exact qo_w96
  | 97, _ => exact qo_w97
  | 98, _ => exact qo_w98
  | 99, _ => exact qo_w99
  | 100, _ => exact qo_w100
  | 101, _ => exact qo_w101
  | 102, _ => exact qo_w102
  | 103, _ => exact qo_w103
  | 104, _ => exact qo_w104
  | 105, _ => exact qo_w105
  | 106, _ => exact qo_w106
  | 107, _ => exact qo_w107
  | 108, _ => exact qo_w108
  | 109, _ => exact qo_w109
  | 110, _ => exact qo_w110
  | 111, _ => exact qo_w111
  | 112, _ => exact qo_w112
  | 113, _ => exact qo_w113
  | 114, _ => exact qo_w114
  | 115, _ => exact qo_w115
  | 116, _ => exact qo_w116
  | 117, _ => exact qo_w117
  | 118, _ => exact qo_w118
  | 119, _ => exact qo_w119
  | 120, _ => exact qo_w120
  | 121, _ => exact qo_w121
  | 122, _ => exact qo_w122
  | 123, _ => exact qo_w123
  | 124, _ => exact qo_w124
  | 125, _ => exact qo_w125
  | 126, _ => exact qo_w126
  | 127, _ => exact qo_w127
  | 128, _ => exact qo_w128
  | 129, _ => exact qo_w129
  | 130, _ => exact qo_w130
  | 131, _ => exact qo_w131
  | 132, _ => exact qo_w132
  | 133, _ => exact qo_w133
  | 134, _ => exact qo_w134
  | 135, _ => exact qo_w135
  | 136, _ => exact qo_w136
  | 137, _ => exact qo_w137
  | 138, _ => exact qo_w138
  | 139, _ => exact qo_w139
  | 140, _ => exact qo_w140
  | 141, _ => exact qo_w141
  | 142, _ => exact qo_w142
  | 143, _ => exact qo_w143
  | 144, _ => exact qo_w144
  | 145, _ => exact qo_w145
  | 146, _ => exact qo_w146
  | 147, _ => exact qo_w147
  | 148, _ => exact qo_w148
  | 149, _ => exact qo_w149
  | 150, _ => exact qo_w150
  | 151, _ => exact qo_w151
  | 152, _ => exact qo_w152
  | 153, _ => exact qo_w153
  | 154, _ => exact qo_w154
  | 155, _ => exact qo_w155
  | 156, _ => exact qo_w156
  | 157, _ => exact qo_w157
  | 158, _ => exact qo_w158
  | 159, _ => exact qo_w159
  | 160, _ => exact qo_w160
  | 161, _ => exact qo_w161
  | 162, _ => exact qo_w162
  | 163, _ => exact qo_w163
  | 164, _ => exact qo_w164
  | 165, _ => exact qo_w165
  | 166, _ => exact qo_w166
  | 167, _ => exact qo_w167
  | 168, _ => exact qo_w168
  | n + 169, h => exact absurd h (by omega)
