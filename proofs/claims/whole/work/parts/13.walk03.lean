/-! ColoursApart$House.copyFrom(LColoursApart$House;)V -/
theorem xd_Ho_copyFrom_0 : decode b_Ho_copyFrom 0 = .ok (.aload_n 0, 1) := by decide +kernel
theorem xd_Ho_copyFrom_1 : decode b_Ho_copyFrom 1 = .ok (.aload_n 1, 1) := by decide +kernel
theorem xd_Ho_copyFrom_2 : decode b_Ho_copyFrom 2 = .ok (.getfield 9, 3) := by decide +kernel
theorem xd_Ho_copyFrom_5 : decode b_Ho_copyFrom 5 = .ok (.putfield 9, 3) := by decide +kernel
theorem xd_Ho_copyFrom_8 : decode b_Ho_copyFrom 8 = .ok (.iconst 0, 1) := by decide +kernel
theorem xd_Ho_copyFrom_9 : decode b_Ho_copyFrom 9 = .ok (.istore_n 2, 1) := by decide +kernel
theorem xd_Ho_copyFrom_10 : decode b_Ho_copyFrom 10 = .ok (.iload_n 2, 1) := by decide +kernel
theorem xd_Ho_copyFrom_11 : decode b_Ho_copyFrom 11 = .ok (.bipush 12, 2) := by decide +kernel
theorem xd_Ho_copyFrom_13 : decode b_Ho_copyFrom 13 = .ok (.if_icmp .ge 45, 3) := by decide +kernel
theorem xd_Ho_copyFrom_16 : decode b_Ho_copyFrom 16 = .ok (.aload_n 0, 1) := by decide +kernel
theorem xd_Ho_copyFrom_17 : decode b_Ho_copyFrom 17 = .ok (.getfield 15, 3) := by decide +kernel
theorem xd_Ho_copyFrom_20 : decode b_Ho_copyFrom 20 = .ok (.iload_n 2, 1) := by decide +kernel
theorem xd_Ho_copyFrom_21 : decode b_Ho_copyFrom 21 = .ok (.aload_n 1, 1) := by decide +kernel
theorem xd_Ho_copyFrom_22 : decode b_Ho_copyFrom 22 = .ok (.getfield 15, 3) := by decide +kernel
theorem xd_Ho_copyFrom_25 : decode b_Ho_copyFrom 25 = .ok (.iload_n 2, 1) := by decide +kernel
theorem xd_Ho_copyFrom_26 : decode b_Ho_copyFrom 26 = .ok (.iaload, 1) := by decide +kernel
theorem xd_Ho_copyFrom_27 : decode b_Ho_copyFrom 27 = .ok (.iastore, 1) := by decide +kernel
theorem xd_Ho_copyFrom_28 : decode b_Ho_copyFrom 28 = .ok (.aload_n 0, 1) := by decide +kernel
theorem xd_Ho_copyFrom_29 : decode b_Ho_copyFrom 29 = .ok (.getfield 19, 3) := by decide +kernel
theorem xd_Ho_copyFrom_32 : decode b_Ho_copyFrom 32 = .ok (.iload_n 2, 1) := by decide +kernel
theorem xd_Ho_copyFrom_33 : decode b_Ho_copyFrom 33 = .ok (.aload_n 1, 1) := by decide +kernel
theorem xd_Ho_copyFrom_34 : decode b_Ho_copyFrom 34 = .ok (.getfield 19, 3) := by decide +kernel
theorem xd_Ho_copyFrom_37 : decode b_Ho_copyFrom 37 = .ok (.iload_n 2, 1) := by decide +kernel
theorem xd_Ho_copyFrom_38 : decode b_Ho_copyFrom 38 = .ok (.baload, 1) := by decide +kernel
theorem xd_Ho_copyFrom_39 : decode b_Ho_copyFrom 39 = .ok (.bastore, 1) := by decide +kernel
theorem xd_Ho_copyFrom_40 : decode b_Ho_copyFrom 40 = .ok (.aload_n 0, 1) := by decide +kernel
theorem xd_Ho_copyFrom_41 : decode b_Ho_copyFrom 41 = .ok (.getfield 23, 3) := by decide +kernel
theorem xd_Ho_copyFrom_44 : decode b_Ho_copyFrom 44 = .ok (.iload_n 2, 1) := by decide +kernel
theorem xd_Ho_copyFrom_45 : decode b_Ho_copyFrom 45 = .ok (.aload_n 1, 1) := by decide +kernel
theorem xd_Ho_copyFrom_46 : decode b_Ho_copyFrom 46 = .ok (.getfield 23, 3) := by decide +kernel
theorem xd_Ho_copyFrom_49 : decode b_Ho_copyFrom 49 = .ok (.iload_n 2, 1) := by decide +kernel
theorem xd_Ho_copyFrom_50 : decode b_Ho_copyFrom 50 = .ok (.iaload, 1) := by decide +kernel
theorem xd_Ho_copyFrom_51 : decode b_Ho_copyFrom 51 = .ok (.iastore, 1) := by decide +kernel
theorem xd_Ho_copyFrom_52 : decode b_Ho_copyFrom 52 = .ok (.iinc 2 1, 3) := by decide +kernel
theorem xd_Ho_copyFrom_55 : decode b_Ho_copyFrom 55 = .ok (.goto (-45), 3) := by decide +kernel
theorem xd_Ho_copyFrom_58 : decode b_Ho_copyFrom 58 = .ok (.aload_n 1, 1) := by decide +kernel
theorem xd_Ho_copyFrom_59 : decode b_Ho_copyFrom 59 = .ok (.getfield 26, 3) := by decide +kernel
theorem xd_Ho_copyFrom_62 : decode b_Ho_copyFrom 62 = .ok (.iconst 0, 1) := by decide +kernel
theorem xd_Ho_copyFrom_63 : decode b_Ho_copyFrom 63 = .ok (.aload_n 0, 1) := by decide +kernel
theorem xd_Ho_copyFrom_64 : decode b_Ho_copyFrom 64 = .ok (.getfield 26, 3) := by decide +kernel
theorem xd_Ho_copyFrom_67 : decode b_Ho_copyFrom 67 = .ok (.iconst 0, 1) := by decide +kernel
theorem xd_Ho_copyFrom_68 : decode b_Ho_copyFrom 68 = .ok (.bipush 8, 2) := by decide +kernel
theorem xd_Ho_copyFrom_70 : decode b_Ho_copyFrom 70 = .ok (.invokestatic 47, 3) := by decide +kernel
theorem xd_Ho_copyFrom_73 : decode b_Ho_copyFrom 73 = .ok (.aload_n 1, 1) := by decide +kernel
theorem xd_Ho_copyFrom_74 : decode b_Ho_copyFrom 74 = .ok (.getfield 29, 3) := by decide +kernel
theorem xd_Ho_copyFrom_77 : decode b_Ho_copyFrom 77 = .ok (.iconst 0, 1) := by decide +kernel
theorem xd_Ho_copyFrom_78 : decode b_Ho_copyFrom 78 = .ok (.aload_n 0, 1) := by decide +kernel
theorem xd_Ho_copyFrom_79 : decode b_Ho_copyFrom 79 = .ok (.getfield 29, 3) := by decide +kernel
theorem xd_Ho_copyFrom_82 : decode b_Ho_copyFrom 82 = .ok (.iconst 0, 1) := by decide +kernel
theorem xd_Ho_copyFrom_83 : decode b_Ho_copyFrom 83 = .ok (.bipush 8, 2) := by decide +kernel
theorem xd_Ho_copyFrom_85 : decode b_Ho_copyFrom 85 = .ok (.invokestatic 47, 3) := by decide +kernel
theorem xd_Ho_copyFrom_88 : decode b_Ho_copyFrom 88 = .ok (.aload_n 0, 1) := by decide +kernel
theorem xd_Ho_copyFrom_89 : decode b_Ho_copyFrom 89 = .ok (.aload_n 1, 1) := by decide +kernel
theorem xd_Ho_copyFrom_90 : decode b_Ho_copyFrom 90 = .ok (.getfield 32, 3) := by decide +kernel
theorem xd_Ho_copyFrom_93 : decode b_Ho_copyFrom 93 = .ok (.putfield 32, 3) := by decide +kernel
theorem xd_Ho_copyFrom_96 : decode b_Ho_copyFrom 96 = .ok (.aload_n 1, 1) := by decide +kernel
theorem xd_Ho_copyFrom_97 : decode b_Ho_copyFrom 97 = .ok (.getfield 35, 3) := by decide +kernel
theorem xd_Ho_copyFrom_100 : decode b_Ho_copyFrom 100 = .ok (.iconst 0, 1) := by decide +kernel
theorem xd_Ho_copyFrom_101 : decode b_Ho_copyFrom 101 = .ok (.aload_n 0, 1) := by decide +kernel
theorem xd_Ho_copyFrom_102 : decode b_Ho_copyFrom 102 = .ok (.getfield 35, 3) := by decide +kernel
theorem xd_Ho_copyFrom_105 : decode b_Ho_copyFrom 105 = .ok (.iconst 0, 1) := by decide +kernel
theorem xd_Ho_copyFrom_106 : decode b_Ho_copyFrom 106 = .ok (.bipush 20, 2) := by decide +kernel
theorem xd_Ho_copyFrom_108 : decode b_Ho_copyFrom 108 = .ok (.invokestatic 47, 3) := by decide +kernel
theorem xd_Ho_copyFrom_111 : decode b_Ho_copyFrom 111 = .ok (.aload_n 1, 1) := by decide +kernel
theorem xd_Ho_copyFrom_112 : decode b_Ho_copyFrom 112 = .ok (.getfield 38, 3) := by decide +kernel
theorem xd_Ho_copyFrom_115 : decode b_Ho_copyFrom 115 = .ok (.iconst 0, 1) := by decide +kernel
theorem xd_Ho_copyFrom_116 : decode b_Ho_copyFrom 116 = .ok (.aload_n 0, 1) := by decide +kernel
theorem xd_Ho_copyFrom_117 : decode b_Ho_copyFrom 117 = .ok (.getfield 38, 3) := by decide +kernel
theorem xd_Ho_copyFrom_120 : decode b_Ho_copyFrom 120 = .ok (.iconst 0, 1) := by decide +kernel
theorem xd_Ho_copyFrom_121 : decode b_Ho_copyFrom 121 = .ok (.bipush 20, 2) := by decide +kernel
theorem xd_Ho_copyFrom_123 : decode b_Ho_copyFrom 123 = .ok (.invokestatic 47, 3) := by decide +kernel
theorem xd_Ho_copyFrom_126 : decode b_Ho_copyFrom 126 = .ok (.aload_n 1, 1) := by decide +kernel
theorem xd_Ho_copyFrom_127 : decode b_Ho_copyFrom 127 = .ok (.getfield 41, 3) := by decide +kernel
theorem xd_Ho_copyFrom_130 : decode b_Ho_copyFrom 130 = .ok (.iconst 0, 1) := by decide +kernel
theorem xd_Ho_copyFrom_131 : decode b_Ho_copyFrom 131 = .ok (.aload_n 0, 1) := by decide +kernel
theorem xd_Ho_copyFrom_132 : decode b_Ho_copyFrom 132 = .ok (.getfield 41, 3) := by decide +kernel
theorem xd_Ho_copyFrom_135 : decode b_Ho_copyFrom 135 = .ok (.iconst 0, 1) := by decide +kernel
theorem xd_Ho_copyFrom_136 : decode b_Ho_copyFrom 136 = .ok (.bipush 20, 2) := by decide +kernel
theorem xd_Ho_copyFrom_138 : decode b_Ho_copyFrom 138 = .ok (.invokestatic 47, 3) := by decide +kernel
theorem xd_Ho_copyFrom_141 : decode b_Ho_copyFrom 141 = .ok (.return_, 1) := by decide +kernel
abbrev rm_Ho_copyFrom : Room := { frames := 1, cells := 0, slots := 0, locals := 30 }
def xw_Ho_copyFrom_10 (g : Nat) (g1 : Nat) (post : xM → Prop) (k58 : Int32 → xM → Prop) : Nat → Int32 → xM → Prop
  | 0, _, _ => False
  | n10 + 1, x2, M => (((12 : Int32) ≤ x2) → (k58 x2 M)) ∧ ((¬ (12 : Int32) ≤ x2) → ((vp_in x2 12) ∧ ((vp_in x2 12) ∧ ((vp_in x2 12) ∧ ((((us M g 4 x2.toNatClampNeg (M g1 4 x2.toNatClampNeg)) g1 5 x2.toNatClampNeg) &&& 1 = ((us M g 4 x2.toNatClampNeg (M g1 4 x2.toNatClampNeg)) g1 5 x2.toNatClampNeg)) ∧ ((vp_in x2 12) ∧ ((vp_in x2 12) ∧ ((vp_in x2 12) ∧ (xw_Ho_copyFrom_10 g g1 post k58 n10 (x2 + (1 : Int32)) (us (us (us M g 4 x2.toNatClampNeg (M g1 4 x2.toNatClampNeg)) g 5 x2.toNatClampNeg ((us M g 4 x2.toNatClampNeg (M g1 4 x2.toNatClampNeg)) g1 5 x2.toNatClampNeg)) g 6 x2.toNatClampNeg ((us (us M g 4 x2.toNatClampNeg (M g1 4 x2.toNatClampNeg)) g 5 x2.toNatClampNeg ((us M g 4 x2.toNatClampNeg (M g1 4 x2.toNatClampNeg)) g1 5 x2.toNatClampNeg)) g1 6 x2.toNatClampNeg)))))))))))
def xw_Ho_copyFrom (g : Nat) (g1 : Nat) (M : xM) (post : xM → Prop) : Prop :=
  ∃ n10 : Nat, xw_Ho_copyFrom_10 g g1 post (fun (y1 : Int32) (M2 : xM) => (¬ (g1 = g ∧ 7 = 7)) ∧ (¬ (0 : Int32) < 0 ∧ ¬ (0 : Int32) < 0 ∧ ¬ (8 : Int32) < 0 ∧ (0 : Int32).toNatClampNeg + (8 : Int32).toNatClampNeg ≤ 8 ∧ (0 : Int32).toNatClampNeg + (8 : Int32).toNatClampNeg ≤ 8) ∧ ((¬ (g1 = g ∧ 8 = 8)) ∧ (¬ (0 : Int32) < 0 ∧ ¬ (0 : Int32) < 0 ∧ ¬ (8 : Int32) < 0 ∧ (0 : Int32).toNatClampNeg + (8 : Int32).toNatClampNeg ≤ 8 ∧ (0 : Int32).toNatClampNeg + (8 : Int32).toNatClampNeg ≤ 8) ∧ ((¬ (g1 = g ∧ 9 = 9)) ∧ (¬ (0 : Int32) < 0 ∧ ¬ (0 : Int32) < 0 ∧ ¬ (20 : Int32) < 0 ∧ (0 : Int32).toNatClampNeg + (20 : Int32).toNatClampNeg ≤ 20 ∧ (0 : Int32).toNatClampNeg + (20 : Int32).toNatClampNeg ≤ 20) ∧ ((¬ (g1 = g ∧ 10 = 10)) ∧ (¬ (0 : Int32) < 0 ∧ ¬ (0 : Int32) < 0 ∧ ¬ (20 : Int32) < 0 ∧ (0 : Int32).toNatClampNeg + (20 : Int32).toNatClampNeg ≤ 20 ∧ (0 : Int32).toNatClampNeg + (20 : Int32).toNatClampNeg ≤ 20) ∧ ((¬ (g1 = g ∧ 11 = 11)) ∧ (¬ (0 : Int32) < 0 ∧ ¬ (0 : Int32) < 0 ∧ ¬ (20 : Int32) < 0 ∧ (0 : Int32).toNatClampNeg + (20 : Int32).toNatClampNeg ≤ 20 ∧ (0 : Int32).toNatClampNeg + (20 : Int32).toNatClampNeg ≤ 20) ∧ (post (uc (uc (uc (us (uc (uc M2 g 7 (va_cpy (M2 g1 7) (M2 g 7) (0 : Int32).toNatClampNeg (0 : Int32).toNatClampNeg (8 : Int32).toNatClampNeg)) g 8 (va_cpy ((uc M2 g 7 (va_cpy (M2 g1 7) (M2 g 7) (0 : Int32).toNatClampNeg (0 : Int32).toNatClampNeg (8 : Int32).toNatClampNeg)) g1 8) ((uc M2 g 7 (va_cpy (M2 g1 7) (M2 g 7) (0 : Int32).toNatClampNeg (0 : Int32).toNatClampNeg (8 : Int32).toNatClampNeg)) g 8) (0 : Int32).toNatClampNeg (0 : Int32).toNatClampNeg (8 : Int32).toNatClampNeg)) g 3 6 ((uc (uc M2 g 7 (va_cpy (M2 g1 7) (M2 g 7) (0 : Int32).toNatClampNeg (0 : Int32).toNatClampNeg (8 : Int32).toNatClampNeg)) g 8 (va_cpy ((uc M2 g 7 (va_cpy (M2 g1 7) (M2 g 7) (0 : Int32).toNatClampNeg (0 : Int32).toNatClampNeg (8 : Int32).toNatClampNeg)) g1 8) ((uc M2 g 7 (va_cpy (M2 g1 7) (M2 g 7) (0 : Int32).toNatClampNeg (0 : Int32).toNatClampNeg (8 : Int32).toNatClampNeg)) g 8) (0 : Int32).toNatClampNeg (0 : Int32).toNatClampNeg (8 : Int32).toNatClampNeg)) g1 3 6)) g 9 (va_cpy ((us (uc (uc M2 g 7 (va_cpy (M2 g1 7) (M2 g 7) (0 : Int32).toNatClampNeg (0 : Int32).toNatClampNeg (8 : Int32).toNatClampNeg)) g 8 (va_cpy ((uc M2 g 7 (va_cpy (M2 g1 7) (M2 g 7) (0 : Int32).toNatClampNeg (0 : Int32).toNatClampNeg (8 : Int32).toNatClampNeg)) g1 8) ((uc M2 g 7 (va_cpy (M2 g1 7) (M2 g 7) (0 : Int32).toNatClampNeg (0 : Int32).toNatClampNeg (8 : Int32).toNatClampNeg)) g 8) (0 : Int32).toNatClampNeg (0 : Int32).toNatClampNeg (8 : Int32).toNatClampNeg)) g 3 6 ((uc (uc M2 g 7 (va_cpy (M2 g1 7) (M2 g 7) (0 : Int32).toNatClampNeg (0 : Int32).toNatClampNeg (8 : Int32).toNatClampNeg)) g 8 (va_cpy ((uc M2 g 7 (va_cpy (M2 g1 7) (M2 g 7) (0 : Int32).toNatClampNeg (0 : Int32).toNatClampNeg (8 : Int32).toNatClampNeg)) g1 8) ((uc M2 g 7 (va_cpy (M2 g1 7) (M2 g 7) (0 : Int32).toNatClampNeg (0 : Int32).toNatClampNeg (8 : Int32).toNatClampNeg)) g 8) (0 : Int32).toNatClampNeg (0 : Int32).toNatClampNeg (8 : Int32).toNatClampNeg)) g1 3 6)) g1 9) ((us (uc (uc M2 g 7 (va_cpy (M2 g1 7) (M2 g 7) (0 : Int32).toNatClampNeg (0 : Int32).toNatClampNeg (8 : Int32).toNatClampNeg)) g 8 (va_cpy ((uc M2 g 7 (va_cpy (M2 g1 7) (M2 g 7) (0 : Int32).toNatClampNeg (0 : Int32).toNatClampNeg (8 : Int32).toNatClampNeg)) g1 8) ((uc M2 g 7 (va_cpy (M2 g1 7) (M2 g 7) (0 : Int32).toNatClampNeg (0 : Int32).toNatClampNeg (8 : Int32).toNatClampNeg)) g 8) (0 : Int32).toNatClampNeg (0 : Int32).toNatClampNeg (8 : Int32).toNatClampNeg)) g 3 6 ((uc (uc M2 g 7 (va_cpy (M2 g1 7) (M2 g 7) (0 : Int32).toNatClampNeg (0 : Int32).toNatClampNeg (8 : Int32).toNatClampNeg)) g 8 (va_cpy ((uc M2 g 7 (va_cpy (M2 g1 7) (M2 g 7) (0 : Int32).toNatClampNeg (0 : Int32).toNatClampNeg (8 : Int32).toNatClampNeg)) g1 8) ((uc M2 g 7 (va_cpy (M2 g1 7) (M2 g 7) (0 : Int32).toNatClampNeg (0 : Int32).toNatClampNeg (8 : Int32).toNatClampNeg)) g 8) (0 : Int32).toNatClampNeg (0 : Int32).toNatClampNeg (8 : Int32).toNatClampNeg)) g1 3 6)) g 9) (0 : Int32).toNatClampNeg (0 : Int32).toNatClampNeg (20 : Int32).toNatClampNeg)) g 10 (va_cpy ((uc (us (uc (uc M2 g 7 (va_cpy (M2 g1 7) (M2 g 7) (0 : Int32).toNatClampNeg (0 : Int32).toNatClampNeg (8 : Int32).toNatClampNeg)) g 8 (va_cpy ((uc M2 g 7 (va_cpy (M2 g1 7) (M2 g 7) (0 : Int32).toNatClampNeg (0 : Int32).toNatClampNeg (8 : Int32).toNatClampNeg)) g1 8) ((uc M2 g 7 (va_cpy (M2 g1 7) (M2 g 7) (0 : Int32).toNatClampNeg (0 : Int32).toNatClampNeg (8 : Int32).toNatClampNeg)) g 8) (0 : Int32).toNatClampNeg (0 : Int32).toNatClampNeg (8 : Int32).toNatClampNeg)) g 3 6 ((uc (uc M2 g 7 (va_cpy (M2 g1 7) (M2 g 7) (0 : Int32).toNatClampNeg (0 : Int32).toNatClampNeg (8 : Int32).toNatClampNeg)) g 8 (va_cpy ((uc M2 g 7 (va_cpy (M2 g1 7) (M2 g 7) (0 : Int32).toNatClampNeg (0 : Int32).toNatClampNeg (8 : Int32).toNatClampNeg)) g1 8) ((uc M2 g 7 (va_cpy (M2 g1 7) (M2 g 7) (0 : Int32).toNatClampNeg (0 : Int32).toNatClampNeg (8 : Int32).toNatClampNeg)) g 8) (0 : Int32).toNatClampNeg (0 : Int32).toNatClampNeg (8 : Int32).toNatClampNeg)) g1 3 6)) g 9 (va_cpy ((us (uc (uc M2 g 7 (va_cpy (M2 g1 7) (M2 g 7) (0 : Int32).toNatClampNeg (0 : Int32).toNatClampNeg (8 : Int32).toNatClampNeg)) g 8 (va_cpy ((uc M2 g 7 (va_cpy (M2 g1 7) (M2 g 7) (0 : Int32).toNatClampNeg (0 : Int32).toNatClampNeg (8 : Int32).toNatClampNeg)) g1 8) ((uc M2 g 7 (va_cpy (M2 g1 7) (M2 g 7) (0 : Int32).toNatClampNeg (0 : Int32).toNatClampNeg (8 : Int32).toNatClampNeg)) g 8) (0 : Int32).toNatClampNeg (0 : Int32).toNatClampNeg (8 : Int32).toNatClampNeg)) g 3 6 ((uc (uc M2 g 7 (va_cpy (M2 g1 7) (M2 g 7) (0 : Int32).toNatClampNeg (0 : Int32).toNatClampNeg (8 : Int32).toNatClampNeg)) g 8 (va_cpy ((uc M2 g 7 (va_cpy (M2 g1 7) (M2 g 7) (0 : Int32).toNatClampNeg (0 : Int32).toNatClampNeg (8 : Int32).toNatClampNeg)) g1 8) ((uc M2 g 7 (va_cpy (M2 g1 7) (M2 g 7) (0 : Int32).toNatClampNeg (0 : Int32).toNatClampNeg (8 : Int32).toNatClampNeg)) g 8) (0 : Int32).toNatClampNeg (0 : Int32).toNatClampNeg (8 : Int32).toNatClampNeg)) g1 3 6)) g1 9) ((us (uc (uc M2 g 7 (va_cpy (M2 g1 7) (M2 g 7) (0 : Int32).toNatClampNeg (0 : Int32).toNatClampNeg (8 : Int32).toNatClampNeg)) g 8 (va_cpy ((uc M2 g 7 (va_cpy (M2 g1 7) (M2 g 7) (0 : Int32).toNatClampNeg (0 : Int32).toNatClampNeg (8 : Int32).toNatClampNeg)) g1 8) ((uc M2 g 7 (va_cpy (M2 g1 7) (M2 g 7) (0 : Int32).toNatClampNeg (0 : Int32).toNatClampNeg (8 : Int32).toNatClampNeg)) g 8) (0 : Int32).toNatClampNeg (0 : Int32).toNatClampNeg (8 : Int32).toNatClampNeg)) g 3 6 ((uc (uc M2 g 7 (va_cpy (M2 g1 7) (M2 g 7) (0 : Int32).toNatClampNeg (0 : Int32).toNatClampNeg (8 : Int32).toNatClampNeg)) g 8 (va_cpy ((uc M2 g 7 (va_cpy (M2 g1 7) (M2 g 7) (0 : Int32).toNatClampNeg (0 : Int32).toNatClampNeg (8 : Int32).toNatClampNeg)) g1 8) ((uc M2 g 7 (va_cpy (M2 g1 7) (M2 g 7) (0 : Int32).toNatClampNeg (0 : Int32).toNatClampNeg (8 : Int32).toNatClampNeg)) g 8) (0 : Int32).toNatClampNeg (0 : Int32).toNatClampNeg (8 : Int32).toNatClampNeg)) g1 3 6)) g 9) (0 : Int32).toNatClampNeg (0 : Int32).toNatClampNeg (20 : Int32).toNatClampNeg)) g1 10) ((uc (us (uc (uc M2 g 7 (va_cpy (M2 g1 7) (M2 g 7) (0 : Int32).toNatClampNeg (0 : Int32).toNatClampNeg (8 : Int32).toNatClampNeg)) g 8 (va_cpy ((uc M2 g 7 (va_cpy (M2 g1 7) (M2 g 7) (0 : Int32).toNatClampNeg (0 : Int32).toNatClampNeg (8 : Int32).toNatClampNeg)) g1 8) ((uc M2 g 7 (va_cpy (M2 g1 7) (M2 g 7) (0 : Int32).toNatClampNeg (0 : Int32).toNatClampNeg (8 : Int32).toNatClampNeg)) g 8) (0 : Int32).toNatClampNeg (0 : Int32).toNatClampNeg (8 : Int32).toNatClampNeg)) g 3 6 ((uc (uc M2 g 7 (va_cpy (M2 g1 7) (M2 g 7) (0 : Int32).toNatClampNeg (0 : Int32).toNatClampNeg (8 : Int32).toNatClampNeg)) g 8 (va_cpy ((uc M2 g 7 (va_cpy (M2 g1 7) (M2 g 7) (0 : Int32).toNatClampNeg (0 : Int32).toNatClampNeg (8 : Int32).toNatClampNeg)) g1 8) ((uc M2 g 7 (va_cpy (M2 g1 7) (M2 g 7) (0 : Int32).toNatClampNeg (0 : Int32).toNatClampNeg (8 : Int32).toNatClampNeg)) g 8) (0 : Int32).toNatClampNeg (0 : Int32).toNatClampNeg (8 : Int32).toNatClampNeg)) g1 3 6)) g 9 (va_cpy ((us (uc (uc M2 g 7 (va_cpy (M2 g1 7) (M2 g 7) (0 : Int32).toNatClampNeg (0 : Int32).toNatClampNeg (8 : Int32).toNatClampNeg)) g 8 (va_cpy ((uc M2 g 7 (va_cpy (M2 g1 7) (M2 g 7) (0 : Int32).toNatClampNeg (0 : Int32).toNatClampNeg (8 : Int32).toNatClampNeg)) g1 8) ((uc M2 g 7 (va_cpy (M2 g1 7) (M2 g 7) (0 : Int32).toNatClampNeg (0 : Int32).toNatClampNeg (8 : Int32).toNatClampNeg)) g 8) (0 : Int32).toNatClampNeg (0 : Int32).toNatClampNeg (8 : Int32).toNatClampNeg)) g 3 6 ((uc (uc M2 g 7 (va_cpy (M2 g1 7) (M2 g 7) (0 : Int32).toNatClampNeg (0 : Int32).toNatClampNeg (8 : Int32).toNatClampNeg)) g 8 (va_cpy ((uc M2 g 7 (va_cpy (M2 g1 7) (M2 g 7) (0 : Int32).toNatClampNeg (0 : Int32).toNatClampNeg (8 : Int32).toNatClampNeg)) g1 8) ((uc M2 g 7 (va_cpy (M2 g1 7) (M2 g 7) (0 : Int32).toNatClampNeg (0 : Int32).toNatClampNeg (8 : Int32).toNatClampNeg)) g 8) (0 : Int32).toNatClampNeg (0 : Int32).toNatClampNeg (8 : Int32).toNatClampNeg)) g1 3 6)) g1 9) ((us (uc (uc M2 g 7 (va_cpy (M2 g1 7) (M2 g 7) (0 : Int32).toNatClampNeg (0 : Int32).toNatClampNeg (8 : Int32).toNatClampNeg)) g 8 (va_cpy ((uc M2 g 7 (va_cpy (M2 g1 7) (M2 g 7) (0 : Int32).toNatClampNeg (0 : Int32).toNatClampNeg (8 : Int32).toNatClampNeg)) g1 8) ((uc M2 g 7 (va_cpy (M2 g1 7) (M2 g 7) (0 : Int32).toNatClampNeg (0 : Int32).toNatClampNeg (8 : Int32).toNatClampNeg)) g 8) (0 : Int32).toNatClampNeg (0 : Int32).toNatClampNeg (8 : Int32).toNatClampNeg)) g 3 6 ((uc (uc M2 g 7 (va_cpy (M2 g1 7) (M2 g 7) (0 : Int32).toNatClampNeg (0 : Int32).toNatClampNeg (8 : Int32).toNatClampNeg)) g 8 (va_cpy ((uc M2 g 7 (va_cpy (M2 g1 7) (M2 g 7) (0 : Int32).toNatClampNeg (0 : Int32).toNatClampNeg (8 : Int32).toNatClampNeg)) g1 8) ((uc M2 g 7 (va_cpy (M2 g1 7) (M2 g 7) (0 : Int32).toNatClampNeg (0 : Int32).toNatClampNeg (8 : Int32).toNatClampNeg)) g 8) (0 : Int32).toNatClampNeg (0 : Int32).toNatClampNeg (8 : Int32).toNatClampNeg)) g1 3 6)) g 9) (0 : Int32).toNatClampNeg (0 : Int32).toNatClampNeg (20 : Int32).toNatClampNeg)) g 10) (0 : Int32).toNatClampNeg (0 : Int32).toNatClampNeg (20 : Int32).toNatClampNeg)) g 11 (va_cpy ((uc (uc (us (uc (uc M2 g 7 (va_cpy (M2 g1 7) (M2 g 7) (0 : Int32).toNatClampNeg (0 : Int32).toNatClampNeg (8 : Int32).toNatClampNeg)) g 8 (va_cpy ((uc M2 g 7 (va_cpy (M2 g1 7) (M2 g 7) (0 : Int32).toNatClampNeg (0 : Int32).toNatClampNeg (8 : Int32).toNatClampNeg)) g1 8) ((uc M2 g 7 (va_cpy (M2 g1 7) (M2 g 7) (0 : Int32).toNatClampNeg (0 : Int32).toNatClampNeg (8 : Int32).toNatClampNeg)) g 8) (0 : Int32).toNatClampNeg (0 : Int32).toNatClampNeg (8 : Int32).toNatClampNeg)) g 3 6 ((uc (uc M2 g 7 (va_cpy (M2 g1 7) (M2 g 7) (0 : Int32).toNatClampNeg (0 : Int32).toNatClampNeg (8 : Int32).toNatClampNeg)) g 8 (va_cpy ((uc M2 g 7 (va_cpy (M2 g1 7) (M2 g 7) (0 : Int32).toNatClampNeg (0 : Int32).toNatClampNeg (8 : Int32).toNatClampNeg)) g1 8) ((uc M2 g 7 (va_cpy (M2 g1 7) (M2 g 7) (0 : Int32).toNatClampNeg (0 : Int32).toNatClampNeg (8 : Int32).toNatClampNeg)) g 8) (0 : Int32).toNatClampNeg (0 : Int32).toNatClampNeg (8 : Int32).toNatClampNeg)) g1 3 6)) g 9 (va_cpy ((us (uc (uc M2 g 7 (va_cpy (M2 g1 7) (M2 g 7) (0 : Int32).toNatClampNeg (0 : Int32).toNatClampNeg (8 : Int32).toNatClampNeg)) g 8 (va_cpy ((uc M2 g 7 (va_cpy (M2 g1 7) (M2 g 7) (0 : Int32).toNatClampNeg (0 : Int32).toNatClampNeg (8 : Int32).toNatClampNeg)) g1 8) ((uc M2 g 7 (va_cpy (M2 g1 7) (M2 g 7) (0 : Int32).toNatClampNeg (0 : Int32).toNatClampNeg (8 : Int32).toNatClampNeg)) g 8) (0 : Int32).toNatClampNeg (0 : Int32).toNatClampNeg (8 : Int32).toNatClampNeg)) g 3 6 ((uc (uc M2 g 7 (va_cpy (M2 g1 7) (M2 g 7) (0 : Int32).toNatClampNeg (0 : Int32).toNatClampNeg (8 : Int32).toNatClampNeg)) g 8 (va_cpy ((uc M2 g 7 (va_cpy (M2 g1 7) (M2 g 7) (0 : Int32).toNatClampNeg (0 : Int32).toNatClampNeg (8 : Int32).toNatClampNeg)) g1 8) ((uc M2 g 7 (va_cpy (M2 g1 7) (M2 g 7) (0 : Int32).toNatClampNeg (0 : Int32).toNatClampNeg (8 : Int32).toNatClampNeg)) g 8) (0 : Int32).toNatClampNeg (0 : Int32).toNatClampNeg (8 : Int32).toNatClampNeg)) g1 3 6)) g1 9) ((us (uc (uc M2 g 7 (va_cpy (M2 g1 7) (M2 g 7) (0 : Int32).toNatClampNeg (0 : Int32).toNatClampNeg (8 : Int32).toNatClampNeg)) g 8 (va_cpy ((uc M2 g 7 (va_cpy (M2 g1 7) (M2 g 7) (0 : Int32).toNatClampNeg (0 : Int32).toNatClampNeg (8 : Int32).toNatClampNeg)) g1 8) ((uc M2 g 7 (va_cpy (M2 g1 7) (M2 g 7) (0 : Int32).toNatClampNeg (0 : Int32).toNatClampNeg (8 : Int32).toNatClampNeg)) g 8) (0 : Int32).toNatClampNeg (0 : Int32).toNatClampNeg (8 : Int32).toNatClampNeg)) g 3 6 ((uc (uc M2 g 7 (va_cpy (M2 g1 7) (M2 g 7) (0 : Int32).toNatClampNeg (0 : Int32).toNatClampNeg (8 : Int32).toNatClampNeg)) g 8 (va_cpy ((uc M2 g 7 (va_cpy (M2 g1 7) (M2 g 7) (0 : Int32).toNatClampNeg (0 : Int32).toNatClampNeg (8 : Int32).toNatClampNeg)) g1 8) ((uc M2 g 7 (va_cpy (M2 g1 7) (M2 g 7) (0 : Int32).toNatClampNeg (0 : Int32).toNatClampNeg (8 : Int32).toNatClampNeg)) g 8) (0 : Int32).toNatClampNeg (0 : Int32).toNatClampNeg (8 : Int32).toNatClampNeg)) g1 3 6)) g 9) (0 : Int32).toNatClampNeg (0 : Int32).toNatClampNeg (20 : Int32).toNatClampNeg)) g 10 (va_cpy ((uc (us (uc (uc M2 g 7 (va_cpy (M2 g1 7) (M2 g 7) (0 : Int32).toNatClampNeg (0 : Int32).toNatClampNeg (8 : Int32).toNatClampNeg)) g 8 (va_cpy ((uc M2 g 7 (va_cpy (M2 g1 7) (M2 g 7) (0 : Int32).toNatClampNeg (0 : Int32).toNatClampNeg (8 : Int32).toNatClampNeg)) g1 8) ((uc M2 g 7 (va_cpy (M2 g1 7) (M2 g 7) (0 : Int32).toNatClampNeg (0 : Int32).toNatClampNeg (8 : Int32).toNatClampNeg)) g 8) (0 : Int32).toNatClampNeg (0 : Int32).toNatClampNeg (8 : Int32).toNatClampNeg)) g 3 6 ((uc (uc M2 g 7 (va_cpy (M2 g1 7) (M2 g 7) (0 : Int32).toNatClampNeg (0 : Int32).toNatClampNeg (8 : Int32).toNatClampNeg)) g 8 (va_cpy ((uc M2 g 7 (va_cpy (M2 g1 7) (M2 g 7) (0 : Int32).toNatClampNeg (0 : Int32).toNatClampNeg (8 : Int32).toNatClampNeg)) g1 8) ((uc M2 g 7 (va_cpy (M2 g1 7) (M2 g 7) (0 : Int32).toNatClampNeg (0 : Int32).toNatClampNeg (8 : Int32).toNatClampNeg)) g 8) (0 : Int32).toNatClampNeg (0 : Int32).toNatClampNeg (8 : Int32).toNatClampNeg)) g1 3 6)) g 9 (va_cpy ((us (uc (uc M2 g 7 (va_cpy (M2 g1 7) (M2 g 7) (0 : Int32).toNatClampNeg (0 : Int32).toNatClampNeg (8 : Int32).toNatClampNeg)) g 8 (va_cpy ((uc M2 g 7 (va_cpy (M2 g1 7) (M2 g 7) (0 : Int32).toNatClampNeg (0 : Int32).toNatClampNeg (8 : Int32).toNatClampNeg)) g1 8) ((uc M2 g 7 (va_cpy (M2 g1 7) (M2 g 7) (0 : Int32).toNatClampNeg (0 : Int32).toNatClampNeg (8 : Int32).toNatClampNeg)) g 8) (0 : Int32).toNatClampNeg (0 : Int32).toNatClampNeg (8 : Int32).toNatClampNeg)) g 3 6 ((uc (uc M2 g 7 (va_cpy (M2 g1 7) (M2 g 7) (0 : Int32).toNatClampNeg (0 : Int32).toNatClampNeg (8 : Int32).toNatClampNeg)) g 8 (va_cpy ((uc M2 g 7 (va_cpy (M2 g1 7) (M2 g 7) (0 : Int32).toNatClampNeg (0 : Int32).toNatClampNeg (8 : Int32).toNatClampNeg)) g1 8) ((uc M2 g 7 (va_cpy (M2 g1 7) (M2 g 7) (0 : Int32).toNatClampNeg (0 : Int32).toNatClampNeg (8 : Int32).toNatClampNeg)) g 8) (0 : Int32).toNatClampNeg (0 : Int32).toNatClampNeg (8 : Int32).toNatClampNeg)) g1 3 6)) g1 9) ((us (uc (uc M2 g 7 (va_cpy (M2 g1 7) (M2 g 7) (0 : Int32).toNatClampNeg (0 : Int32).toNatClampNeg (8 : Int32).toNatClampNeg)) g 8 (va_cpy ((uc M2 g 7 (va_cpy (M2 g1 7) (M2 g 7) (0 : Int32).toNatClampNeg (0 : Int32).toNatClampNeg (8 : Int32).toNatClampNeg)) g1 8) ((uc M2 g 7 (va_cpy (M2 g1 7) (M2 g 7) (0 : Int32).toNatClampNeg (0 : Int32).toNatClampNeg (8 : Int32).toNatClampNeg)) g 8) (0 : Int32).toNatClampNeg (0 : Int32).toNatClampNeg (8 : Int32).toNatClampNeg)) g 3 6 ((uc (uc M2 g 7 (va_cpy (M2 g1 7) (M2 g 7) (0 : Int32).toNatClampNeg (0 : Int32).toNatClampNeg (8 : Int32).toNatClampNeg)) g 8 (va_cpy ((uc M2 g 7 (va_cpy (M2 g1 7) (M2 g 7) (0 : Int32).toNatClampNeg (0 : Int32).toNatClampNeg (8 : Int32).toNatClampNeg)) g1 8) ((uc M2 g 7 (va_cpy (M2 g1 7) (M2 g 7) (0 : Int32).toNatClampNeg (0 : Int32).toNatClampNeg (8 : Int32).toNatClampNeg)) g 8) (0 : Int32).toNatClampNeg (0 : Int32).toNatClampNeg (8 : Int32).toNatClampNeg)) g1 3 6)) g 9) (0 : Int32).toNatClampNeg (0 : Int32).toNatClampNeg (20 : Int32).toNatClampNeg)) g1 10) ((uc (us (uc (uc M2 g 7 (va_cpy (M2 g1 7) (M2 g 7) (0 : Int32).toNatClampNeg (0 : Int32).toNatClampNeg (8 : Int32).toNatClampNeg)) g 8 (va_cpy ((uc M2 g 7 (va_cpy (M2 g1 7) (M2 g 7) (0 : Int32).toNatClampNeg (0 : Int32).toNatClampNeg (8 : Int32).toNatClampNeg)) g1 8) ((uc M2 g 7 (va_cpy (M2 g1 7) (M2 g 7) (0 : Int32).toNatClampNeg (0 : Int32).toNatClampNeg (8 : Int32).toNatClampNeg)) g 8) (0 : Int32).toNatClampNeg (0 : Int32).toNatClampNeg (8 : Int32).toNatClampNeg)) g 3 6 ((uc (uc M2 g 7 (va_cpy (M2 g1 7) (M2 g 7) (0 : Int32).toNatClampNeg (0 : Int32).toNatClampNeg (8 : Int32).toNatClampNeg)) g 8 (va_cpy ((uc M2 g 7 (va_cpy (M2 g1 7) (M2 g 7) (0 : Int32).toNatClampNeg (0 : Int32).toNatClampNeg (8 : Int32).toNatClampNeg)) g1 8) ((uc M2 g 7 (va_cpy (M2 g1 7) (M2 g 7) (0 : Int32).toNatClampNeg (0 : Int32).toNatClampNeg (8 : Int32).toNatClampNeg)) g 8) (0 : Int32).toNatClampNeg (0 : Int32).toNatClampNeg (8 : Int32).toNatClampNeg)) g1 3 6)) g 9 (va_cpy ((us (uc (uc M2 g 7 (va_cpy (M2 g1 7) (M2 g 7) (0 : Int32).toNatClampNeg (0 : Int32).toNatClampNeg (8 : Int32).toNatClampNeg)) g 8 (va_cpy ((uc M2 g 7 (va_cpy (M2 g1 7) (M2 g 7) (0 : Int32).toNatClampNeg (0 : Int32).toNatClampNeg (8 : Int32).toNatClampNeg)) g1 8) ((uc M2 g 7 (va_cpy (M2 g1 7) (M2 g 7) (0 : Int32).toNatClampNeg (0 : Int32).toNatClampNeg (8 : Int32).toNatClampNeg)) g 8) (0 : Int32).toNatClampNeg (0 : Int32).toNatClampNeg (8 : Int32).toNatClampNeg)) g 3 6 ((uc (uc M2 g 7 (va_cpy (M2 g1 7) (M2 g 7) (0 : Int32).toNatClampNeg (0 : Int32).toNatClampNeg (8 : Int32).toNatClampNeg)) g 8 (va_cpy ((uc M2 g 7 (va_cpy (M2 g1 7) (M2 g 7) (0 : Int32).toNatClampNeg (0 : Int32).toNatClampNeg (8 : Int32).toNatClampNeg)) g1 8) ((uc M2 g 7 (va_cpy (M2 g1 7) (M2 g 7) (0 : Int32).toNatClampNeg (0 : Int32).toNatClampNeg (8 : Int32).toNatClampNeg)) g 8) (0 : Int32).toNatClampNeg (0 : Int32).toNatClampNeg (8 : Int32).toNatClampNeg)) g1 3 6)) g1 9) ((us (uc (uc M2 g 7 (va_cpy (M2 g1 7) (M2 g 7) (0 : Int32).toNatClampNeg (0 : Int32).toNatClampNeg (8 : Int32).toNatClampNeg)) g 8 (va_cpy ((uc M2 g 7 (va_cpy (M2 g1 7) (M2 g 7) (0 : Int32).toNatClampNeg (0 : Int32).toNatClampNeg (8 : Int32).toNatClampNeg)) g1 8) ((uc M2 g 7 (va_cpy (M2 g1 7) (M2 g 7) (0 : Int32).toNatClampNeg (0 : Int32).toNatClampNeg (8 : Int32).toNatClampNeg)) g 8) (0 : Int32).toNatClampNeg (0 : Int32).toNatClampNeg (8 : Int32).toNatClampNeg)) g 3 6 ((uc (uc M2 g 7 (va_cpy (M2 g1 7) (M2 g 7) (0 : Int32).toNatClampNeg (0 : Int32).toNatClampNeg (8 : Int32).toNatClampNeg)) g 8 (va_cpy ((uc M2 g 7 (va_cpy (M2 g1 7) (M2 g 7) (0 : Int32).toNatClampNeg (0 : Int32).toNatClampNeg (8 : Int32).toNatClampNeg)) g1 8) ((uc M2 g 7 (va_cpy (M2 g1 7) (M2 g 7) (0 : Int32).toNatClampNeg (0 : Int32).toNatClampNeg (8 : Int32).toNatClampNeg)) g 8) (0 : Int32).toNatClampNeg (0 : Int32).toNatClampNeg (8 : Int32).toNatClampNeg)) g1 3 6)) g 9) (0 : Int32).toNatClampNeg (0 : Int32).toNatClampNeg (20 : Int32).toNatClampNeg)) g 10) (0 : Int32).toNatClampNeg (0 : Int32).toNatClampNeg (20 : Int32).toNatClampNeg)) g1 11) ((uc (uc (us (uc (uc M2 g 7 (va_cpy (M2 g1 7) (M2 g 7) (0 : Int32).toNatClampNeg (0 : Int32).toNatClampNeg (8 : Int32).toNatClampNeg)) g 8 (va_cpy ((uc M2 g 7 (va_cpy (M2 g1 7) (M2 g 7) (0 : Int32).toNatClampNeg (0 : Int32).toNatClampNeg (8 : Int32).toNatClampNeg)) g1 8) ((uc M2 g 7 (va_cpy (M2 g1 7) (M2 g 7) (0 : Int32).toNatClampNeg (0 : Int32).toNatClampNeg (8 : Int32).toNatClampNeg)) g 8) (0 : Int32).toNatClampNeg (0 : Int32).toNatClampNeg (8 : Int32).toNatClampNeg)) g 3 6 ((uc (uc M2 g 7 (va_cpy (M2 g1 7) (M2 g 7) (0 : Int32).toNatClampNeg (0 : Int32).toNatClampNeg (8 : Int32).toNatClampNeg)) g 8 (va_cpy ((uc M2 g 7 (va_cpy (M2 g1 7) (M2 g 7) (0 : Int32).toNatClampNeg (0 : Int32).toNatClampNeg (8 : Int32).toNatClampNeg)) g1 8) ((uc M2 g 7 (va_cpy (M2 g1 7) (M2 g 7) (0 : Int32).toNatClampNeg (0 : Int32).toNatClampNeg (8 : Int32).toNatClampNeg)) g 8) (0 : Int32).toNatClampNeg (0 : Int32).toNatClampNeg (8 : Int32).toNatClampNeg)) g1 3 6)) g 9 (va_cpy ((us (uc (uc M2 g 7 (va_cpy (M2 g1 7) (M2 g 7) (0 : Int32).toNatClampNeg (0 : Int32).toNatClampNeg (8 : Int32).toNatClampNeg)) g 8 (va_cpy ((uc M2 g 7 (va_cpy (M2 g1 7) (M2 g 7) (0 : Int32).toNatClampNeg (0 : Int32).toNatClampNeg (8 : Int32).toNatClampNeg)) g1 8) ((uc M2 g 7 (va_cpy (M2 g1 7) (M2 g 7) (0 : Int32).toNatClampNeg (0 : Int32).toNatClampNeg (8 : Int32).toNatClampNeg)) g 8) (0 : Int32).toNatClampNeg (0 : Int32).toNatClampNeg (8 : Int32).toNatClampNeg)) g 3 6 ((uc (uc M2 g 7 (va_cpy (M2 g1 7) (M2 g 7) (0 : Int32).toNatClampNeg (0 : Int32).toNatClampNeg (8 : Int32).toNatClampNeg)) g 8 (va_cpy ((uc M2 g 7 (va_cpy (M2 g1 7) (M2 g 7) (0 : Int32).toNatClampNeg (0 : Int32).toNatClampNeg (8 : Int32).toNatClampNeg)) g1 8) ((uc M2 g 7 (va_cpy (M2 g1 7) (M2 g 7) (0 : Int32).toNatClampNeg (0 : Int32).toNatClampNeg (8 : Int32).toNatClampNeg)) g 8) (0 : Int32).toNatClampNeg (0 : Int32).toNatClampNeg (8 : Int32).toNatClampNeg)) g1 3 6)) g1 9) ((us (uc (uc M2 g 7 (va_cpy (M2 g1 7) (M2 g 7) (0 : Int32).toNatClampNeg (0 : Int32).toNatClampNeg (8 : Int32).toNatClampNeg)) g 8 (va_cpy ((uc M2 g 7 (va_cpy (M2 g1 7) (M2 g 7) (0 : Int32).toNatClampNeg (0 : Int32).toNatClampNeg (8 : Int32).toNatClampNeg)) g1 8) ((uc M2 g 7 (va_cpy (M2 g1 7) (M2 g 7) (0 : Int32).toNatClampNeg (0 : Int32).toNatClampNeg (8 : Int32).toNatClampNeg)) g 8) (0 : Int32).toNatClampNeg (0 : Int32).toNatClampNeg (8 : Int32).toNatClampNeg)) g 3 6 ((uc (uc M2 g 7 (va_cpy (M2 g1 7) (M2 g 7) (0 : Int32).toNatClampNeg (0 : Int32).toNatClampNeg (8 : Int32).toNatClampNeg)) g 8 (va_cpy ((uc M2 g 7 (va_cpy (M2 g1 7) (M2 g 7) (0 : Int32).toNatClampNeg (0 : Int32).toNatClampNeg (8 : Int32).toNatClampNeg)) g1 8) ((uc M2 g 7 (va_cpy (M2 g1 7) (M2 g 7) (0 : Int32).toNatClampNeg (0 : Int32).toNatClampNeg (8 : Int32).toNatClampNeg)) g 8) (0 : Int32).toNatClampNeg (0 : Int32).toNatClampNeg (8 : Int32).toNatClampNeg)) g1 3 6)) g 9) (0 : Int32).toNatClampNeg (0 : Int32).toNatClampNeg (20 : Int32).toNatClampNeg)) g 10 (va_cpy ((uc (us (uc (uc M2 g 7 (va_cpy (M2 g1 7) (M2 g 7) (0 : Int32).toNatClampNeg (0 : Int32).toNatClampNeg (8 : Int32).toNatClampNeg)) g 8 (va_cpy ((uc M2 g 7 (va_cpy (M2 g1 7) (M2 g 7) (0 : Int32).toNatClampNeg (0 : Int32).toNatClampNeg (8 : Int32).toNatClampNeg)) g1 8) ((uc M2 g 7 (va_cpy (M2 g1 7) (M2 g 7) (0 : Int32).toNatClampNeg (0 : Int32).toNatClampNeg (8 : Int32).toNatClampNeg)) g 8) (0 : Int32).toNatClampNeg (0 : Int32).toNatClampNeg (8 : Int32).toNatClampNeg)) g 3 6 ((uc (uc M2 g 7 (va_cpy (M2 g1 7) (M2 g 7) (0 : Int32).toNatClampNeg (0 : Int32).toNatClampNeg (8 : Int32).toNatClampNeg)) g 8 (va_cpy ((uc M2 g 7 (va_cpy (M2 g1 7) (M2 g 7) (0 : Int32).toNatClampNeg (0 : Int32).toNatClampNeg (8 : Int32).toNatClampNeg)) g1 8) ((uc M2 g 7 (va_cpy (M2 g1 7) (M2 g 7) (0 : Int32).toNatClampNeg (0 : Int32).toNatClampNeg (8 : Int32).toNatClampNeg)) g 8) (0 : Int32).toNatClampNeg (0 : Int32).toNatClampNeg (8 : Int32).toNatClampNeg)) g1 3 6)) g 9 (va_cpy ((us (uc (uc M2 g 7 (va_cpy (M2 g1 7) (M2 g 7) (0 : Int32).toNatClampNeg (0 : Int32).toNatClampNeg (8 : Int32).toNatClampNeg)) g 8 (va_cpy ((uc M2 g 7 (va_cpy (M2 g1 7) (M2 g 7) (0 : Int32).toNatClampNeg (0 : Int32).toNatClampNeg (8 : Int32).toNatClampNeg)) g1 8) ((uc M2 g 7 (va_cpy (M2 g1 7) (M2 g 7) (0 : Int32).toNatClampNeg (0 : Int32).toNatClampNeg (8 : Int32).toNatClampNeg)) g 8) (0 : Int32).toNatClampNeg (0 : Int32).toNatClampNeg (8 : Int32).toNatClampNeg)) g 3 6 ((uc (uc M2 g 7 (va_cpy (M2 g1 7) (M2 g 7) (0 : Int32).toNatClampNeg (0 : Int32).toNatClampNeg (8 : Int32).toNatClampNeg)) g 8 (va_cpy ((uc M2 g 7 (va_cpy (M2 g1 7) (M2 g 7) (0 : Int32).toNatClampNeg (0 : Int32).toNatClampNeg (8 : Int32).toNatClampNeg)) g1 8) ((uc M2 g 7 (va_cpy (M2 g1 7) (M2 g 7) (0 : Int32).toNatClampNeg (0 : Int32).toNatClampNeg (8 : Int32).toNatClampNeg)) g 8) (0 : Int32).toNatClampNeg (0 : Int32).toNatClampNeg (8 : Int32).toNatClampNeg)) g1 3 6)) g1 9) ((us (uc (uc M2 g 7 (va_cpy (M2 g1 7) (M2 g 7) (0 : Int32).toNatClampNeg (0 : Int32).toNatClampNeg (8 : Int32).toNatClampNeg)) g 8 (va_cpy ((uc M2 g 7 (va_cpy (M2 g1 7) (M2 g 7) (0 : Int32).toNatClampNeg (0 : Int32).toNatClampNeg (8 : Int32).toNatClampNeg)) g1 8) ((uc M2 g 7 (va_cpy (M2 g1 7) (M2 g 7) (0 : Int32).toNatClampNeg (0 : Int32).toNatClampNeg (8 : Int32).toNatClampNeg)) g 8) (0 : Int32).toNatClampNeg (0 : Int32).toNatClampNeg (8 : Int32).toNatClampNeg)) g 3 6 ((uc (uc M2 g 7 (va_cpy (M2 g1 7) (M2 g 7) (0 : Int32).toNatClampNeg (0 : Int32).toNatClampNeg (8 : Int32).toNatClampNeg)) g 8 (va_cpy ((uc M2 g 7 (va_cpy (M2 g1 7) (M2 g 7) (0 : Int32).toNatClampNeg (0 : Int32).toNatClampNeg (8 : Int32).toNatClampNeg)) g1 8) ((uc M2 g 7 (va_cpy (M2 g1 7) (M2 g 7) (0 : Int32).toNatClampNeg (0 : Int32).toNatClampNeg (8 : Int32).toNatClampNeg)) g 8) (0 : Int32).toNatClampNeg (0 : Int32).toNatClampNeg (8 : Int32).toNatClampNeg)) g1 3 6)) g 9) (0 : Int32).toNatClampNeg (0 : Int32).toNatClampNeg (20 : Int32).toNatClampNeg)) g1 10) ((uc (us (uc (uc M2 g 7 (va_cpy (M2 g1 7) (M2 g 7) (0 : Int32).toNatClampNeg (0 : Int32).toNatClampNeg (8 : Int32).toNatClampNeg)) g 8 (va_cpy ((uc M2 g 7 (va_cpy (M2 g1 7) (M2 g 7) (0 : Int32).toNatClampNeg (0 : Int32).toNatClampNeg (8 : Int32).toNatClampNeg)) g1 8) ((uc M2 g 7 (va_cpy (M2 g1 7) (M2 g 7) (0 : Int32).toNatClampNeg (0 : Int32).toNatClampNeg (8 : Int32).toNatClampNeg)) g 8) (0 : Int32).toNatClampNeg (0 : Int32).toNatClampNeg (8 : Int32).toNatClampNeg)) g 3 6 ((uc (uc M2 g 7 (va_cpy (M2 g1 7) (M2 g 7) (0 : Int32).toNatClampNeg (0 : Int32).toNatClampNeg (8 : Int32).toNatClampNeg)) g 8 (va_cpy ((uc M2 g 7 (va_cpy (M2 g1 7) (M2 g 7) (0 : Int32).toNatClampNeg (0 : Int32).toNatClampNeg (8 : Int32).toNatClampNeg)) g1 8) ((uc M2 g 7 (va_cpy (M2 g1 7) (M2 g 7) (0 : Int32).toNatClampNeg (0 : Int32).toNatClampNeg (8 : Int32).toNatClampNeg)) g 8) (0 : Int32).toNatClampNeg (0 : Int32).toNatClampNeg (8 : Int32).toNatClampNeg)) g1 3 6)) g 9 (va_cpy ((us (uc (uc M2 g 7 (va_cpy (M2 g1 7) (M2 g 7) (0 : Int32).toNatClampNeg (0 : Int32).toNatClampNeg (8 : Int32).toNatClampNeg)) g 8 (va_cpy ((uc M2 g 7 (va_cpy (M2 g1 7) (M2 g 7) (0 : Int32).toNatClampNeg (0 : Int32).toNatClampNeg (8 : Int32).toNatClampNeg)) g1 8) ((uc M2 g 7 (va_cpy (M2 g1 7) (M2 g 7) (0 : Int32).toNatClampNeg (0 : Int32).toNatClampNeg (8 : Int32).toNatClampNeg)) g 8) (0 : Int32).toNatClampNeg (0 : Int32).toNatClampNeg (8 : Int32).toNatClampNeg)) g 3 6 ((uc (uc M2 g 7 (va_cpy (M2 g1 7) (M2 g 7) (0 : Int32).toNatClampNeg (0 : Int32).toNatClampNeg (8 : Int32).toNatClampNeg)) g 8 (va_cpy ((uc M2 g 7 (va_cpy (M2 g1 7) (M2 g 7) (0 : Int32).toNatClampNeg (0 : Int32).toNatClampNeg (8 : Int32).toNatClampNeg)) g1 8) ((uc M2 g 7 (va_cpy (M2 g1 7) (M2 g 7) (0 : Int32).toNatClampNeg (0 : Int32).toNatClampNeg (8 : Int32).toNatClampNeg)) g 8) (0 : Int32).toNatClampNeg (0 : Int32).toNatClampNeg (8 : Int32).toNatClampNeg)) g1 3 6)) g1 9) ((us (uc (uc M2 g 7 (va_cpy (M2 g1 7) (M2 g 7) (0 : Int32).toNatClampNeg (0 : Int32).toNatClampNeg (8 : Int32).toNatClampNeg)) g 8 (va_cpy ((uc M2 g 7 (va_cpy (M2 g1 7) (M2 g 7) (0 : Int32).toNatClampNeg (0 : Int32).toNatClampNeg (8 : Int32).toNatClampNeg)) g1 8) ((uc M2 g 7 (va_cpy (M2 g1 7) (M2 g 7) (0 : Int32).toNatClampNeg (0 : Int32).toNatClampNeg (8 : Int32).toNatClampNeg)) g 8) (0 : Int32).toNatClampNeg (0 : Int32).toNatClampNeg (8 : Int32).toNatClampNeg)) g 3 6 ((uc (uc M2 g 7 (va_cpy (M2 g1 7) (M2 g 7) (0 : Int32).toNatClampNeg (0 : Int32).toNatClampNeg (8 : Int32).toNatClampNeg)) g 8 (va_cpy ((uc M2 g 7 (va_cpy (M2 g1 7) (M2 g 7) (0 : Int32).toNatClampNeg (0 : Int32).toNatClampNeg (8 : Int32).toNatClampNeg)) g1 8) ((uc M2 g 7 (va_cpy (M2 g1 7) (M2 g 7) (0 : Int32).toNatClampNeg (0 : Int32).toNatClampNeg (8 : Int32).toNatClampNeg)) g 8) (0 : Int32).toNatClampNeg (0 : Int32).toNatClampNeg (8 : Int32).toNatClampNeg)) g1 3 6)) g 9) (0 : Int32).toNatClampNeg (0 : Int32).toNatClampNeg (20 : Int32).toNatClampNeg)) g 10) (0 : Int32).toNatClampNeg (0 : Int32).toNatClampNeg (20 : Int32).toNatClampNeg)) g 11) (0 : Int32).toNatClampNeg (0 : Int32).toNatClampNeg (20 : Int32).toNatClampNeg)))))))) n10 (0 : Int32) (us M g 3 0 (M g1 3 0))
set_option maxHeartbeats 4000000 in
set_option maxRecDepth 100000 in
theorem xt_Ho_copyFrom_10 {p : Program} {l : Launch} {e : Env} {s : State} {m : MethodId} {args : Array Value} {below : List Frame} {meth : Method} {c : Code} {G : xG} (hC : xC p s m args c b_Ho_copyFrom R_Ho 3 G) (hr : meth.sig.returnType = none) (hlk : meth.locks = false) {g : Nat} {g1 : Nat} (hg : g < 4) (hg1 : g1 < 4) {post : xM → Prop} {k58 : Int32 → xM → Prop} (hk58 : ∀ (x2 : Int32) (M : xM) (H : Heap) (locs : List Loc) (ls : Array Slot), k58 x2 M → xRp G M H → va_S (xA G) s.heap H locs → lv_has ls 3 [(0, .ref (G.1 g 3)), (1, .ref (G.1 g1 3)), (2, .int x2)] → W p l e rm_Ho_copyFrom s m args below meth c H locs 0 0 (MQ below (xPv G post) args s 0 0 (xA G)) (F0 m 58 ls [])) : ∀ (n : Nat) (x2 : Int32) (M : xM) (H : Heap) (locs : List Loc) (ls : Array Slot), xw_Ho_copyFrom_10 g g1 post k58 n x2 M → xRp G M H → va_S (xA G) s.heap H locs → lv_has ls 3 [(0, .ref (G.1 g 3)), (1, .ref (G.1 g1 3)), (2, .int x2)] → W p l e rm_Ho_copyFrom s m args below meth c H locs 0 0 (MQ below (xPv G post) args s 0 0 (xA G)) (F0 m 10 ls []) := by
  have hx := hC.1
  have hb := hC.2.1
  intro n
  induction n with
  | zero => intro x2 M H locs ls; exact fun h => h.elim
  | succ n ih =>
    intro x2 M H locs ls h hR hS hl
    refine lv_iload_n (pc := 10) hx hb xd_Ho_copyFrom_10 rfl (lv_at hl 2 rfl) ?_
    refine lv_bipush (pc := 11) (v := (12 : Int32)) hx hb xd_Ho_copyFrom_11 (by decide) ?_
    refine lv_icmp_ge (pc := 13) (tgt := 58) hx hb xd_Ho_copyFrom_13 (by decide) (fun hq => ?_) (fun hq => ?_)
    · have h := h.1 hq
      exact hk58 x2 M H locs ls h hR hS (lv_sub hl [0, 1, 2] rfl)
    · have h := h.2 hq
      refine lv_aload_n (pc := 16) hx hb xd_Ho_copyFrom_16 rfl (lv_at hl 0 rfl) ?_
      refine xr_get (pc := 17) (v := .ref (G.1 g 4)) hC hR (xo_K3 hg) xf_Ho_15 rfl xd_Ho_copyFrom_17 ?_
      refine lv_iload_n (pc := 20) hx hb xd_Ho_copyFrom_20 rfl (lv_at hl 2 rfl) ?_
      refine lv_aload_n (pc := 21) hx hb xd_Ho_copyFrom_21 rfl (lv_at hl 1 rfl) ?_
      refine xr_get (pc := 22) (v := .ref (G.1 g1 4)) hC hR (xo_K3 hg1) xf_Ho_15 rfl xd_Ho_copyFrom_22 ?_
      refine lv_iload_n (pc := 25) hx hb xd_Ho_copyFrom_25 rfl (lv_at hl 2 rfl) ?_
      obtain ⟨hq, h⟩ := h
      refine xr_iald (pc := 26) hC hR (xo_K4 hg1) hq xd_Ho_copyFrom_26 ?_
      obtain ⟨hq, h⟩ := h
      refine xr_iast (pc := 27) hC hR hS (xo_K4 hg) hq xd_Ho_copyFrom_27 (fun H locs hR hS => ?_)
      refine lv_aload_n (pc := 28) hx hb xd_Ho_copyFrom_28 rfl (lv_at hl 0 rfl) ?_
      refine xr_get (pc := 29) (v := .ref (G.1 g 5)) hC hR (xo_K3 hg) xf_Ho_19 rfl xd_Ho_copyFrom_29 ?_
      refine lv_iload_n (pc := 32) hx hb xd_Ho_copyFrom_32 rfl (lv_at hl 2 rfl) ?_
      refine lv_aload_n (pc := 33) hx hb xd_Ho_copyFrom_33 rfl (lv_at hl 1 rfl) ?_
      refine xr_get (pc := 34) (v := .ref (G.1 g1 5)) hC hR (xo_K3 hg1) xf_Ho_19 rfl xd_Ho_copyFrom_34 ?_
      refine lv_iload_n (pc := 37) hx hb xd_Ho_copyFrom_37 rfl (lv_at hl 2 rfl) ?_
      obtain ⟨hq, h⟩ := h
      refine xr_zald (pc := 38) hC hR (xo_K5 hg1) hq xd_Ho_copyFrom_38 ?_
      obtain ⟨hz, h⟩ := h
      obtain ⟨hq, h⟩ := h
      refine xr_zast (pc := 39) hC hR hS (xo_K5 hg) hq hz xd_Ho_copyFrom_39 (fun H locs hR hS => ?_)
      refine lv_aload_n (pc := 40) hx hb xd_Ho_copyFrom_40 rfl (lv_at hl 0 rfl) ?_
      refine xr_get (pc := 41) (v := .ref (G.1 g 6)) hC hR (xo_K3 hg) xf_Ho_23 rfl xd_Ho_copyFrom_41 ?_
      refine lv_iload_n (pc := 44) hx hb xd_Ho_copyFrom_44 rfl (lv_at hl 2 rfl) ?_
      refine lv_aload_n (pc := 45) hx hb xd_Ho_copyFrom_45 rfl (lv_at hl 1 rfl) ?_
      refine xr_get (pc := 46) (v := .ref (G.1 g1 6)) hC hR (xo_K3 hg1) xf_Ho_23 rfl xd_Ho_copyFrom_46 ?_
      refine lv_iload_n (pc := 49) hx hb xd_Ho_copyFrom_49 rfl (lv_at hl 2 rfl) ?_
      obtain ⟨hq, h⟩ := h
      refine xr_iald (pc := 50) hC hR (xo_K6 hg1) hq xd_Ho_copyFrom_50 ?_
      obtain ⟨hq, h⟩ := h
      refine xr_iast (pc := 51) hC hR hS (xo_K6 hg) hq xd_Ho_copyFrom_51 (fun H locs hR hS => ?_)
      refine lv_iinc (pc := 52) (v := (x2 + (1 : Int32))) (lv' := [(2, .int (x2 + (1 : Int32))), (0, .ref (G.1 g 3)), (1, .ref (G.1 g1 3))]) hx hb xd_Ho_copyFrom_52 hl (k := 2) rfl rfl (by decide) rfl (fun ls hl => ?_)
      refine lv_goto (pc := 55) (tgt := 10) hx hb xd_Ho_copyFrom_55 (by decide) ?_
      exact ih (x2 + (1 : Int32)) (us (us (us M g 4 x2.toNatClampNeg (M g1 4 x2.toNatClampNeg)) g 5 x2.toNatClampNeg ((us M g 4 x2.toNatClampNeg (M g1 4 x2.toNatClampNeg)) g1 5 x2.toNatClampNeg)) g 6 x2.toNatClampNeg ((us (us M g 4 x2.toNatClampNeg (M g1 4 x2.toNatClampNeg)) g 5 x2.toNatClampNeg ((us M g 4 x2.toNatClampNeg (M g1 4 x2.toNatClampNeg)) g1 5 x2.toNatClampNeg)) g1 6 x2.toNatClampNeg)) H locs ls h hR hS (lv_sub hl [1, 2, 0] rfl)
set_option maxHeartbeats 4000000 in
set_option maxRecDepth 100000 in
theorem xc_Ho_copyFrom (l : Launch) (G : xG) {g : Nat} {g1 : Nat} (hg : g < 4) (hg1 : g1 < 4) {M : xM} {post : xM → Prop} (h : xw_Ho_copyFrom g g1 M post) : Met l y_Ho_copyFrom (Cond.code y_Ho_copyFrom b_Ho_copyFrom 3 none :: xTG) rm_Ho_copyFrom (xPre G M [.ref (G.1 g 3), .ref (G.1 g1 3)]) (xPv G post) 0 0 (xA G) := by
  refine xMet (own := R_Ho) [.ref (G.1 g 3), .ref (G.1 g1 3)] (Or.inl (by decide)) rfl (Nat.le_of_ble_eq_true rfl) (fun p e s m args below meth c ls hC hr hlk hR hS hl => ?_)
  have hx := hC.1
  have hb := hC.2.1
  have hl : lv_has ls 3 [(0, .ref (G.1 g 3)), (1, .ref (G.1 g1 3))] := hl
  obtain ⟨H, eH⟩ : ∃ H : Heap, H = s.heap := ⟨_, rfl⟩
  obtain ⟨locs, eL⟩ : ∃ locs : List Loc, locs = [] := ⟨_, rfl⟩
  rw [← eH] at hR
  replace hS : va_S (xA G) s.heap H locs := by rw [eH, eL]; exact hS
  suffices hh : W p l e rm_Ho_copyFrom s m args below meth c H locs 0 0 (MQ below (xPv G post) args s 0 0 (xA G)) (F0 m 0 ls []) from by rw [eH, eL] at hh; exact hh
  unfold xw_Ho_copyFrom at h
  refine lv_aload_n (pc := 0) hx hb xd_Ho_copyFrom_0 rfl (lv_at hl 0 rfl) ?_
  refine lv_aload_n (pc := 1) hx hb xd_Ho_copyFrom_1 rfl (lv_at hl 1 rfl) ?_
  refine xr_get (pc := 2) (v := .int (M g1 3 0)) hC hR (xo_K3 hg1) xf_Ho_9 rfl xd_Ho_copyFrom_2 ?_
  refine xr_put (pc := 5) hC hR hS (xo_K3 hg) xf_Ho_9 xp_4_0 rfl rfl rfl xd_Ho_copyFrom_5 (fun H locs hR hS => ?_)
  refine lv_iconst (pc := 8) (v := (0 : Int32)) hx hb xd_Ho_copyFrom_8 (by decide) ?_
  refine lv_istore_n (pc := 9) (lv' := [(2, .int (0 : Int32)), (0, .ref (G.1 g 3)), (1, .ref (G.1 g1 3))]) hx hb xd_Ho_copyFrom_9 rfl hl (by decide) rfl (fun ls hl => ?_)
  obtain ⟨n, h⟩ := h
  refine xt_Ho_copyFrom_10 hC hr hlk hg hg1 (fun y1 M2 H locs ls h hR hS hl => ?_) n (0 : Int32) (us M g 3 0 (M g1 3 0)) H locs ls h hR hS (lv_sub hl [1, 2, 0] rfl)
  refine lv_aload_n (pc := 58) hx hb xd_Ho_copyFrom_58 rfl (lv_at hl 1 rfl) ?_
  refine xr_get (pc := 59) (v := .ref (G.1 g1 7)) hC hR (xo_K3 hg1) xf_Ho_26 rfl xd_Ho_copyFrom_59 ?_
  refine lv_iconst (pc := 62) (v := (0 : Int32)) hx hb xd_Ho_copyFrom_62 (by decide) ?_
  refine lv_aload_n (pc := 63) hx hb xd_Ho_copyFrom_63 rfl (lv_at hl 0 rfl) ?_
  refine xr_get (pc := 64) (v := .ref (G.1 g 7)) hC hR (xo_K3 hg) xf_Ho_26 rfl xd_Ho_copyFrom_64 ?_
  refine lv_iconst (pc := 67) (v := (0 : Int32)) hx hb xd_Ho_copyFrom_67 (by decide) ?_
  refine lv_bipush (pc := 68) (v := (8 : Int32)) hx hb xd_Ho_copyFrom_68 (by decide) ?_
  obtain ⟨hq, hz, h⟩ := h
  refine xr_copy (pc := 70) hC hR hS xk_Ho_47 (xo_K7 hg1) (xo_K7 hg) (fun e9 => hq (hC.2.2.2.2.2.2.2.2.2.2 _ _ _ _ _ _ (xo_K7 hg1) (xo_K7 hg) e9)) hz.1 hz.2.1 hz.2.2.1 hz.2.2.2.1 hz.2.2.2.2 hl.1 (Nat.le_of_ble_eq_true rfl) (Nat.le_of_ble_eq_true rfl) xd_Ho_copyFrom_70 (fun H locs hR hS => ?_)
  refine lv_aload_n (pc := 73) hx hb xd_Ho_copyFrom_73 rfl (lv_at hl 1 rfl) ?_
  refine xr_get (pc := 74) (v := .ref (G.1 g1 8)) hC hR (xo_K3 hg1) xf_Ho_29 rfl xd_Ho_copyFrom_74 ?_
  refine lv_iconst (pc := 77) (v := (0 : Int32)) hx hb xd_Ho_copyFrom_77 (by decide) ?_
  refine lv_aload_n (pc := 78) hx hb xd_Ho_copyFrom_78 rfl (lv_at hl 0 rfl) ?_
  refine xr_get (pc := 79) (v := .ref (G.1 g 8)) hC hR (xo_K3 hg) xf_Ho_29 rfl xd_Ho_copyFrom_79 ?_
  refine lv_iconst (pc := 82) (v := (0 : Int32)) hx hb xd_Ho_copyFrom_82 (by decide) ?_
  refine lv_bipush (pc := 83) (v := (8 : Int32)) hx hb xd_Ho_copyFrom_83 (by decide) ?_
  obtain ⟨hq, hz, h⟩ := h
  refine xr_copy (pc := 85) hC hR hS xk_Ho_47 (xo_K8 hg1) (xo_K8 hg) (fun e9 => hq (hC.2.2.2.2.2.2.2.2.2.2 _ _ _ _ _ _ (xo_K8 hg1) (xo_K8 hg) e9)) hz.1 hz.2.1 hz.2.2.1 hz.2.2.2.1 hz.2.2.2.2 hl.1 (Nat.le_of_ble_eq_true rfl) (Nat.le_of_ble_eq_true rfl) xd_Ho_copyFrom_85 (fun H locs hR hS => ?_)
  refine lv_aload_n (pc := 88) hx hb xd_Ho_copyFrom_88 rfl (lv_at hl 0 rfl) ?_
  refine lv_aload_n (pc := 89) hx hb xd_Ho_copyFrom_89 rfl (lv_at hl 1 rfl) ?_
  refine xr_get (pc := 90) (v := .int ((uc (uc M2 g 7 (va_cpy (M2 g1 7) (M2 g 7) (0 : Int32).toNatClampNeg (0 : Int32).toNatClampNeg (8 : Int32).toNatClampNeg)) g 8 (va_cpy ((uc M2 g 7 (va_cpy (M2 g1 7) (M2 g 7) (0 : Int32).toNatClampNeg (0 : Int32).toNatClampNeg (8 : Int32).toNatClampNeg)) g1 8) ((uc M2 g 7 (va_cpy (M2 g1 7) (M2 g 7) (0 : Int32).toNatClampNeg (0 : Int32).toNatClampNeg (8 : Int32).toNatClampNeg)) g 8) (0 : Int32).toNatClampNeg (0 : Int32).toNatClampNeg (8 : Int32).toNatClampNeg)) g1 3 6)) hC hR (xo_K3 hg1) xf_Ho_32 rfl xd_Ho_copyFrom_90 ?_
  refine xr_put (pc := 93) hC hR hS (xo_K3 hg) xf_Ho_32 xp_4_6 rfl rfl rfl xd_Ho_copyFrom_93 (fun H locs hR hS => ?_)
  refine lv_aload_n (pc := 96) hx hb xd_Ho_copyFrom_96 rfl (lv_at hl 1 rfl) ?_
  refine xr_get (pc := 97) (v := .ref (G.1 g1 9)) hC hR (xo_K3 hg1) xf_Ho_35 rfl xd_Ho_copyFrom_97 ?_
  refine lv_iconst (pc := 100) (v := (0 : Int32)) hx hb xd_Ho_copyFrom_100 (by decide) ?_
  refine lv_aload_n (pc := 101) hx hb xd_Ho_copyFrom_101 rfl (lv_at hl 0 rfl) ?_
  refine xr_get (pc := 102) (v := .ref (G.1 g 9)) hC hR (xo_K3 hg) xf_Ho_35 rfl xd_Ho_copyFrom_102 ?_
  refine lv_iconst (pc := 105) (v := (0 : Int32)) hx hb xd_Ho_copyFrom_105 (by decide) ?_
  refine lv_bipush (pc := 106) (v := (20 : Int32)) hx hb xd_Ho_copyFrom_106 (by decide) ?_
  obtain ⟨hq, hz, h⟩ := h
  refine xr_copy (pc := 108) hC hR hS xk_Ho_47 (xo_K9 hg1) (xo_K9 hg) (fun e9 => hq (hC.2.2.2.2.2.2.2.2.2.2 _ _ _ _ _ _ (xo_K9 hg1) (xo_K9 hg) e9)) hz.1 hz.2.1 hz.2.2.1 hz.2.2.2.1 hz.2.2.2.2 hl.1 (Nat.le_of_ble_eq_true rfl) (Nat.le_of_ble_eq_true rfl) xd_Ho_copyFrom_108 (fun H locs hR hS => ?_)
  refine lv_aload_n (pc := 111) hx hb xd_Ho_copyFrom_111 rfl (lv_at hl 1 rfl) ?_
  refine xr_get (pc := 112) (v := .ref (G.1 g1 10)) hC hR (xo_K3 hg1) xf_Ho_38 rfl xd_Ho_copyFrom_112 ?_
  refine lv_iconst (pc := 115) (v := (0 : Int32)) hx hb xd_Ho_copyFrom_115 (by decide) ?_
  refine lv_aload_n (pc := 116) hx hb xd_Ho_copyFrom_116 rfl (lv_at hl 0 rfl) ?_
  refine xr_get (pc := 117) (v := .ref (G.1 g 10)) hC hR (xo_K3 hg) xf_Ho_38 rfl xd_Ho_copyFrom_117 ?_
  refine lv_iconst (pc := 120) (v := (0 : Int32)) hx hb xd_Ho_copyFrom_120 (by decide) ?_
  refine lv_bipush (pc := 121) (v := (20 : Int32)) hx hb xd_Ho_copyFrom_121 (by decide) ?_
  obtain ⟨hq, hz, h⟩ := h
  refine xr_copy (pc := 123) hC hR hS xk_Ho_47 (xo_K10 hg1) (xo_K10 hg) (fun e9 => hq (hC.2.2.2.2.2.2.2.2.2.2 _ _ _ _ _ _ (xo_K10 hg1) (xo_K10 hg) e9)) hz.1 hz.2.1 hz.2.2.1 hz.2.2.2.1 hz.2.2.2.2 hl.1 (Nat.le_of_ble_eq_true rfl) (Nat.le_of_ble_eq_true rfl) xd_Ho_copyFrom_123 (fun H locs hR hS => ?_)
  refine lv_aload_n (pc := 126) hx hb xd_Ho_copyFrom_126 rfl (lv_at hl 1 rfl) ?_
  refine xr_get (pc := 127) (v := .ref (G.1 g1 11)) hC hR (xo_K3 hg1) xf_Ho_41 rfl xd_Ho_copyFrom_127 ?_
  refine lv_iconst (pc := 130) (v := (0 : Int32)) hx hb xd_Ho_copyFrom_130 (by decide) ?_
  refine lv_aload_n (pc := 131) hx hb xd_Ho_copyFrom_131 rfl (lv_at hl 0 rfl) ?_
  refine xr_get (pc := 132) (v := .ref (G.1 g 11)) hC hR (xo_K3 hg) xf_Ho_41 rfl xd_Ho_copyFrom_132 ?_
  refine lv_iconst (pc := 135) (v := (0 : Int32)) hx hb xd_Ho_copyFrom_135 (by decide) ?_
  refine lv_bipush (pc := 136) (v := (20 : Int32)) hx hb xd_Ho_copyFrom_136 (by decide) ?_
  obtain ⟨hq, hz, h⟩ := h
  refine xr_copy (pc := 138) hC hR hS xk_Ho_47 (xo_K11 hg1) (xo_K11 hg) (fun e9 => hq (hC.2.2.2.2.2.2.2.2.2.2 _ _ _ _ _ _ (xo_K11 hg1) (xo_K11 hg) e9)) hz.1 hz.2.1 hz.2.2.1 hz.2.2.2.1 hz.2.2.2.2 hl.1 (Nat.le_of_ble_eq_true rfl) (Nat.le_of_ble_eq_true rfl) xd_Ho_copyFrom_138 (fun H locs hR hS => ?_)
  exact xr_vret hC hr hlk hR hS h xd_Ho_copyFrom_141

/-! ColoursApart$House.has(I)Z -/
theorem xd_Ho_has_0 : decode b_Ho_has 0 = .ok (.iload_n 1, 1) := by decide +kernel
theorem xd_Ho_has_1 : decode b_Ho_has 1 = .ok (.ifCond .lt 15, 3) := by decide +kernel
theorem xd_Ho_has_4 : decode b_Ho_has 4 = .ok (.iload_n 1, 1) := by decide +kernel
theorem xd_Ho_has_5 : decode b_Ho_has 5 = .ok (.aload_n 0, 1) := by decide +kernel
theorem xd_Ho_has_6 : decode b_Ho_has 6 = .ok (.getfield 9, 3) := by decide +kernel
theorem xd_Ho_has_9 : decode b_Ho_has 9 = .ok (.if_icmp .ge 7, 3) := by decide +kernel
theorem xd_Ho_has_12 : decode b_Ho_has 12 = .ok (.iconst 1, 1) := by decide +kernel
theorem xd_Ho_has_13 : decode b_Ho_has 13 = .ok (.goto 4, 3) := by decide +kernel
theorem xd_Ho_has_16 : decode b_Ho_has 16 = .ok (.iconst 0, 1) := by decide +kernel
theorem xd_Ho_has_17 : decode b_Ho_has 17 = .ok (.ireturn, 1) := by decide +kernel
abbrev rm_Ho_has : Room := { frames := 0, cells := 0, slots := 0, locals := 0 }
def xw_Ho_has (g : Nat) (a1 : Int32) (M : xM) (post : Int32 → xM → Prop) : Prop :=
  ((a1 < 0) → (post (0 : Int32) M)) ∧ ((¬ a1 < 0) → ((((M g 3 0) ≤ a1) → (post (0 : Int32) M)) ∧ ((¬ (M g 3 0) ≤ a1) → (post (1 : Int32) M))))
set_option maxHeartbeats 4000000 in
set_option maxRecDepth 100000 in
theorem xc_Ho_has (l : Launch) (G : xG) {g : Nat} {a1 : Int32} (hg : g < 4) {M : xM} {post : Int32 → xM → Prop} (h : xw_Ho_has g a1 M post) : Met l y_Ho_has (Cond.code y_Ho_has b_Ho_has 2 (some .boolean) :: xTG) rm_Ho_has (xPre G M [.ref (G.1 g 3), .int a1]) (xPi G post) 0 0 (xA G) := by
  refine xMet (own := R_Ho) [.ref (G.1 g 3), .int a1] (Or.inl (by decide)) rfl (Nat.le_of_ble_eq_true rfl) (fun p e s m args below meth c ls hC hr hlk hR hS hl => ?_)
  have hx := hC.1
  have hb := hC.2.1
  have hl : lv_has ls 2 [(0, .ref (G.1 g 3)), (1, .int a1)] := hl
  obtain ⟨H, eH⟩ : ∃ H : Heap, H = s.heap := ⟨_, rfl⟩
  obtain ⟨locs, eL⟩ : ∃ locs : List Loc, locs = [] := ⟨_, rfl⟩
  rw [← eH] at hR
  replace hS : va_S (xA G) s.heap H locs := by rw [eH, eL]; exact hS
  suffices hh : W p l e rm_Ho_has s m args below meth c H locs 0 0 (MQ below (xPi G post) args s 0 0 (xA G)) (F0 m 0 ls []) from by rw [eH, eL] at hh; exact hh
  unfold xw_Ho_has at h
  refine lv_iload_n (pc := 0) hx hb xd_Ho_has_0 rfl (lv_at hl 1 rfl) ?_
  refine lv_if_lt (pc := 1) (tgt := 16) hx hb xd_Ho_has_1 (by decide) (fun hq => ?_) (fun hq => ?_)
  · have h := h.1 hq
    refine lv_iconst (pc := 16) (v := (0 : Int32)) hx hb xd_Ho_has_16 (by decide) ?_
    exact xr_zret hC hr hlk hR hS (by decide) h xd_Ho_has_17
  · have h := h.2 hq
    refine lv_iload_n (pc := 4) hx hb xd_Ho_has_4 rfl (lv_at hl 1 rfl) ?_
    refine lv_aload_n (pc := 5) hx hb xd_Ho_has_5 rfl (lv_at hl 0 rfl) ?_
    refine xr_get (pc := 6) (v := .int (M g 3 0)) hC hR (xo_K3 hg) xf_Ho_9 rfl xd_Ho_has_6 ?_
    refine lv_icmp_ge (pc := 9) (tgt := 16) hx hb xd_Ho_has_9 (by decide) (fun hq => ?_) (fun hq => ?_)
    · have h := h.1 hq
      refine lv_iconst (pc := 16) (v := (0 : Int32)) hx hb xd_Ho_has_16 (by decide) ?_
      exact xr_zret hC hr hlk hR hS (by decide) h xd_Ho_has_17
    · have h := h.2 hq
      refine lv_iconst (pc := 12) (v := (1 : Int32)) hx hb xd_Ho_has_12 (by decide) ?_
      refine lv_goto (pc := 13) (tgt := 17) hx hb xd_Ho_has_13 (by decide) ?_
      exact xr_zret hC hr hlk hR hS (by decide) h xd_Ho_has_17

/-! ColoursApart$House.takeIn(IZ)I -/
theorem xd_Ho_takeIn_0 : decode b_Ho_takeIn 0 = .ok (.aload_n 0, 1) := by decide +kernel
theorem xd_Ho_takeIn_1 : decode b_Ho_takeIn 1 = .ok (.getfield 15, 3) := by decide +kernel
theorem xd_Ho_takeIn_4 : decode b_Ho_takeIn 4 = .ok (.aload_n 0, 1) := by decide +kernel
theorem xd_Ho_takeIn_5 : decode b_Ho_takeIn 5 = .ok (.getfield 9, 3) := by decide +kernel
theorem xd_Ho_takeIn_8 : decode b_Ho_takeIn 8 = .ok (.iload_n 1, 1) := by decide +kernel
theorem xd_Ho_takeIn_9 : decode b_Ho_takeIn 9 = .ok (.iastore, 1) := by decide +kernel
theorem xd_Ho_takeIn_10 : decode b_Ho_takeIn 10 = .ok (.aload_n 0, 1) := by decide +kernel
theorem xd_Ho_takeIn_11 : decode b_Ho_takeIn 11 = .ok (.getfield 19, 3) := by decide +kernel
theorem xd_Ho_takeIn_14 : decode b_Ho_takeIn 14 = .ok (.aload_n 0, 1) := by decide +kernel
theorem xd_Ho_takeIn_15 : decode b_Ho_takeIn 15 = .ok (.getfield 9, 3) := by decide +kernel
theorem xd_Ho_takeIn_18 : decode b_Ho_takeIn 18 = .ok (.iload_n 2, 1) := by decide +kernel
theorem xd_Ho_takeIn_19 : decode b_Ho_takeIn 19 = .ok (.bastore, 1) := by decide +kernel
theorem xd_Ho_takeIn_20 : decode b_Ho_takeIn 20 = .ok (.aload_n 0, 1) := by decide +kernel
theorem xd_Ho_takeIn_21 : decode b_Ho_takeIn 21 = .ok (.getfield 23, 3) := by decide +kernel
theorem xd_Ho_takeIn_24 : decode b_Ho_takeIn 24 = .ok (.aload_n 0, 1) := by decide +kernel
theorem xd_Ho_takeIn_25 : decode b_Ho_takeIn 25 = .ok (.getfield 9, 3) := by decide +kernel
theorem xd_Ho_takeIn_28 : decode b_Ho_takeIn 28 = .ok (.iconst (-1), 1) := by decide +kernel
theorem xd_Ho_takeIn_29 : decode b_Ho_takeIn 29 = .ok (.iastore, 1) := by decide +kernel
theorem xd_Ho_takeIn_30 : decode b_Ho_takeIn 30 = .ok (.aload_n 0, 1) := by decide +kernel
theorem xd_Ho_takeIn_31 : decode b_Ho_takeIn 31 = .ok (.dup, 1) := by decide +kernel
theorem xd_Ho_takeIn_32 : decode b_Ho_takeIn 32 = .ok (.getfield 9, 3) := by decide +kernel
theorem xd_Ho_takeIn_35 : decode b_Ho_takeIn 35 = .ok (.iconst 1, 1) := by decide +kernel
theorem xd_Ho_takeIn_36 : decode b_Ho_takeIn 36 = .ok (.iadd, 1) := by decide +kernel
theorem xd_Ho_takeIn_37 : decode b_Ho_takeIn 37 = .ok (.putfield 9, 3) := by decide +kernel
theorem xd_Ho_takeIn_40 : decode b_Ho_takeIn 40 = .ok (.aload_n 0, 1) := by decide +kernel
theorem xd_Ho_takeIn_41 : decode b_Ho_takeIn 41 = .ok (.getfield 9, 3) := by decide +kernel
theorem xd_Ho_takeIn_44 : decode b_Ho_takeIn 44 = .ok (.iconst 1, 1) := by decide +kernel
theorem xd_Ho_takeIn_45 : decode b_Ho_takeIn 45 = .ok (.isub, 1) := by decide +kernel
theorem xd_Ho_takeIn_46 : decode b_Ho_takeIn 46 = .ok (.ireturn, 1) := by decide +kernel
abbrev rm_Ho_takeIn : Room := { frames := 0, cells := 0, slots := 0, locals := 0 }
def xw_Ho_takeIn (g : Nat) (a1 : Int32) (a2 : Int32) (M : xM) (post : Int32 → xM → Prop) : Prop :=
  (vp_in (M g 3 0) 12) ∧ ((a2 &&& 1 = a2) ∧ ((vp_in ((us M g 4 (M g 3 0).toNatClampNeg a1) g 3 0) 12) ∧ ((vp_in ((us (us M g 4 (M g 3 0).toNatClampNeg a1) g 5 ((us M g 4 (M g 3 0).toNatClampNeg a1) g 3 0).toNatClampNeg a2) g 3 0) 12) ∧ (post (((us (us (us (us M g 4 (M g 3 0).toNatClampNeg a1) g 5 ((us M g 4 (M g 3 0).toNatClampNeg a1) g 3 0).toNatClampNeg a2) g 6 ((us (us M g 4 (M g 3 0).toNatClampNeg a1) g 5 ((us M g 4 (M g 3 0).toNatClampNeg a1) g 3 0).toNatClampNeg a2) g 3 0).toNatClampNeg (-1 : Int32)) g 3 0 (((us (us (us M g 4 (M g 3 0).toNatClampNeg a1) g 5 ((us M g 4 (M g 3 0).toNatClampNeg a1) g 3 0).toNatClampNeg a2) g 6 ((us (us M g 4 (M g 3 0).toNatClampNeg a1) g 5 ((us M g 4 (M g 3 0).toNatClampNeg a1) g 3 0).toNatClampNeg a2) g 3 0).toNatClampNeg (-1 : Int32)) g 3 0) + (1 : Int32))) g 3 0) - (1 : Int32)) (us (us (us (us M g 4 (M g 3 0).toNatClampNeg a1) g 5 ((us M g 4 (M g 3 0).toNatClampNeg a1) g 3 0).toNatClampNeg a2) g 6 ((us (us M g 4 (M g 3 0).toNatClampNeg a1) g 5 ((us M g 4 (M g 3 0).toNatClampNeg a1) g 3 0).toNatClampNeg a2) g 3 0).toNatClampNeg (-1 : Int32)) g 3 0 (((us (us (us M g 4 (M g 3 0).toNatClampNeg a1) g 5 ((us M g 4 (M g 3 0).toNatClampNeg a1) g 3 0).toNatClampNeg a2) g 6 ((us (us M g 4 (M g 3 0).toNatClampNeg a1) g 5 ((us M g 4 (M g 3 0).toNatClampNeg a1) g 3 0).toNatClampNeg a2) g 3 0).toNatClampNeg (-1 : Int32)) g 3 0) + (1 : Int32)))))))
set_option maxHeartbeats 4000000 in
set_option maxRecDepth 100000 in
theorem xc_Ho_takeIn (l : Launch) (G : xG) {g : Nat} {a1 : Int32} {a2 : Int32} (hg : g < 4) {M : xM} {post : Int32 → xM → Prop} (h : xw_Ho_takeIn g a1 a2 M post) : Met l y_Ho_takeIn (Cond.code y_Ho_takeIn b_Ho_takeIn 3 (some .int) :: xTG) rm_Ho_takeIn (xPre G M [.ref (G.1 g 3), .int a1, .int a2]) (xPi G post) 0 0 (xA G) := by
  refine xMet (own := R_Ho) [.ref (G.1 g 3), .int a1, .int a2] (Or.inl (by decide)) rfl (Nat.le_of_ble_eq_true rfl) (fun p e s m args below meth c ls hC hr hlk hR hS hl => ?_)
  have hx := hC.1
  have hb := hC.2.1
  have hl : lv_has ls 3 [(0, .ref (G.1 g 3)), (1, .int a1), (2, .int a2)] := hl
  obtain ⟨H, eH⟩ : ∃ H : Heap, H = s.heap := ⟨_, rfl⟩
  obtain ⟨locs, eL⟩ : ∃ locs : List Loc, locs = [] := ⟨_, rfl⟩
  rw [← eH] at hR
  replace hS : va_S (xA G) s.heap H locs := by rw [eH, eL]; exact hS
  suffices hh : W p l e rm_Ho_takeIn s m args below meth c H locs 0 0 (MQ below (xPi G post) args s 0 0 (xA G)) (F0 m 0 ls []) from by rw [eH, eL] at hh; exact hh
  unfold xw_Ho_takeIn at h
  refine lv_aload_n (pc := 0) hx hb xd_Ho_takeIn_0 rfl (lv_at hl 0 rfl) ?_
  refine xr_get (pc := 1) (v := .ref (G.1 g 4)) hC hR (xo_K3 hg) xf_Ho_15 rfl xd_Ho_takeIn_1 ?_
  refine lv_aload_n (pc := 4) hx hb xd_Ho_takeIn_4 rfl (lv_at hl 0 rfl) ?_
  refine xr_get (pc := 5) (v := .int (M g 3 0)) hC hR (xo_K3 hg) xf_Ho_9 rfl xd_Ho_takeIn_5 ?_
  refine lv_iload_n (pc := 8) hx hb xd_Ho_takeIn_8 rfl (lv_at hl 1 rfl) ?_
  obtain ⟨hq, h⟩ := h
  refine xr_iast (pc := 9) hC hR hS (xo_K4 hg) hq xd_Ho_takeIn_9 (fun H locs hR hS => ?_)
  refine lv_aload_n (pc := 10) hx hb xd_Ho_takeIn_10 rfl (lv_at hl 0 rfl) ?_
  refine xr_get (pc := 11) (v := .ref (G.1 g 5)) hC hR (xo_K3 hg) xf_Ho_19 rfl xd_Ho_takeIn_11 ?_
  refine lv_aload_n (pc := 14) hx hb xd_Ho_takeIn_14 rfl (lv_at hl 0 rfl) ?_
  refine xr_get (pc := 15) (v := .int ((us M g 4 (M g 3 0).toNatClampNeg a1) g 3 0)) hC hR (xo_K3 hg) xf_Ho_9 rfl xd_Ho_takeIn_15 ?_
  refine lv_iload_n (pc := 18) hx hb xd_Ho_takeIn_18 rfl (lv_at hl 2 rfl) ?_
  obtain ⟨hz, h⟩ := h
  obtain ⟨hq, h⟩ := h
  refine xr_zast (pc := 19) hC hR hS (xo_K5 hg) hq hz xd_Ho_takeIn_19 (fun H locs hR hS => ?_)
  refine lv_aload_n (pc := 20) hx hb xd_Ho_takeIn_20 rfl (lv_at hl 0 rfl) ?_
  refine xr_get (pc := 21) (v := .ref (G.1 g 6)) hC hR (xo_K3 hg) xf_Ho_23 rfl xd_Ho_takeIn_21 ?_
  refine lv_aload_n (pc := 24) hx hb xd_Ho_takeIn_24 rfl (lv_at hl 0 rfl) ?_
  refine xr_get (pc := 25) (v := .int ((us (us M g 4 (M g 3 0).toNatClampNeg a1) g 5 ((us M g 4 (M g 3 0).toNatClampNeg a1) g 3 0).toNatClampNeg a2) g 3 0)) hC hR (xo_K3 hg) xf_Ho_9 rfl xd_Ho_takeIn_25 ?_
  refine lv_iconst (pc := 28) (v := (-1 : Int32)) hx hb xd_Ho_takeIn_28 (by decide) ?_
  obtain ⟨hq, h⟩ := h
  refine xr_iast (pc := 29) hC hR hS (xo_K6 hg) hq xd_Ho_takeIn_29 (fun H locs hR hS => ?_)
  refine lv_aload_n (pc := 30) hx hb xd_Ho_takeIn_30 rfl (lv_at hl 0 rfl) ?_
  refine lv_dup (pc := 31) hx hb xd_Ho_takeIn_31 rfl ?_
  refine xr_get (pc := 32) (v := .int ((us (us (us M g 4 (M g 3 0).toNatClampNeg a1) g 5 ((us M g 4 (M g 3 0).toNatClampNeg a1) g 3 0).toNatClampNeg a2) g 6 ((us (us M g 4 (M g 3 0).toNatClampNeg a1) g 5 ((us M g 4 (M g 3 0).toNatClampNeg a1) g 3 0).toNatClampNeg a2) g 3 0).toNatClampNeg (-1 : Int32)) g 3 0)) hC hR (xo_K3 hg) xf_Ho_9 rfl xd_Ho_takeIn_32 ?_
  refine lv_iconst (pc := 35) (v := (1 : Int32)) hx hb xd_Ho_takeIn_35 (by decide) ?_
  refine lv_iadd (pc := 36) hx hb xd_Ho_takeIn_36 ?_
  refine xr_put (pc := 37) hC hR hS (xo_K3 hg) xf_Ho_9 xp_4_0 rfl rfl rfl xd_Ho_takeIn_37 (fun H locs hR hS => ?_)
  refine lv_aload_n (pc := 40) hx hb xd_Ho_takeIn_40 rfl (lv_at hl 0 rfl) ?_
  refine xr_get (pc := 41) (v := .int ((us (us (us (us M g 4 (M g 3 0).toNatClampNeg a1) g 5 ((us M g 4 (M g 3 0).toNatClampNeg a1) g 3 0).toNatClampNeg a2) g 6 ((us (us M g 4 (M g 3 0).toNatClampNeg a1) g 5 ((us M g 4 (M g 3 0).toNatClampNeg a1) g 3 0).toNatClampNeg a2) g 3 0).toNatClampNeg (-1 : Int32)) g 3 0 (((us (us (us M g 4 (M g 3 0).toNatClampNeg a1) g 5 ((us M g 4 (M g 3 0).toNatClampNeg a1) g 3 0).toNatClampNeg a2) g 6 ((us (us M g 4 (M g 3 0).toNatClampNeg a1) g 5 ((us M g 4 (M g 3 0).toNatClampNeg a1) g 3 0).toNatClampNeg a2) g 3 0).toNatClampNeg (-1 : Int32)) g 3 0) + (1 : Int32))) g 3 0)) hC hR (xo_K3 hg) xf_Ho_9 rfl xd_Ho_takeIn_41 ?_
  refine lv_iconst (pc := 44) (v := (1 : Int32)) hx hb xd_Ho_takeIn_44 (by decide) ?_
  refine lv_isub (pc := 45) hx hb xd_Ho_takeIn_45 ?_
  exact xr_iret hC hr hlk hR hS h xd_Ho_takeIn_46

/-! ColoursApart$House.fixedOnes()I -/
theorem xd_Ho_fixedOnes_0 : decode b_Ho_fixedOnes 0 = .ok (.iconst 0, 1) := by decide +kernel
theorem xd_Ho_fixedOnes_1 : decode b_Ho_fixedOnes 1 = .ok (.istore_n 1, 1) := by decide +kernel
theorem xd_Ho_fixedOnes_2 : decode b_Ho_fixedOnes 2 = .ok (.iconst 0, 1) := by decide +kernel
theorem xd_Ho_fixedOnes_3 : decode b_Ho_fixedOnes 3 = .ok (.istore_n 2, 1) := by decide +kernel
theorem xd_Ho_fixedOnes_4 : decode b_Ho_fixedOnes 4 = .ok (.iload_n 2, 1) := by decide +kernel
theorem xd_Ho_fixedOnes_5 : decode b_Ho_fixedOnes 5 = .ok (.aload_n 0, 1) := by decide +kernel
theorem xd_Ho_fixedOnes_6 : decode b_Ho_fixedOnes 6 = .ok (.getfield 9, 3) := by decide +kernel
theorem xd_Ho_fixedOnes_9 : decode b_Ho_fixedOnes 9 = .ok (.if_icmp .ge 21, 3) := by decide +kernel
theorem xd_Ho_fixedOnes_12 : decode b_Ho_fixedOnes 12 = .ok (.aload_n 0, 1) := by decide +kernel
theorem xd_Ho_fixedOnes_13 : decode b_Ho_fixedOnes 13 = .ok (.getfield 19, 3) := by decide +kernel
theorem xd_Ho_fixedOnes_16 : decode b_Ho_fixedOnes 16 = .ok (.iload_n 2, 1) := by decide +kernel
theorem xd_Ho_fixedOnes_17 : decode b_Ho_fixedOnes 17 = .ok (.baload, 1) := by decide +kernel
theorem xd_Ho_fixedOnes_18 : decode b_Ho_fixedOnes 18 = .ok (.ifCond .eq 6, 3) := by decide +kernel
theorem xd_Ho_fixedOnes_21 : decode b_Ho_fixedOnes 21 = .ok (.iinc 1 1, 3) := by decide +kernel
theorem xd_Ho_fixedOnes_24 : decode b_Ho_fixedOnes 24 = .ok (.iinc 2 1, 3) := by decide +kernel
theorem xd_Ho_fixedOnes_27 : decode b_Ho_fixedOnes 27 = .ok (.goto (-23), 3) := by decide +kernel
theorem xd_Ho_fixedOnes_30 : decode b_Ho_fixedOnes 30 = .ok (.iload_n 1, 1) := by decide +kernel
theorem xd_Ho_fixedOnes_31 : decode b_Ho_fixedOnes 31 = .ok (.ireturn, 1) := by decide +kernel
abbrev rm_Ho_fixedOnes : Room := { frames := 0, cells := 0, slots := 0, locals := 0 }
def xw_Ho_fixedOnes_4 (g : Nat) (post : Int32 → xM → Prop) (k30 : Int32 → Int32 → xM → Prop) : Nat → Int32 → Int32 → xM → Prop
  | 0, _, _, _ => False
  | n4 + 1, x1, x2, M => (((M g 3 0) ≤ x2) → (k30 x1 x2 M)) ∧ ((¬ (M g 3 0) ≤ x2) → ((vp_in x2 12) ∧ ((((M g 5 x2.toNatClampNeg) = 0) → (xw_Ho_fixedOnes_4 g post k30 n4 x1 (x2 + (1 : Int32)) M)) ∧ ((¬ (M g 5 x2.toNatClampNeg) = 0) → (xw_Ho_fixedOnes_4 g post k30 n4 (x1 + (1 : Int32)) (x2 + (1 : Int32)) M)))))
def xw_Ho_fixedOnes (g : Nat) (M : xM) (post : Int32 → xM → Prop) : Prop :=
  ∃ n4 : Nat, xw_Ho_fixedOnes_4 g post (fun (y1 : Int32) (y2 : Int32) (M3 : xM) => post y1 M3) n4 (0 : Int32) (0 : Int32) M
set_option maxHeartbeats 4000000 in
set_option maxRecDepth 100000 in
theorem xt_Ho_fixedOnes_4 {p : Program} {l : Launch} {e : Env} {s : State} {m : MethodId} {args : Array Value} {below : List Frame} {meth : Method} {c : Code} {G : xG} (hC : xC p s m args c b_Ho_fixedOnes R_Ho 3 G) (hr : meth.sig.returnType = (some .int)) (hlk : meth.locks = false) {g : Nat} (hg : g < 4) {post : Int32 → xM → Prop} {k30 : Int32 → Int32 → xM → Prop} (hk30 : ∀ (x1 : Int32) (x2 : Int32) (M : xM) (H : Heap) (locs : List Loc) (ls : Array Slot), k30 x1 x2 M → xRp G M H → va_S (xA G) s.heap H locs → lv_has ls 3 [(0, .ref (G.1 g 3)), (1, .int x1), (2, .int x2)] → W p l e rm_Ho_fixedOnes s m args below meth c H locs 0 0 (MQ below (xPi G post) args s 0 0 (xA G)) (F0 m 30 ls [])) : ∀ (n : Nat) (x1 : Int32) (x2 : Int32) (M : xM) (H : Heap) (locs : List Loc) (ls : Array Slot), xw_Ho_fixedOnes_4 g post k30 n x1 x2 M → xRp G M H → va_S (xA G) s.heap H locs → lv_has ls 3 [(0, .ref (G.1 g 3)), (1, .int x1), (2, .int x2)] → W p l e rm_Ho_fixedOnes s m args below meth c H locs 0 0 (MQ below (xPi G post) args s 0 0 (xA G)) (F0 m 4 ls []) := by
  have hx := hC.1
  have hb := hC.2.1
  intro n
  induction n with
  | zero => intro x1 x2 M H locs ls; exact fun h => h.elim
  | succ n ih =>
    intro x1 x2 M H locs ls h hR hS hl
    refine lv_iload_n (pc := 4) hx hb xd_Ho_fixedOnes_4 rfl (lv_at hl 2 rfl) ?_
    refine lv_aload_n (pc := 5) hx hb xd_Ho_fixedOnes_5 rfl (lv_at hl 0 rfl) ?_
    refine xr_get (pc := 6) (v := .int (M g 3 0)) hC hR (xo_K3 hg) xf_Ho_9 rfl xd_Ho_fixedOnes_6 ?_
    refine lv_icmp_ge (pc := 9) (tgt := 30) hx hb xd_Ho_fixedOnes_9 (by decide) (fun hq => ?_) (fun hq => ?_)
    · have h := h.1 hq
      exact hk30 x1 x2 M H locs ls h hR hS (lv_sub hl [0, 1, 2] rfl)
    · have h := h.2 hq
      refine lv_aload_n (pc := 12) hx hb xd_Ho_fixedOnes_12 rfl (lv_at hl 0 rfl) ?_
      refine xr_get (pc := 13) (v := .ref (G.1 g 5)) hC hR (xo_K3 hg) xf_Ho_19 rfl xd_Ho_fixedOnes_13 ?_
      refine lv_iload_n (pc := 16) hx hb xd_Ho_fixedOnes_16 rfl (lv_at hl 2 rfl) ?_
      obtain ⟨hq, h⟩ := h
      refine xr_zald (pc := 17) hC hR (xo_K5 hg) hq xd_Ho_fixedOnes_17 ?_
      refine lv_if_eq (pc := 18) (tgt := 24) hx hb xd_Ho_fixedOnes_18 (by decide) (fun hq => ?_) (fun hq => ?_)
      · have h := h.1 hq
        refine lv_iinc (pc := 24) (v := (x2 + (1 : Int32))) (lv' := [(2, .int (x2 + (1 : Int32))), (0, .ref (G.1 g 3)), (1, .int x1)]) hx hb xd_Ho_fixedOnes_24 hl (k := 2) rfl rfl (by decide) rfl (fun ls hl => ?_)
        refine lv_goto (pc := 27) (tgt := 4) hx hb xd_Ho_fixedOnes_27 (by decide) ?_
        exact ih x1 (x2 + (1 : Int32)) M H locs ls h hR hS (lv_sub hl [1, 2, 0] rfl)
      · have h := h.2 hq
        refine lv_iinc (pc := 21) (v := (x1 + (1 : Int32))) (lv' := [(1, .int (x1 + (1 : Int32))), (0, .ref (G.1 g 3)), (2, .int x2)]) hx hb xd_Ho_fixedOnes_21 hl (k := 1) rfl rfl (by decide) rfl (fun ls hl => ?_)
        refine lv_iinc (pc := 24) (v := (x2 + (1 : Int32))) (lv' := [(2, .int (x2 + (1 : Int32))), (1, .int (x1 + (1 : Int32))), (0, .ref (G.1 g 3))]) hx hb xd_Ho_fixedOnes_24 hl (k := 2) rfl rfl (by decide) rfl (fun ls hl => ?_)
        refine lv_goto (pc := 27) (tgt := 4) hx hb xd_Ho_fixedOnes_27 (by decide) ?_
        exact ih (x1 + (1 : Int32)) (x2 + (1 : Int32)) M H locs ls h hR hS (lv_sub hl [2, 1, 0] rfl)
set_option maxHeartbeats 4000000 in
set_option maxRecDepth 100000 in
theorem xc_Ho_fixedOnes (l : Launch) (G : xG) {g : Nat} (hg : g < 4) {M : xM} {post : Int32 → xM → Prop} (h : xw_Ho_fixedOnes g M post) : Met l y_Ho_fixedOnes (Cond.code y_Ho_fixedOnes b_Ho_fixedOnes 3 (some .int) :: xTG) rm_Ho_fixedOnes (xPre G M [.ref (G.1 g 3)]) (xPi G post) 0 0 (xA G) := by
  refine xMet (own := R_Ho) [.ref (G.1 g 3)] (Or.inl (by decide)) rfl (Nat.le_of_ble_eq_true rfl) (fun p e s m args below meth c ls hC hr hlk hR hS hl => ?_)
  have hx := hC.1
  have hb := hC.2.1
  have hl : lv_has ls 3 [(0, .ref (G.1 g 3))] := hl
  obtain ⟨H, eH⟩ : ∃ H : Heap, H = s.heap := ⟨_, rfl⟩
  obtain ⟨locs, eL⟩ : ∃ locs : List Loc, locs = [] := ⟨_, rfl⟩
  rw [← eH] at hR
  replace hS : va_S (xA G) s.heap H locs := by rw [eH, eL]; exact hS
  suffices hh : W p l e rm_Ho_fixedOnes s m args below meth c H locs 0 0 (MQ below (xPi G post) args s 0 0 (xA G)) (F0 m 0 ls []) from by rw [eH, eL] at hh; exact hh
  unfold xw_Ho_fixedOnes at h
  refine lv_iconst (pc := 0) (v := (0 : Int32)) hx hb xd_Ho_fixedOnes_0 (by decide) ?_
  refine lv_istore_n (pc := 1) (lv' := [(1, .int (0 : Int32)), (0, .ref (G.1 g 3))]) hx hb xd_Ho_fixedOnes_1 rfl hl (by decide) rfl (fun ls hl => ?_)
  refine lv_iconst (pc := 2) (v := (0 : Int32)) hx hb xd_Ho_fixedOnes_2 (by decide) ?_
  refine lv_istore_n (pc := 3) (lv' := [(2, .int (0 : Int32)), (1, .int (0 : Int32)), (0, .ref (G.1 g 3))]) hx hb xd_Ho_fixedOnes_3 rfl hl (by decide) rfl (fun ls hl => ?_)
  obtain ⟨n, h⟩ := h
  refine xt_Ho_fixedOnes_4 hC hr hlk hg (fun y1 y2 M3 H locs ls h hR hS hl => ?_) n (0 : Int32) (0 : Int32) M H locs ls h hR hS (lv_sub hl [2, 1, 0] rfl)
  refine lv_iload_n (pc := 30) hx hb xd_Ho_fixedOnes_30 rfl (lv_at hl 1 rfl) ?_
  exact xr_iret hC hr hlk hR hS h xd_Ho_fixedOnes_31

/-! ColoursApart$Rgb.isBetween(III)Z -/
theorem xd_Rg_isBetween_0 : decode b_Rg_isBetween 0 = .ok (.iload_n 1, 1) := by decide +kernel
theorem xd_Rg_isBetween_1 : decode b_Rg_isBetween 1 = .ok (.invokestatic 10, 3) := by decide +kernel
theorem xd_Rg_isBetween_4 : decode b_Rg_isBetween 4 = .ok (.iload_n 0, 1) := by decide +kernel
theorem xd_Rg_isBetween_5 : decode b_Rg_isBetween 5 = .ok (.invokestatic 10, 3) := by decide +kernel
theorem xd_Rg_isBetween_8 : decode b_Rg_isBetween 8 = .ok (.if_icmp .gt 62, 3) := by decide +kernel
theorem xd_Rg_isBetween_11 : decode b_Rg_isBetween 11 = .ok (.iload_n 0, 1) := by decide +kernel
theorem xd_Rg_isBetween_12 : decode b_Rg_isBetween 12 = .ok (.invokestatic 10, 3) := by decide +kernel
theorem xd_Rg_isBetween_15 : decode b_Rg_isBetween 15 = .ok (.iload_n 2, 1) := by decide +kernel
theorem xd_Rg_isBetween_16 : decode b_Rg_isBetween 16 = .ok (.invokestatic 10, 3) := by decide +kernel
theorem xd_Rg_isBetween_19 : decode b_Rg_isBetween 19 = .ok (.if_icmp .gt 51, 3) := by decide +kernel
theorem xd_Rg_isBetween_22 : decode b_Rg_isBetween 22 = .ok (.iload_n 1, 1) := by decide +kernel
theorem xd_Rg_isBetween_23 : decode b_Rg_isBetween 23 = .ok (.invokestatic 14, 3) := by decide +kernel
theorem xd_Rg_isBetween_26 : decode b_Rg_isBetween 26 = .ok (.iload_n 0, 1) := by decide +kernel
theorem xd_Rg_isBetween_27 : decode b_Rg_isBetween 27 = .ok (.invokestatic 14, 3) := by decide +kernel
theorem xd_Rg_isBetween_30 : decode b_Rg_isBetween 30 = .ok (.if_icmp .gt 40, 3) := by decide +kernel
theorem xd_Rg_isBetween_33 : decode b_Rg_isBetween 33 = .ok (.iload_n 0, 1) := by decide +kernel
theorem xd_Rg_isBetween_34 : decode b_Rg_isBetween 34 = .ok (.invokestatic 14, 3) := by decide +kernel
theorem xd_Rg_isBetween_37 : decode b_Rg_isBetween 37 = .ok (.iload_n 2, 1) := by decide +kernel
theorem xd_Rg_isBetween_38 : decode b_Rg_isBetween 38 = .ok (.invokestatic 14, 3) := by decide +kernel
theorem xd_Rg_isBetween_41 : decode b_Rg_isBetween 41 = .ok (.if_icmp .gt 29, 3) := by decide +kernel
theorem xd_Rg_isBetween_44 : decode b_Rg_isBetween 44 = .ok (.iload_n 1, 1) := by decide +kernel
theorem xd_Rg_isBetween_45 : decode b_Rg_isBetween 45 = .ok (.invokestatic 17, 3) := by decide +kernel
theorem xd_Rg_isBetween_48 : decode b_Rg_isBetween 48 = .ok (.iload_n 0, 1) := by decide +kernel
theorem xd_Rg_isBetween_49 : decode b_Rg_isBetween 49 = .ok (.invokestatic 17, 3) := by decide +kernel
theorem xd_Rg_isBetween_52 : decode b_Rg_isBetween 52 = .ok (.if_icmp .gt 18, 3) := by decide +kernel
theorem xd_Rg_isBetween_55 : decode b_Rg_isBetween 55 = .ok (.iload_n 0, 1) := by decide +kernel
theorem xd_Rg_isBetween_56 : decode b_Rg_isBetween 56 = .ok (.invokestatic 17, 3) := by decide +kernel
theorem xd_Rg_isBetween_59 : decode b_Rg_isBetween 59 = .ok (.iload_n 2, 1) := by decide +kernel
theorem xd_Rg_isBetween_60 : decode b_Rg_isBetween 60 = .ok (.invokestatic 17, 3) := by decide +kernel
theorem xd_Rg_isBetween_63 : decode b_Rg_isBetween 63 = .ok (.if_icmp .gt 7, 3) := by decide +kernel
theorem xd_Rg_isBetween_66 : decode b_Rg_isBetween 66 = .ok (.iconst 1, 1) := by decide +kernel
theorem xd_Rg_isBetween_67 : decode b_Rg_isBetween 67 = .ok (.goto 4, 3) := by decide +kernel
theorem xd_Rg_isBetween_70 : decode b_Rg_isBetween 70 = .ok (.iconst 0, 1) := by decide +kernel
theorem xd_Rg_isBetween_71 : decode b_Rg_isBetween 71 = .ok (.ireturn, 1) := by decide +kernel
abbrev rm_Rg_isBetween : Room := { frames := 1, cells := 0, slots := 0, locals := 20 }
def xw_Rg_isBetween (a0 : Int32) (a1 : Int32) (a2 : Int32) (M : xM) (post : Int32 → xM → Prop) : Prop :=
  xw_Rg_red a1 M (fun (r2 : Int32) (M1 : xM) => xw_Rg_red a0 M1 (fun (r4 : Int32) (M3 : xM) => ((r4 < r2) → (post (0 : Int32) M3)) ∧ ((¬ r4 < r2) → (xw_Rg_red a0 M3 (fun (r6 : Int32) (M5 : xM) => xw_Rg_red a2 M5 (fun (r8 : Int32) (M7 : xM) => ((r8 < r6) → (post (0 : Int32) M7)) ∧ ((¬ r8 < r6) → (xw_Rg_green a1 M7 (fun (r10 : Int32) (M9 : xM) => xw_Rg_green a0 M9 (fun (r12 : Int32) (M11 : xM) => ((r12 < r10) → (post (0 : Int32) M11)) ∧ ((¬ r12 < r10) → (xw_Rg_green a0 M11 (fun (r14 : Int32) (M13 : xM) => xw_Rg_green a2 M13 (fun (r16 : Int32) (M15 : xM) => ((r16 < r14) → (post (0 : Int32) M15)) ∧ ((¬ r16 < r14) → (xw_Rg_blue a1 M15 (fun (r18 : Int32) (M17 : xM) => xw_Rg_blue a0 M17 (fun (r20 : Int32) (M19 : xM) => ((r20 < r18) → (post (0 : Int32) M19)) ∧ ((¬ r20 < r18) → (xw_Rg_blue a0 M19 (fun (r22 : Int32) (M21 : xM) => xw_Rg_blue a2 M21 (fun (r24 : Int32) (M23 : xM) => ((r24 < r22) → (post (0 : Int32) M23)) ∧ ((¬ r24 < r22) → (post (1 : Int32) M23))))))))))))))))))))))))
set_option maxHeartbeats 4000000 in
set_option maxRecDepth 100000 in
theorem xc_Rg_isBetween (l : Launch) (G : xG) {a0 : Int32} {a1 : Int32} {a2 : Int32}  {M : xM} {post : Int32 → xM → Prop} (h : xw_Rg_isBetween a0 a1 a2 M post) : Met l y_Rg_isBetween (Cond.code y_Rg_isBetween b_Rg_isBetween 3 (some .boolean) :: xTG) rm_Rg_isBetween (xPre G M [.int a0, .int a1, .int a2]) (xPi G post) 0 0 (xA G) := by
  refine xMet (own := R_Rg) [.int a0, .int a1, .int a2] (Or.inl (by decide)) rfl (Nat.le_of_ble_eq_true rfl) (fun p e s m args below meth c ls hC hr hlk hR hS hl => ?_)
  have hx := hC.1
  have hb := hC.2.1
  have hl : lv_has ls 3 [(0, .int a0), (1, .int a1), (2, .int a2)] := hl
  obtain ⟨H, eH⟩ : ∃ H : Heap, H = s.heap := ⟨_, rfl⟩
  obtain ⟨locs, eL⟩ : ∃ locs : List Loc, locs = [] := ⟨_, rfl⟩
  rw [← eH] at hR
  replace hS : va_S (xA G) s.heap H locs := by rw [eH, eL]; exact hS
  suffices hh : W p l e rm_Rg_isBetween s m args below meth c H locs 0 0 (MQ below (xPi G post) args s 0 0 (xA G)) (F0 m 0 ls []) from by rw [eH, eL] at hh; exact hh
  unfold xw_Rg_isBetween at h
  refine lv_iload_n (pc := 0) hx hb xd_Rg_isBetween_0 rfl (lv_at hl 1 rfl) ?_
  refine xr_callS (pc := 1) (As := [.int a1]) (rest := []) hC hR hS (xc_Rg_red l G  h) xv_Rg_10 ⟨rfl, rfl, Nat.le_of_ble_eq_true rfl, Nat.le_of_ble_eq_true rfl⟩ rfl hl.1 rfl (Nat.le_of_ble_eq_true rfl) xd_Rg_isBetween_1 (fun r2 M1 H locs h hR hS => ?_)
  refine lv_iload_n (pc := 4) hx hb xd_Rg_isBetween_4 rfl (lv_at hl 0 rfl) ?_
  refine xr_callS (pc := 5) (As := [.int a0]) (rest := [.int r2]) hC hR hS (xc_Rg_red l G  h) xv_Rg_10 ⟨rfl, rfl, Nat.le_of_ble_eq_true rfl, Nat.le_of_ble_eq_true rfl⟩ rfl hl.1 rfl (Nat.le_of_ble_eq_true rfl) xd_Rg_isBetween_5 (fun r4 M3 H locs h hR hS => ?_)
  refine lv_icmp_gt (pc := 8) (tgt := 70) hx hb xd_Rg_isBetween_8 (by decide) (fun hq => ?_) (fun hq => ?_)
  · have h := h.1 hq
    refine lv_iconst (pc := 70) (v := (0 : Int32)) hx hb xd_Rg_isBetween_70 (by decide) ?_
    exact xr_zret hC hr hlk hR hS (by decide) h xd_Rg_isBetween_71
  · have h := h.2 hq
    refine lv_iload_n (pc := 11) hx hb xd_Rg_isBetween_11 rfl (lv_at hl 0 rfl) ?_
    refine xr_callS (pc := 12) (As := [.int a0]) (rest := []) hC hR hS (xc_Rg_red l G  h) xv_Rg_10 ⟨rfl, rfl, Nat.le_of_ble_eq_true rfl, Nat.le_of_ble_eq_true rfl⟩ rfl hl.1 rfl (Nat.le_of_ble_eq_true rfl) xd_Rg_isBetween_12 (fun r6 M5 H locs h hR hS => ?_)
    refine lv_iload_n (pc := 15) hx hb xd_Rg_isBetween_15 rfl (lv_at hl 2 rfl) ?_
    refine xr_callS (pc := 16) (As := [.int a2]) (rest := [.int r6]) hC hR hS (xc_Rg_red l G  h) xv_Rg_10 ⟨rfl, rfl, Nat.le_of_ble_eq_true rfl, Nat.le_of_ble_eq_true rfl⟩ rfl hl.1 rfl (Nat.le_of_ble_eq_true rfl) xd_Rg_isBetween_16 (fun r8 M7 H locs h hR hS => ?_)
    refine lv_icmp_gt (pc := 19) (tgt := 70) hx hb xd_Rg_isBetween_19 (by decide) (fun hq => ?_) (fun hq => ?_)
    · have h := h.1 hq
      refine lv_iconst (pc := 70) (v := (0 : Int32)) hx hb xd_Rg_isBetween_70 (by decide) ?_
      exact xr_zret hC hr hlk hR hS (by decide) h xd_Rg_isBetween_71
    · have h := h.2 hq
      refine lv_iload_n (pc := 22) hx hb xd_Rg_isBetween_22 rfl (lv_at hl 1 rfl) ?_
      refine xr_callS (pc := 23) (As := [.int a1]) (rest := []) hC hR hS (xc_Rg_green l G  h) xv_Rg_14 ⟨rfl, rfl, Nat.le_of_ble_eq_true rfl, Nat.le_of_ble_eq_true rfl⟩ rfl hl.1 rfl (Nat.le_of_ble_eq_true rfl) xd_Rg_isBetween_23 (fun r10 M9 H locs h hR hS => ?_)
      refine lv_iload_n (pc := 26) hx hb xd_Rg_isBetween_26 rfl (lv_at hl 0 rfl) ?_
      refine xr_callS (pc := 27) (As := [.int a0]) (rest := [.int r10]) hC hR hS (xc_Rg_green l G  h) xv_Rg_14 ⟨rfl, rfl, Nat.le_of_ble_eq_true rfl, Nat.le_of_ble_eq_true rfl⟩ rfl hl.1 rfl (Nat.le_of_ble_eq_true rfl) xd_Rg_isBetween_27 (fun r12 M11 H locs h hR hS => ?_)
      refine lv_icmp_gt (pc := 30) (tgt := 70) hx hb xd_Rg_isBetween_30 (by decide) (fun hq => ?_) (fun hq => ?_)
      · have h := h.1 hq
        refine lv_iconst (pc := 70) (v := (0 : Int32)) hx hb xd_Rg_isBetween_70 (by decide) ?_
        exact xr_zret hC hr hlk hR hS (by decide) h xd_Rg_isBetween_71
      · have h := h.2 hq
        refine lv_iload_n (pc := 33) hx hb xd_Rg_isBetween_33 rfl (lv_at hl 0 rfl) ?_
        refine xr_callS (pc := 34) (As := [.int a0]) (rest := []) hC hR hS (xc_Rg_green l G  h) xv_Rg_14 ⟨rfl, rfl, Nat.le_of_ble_eq_true rfl, Nat.le_of_ble_eq_true rfl⟩ rfl hl.1 rfl (Nat.le_of_ble_eq_true rfl) xd_Rg_isBetween_34 (fun r14 M13 H locs h hR hS => ?_)
        refine lv_iload_n (pc := 37) hx hb xd_Rg_isBetween_37 rfl (lv_at hl 2 rfl) ?_
        refine xr_callS (pc := 38) (As := [.int a2]) (rest := [.int r14]) hC hR hS (xc_Rg_green l G  h) xv_Rg_14 ⟨rfl, rfl, Nat.le_of_ble_eq_true rfl, Nat.le_of_ble_eq_true rfl⟩ rfl hl.1 rfl (Nat.le_of_ble_eq_true rfl) xd_Rg_isBetween_38 (fun r16 M15 H locs h hR hS => ?_)
        refine lv_icmp_gt (pc := 41) (tgt := 70) hx hb xd_Rg_isBetween_41 (by decide) (fun hq => ?_) (fun hq => ?_)
        · have h := h.1 hq
          refine lv_iconst (pc := 70) (v := (0 : Int32)) hx hb xd_Rg_isBetween_70 (by decide) ?_
          exact xr_zret hC hr hlk hR hS (by decide) h xd_Rg_isBetween_71
        · have h := h.2 hq
          refine lv_iload_n (pc := 44) hx hb xd_Rg_isBetween_44 rfl (lv_at hl 1 rfl) ?_
          refine xr_callS (pc := 45) (As := [.int a1]) (rest := []) hC hR hS (xc_Rg_blue l G  h) xv_Rg_17 ⟨rfl, rfl, Nat.le_of_ble_eq_true rfl, Nat.le_of_ble_eq_true rfl⟩ rfl hl.1 rfl (Nat.le_of_ble_eq_true rfl) xd_Rg_isBetween_45 (fun r18 M17 H locs h hR hS => ?_)
          refine lv_iload_n (pc := 48) hx hb xd_Rg_isBetween_48 rfl (lv_at hl 0 rfl) ?_
          refine xr_callS (pc := 49) (As := [.int a0]) (rest := [.int r18]) hC hR hS (xc_Rg_blue l G  h) xv_Rg_17 ⟨rfl, rfl, Nat.le_of_ble_eq_true rfl, Nat.le_of_ble_eq_true rfl⟩ rfl hl.1 rfl (Nat.le_of_ble_eq_true rfl) xd_Rg_isBetween_49 (fun r20 M19 H locs h hR hS => ?_)
          refine lv_icmp_gt (pc := 52) (tgt := 70) hx hb xd_Rg_isBetween_52 (by decide) (fun hq => ?_) (fun hq => ?_)
          · have h := h.1 hq
            refine lv_iconst (pc := 70) (v := (0 : Int32)) hx hb xd_Rg_isBetween_70 (by decide) ?_
            exact xr_zret hC hr hlk hR hS (by decide) h xd_Rg_isBetween_71
          · have h := h.2 hq
            refine lv_iload_n (pc := 55) hx hb xd_Rg_isBetween_55 rfl (lv_at hl 0 rfl) ?_
            refine xr_callS (pc := 56) (As := [.int a0]) (rest := []) hC hR hS (xc_Rg_blue l G  h) xv_Rg_17 ⟨rfl, rfl, Nat.le_of_ble_eq_true rfl, Nat.le_of_ble_eq_true rfl⟩ rfl hl.1 rfl (Nat.le_of_ble_eq_true rfl) xd_Rg_isBetween_56 (fun r22 M21 H locs h hR hS => ?_)
            refine lv_iload_n (pc := 59) hx hb xd_Rg_isBetween_59 rfl (lv_at hl 2 rfl) ?_
            refine xr_callS (pc := 60) (As := [.int a2]) (rest := [.int r22]) hC hR hS (xc_Rg_blue l G  h) xv_Rg_17 ⟨rfl, rfl, Nat.le_of_ble_eq_true rfl, Nat.le_of_ble_eq_true rfl⟩ rfl hl.1 rfl (Nat.le_of_ble_eq_true rfl) xd_Rg_isBetween_60 (fun r24 M23 H locs h hR hS => ?_)
            refine lv_icmp_gt (pc := 63) (tgt := 70) hx hb xd_Rg_isBetween_63 (by decide) (fun hq => ?_) (fun hq => ?_)
            · have h := h.1 hq
              refine lv_iconst (pc := 70) (v := (0 : Int32)) hx hb xd_Rg_isBetween_70 (by decide) ?_
              exact xr_zret hC hr hlk hR hS (by decide) h xd_Rg_isBetween_71
            · have h := h.2 hq
              refine lv_iconst (pc := 66) (v := (1 : Int32)) hx hb xd_Rg_isBetween_66 (by decide) ?_
              refine lv_goto (pc := 67) (tgt := 71) hx hb xd_Rg_isBetween_67 (by decide) ?_
              exact xr_zret hC hr hlk hR hS (by decide) h xd_Rg_isBetween_71

/-! ColoursApart$House.boxHolds(II)Z -/
theorem xd_Ho_boxHolds_0 : decode b_Ho_boxHolds 0 = .ok (.iload_n 2, 1) := by decide +kernel
theorem xd_Ho_boxHolds_1 : decode b_Ho_boxHolds 1 = .ok (.aload_n 0, 1) := by decide +kernel
theorem xd_Ho_boxHolds_2 : decode b_Ho_boxHolds 2 = .ok (.getfield 26, 3) := by decide +kernel
theorem xd_Ho_boxHolds_5 : decode b_Ho_boxHolds 5 = .ok (.iload_n 1, 1) := by decide +kernel
theorem xd_Ho_boxHolds_6 : decode b_Ho_boxHolds 6 = .ok (.iaload, 1) := by decide +kernel
theorem xd_Ho_boxHolds_7 : decode b_Ho_boxHolds 7 = .ok (.aload_n 0, 1) := by decide +kernel
theorem xd_Ho_boxHolds_8 : decode b_Ho_boxHolds 8 = .ok (.getfield 29, 3) := by decide +kernel
theorem xd_Ho_boxHolds_11 : decode b_Ho_boxHolds 11 = .ok (.iload_n 1, 1) := by decide +kernel
theorem xd_Ho_boxHolds_12 : decode b_Ho_boxHolds 12 = .ok (.iaload, 1) := by decide +kernel
theorem xd_Ho_boxHolds_13 : decode b_Ho_boxHolds 13 = .ok (.invokestatic 53, 3) := by decide +kernel
theorem xd_Ho_boxHolds_16 : decode b_Ho_boxHolds 16 = .ok (.ireturn, 1) := by decide +kernel
abbrev rm_Ho_boxHolds : Room := { frames := 2, cells := 0, slots := 0, locals := 42 }
def xw_Ho_boxHolds (g : Nat) (a1 : Int32) (a2 : Int32) (M : xM) (post : Int32 → xM → Prop) : Prop :=
  (vp_in a1 8) ∧ ((vp_in a1 8) ∧ (xw_Rg_isBetween a2 (M g 7 a1.toNatClampNeg) (M g 8 a1.toNatClampNeg) M (fun (r2 : Int32) (M1 : xM) => (r2 &&& 1 = r2) ∧ (post r2 M1))))
set_option maxHeartbeats 4000000 in
set_option maxRecDepth 100000 in
theorem xc_Ho_boxHolds (l : Launch) (G : xG) {g : Nat} {a1 : Int32} {a2 : Int32} (hg : g < 4) {M : xM} {post : Int32 → xM → Prop} (h : xw_Ho_boxHolds g a1 a2 M post) : Met l y_Ho_boxHolds (Cond.code y_Ho_boxHolds b_Ho_boxHolds 3 (some .boolean) :: xTG) rm_Ho_boxHolds (xPre G M [.ref (G.1 g 3), .int a1, .int a2]) (xPi G post) 0 0 (xA G) := by
  refine xMet (own := R_Ho) [.ref (G.1 g 3), .int a1, .int a2] (Or.inl (by decide)) rfl (Nat.le_of_ble_eq_true rfl) (fun p e s m args below meth c ls hC hr hlk hR hS hl => ?_)
  have hx := hC.1
  have hb := hC.2.1
  have hl : lv_has ls 3 [(0, .ref (G.1 g 3)), (1, .int a1), (2, .int a2)] := hl
  obtain ⟨H, eH⟩ : ∃ H : Heap, H = s.heap := ⟨_, rfl⟩
  obtain ⟨locs, eL⟩ : ∃ locs : List Loc, locs = [] := ⟨_, rfl⟩
  rw [← eH] at hR
  replace hS : va_S (xA G) s.heap H locs := by rw [eH, eL]; exact hS
  suffices hh : W p l e rm_Ho_boxHolds s m args below meth c H locs 0 0 (MQ below (xPi G post) args s 0 0 (xA G)) (F0 m 0 ls []) from by rw [eH, eL] at hh; exact hh
  unfold xw_Ho_boxHolds at h
  refine lv_iload_n (pc := 0) hx hb xd_Ho_boxHolds_0 rfl (lv_at hl 2 rfl) ?_
  refine lv_aload_n (pc := 1) hx hb xd_Ho_boxHolds_1 rfl (lv_at hl 0 rfl) ?_
  refine xr_get (pc := 2) (v := .ref (G.1 g 7)) hC hR (xo_K3 hg) xf_Ho_26 rfl xd_Ho_boxHolds_2 ?_
  refine lv_iload_n (pc := 5) hx hb xd_Ho_boxHolds_5 rfl (lv_at hl 1 rfl) ?_
  obtain ⟨hq, h⟩ := h
  refine xr_iald (pc := 6) hC hR (xo_K7 hg) hq xd_Ho_boxHolds_6 ?_
  refine lv_aload_n (pc := 7) hx hb xd_Ho_boxHolds_7 rfl (lv_at hl 0 rfl) ?_
  refine xr_get (pc := 8) (v := .ref (G.1 g 8)) hC hR (xo_K3 hg) xf_Ho_29 rfl xd_Ho_boxHolds_8 ?_
  refine lv_iload_n (pc := 11) hx hb xd_Ho_boxHolds_11 rfl (lv_at hl 1 rfl) ?_
  obtain ⟨hq, h⟩ := h
  refine xr_iald (pc := 12) hC hR (xo_K8 hg) hq xd_Ho_boxHolds_12 ?_
  refine xr_callS (pc := 13) (As := [.int a2, .int (M g 7 a1.toNatClampNeg), .int (M g 8 a1.toNatClampNeg)]) (rest := []) hC hR hS (xc_Rg_isBetween l G  h) xv_Ho_53 ⟨rfl, rfl, Nat.le_of_ble_eq_true rfl, Nat.le_of_ble_eq_true rfl⟩ rfl hl.1 rfl (Nat.le_of_ble_eq_true rfl) xd_Ho_boxHolds_13 (fun r2 M1 H locs h hR hS => ?_)
  exact xr_zret hC hr hlk hR hS h.1 h.2 xd_Ho_boxHolds_16

/-! ColoursApart$House.nameAllows(II)Z -/
theorem xd_Ho_nameAllows_0 : decode b_Ho_nameAllows 0 = .ok (.aload_n 0, 1) := by decide +kernel
theorem xd_Ho_nameAllows_1 : decode b_Ho_nameAllows 1 = .ok (.getfield 23, 3) := by decide +kernel
theorem xd_Ho_nameAllows_4 : decode b_Ho_nameAllows 4 = .ok (.iload_n 1, 1) := by decide +kernel
theorem xd_Ho_nameAllows_5 : decode b_Ho_nameAllows 5 = .ok (.iaload, 1) := by decide +kernel
theorem xd_Ho_nameAllows_6 : decode b_Ho_nameAllows 6 = .ok (.iconst (-1), 1) := by decide +kernel
theorem xd_Ho_nameAllows_7 : decode b_Ho_nameAllows 7 = .ok (.if_icmp .eq 17, 3) := by decide +kernel
theorem xd_Ho_nameAllows_10 : decode b_Ho_nameAllows 10 = .ok (.aload_n 0, 1) := by decide +kernel
theorem xd_Ho_nameAllows_11 : decode b_Ho_nameAllows 11 = .ok (.aload_n 0, 1) := by decide +kernel
theorem xd_Ho_nameAllows_12 : decode b_Ho_nameAllows 12 = .ok (.getfield 23, 3) := by decide +kernel
theorem xd_Ho_nameAllows_15 : decode b_Ho_nameAllows 15 = .ok (.iload_n 1, 1) := by decide +kernel
theorem xd_Ho_nameAllows_16 : decode b_Ho_nameAllows 16 = .ok (.iaload, 1) := by decide +kernel
theorem xd_Ho_nameAllows_17 : decode b_Ho_nameAllows 17 = .ok (.iload_n 2, 1) := by decide +kernel
theorem xd_Ho_nameAllows_18 : decode b_Ho_nameAllows 18 = .ok (.invokevirtual 57, 3) := by decide +kernel
theorem xd_Ho_nameAllows_21 : decode b_Ho_nameAllows 21 = .ok (.ifCond .eq 7, 3) := by decide +kernel
theorem xd_Ho_nameAllows_24 : decode b_Ho_nameAllows 24 = .ok (.iconst 1, 1) := by decide +kernel
theorem xd_Ho_nameAllows_25 : decode b_Ho_nameAllows 25 = .ok (.goto 4, 3) := by decide +kernel
theorem xd_Ho_nameAllows_28 : decode b_Ho_nameAllows 28 = .ok (.iconst 0, 1) := by decide +kernel
theorem xd_Ho_nameAllows_29 : decode b_Ho_nameAllows 29 = .ok (.ireturn, 1) := by decide +kernel
abbrev rm_Ho_nameAllows : Room := { frames := 3, cells := 0, slots := 0, locals := 64 }
def xw_Ho_nameAllows (g : Nat) (a1 : Int32) (a2 : Int32) (M : xM) (post : Int32 → xM → Prop) : Prop :=
  (vp_in a1 12) ∧ ((((M g 6 a1.toNatClampNeg) = (-1 : Int32)) → (post (1 : Int32) M)) ∧ ((¬ (M g 6 a1.toNatClampNeg) = (-1 : Int32)) → ((vp_in a1 12) ∧ (xw_Ho_boxHolds g (M g 6 a1.toNatClampNeg) a2 M (fun (r2 : Int32) (M1 : xM) => ((r2 = 0) → (post (0 : Int32) M1)) ∧ ((¬ r2 = 0) → (post (1 : Int32) M1)))))))
set_option maxHeartbeats 4000000 in
set_option maxRecDepth 100000 in
theorem xc_Ho_nameAllows (l : Launch) (G : xG) {g : Nat} {a1 : Int32} {a2 : Int32} (hg : g < 4) {M : xM} {post : Int32 → xM → Prop} (h : xw_Ho_nameAllows g a1 a2 M post) : Met l y_Ho_nameAllows (Cond.code y_Ho_nameAllows b_Ho_nameAllows 3 (some .boolean) :: xTG) rm_Ho_nameAllows (xPre G M [.ref (G.1 g 3), .int a1, .int a2]) (xPi G post) 0 0 (xA G) := by
  refine xMet (own := R_Ho) [.ref (G.1 g 3), .int a1, .int a2] (Or.inl (by decide)) rfl (Nat.le_of_ble_eq_true rfl) (fun p e s m args below meth c ls hC hr hlk hR hS hl => ?_)
  have hx := hC.1
  have hb := hC.2.1
  have hl : lv_has ls 3 [(0, .ref (G.1 g 3)), (1, .int a1), (2, .int a2)] := hl
  obtain ⟨H, eH⟩ : ∃ H : Heap, H = s.heap := ⟨_, rfl⟩
  obtain ⟨locs, eL⟩ : ∃ locs : List Loc, locs = [] := ⟨_, rfl⟩
  rw [← eH] at hR
  replace hS : va_S (xA G) s.heap H locs := by rw [eH, eL]; exact hS
  suffices hh : W p l e rm_Ho_nameAllows s m args below meth c H locs 0 0 (MQ below (xPi G post) args s 0 0 (xA G)) (F0 m 0 ls []) from by rw [eH, eL] at hh; exact hh
  unfold xw_Ho_nameAllows at h
  refine lv_aload_n (pc := 0) hx hb xd_Ho_nameAllows_0 rfl (lv_at hl 0 rfl) ?_
  refine xr_get (pc := 1) (v := .ref (G.1 g 6)) hC hR (xo_K3 hg) xf_Ho_23 rfl xd_Ho_nameAllows_1 ?_
  refine lv_iload_n (pc := 4) hx hb xd_Ho_nameAllows_4 rfl (lv_at hl 1 rfl) ?_
  obtain ⟨hq, h⟩ := h
  refine xr_iald (pc := 5) hC hR (xo_K6 hg) hq xd_Ho_nameAllows_5 ?_
  refine lv_iconst (pc := 6) (v := (-1 : Int32)) hx hb xd_Ho_nameAllows_6 (by decide) ?_
  refine lv_icmp_eq (pc := 7) (tgt := 24) hx hb xd_Ho_nameAllows_7 (by decide) (fun hq => ?_) (fun hq => ?_)
  · have h := h.1 hq
    refine lv_iconst (pc := 24) (v := (1 : Int32)) hx hb xd_Ho_nameAllows_24 (by decide) ?_
    refine lv_goto (pc := 25) (tgt := 29) hx hb xd_Ho_nameAllows_25 (by decide) ?_
    exact xr_zret hC hr hlk hR hS (by decide) h xd_Ho_nameAllows_29
  · have h := h.2 hq
    refine lv_aload_n (pc := 10) hx hb xd_Ho_nameAllows_10 rfl (lv_at hl 0 rfl) ?_
    refine lv_aload_n (pc := 11) hx hb xd_Ho_nameAllows_11 rfl (lv_at hl 0 rfl) ?_
    refine xr_get (pc := 12) (v := .ref (G.1 g 6)) hC hR (xo_K3 hg) xf_Ho_23 rfl xd_Ho_nameAllows_12 ?_
    refine lv_iload_n (pc := 15) hx hb xd_Ho_nameAllows_15 rfl (lv_at hl 1 rfl) ?_
    obtain ⟨hq, h⟩ := h
    refine xr_iald (pc := 16) hC hR (xo_K6 hg) hq xd_Ho_nameAllows_16 ?_
    refine lv_iload_n (pc := 17) hx hb xd_Ho_nameAllows_17 rfl (lv_at hl 2 rfl) ?_
    refine xr_callV (pc := 18) (As := [.int (M g 6 a1.toNatClampNeg), .int a2]) (rest := []) hC hR hS (xc_Ho_boxHolds l G hg h) (xo_K3 hg) xv_Ho_57 ⟨rfl, rfl, Nat.le_of_ble_eq_true rfl, Nat.le_of_ble_eq_true rfl⟩ rfl hl.1 rfl (Nat.le_of_ble_eq_true rfl) xd_Ho_nameAllows_18 (fun r2 M1 H locs h hR hS => ?_)
    refine lv_if_eq (pc := 21) (tgt := 28) hx hb xd_Ho_nameAllows_21 (by decide) (fun hq => ?_) (fun hq => ?_)
    · have h := h.1 hq
      refine lv_iconst (pc := 28) (v := (0 : Int32)) hx hb xd_Ho_nameAllows_28 (by decide) ?_
      exact xr_zret hC hr hlk hR hS (by decide) h xd_Ho_nameAllows_29
    · have h := h.2 hq
      refine lv_iconst (pc := 24) (v := (1 : Int32)) hx hb xd_Ho_nameAllows_24 (by decide) ?_
      refine lv_goto (pc := 25) (tgt := 29) hx hb xd_Ho_nameAllows_25 (by decide) ?_
      exact xr_zret hC hr hlk hR hS (by decide) h xd_Ho_nameAllows_29

/-! ColoursApart$House.wouldLeaveOut(III)Z -/
theorem xd_Ho_wouldLeaveOut_0 : decode b_Ho_wouldLeaveOut 0 = .ok (.iconst 0, 1) := by decide +kernel
theorem xd_Ho_wouldLeaveOut_1 : decode b_Ho_wouldLeaveOut 1 = .ok (.istore 4, 2) := by decide +kernel
theorem xd_Ho_wouldLeaveOut_3 : decode b_Ho_wouldLeaveOut 3 = .ok (.iload 4, 2) := by decide +kernel
theorem xd_Ho_wouldLeaveOut_5 : decode b_Ho_wouldLeaveOut 5 = .ok (.aload_n 0, 1) := by decide +kernel
theorem xd_Ho_wouldLeaveOut_6 : decode b_Ho_wouldLeaveOut 6 = .ok (.getfield 9, 3) := by decide +kernel
theorem xd_Ho_wouldLeaveOut_9 : decode b_Ho_wouldLeaveOut 9 = .ok (.if_icmp .ge 37, 3) := by decide +kernel
theorem xd_Ho_wouldLeaveOut_12 : decode b_Ho_wouldLeaveOut 12 = .ok (.aload_n 0, 1) := by decide +kernel
theorem xd_Ho_wouldLeaveOut_13 : decode b_Ho_wouldLeaveOut 13 = .ok (.getfield 23, 3) := by decide +kernel
theorem xd_Ho_wouldLeaveOut_16 : decode b_Ho_wouldLeaveOut 16 = .ok (.iload 4, 2) := by decide +kernel
theorem xd_Ho_wouldLeaveOut_18 : decode b_Ho_wouldLeaveOut 18 = .ok (.iaload, 1) := by decide +kernel
theorem xd_Ho_wouldLeaveOut_19 : decode b_Ho_wouldLeaveOut 19 = .ok (.iload_n 1, 1) := by decide +kernel
theorem xd_Ho_wouldLeaveOut_20 : decode b_Ho_wouldLeaveOut 20 = .ok (.if_icmp .ne 20, 3) := by decide +kernel
theorem xd_Ho_wouldLeaveOut_23 : decode b_Ho_wouldLeaveOut 23 = .ok (.aload_n 0, 1) := by decide +kernel
theorem xd_Ho_wouldLeaveOut_24 : decode b_Ho_wouldLeaveOut 24 = .ok (.getfield 15, 3) := by decide +kernel
theorem xd_Ho_wouldLeaveOut_27 : decode b_Ho_wouldLeaveOut 27 = .ok (.iload 4, 2) := by decide +kernel
theorem xd_Ho_wouldLeaveOut_29 : decode b_Ho_wouldLeaveOut 29 = .ok (.iaload, 1) := by decide +kernel
theorem xd_Ho_wouldLeaveOut_30 : decode b_Ho_wouldLeaveOut 30 = .ok (.iload_n 2, 1) := by decide +kernel
theorem xd_Ho_wouldLeaveOut_31 : decode b_Ho_wouldLeaveOut 31 = .ok (.iload_n 3, 1) := by decide +kernel
theorem xd_Ho_wouldLeaveOut_32 : decode b_Ho_wouldLeaveOut 32 = .ok (.invokestatic 53, 3) := by decide +kernel
theorem xd_Ho_wouldLeaveOut_35 : decode b_Ho_wouldLeaveOut 35 = .ok (.ifCond .ne 5, 3) := by decide +kernel
theorem xd_Ho_wouldLeaveOut_38 : decode b_Ho_wouldLeaveOut 38 = .ok (.iconst 1, 1) := by decide +kernel
theorem xd_Ho_wouldLeaveOut_39 : decode b_Ho_wouldLeaveOut 39 = .ok (.ireturn, 1) := by decide +kernel
theorem xd_Ho_wouldLeaveOut_40 : decode b_Ho_wouldLeaveOut 40 = .ok (.iinc 4 1, 3) := by decide +kernel
theorem xd_Ho_wouldLeaveOut_43 : decode b_Ho_wouldLeaveOut 43 = .ok (.goto (-40), 3) := by decide +kernel
theorem xd_Ho_wouldLeaveOut_46 : decode b_Ho_wouldLeaveOut 46 = .ok (.iconst 0, 1) := by decide +kernel
theorem xd_Ho_wouldLeaveOut_47 : decode b_Ho_wouldLeaveOut 47 = .ok (.ireturn, 1) := by decide +kernel
abbrev rm_Ho_wouldLeaveOut : Room := { frames := 2, cells := 0, slots := 0, locals := 42 }
def xw_Ho_wouldLeaveOut_3 (g : Nat) (x1 : Int32) (x2 : Int32) (x3 : Int32) (post : Int32 → xM → Prop) (k46 : Int32 → xM → Prop) : Nat → Int32 → xM → Prop
  | 0, _, _ => False
  | n3 + 1, x4, M => (((M g 3 0) ≤ x4) → (k46 x4 M)) ∧ ((¬ (M g 3 0) ≤ x4) → ((vp_in x4 12) ∧ (((¬ (M g 6 x4.toNatClampNeg) = x1) → (xw_Ho_wouldLeaveOut_3 g x1 x2 x3 post k46 n3 (x4 + (1 : Int32)) M)) ∧ (((M g 6 x4.toNatClampNeg) = x1) → ((vp_in x4 12) ∧ (xw_Rg_isBetween (M g 4 x4.toNatClampNeg) x2 x3 M (fun (r2 : Int32) (M1 : xM) => ((¬ r2 = 0) → (xw_Ho_wouldLeaveOut_3 g x1 x2 x3 post k46 n3 (x4 + (1 : Int32)) M1)) ∧ ((r2 = 0) → (post (1 : Int32) M1)))))))))
def xw_Ho_wouldLeaveOut (g : Nat) (a1 : Int32) (a2 : Int32) (a3 : Int32) (M : xM) (post : Int32 → xM → Prop) : Prop :=
  ∃ n3 : Nat, xw_Ho_wouldLeaveOut_3 g a1 a2 a3 post (fun (y3 : Int32) (M4 : xM) => post (0 : Int32) M4) n3 (0 : Int32) M
set_option maxHeartbeats 4000000 in
set_option maxRecDepth 100000 in
theorem xt_Ho_wouldLeaveOut_3 {p : Program} {l : Launch} {e : Env} {s : State} {m : MethodId} {args : Array Value} {below : List Frame} {meth : Method} {c : Code} {G : xG} (hC : xC p s m args c b_Ho_wouldLeaveOut R_Ho 5 G) (hr : meth.sig.returnType = (some .boolean)) (hlk : meth.locks = false) {g : Nat} (hg : g < 4) {x1 : Int32} {x2 : Int32} {x3 : Int32} {post : Int32 → xM → Prop} {k46 : Int32 → xM → Prop} (hk46 : ∀ (x4 : Int32) (M : xM) (H : Heap) (locs : List Loc) (ls : Array Slot), k46 x4 M → xRp G M H → va_S (xA G) s.heap H locs → lv_has ls 5 [(0, .ref (G.1 g 3)), (1, .int x1), (2, .int x2), (3, .int x3), (4, .int x4)] → W p l e rm_Ho_wouldLeaveOut s m args below meth c H locs 0 0 (MQ below (xPi G post) args s 0 0 (xA G)) (F0 m 46 ls [])) : ∀ (n : Nat) (x4 : Int32) (M : xM) (H : Heap) (locs : List Loc) (ls : Array Slot), xw_Ho_wouldLeaveOut_3 g x1 x2 x3 post k46 n x4 M → xRp G M H → va_S (xA G) s.heap H locs → lv_has ls 5 [(0, .ref (G.1 g 3)), (1, .int x1), (2, .int x2), (3, .int x3), (4, .int x4)] → W p l e rm_Ho_wouldLeaveOut s m args below meth c H locs 0 0 (MQ below (xPi G post) args s 0 0 (xA G)) (F0 m 3 ls []) := by
  have hx := hC.1
  have hb := hC.2.1
  intro n
  induction n with
  | zero => intro x4 M H locs ls; exact fun h => h.elim
  | succ n ih =>
    intro x4 M H locs ls h hR hS hl
    refine lv_iload (pc := 3) hx hb xd_Ho_wouldLeaveOut_3 (lv_at hl 4 rfl) ?_
    refine lv_aload_n (pc := 5) hx hb xd_Ho_wouldLeaveOut_5 rfl (lv_at hl 0 rfl) ?_
    refine xr_get (pc := 6) (v := .int (M g 3 0)) hC hR (xo_K3 hg) xf_Ho_9 rfl xd_Ho_wouldLeaveOut_6 ?_
    refine lv_icmp_ge (pc := 9) (tgt := 46) hx hb xd_Ho_wouldLeaveOut_9 (by decide) (fun hq => ?_) (fun hq => ?_)
    · have h := h.1 hq
      exact hk46 x4 M H locs ls h hR hS (lv_sub hl [0, 1, 2, 3, 4] rfl)
    · have h := h.2 hq
      refine lv_aload_n (pc := 12) hx hb xd_Ho_wouldLeaveOut_12 rfl (lv_at hl 0 rfl) ?_
      refine xr_get (pc := 13) (v := .ref (G.1 g 6)) hC hR (xo_K3 hg) xf_Ho_23 rfl xd_Ho_wouldLeaveOut_13 ?_
      refine lv_iload (pc := 16) hx hb xd_Ho_wouldLeaveOut_16 (lv_at hl 4 rfl) ?_
      obtain ⟨hq, h⟩ := h
      refine xr_iald (pc := 18) hC hR (xo_K6 hg) hq xd_Ho_wouldLeaveOut_18 ?_
      refine lv_iload_n (pc := 19) hx hb xd_Ho_wouldLeaveOut_19 rfl (lv_at hl 1 rfl) ?_
      refine lv_icmp_ne (pc := 20) (tgt := 40) hx hb xd_Ho_wouldLeaveOut_20 (by decide) (fun hq => ?_) (fun hq => ?_)
      · have h := h.1 hq
        refine lv_iinc (pc := 40) (v := (x4 + (1 : Int32))) (lv' := [(4, .int (x4 + (1 : Int32))), (0, .ref (G.1 g 3)), (1, .int x1), (2, .int x2), (3, .int x3)]) hx hb xd_Ho_wouldLeaveOut_40 hl (k := 4) rfl rfl (by decide) rfl (fun ls hl => ?_)
        refine lv_goto (pc := 43) (tgt := 3) hx hb xd_Ho_wouldLeaveOut_43 (by decide) ?_
        exact ih (x4 + (1 : Int32)) M H locs ls h hR hS (lv_sub hl [1, 2, 3, 4, 0] rfl)
      · have h := h.2 hq
        refine lv_aload_n (pc := 23) hx hb xd_Ho_wouldLeaveOut_23 rfl (lv_at hl 0 rfl) ?_
        refine xr_get (pc := 24) (v := .ref (G.1 g 4)) hC hR (xo_K3 hg) xf_Ho_15 rfl xd_Ho_wouldLeaveOut_24 ?_
        refine lv_iload (pc := 27) hx hb xd_Ho_wouldLeaveOut_27 (lv_at hl 4 rfl) ?_
        obtain ⟨hq, h⟩ := h
        refine xr_iald (pc := 29) hC hR (xo_K4 hg) hq xd_Ho_wouldLeaveOut_29 ?_
        refine lv_iload_n (pc := 30) hx hb xd_Ho_wouldLeaveOut_30 rfl (lv_at hl 2 rfl) ?_
        refine lv_iload_n (pc := 31) hx hb xd_Ho_wouldLeaveOut_31 rfl (lv_at hl 3 rfl) ?_
        refine xr_callS (pc := 32) (As := [.int (M g 4 x4.toNatClampNeg), .int x2, .int x3]) (rest := []) hC hR hS (xc_Rg_isBetween l G  h) xv_Ho_53 ⟨rfl, rfl, Nat.le_of_ble_eq_true rfl, Nat.le_of_ble_eq_true rfl⟩ rfl hl.1 rfl (Nat.le_of_ble_eq_true rfl) xd_Ho_wouldLeaveOut_32 (fun r2 M1 H locs h hR hS => ?_)
        refine lv_if_ne (pc := 35) (tgt := 40) hx hb xd_Ho_wouldLeaveOut_35 (by decide) (fun hq => ?_) (fun hq => ?_)
        · have h := h.1 hq
          refine lv_iinc (pc := 40) (v := (x4 + (1 : Int32))) (lv' := [(4, .int (x4 + (1 : Int32))), (0, .ref (G.1 g 3)), (1, .int x1), (2, .int x2), (3, .int x3)]) hx hb xd_Ho_wouldLeaveOut_40 hl (k := 4) rfl rfl (by decide) rfl (fun ls hl => ?_)
          refine lv_goto (pc := 43) (tgt := 3) hx hb xd_Ho_wouldLeaveOut_43 (by decide) ?_
          exact ih (x4 + (1 : Int32)) M1 H locs ls h hR hS (lv_sub hl [1, 2, 3, 4, 0] rfl)
        · have h := h.2 hq
          refine lv_iconst (pc := 38) (v := (1 : Int32)) hx hb xd_Ho_wouldLeaveOut_38 (by decide) ?_
          exact xr_zret hC hr hlk hR hS (by decide) h xd_Ho_wouldLeaveOut_39
set_option maxHeartbeats 4000000 in
set_option maxRecDepth 100000 in
theorem xc_Ho_wouldLeaveOut (l : Launch) (G : xG) {g : Nat} {a1 : Int32} {a2 : Int32} {a3 : Int32} (hg : g < 4) {M : xM} {post : Int32 → xM → Prop} (h : xw_Ho_wouldLeaveOut g a1 a2 a3 M post) : Met l y_Ho_wouldLeaveOut (Cond.code y_Ho_wouldLeaveOut b_Ho_wouldLeaveOut 5 (some .boolean) :: xTG) rm_Ho_wouldLeaveOut (xPre G M [.ref (G.1 g 3), .int a1, .int a2, .int a3]) (xPi G post) 0 0 (xA G) := by
  refine xMet (own := R_Ho) [.ref (G.1 g 3), .int a1, .int a2, .int a3] (Or.inl (by decide)) rfl (Nat.le_of_ble_eq_true rfl) (fun p e s m args below meth c ls hC hr hlk hR hS hl => ?_)
  have hx := hC.1
  have hb := hC.2.1
  have hl : lv_has ls 5 [(0, .ref (G.1 g 3)), (1, .int a1), (2, .int a2), (3, .int a3)] := hl
  obtain ⟨H, eH⟩ : ∃ H : Heap, H = s.heap := ⟨_, rfl⟩
  obtain ⟨locs, eL⟩ : ∃ locs : List Loc, locs = [] := ⟨_, rfl⟩
  rw [← eH] at hR
  replace hS : va_S (xA G) s.heap H locs := by rw [eH, eL]; exact hS
  suffices hh : W p l e rm_Ho_wouldLeaveOut s m args below meth c H locs 0 0 (MQ below (xPi G post) args s 0 0 (xA G)) (F0 m 0 ls []) from by rw [eH, eL] at hh; exact hh
  unfold xw_Ho_wouldLeaveOut at h
  refine lv_iconst (pc := 0) (v := (0 : Int32)) hx hb xd_Ho_wouldLeaveOut_0 (by decide) ?_
  refine lv_istore (pc := 1) (lv' := [(4, .int (0 : Int32)), (0, .ref (G.1 g 3)), (1, .int a1), (2, .int a2), (3, .int a3)]) hx hb xd_Ho_wouldLeaveOut_1 hl (by decide) rfl (fun ls hl => ?_)
  obtain ⟨n, h⟩ := h
  refine xt_Ho_wouldLeaveOut_3 hC hr hlk hg (fun y3 M4 H locs ls h hR hS hl => ?_) n (0 : Int32) M H locs ls h hR hS (lv_sub hl [1, 2, 3, 4, 0] rfl)
  refine lv_iconst (pc := 46) (v := (0 : Int32)) hx hb xd_Ho_wouldLeaveOut_46 (by decide) ?_
  exact xr_zret hC hr hlk hR hS (by decide) h xd_Ho_wouldLeaveOut_47

/-! ColoursApart$House.bind(III)Z -/
theorem xd_Ho_bind_0 : decode b_Ho_bind 0 = .ok (.iconst 0, 1) := by decide +kernel
theorem xd_Ho_bind_1 : decode b_Ho_bind 1 = .ok (.istore 4, 2) := by decide +kernel
theorem xd_Ho_bind_3 : decode b_Ho_bind 3 = .ok (.iload 4, 2) := by decide +kernel
theorem xd_Ho_bind_5 : decode b_Ho_bind 5 = .ok (.aload_n 0, 1) := by decide +kernel
theorem xd_Ho_bind_6 : decode b_Ho_bind 6 = .ok (.getfield 32, 3) := by decide +kernel
theorem xd_Ho_bind_9 : decode b_Ho_bind 9 = .ok (.if_icmp .ge 31, 3) := by decide +kernel
theorem xd_Ho_bind_12 : decode b_Ho_bind 12 = .ok (.aload_n 0, 1) := by decide +kernel
theorem xd_Ho_bind_13 : decode b_Ho_bind 13 = .ok (.getfield 35, 3) := by decide +kernel
theorem xd_Ho_bind_16 : decode b_Ho_bind 16 = .ok (.iload 4, 2) := by decide +kernel
theorem xd_Ho_bind_18 : decode b_Ho_bind 18 = .ok (.iaload, 1) := by decide +kernel
theorem xd_Ho_bind_19 : decode b_Ho_bind 19 = .ok (.iload_n 1, 1) := by decide +kernel
theorem xd_Ho_bind_20 : decode b_Ho_bind 20 = .ok (.if_icmp .ne 14, 3) := by decide +kernel
theorem xd_Ho_bind_23 : decode b_Ho_bind 23 = .ok (.aload_n 0, 1) := by decide +kernel
theorem xd_Ho_bind_24 : decode b_Ho_bind 24 = .ok (.getfield 38, 3) := by decide +kernel
theorem xd_Ho_bind_27 : decode b_Ho_bind 27 = .ok (.iload 4, 2) := by decide +kernel
theorem xd_Ho_bind_29 : decode b_Ho_bind 29 = .ok (.iaload, 1) := by decide +kernel
theorem xd_Ho_bind_30 : decode b_Ho_bind 30 = .ok (.iload_n 2, 1) := by decide +kernel
theorem xd_Ho_bind_31 : decode b_Ho_bind 31 = .ok (.if_icmp .eq 9, 3) := by decide +kernel
theorem xd_Ho_bind_34 : decode b_Ho_bind 34 = .ok (.iinc 4 1, 3) := by decide +kernel
theorem xd_Ho_bind_37 : decode b_Ho_bind 37 = .ok (.goto (-34), 3) := by decide +kernel
theorem xd_Ho_bind_40 : decode b_Ho_bind 40 = .ok (.iload 4, 2) := by decide +kernel
theorem xd_Ho_bind_42 : decode b_Ho_bind 42 = .ok (.bipush 20, 2) := by decide +kernel
theorem xd_Ho_bind_44 : decode b_Ho_bind 44 = .ok (.if_icmp .lt 5, 3) := by decide +kernel
theorem xd_Ho_bind_47 : decode b_Ho_bind 47 = .ok (.iconst 0, 1) := by decide +kernel
theorem xd_Ho_bind_48 : decode b_Ho_bind 48 = .ok (.ireturn, 1) := by decide +kernel
theorem xd_Ho_bind_49 : decode b_Ho_bind 49 = .ok (.aload_n 0, 1) := by decide +kernel
theorem xd_Ho_bind_50 : decode b_Ho_bind 50 = .ok (.getfield 35, 3) := by decide +kernel
theorem xd_Ho_bind_53 : decode b_Ho_bind 53 = .ok (.iload 4, 2) := by decide +kernel
theorem xd_Ho_bind_55 : decode b_Ho_bind 55 = .ok (.iload_n 1, 1) := by decide +kernel
theorem xd_Ho_bind_56 : decode b_Ho_bind 56 = .ok (.iastore, 1) := by decide +kernel
theorem xd_Ho_bind_57 : decode b_Ho_bind 57 = .ok (.aload_n 0, 1) := by decide +kernel
theorem xd_Ho_bind_58 : decode b_Ho_bind 58 = .ok (.getfield 38, 3) := by decide +kernel
theorem xd_Ho_bind_61 : decode b_Ho_bind 61 = .ok (.iload 4, 2) := by decide +kernel
theorem xd_Ho_bind_63 : decode b_Ho_bind 63 = .ok (.iload_n 2, 1) := by decide +kernel
theorem xd_Ho_bind_64 : decode b_Ho_bind 64 = .ok (.iastore, 1) := by decide +kernel
theorem xd_Ho_bind_65 : decode b_Ho_bind 65 = .ok (.aload_n 0, 1) := by decide +kernel
theorem xd_Ho_bind_66 : decode b_Ho_bind 66 = .ok (.getfield 41, 3) := by decide +kernel
theorem xd_Ho_bind_69 : decode b_Ho_bind 69 = .ok (.iload 4, 2) := by decide +kernel
theorem xd_Ho_bind_71 : decode b_Ho_bind 71 = .ok (.iload_n 3, 1) := by decide +kernel
theorem xd_Ho_bind_72 : decode b_Ho_bind 72 = .ok (.iastore, 1) := by decide +kernel
theorem xd_Ho_bind_73 : decode b_Ho_bind 73 = .ok (.aload_n 0, 1) := by decide +kernel
theorem xd_Ho_bind_74 : decode b_Ho_bind 74 = .ok (.aload_n 0, 1) := by decide +kernel
theorem xd_Ho_bind_75 : decode b_Ho_bind 75 = .ok (.getfield 32, 3) := by decide +kernel
theorem xd_Ho_bind_78 : decode b_Ho_bind 78 = .ok (.iload 4, 2) := by decide +kernel
theorem xd_Ho_bind_80 : decode b_Ho_bind 80 = .ok (.iconst 1, 1) := by decide +kernel
theorem xd_Ho_bind_81 : decode b_Ho_bind 81 = .ok (.iadd, 1) := by decide +kernel
theorem xd_Ho_bind_82 : decode b_Ho_bind 82 = .ok (.invokestatic 61, 3) := by decide +kernel
theorem xd_Ho_bind_85 : decode b_Ho_bind 85 = .ok (.putfield 32, 3) := by decide +kernel
theorem xd_Ho_bind_88 : decode b_Ho_bind 88 = .ok (.iconst 1, 1) := by decide +kernel
theorem xd_Ho_bind_89 : decode b_Ho_bind 89 = .ok (.ireturn, 1) := by decide +kernel
abbrev rm_Ho_bind : Room := { frames := 1, cells := 0, slots := 0, locals := 24 }
def xw_Ho_bind_3 (g : Nat) (x1 : Int32) (x2 : Int32) (x3 : Int32) (post : Int32 → xM → Prop) (k40 : Int32 → xM → Prop) : Nat → Int32 → xM → Prop
  | 0, _, _ => False
  | n3 + 1, x4, M => (((M g 3 6) ≤ x4) → (k40 x4 M)) ∧ ((¬ (M g 3 6) ≤ x4) → ((vp_in x4 20) ∧ (((¬ (M g 9 x4.toNatClampNeg) = x1) → (xw_Ho_bind_3 g x1 x2 x3 post k40 n3 (x4 + (1 : Int32)) M)) ∧ (((M g 9 x4.toNatClampNeg) = x1) → ((vp_in x4 20) ∧ ((((M g 10 x4.toNatClampNeg) = x2) → (k40 x4 M)) ∧ ((¬ (M g 10 x4.toNatClampNeg) = x2) → (xw_Ho_bind_3 g x1 x2 x3 post k40 n3 (x4 + (1 : Int32)) M))))))))
def xw_Ho_bind (g : Nat) (a1 : Int32) (a2 : Int32) (a3 : Int32) (M : xM) (post : Int32 → xM → Prop) : Prop :=
  ∃ n3 : Nat, xw_Ho_bind_3 g a1 a2 a3 post (fun (y1 : Int32) (M2 : xM) => ((y1 < (20 : Int32)) → ((vp_in y1 20) ∧ ((vp_in y1 20) ∧ ((vp_in y1 20) ∧ (post (1 : Int32) (us (us (us (us M2 g 9 y1.toNatClampNeg a1) g 10 y1.toNatClampNeg a2) g 11 y1.toNatClampNeg a3) g 3 6 (if ((us (us (us M2 g 9 y1.toNatClampNeg a1) g 10 y1.toNatClampNeg a2) g 11 y1.toNatClampNeg a3) g 3 6) < (y1 + (1 : Int32)) then (y1 + (1 : Int32)) else ((us (us (us M2 g 9 y1.toNatClampNeg a1) g 10 y1.toNatClampNeg a2) g 11 y1.toNatClampNeg a3) g 3 6)))))))) ∧ ((¬ y1 < (20 : Int32)) → (post (0 : Int32) M2))) n3 (0 : Int32) M
set_option maxHeartbeats 4000000 in
set_option maxRecDepth 100000 in
theorem xt_Ho_bind_3 {p : Program} {l : Launch} {e : Env} {s : State} {m : MethodId} {args : Array Value} {below : List Frame} {meth : Method} {c : Code} {G : xG} (hC : xC p s m args c b_Ho_bind R_Ho 5 G) (hr : meth.sig.returnType = (some .boolean)) (hlk : meth.locks = false) {g : Nat} (hg : g < 4) {x1 : Int32} {x2 : Int32} {x3 : Int32} {post : Int32 → xM → Prop} {k40 : Int32 → xM → Prop} (hk40 : ∀ (x4 : Int32) (M : xM) (H : Heap) (locs : List Loc) (ls : Array Slot), k40 x4 M → xRp G M H → va_S (xA G) s.heap H locs → lv_has ls 5 [(0, .ref (G.1 g 3)), (1, .int x1), (2, .int x2), (3, .int x3), (4, .int x4)] → W p l e rm_Ho_bind s m args below meth c H locs 0 0 (MQ below (xPi G post) args s 0 0 (xA G)) (F0 m 40 ls [])) : ∀ (n : Nat) (x4 : Int32) (M : xM) (H : Heap) (locs : List Loc) (ls : Array Slot), xw_Ho_bind_3 g x1 x2 x3 post k40 n x4 M → xRp G M H → va_S (xA G) s.heap H locs → lv_has ls 5 [(0, .ref (G.1 g 3)), (1, .int x1), (2, .int x2), (3, .int x3), (4, .int x4)] → W p l e rm_Ho_bind s m args below meth c H locs 0 0 (MQ below (xPi G post) args s 0 0 (xA G)) (F0 m 3 ls []) := by
  have hx := hC.1
  have hb := hC.2.1
  intro n
  induction n with
  | zero => intro x4 M H locs ls; exact fun h => h.elim
  | succ n ih =>
    intro x4 M H locs ls h hR hS hl
    refine lv_iload (pc := 3) hx hb xd_Ho_bind_3 (lv_at hl 4 rfl) ?_
    refine lv_aload_n (pc := 5) hx hb xd_Ho_bind_5 rfl (lv_at hl 0 rfl) ?_
    refine xr_get (pc := 6) (v := .int (M g 3 6)) hC hR (xo_K3 hg) xf_Ho_32 rfl xd_Ho_bind_6 ?_
    refine lv_icmp_ge (pc := 9) (tgt := 40) hx hb xd_Ho_bind_9 (by decide) (fun hq => ?_) (fun hq => ?_)
    · have h := h.1 hq
      exact hk40 x4 M H locs ls h hR hS (lv_sub hl [0, 1, 2, 3, 4] rfl)
    · have h := h.2 hq
      refine lv_aload_n (pc := 12) hx hb xd_Ho_bind_12 rfl (lv_at hl 0 rfl) ?_
      refine xr_get (pc := 13) (v := .ref (G.1 g 9)) hC hR (xo_K3 hg) xf_Ho_35 rfl xd_Ho_bind_13 ?_
      refine lv_iload (pc := 16) hx hb xd_Ho_bind_16 (lv_at hl 4 rfl) ?_
      obtain ⟨hq, h⟩ := h
      refine xr_iald (pc := 18) hC hR (xo_K9 hg) hq xd_Ho_bind_18 ?_
      refine lv_iload_n (pc := 19) hx hb xd_Ho_bind_19 rfl (lv_at hl 1 rfl) ?_
      refine lv_icmp_ne (pc := 20) (tgt := 34) hx hb xd_Ho_bind_20 (by decide) (fun hq => ?_) (fun hq => ?_)
      · have h := h.1 hq
        refine lv_iinc (pc := 34) (v := (x4 + (1 : Int32))) (lv' := [(4, .int (x4 + (1 : Int32))), (0, .ref (G.1 g 3)), (1, .int x1), (2, .int x2), (3, .int x3)]) hx hb xd_Ho_bind_34 hl (k := 4) rfl rfl (by decide) rfl (fun ls hl => ?_)
        refine lv_goto (pc := 37) (tgt := 3) hx hb xd_Ho_bind_37 (by decide) ?_
        exact ih (x4 + (1 : Int32)) M H locs ls h hR hS (lv_sub hl [1, 2, 3, 4, 0] rfl)
      · have h := h.2 hq
        refine lv_aload_n (pc := 23) hx hb xd_Ho_bind_23 rfl (lv_at hl 0 rfl) ?_
        refine xr_get (pc := 24) (v := .ref (G.1 g 10)) hC hR (xo_K3 hg) xf_Ho_38 rfl xd_Ho_bind_24 ?_
        refine lv_iload (pc := 27) hx hb xd_Ho_bind_27 (lv_at hl 4 rfl) ?_
        obtain ⟨hq, h⟩ := h
        refine xr_iald (pc := 29) hC hR (xo_K10 hg) hq xd_Ho_bind_29 ?_
        refine lv_iload_n (pc := 30) hx hb xd_Ho_bind_30 rfl (lv_at hl 2 rfl) ?_
        refine lv_icmp_eq (pc := 31) (tgt := 40) hx hb xd_Ho_bind_31 (by decide) (fun hq => ?_) (fun hq => ?_)
        · have h := h.1 hq
          exact hk40 x4 M H locs ls h hR hS (lv_sub hl [0, 1, 2, 3, 4] rfl)
        · have h := h.2 hq
          refine lv_iinc (pc := 34) (v := (x4 + (1 : Int32))) (lv' := [(4, .int (x4 + (1 : Int32))), (0, .ref (G.1 g 3)), (1, .int x1), (2, .int x2), (3, .int x3)]) hx hb xd_Ho_bind_34 hl (k := 4) rfl rfl (by decide) rfl (fun ls hl => ?_)
          refine lv_goto (pc := 37) (tgt := 3) hx hb xd_Ho_bind_37 (by decide) ?_
          exact ih (x4 + (1 : Int32)) M H locs ls h hR hS (lv_sub hl [1, 2, 3, 4, 0] rfl)
set_option maxHeartbeats 4000000 in
set_option maxRecDepth 100000 in
theorem xc_Ho_bind (l : Launch) (G : xG) {g : Nat} {a1 : Int32} {a2 : Int32} {a3 : Int32} (hg : g < 4) {M : xM} {post : Int32 → xM → Prop} (h : xw_Ho_bind g a1 a2 a3 M post) : Met l y_Ho_bind (Cond.code y_Ho_bind b_Ho_bind 5 (some .boolean) :: xTG) rm_Ho_bind (xPre G M [.ref (G.1 g 3), .int a1, .int a2, .int a3]) (xPi G post) 0 0 (xA G) := by
  refine xMet (own := R_Ho) [.ref (G.1 g 3), .int a1, .int a2, .int a3] (Or.inl (by decide)) rfl (Nat.le_of_ble_eq_true rfl) (fun p e s m args below meth c ls hC hr hlk hR hS hl => ?_)
  have hx := hC.1
  have hb := hC.2.1
  have hl : lv_has ls 5 [(0, .ref (G.1 g 3)), (1, .int a1), (2, .int a2), (3, .int a3)] := hl
  obtain ⟨H, eH⟩ : ∃ H : Heap, H = s.heap := ⟨_, rfl⟩
  obtain ⟨locs, eL⟩ : ∃ locs : List Loc, locs = [] := ⟨_, rfl⟩
  rw [← eH] at hR
  replace hS : va_S (xA G) s.heap H locs := by rw [eH, eL]; exact hS
  suffices hh : W p l e rm_Ho_bind s m args below meth c H locs 0 0 (MQ below (xPi G post) args s 0 0 (xA G)) (F0 m 0 ls []) from by rw [eH, eL] at hh; exact hh
  unfold xw_Ho_bind at h
  refine lv_iconst (pc := 0) (v := (0 : Int32)) hx hb xd_Ho_bind_0 (by decide) ?_
  refine lv_istore (pc := 1) (lv' := [(4, .int (0 : Int32)), (0, .ref (G.1 g 3)), (1, .int a1), (2, .int a2), (3, .int a3)]) hx hb xd_Ho_bind_1 hl (by decide) rfl (fun ls hl => ?_)
  obtain ⟨n, h⟩ := h
  refine xt_Ho_bind_3 hC hr hlk hg (fun y1 M2 H locs ls h hR hS hl => ?_) n (0 : Int32) M H locs ls h hR hS (lv_sub hl [1, 2, 3, 4, 0] rfl)
  refine lv_iload (pc := 40) hx hb xd_Ho_bind_40 (lv_at hl 4 rfl) ?_
  refine lv_bipush (pc := 42) (v := (20 : Int32)) hx hb xd_Ho_bind_42 (by decide) ?_
  refine lv_icmp_lt (pc := 44) (tgt := 49) hx hb xd_Ho_bind_44 (by decide) (fun hq => ?_) (fun hq => ?_)
  · have h := h.1 hq
    refine lv_aload_n (pc := 49) hx hb xd_Ho_bind_49 rfl (lv_at hl 0 rfl) ?_
    refine xr_get (pc := 50) (v := .ref (G.1 g 9)) hC hR (xo_K3 hg) xf_Ho_35 rfl xd_Ho_bind_50 ?_
    refine lv_iload (pc := 53) hx hb xd_Ho_bind_53 (lv_at hl 4 rfl) ?_
    refine lv_iload_n (pc := 55) hx hb xd_Ho_bind_55 rfl (lv_at hl 1 rfl) ?_
    obtain ⟨hq, h⟩ := h
    refine xr_iast (pc := 56) hC hR hS (xo_K9 hg) hq xd_Ho_bind_56 (fun H locs hR hS => ?_)
    refine lv_aload_n (pc := 57) hx hb xd_Ho_bind_57 rfl (lv_at hl 0 rfl) ?_
    refine xr_get (pc := 58) (v := .ref (G.1 g 10)) hC hR (xo_K3 hg) xf_Ho_38 rfl xd_Ho_bind_58 ?_
    refine lv_iload (pc := 61) hx hb xd_Ho_bind_61 (lv_at hl 4 rfl) ?_
    refine lv_iload_n (pc := 63) hx hb xd_Ho_bind_63 rfl (lv_at hl 2 rfl) ?_
    obtain ⟨hq, h⟩ := h
    refine xr_iast (pc := 64) hC hR hS (xo_K10 hg) hq xd_Ho_bind_64 (fun H locs hR hS => ?_)
    refine lv_aload_n (pc := 65) hx hb xd_Ho_bind_65 rfl (lv_at hl 0 rfl) ?_
    refine xr_get (pc := 66) (v := .ref (G.1 g 11)) hC hR (xo_K3 hg) xf_Ho_41 rfl xd_Ho_bind_66 ?_
    refine lv_iload (pc := 69) hx hb xd_Ho_bind_69 (lv_at hl 4 rfl) ?_
    refine lv_iload_n (pc := 71) hx hb xd_Ho_bind_71 rfl (lv_at hl 3 rfl) ?_
    obtain ⟨hq, h⟩ := h
    refine xr_iast (pc := 72) hC hR hS (xo_K11 hg) hq xd_Ho_bind_72 (fun H locs hR hS => ?_)
    refine lv_aload_n (pc := 73) hx hb xd_Ho_bind_73 rfl (lv_at hl 0 rfl) ?_
    refine lv_aload_n (pc := 74) hx hb xd_Ho_bind_74 rfl (lv_at hl 0 rfl) ?_
    refine xr_get (pc := 75) (v := .int ((us (us (us M2 g 9 y1.toNatClampNeg a1) g 10 y1.toNatClampNeg a2) g 11 y1.toNatClampNeg a3) g 3 6)) hC hR (xo_K3 hg) xf_Ho_32 rfl xd_Ho_bind_75 ?_
    refine lv_iload (pc := 78) hx hb xd_Ho_bind_78 (lv_at hl 4 rfl) ?_
    refine lv_iconst (pc := 80) (v := (1 : Int32)) hx hb xd_Ho_bind_80 (by decide) ?_
    refine lv_iadd (pc := 81) hx hb xd_Ho_bind_81 ?_
    refine xr_max (pc := 82) hC xk_Ho_61 hl.1 (Nat.le_of_ble_eq_true rfl) (Nat.le_of_ble_eq_true rfl) xd_Ho_bind_82 ?_
    refine xr_put (pc := 85) hC hR hS (xo_K3 hg) xf_Ho_32 xp_4_6 rfl rfl rfl xd_Ho_bind_85 (fun H locs hR hS => ?_)
    refine lv_iconst (pc := 88) (v := (1 : Int32)) hx hb xd_Ho_bind_88 (by decide) ?_
    exact xr_zret hC hr hlk hR hS (by decide) h xd_Ho_bind_89
  · have h := h.2 hq
    refine lv_iconst (pc := 47) (v := (0 : Int32)) hx hb xd_Ho_bind_47 (by decide) ?_
    exact xr_zret hC hr hlk hR hS (by decide) h xd_Ho_bind_48
