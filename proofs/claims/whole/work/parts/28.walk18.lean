/-! ColoursApartModel.back(I)I -/
theorem xd_Mo_back_0 : decode b_Mo_back 0 = .ok (.iload_n 1, 1) := by decide +kernel
theorem xd_Mo_back_1 : decode b_Mo_back 1 = .ok (.iconst 0, 1) := by decide +kernel
theorem xd_Mo_back_2 : decode b_Mo_back 2 = .ok (.iconst 2, 1) := by decide +kernel
theorem xd_Mo_back_3 : decode b_Mo_back 3 = .ok (.invokestatic 85, 3) := by decide +kernel
theorem xd_Mo_back_6 : decode b_Mo_back 6 = .ok (.ifCond .ne 9, 3) := by decide +kernel
theorem xd_Mo_back_9 : decode b_Mo_back 9 = .ok (.aload_n 0, 1) := by decide +kernel
theorem xd_Mo_back_10 : decode b_Mo_back 10 = .ok (.iconst (-1), 1) := by decide +kernel
theorem xd_Mo_back_11 : decode b_Mo_back 11 = .ok (.invokevirtual 89, 3) := by decide +kernel
theorem xd_Mo_back_14 : decode b_Mo_back 14 = .ok (.ireturn, 1) := by decide +kernel
theorem xd_Mo_back_15 : decode b_Mo_back 15 = .ok (.aload_n 0, 1) := by decide +kernel
theorem xd_Mo_back_16 : decode b_Mo_back 16 = .ok (.getfield 76, 3) := by decide +kernel
theorem xd_Mo_back_19 : decode b_Mo_back 19 = .ok (.iload_n 1, 1) := by decide +kernel
theorem xd_Mo_back_20 : decode b_Mo_back 20 = .ok (.baload, 1) := by decide +kernel
theorem xd_Mo_back_21 : decode b_Mo_back 21 = .ok (.ifCond .ne 10, 3) := by decide +kernel
theorem xd_Mo_back_24 : decode b_Mo_back 24 = .ok (.aload_n 0, 1) := by decide +kernel
theorem xd_Mo_back_25 : decode b_Mo_back 25 = .ok (.bipush (-6), 2) := by decide +kernel
theorem xd_Mo_back_27 : decode b_Mo_back 27 = .ok (.invokevirtual 89, 3) := by decide +kernel
theorem xd_Mo_back_30 : decode b_Mo_back 30 = .ok (.ireturn, 1) := by decide +kernel
theorem xd_Mo_back_31 : decode b_Mo_back 31 = .ok (.aload_n 0, 1) := by decide +kernel
theorem xd_Mo_back_32 : decode b_Mo_back 32 = .ok (.sipush 200, 3) := by decide +kernel
theorem xd_Mo_back_35 : decode b_Mo_back 35 = .ok (.iload_n 1, 1) := by decide +kernel
theorem xd_Mo_back_36 : decode b_Mo_back 36 = .ok (.imul, 1) := by decide +kernel
theorem xd_Mo_back_37 : decode b_Mo_back 37 = .ok (.putfield 202, 3) := by decide +kernel
theorem xd_Mo_back_40 : decode b_Mo_back 40 = .ok (.aload_n 0, 1) := by decide +kernel
theorem xd_Mo_back_41 : decode b_Mo_back 41 = .ok (.aload_n 0, 1) := by decide +kernel
theorem xd_Mo_back_42 : decode b_Mo_back 42 = .ok (.getfield 35, 3) := by decide +kernel
theorem xd_Mo_back_45 : decode b_Mo_back 45 = .ok (.bipush 12, 2) := by decide +kernel
theorem xd_Mo_back_47 : decode b_Mo_back 47 = .ok (.invokevirtual 209, 3) := by decide +kernel
theorem xd_Mo_back_50 : decode b_Mo_back 50 = .ok (.aload_n 0, 1) := by decide +kernel
theorem xd_Mo_back_51 : decode b_Mo_back 51 = .ok (.aload_n 0, 1) := by decide +kernel
theorem xd_Mo_back_52 : decode b_Mo_back 52 = .ok (.getfield 42, 3) := by decide +kernel
theorem xd_Mo_back_55 : decode b_Mo_back 55 = .ok (.bipush 12, 2) := by decide +kernel
theorem xd_Mo_back_57 : decode b_Mo_back 57 = .ok (.invokevirtual 209, 3) := by decide +kernel
theorem xd_Mo_back_60 : decode b_Mo_back 60 = .ok (.aload_n 0, 1) := by decide +kernel
theorem xd_Mo_back_61 : decode b_Mo_back 61 = .ok (.aload_n 0, 1) := by decide +kernel
theorem xd_Mo_back_62 : decode b_Mo_back 62 = .ok (.getfield 45, 3) := by decide +kernel
theorem xd_Mo_back_65 : decode b_Mo_back 65 = .ok (.bipush 8, 2) := by decide +kernel
theorem xd_Mo_back_67 : decode b_Mo_back 67 = .ok (.invokevirtual 209, 3) := by decide +kernel
theorem xd_Mo_back_70 : decode b_Mo_back 70 = .ok (.aload_n 0, 1) := by decide +kernel
theorem xd_Mo_back_71 : decode b_Mo_back 71 = .ok (.aload_n 0, 1) := by decide +kernel
theorem xd_Mo_back_72 : decode b_Mo_back 72 = .ok (.getfield 49, 3) := by decide +kernel
theorem xd_Mo_back_75 : decode b_Mo_back 75 = .ok (.bipush 8, 2) := by decide +kernel
theorem xd_Mo_back_77 : decode b_Mo_back 77 = .ok (.invokevirtual 209, 3) := by decide +kernel
theorem xd_Mo_back_80 : decode b_Mo_back 80 = .ok (.aload_n 0, 1) := by decide +kernel
theorem xd_Mo_back_81 : decode b_Mo_back 81 = .ok (.aload_n 0, 1) := by decide +kernel
theorem xd_Mo_back_82 : decode b_Mo_back 82 = .ok (.getfield 52, 3) := by decide +kernel
theorem xd_Mo_back_85 : decode b_Mo_back 85 = .ok (.bipush 20, 2) := by decide +kernel
theorem xd_Mo_back_87 : decode b_Mo_back 87 = .ok (.invokevirtual 209, 3) := by decide +kernel
theorem xd_Mo_back_90 : decode b_Mo_back 90 = .ok (.aload_n 0, 1) := by decide +kernel
theorem xd_Mo_back_91 : decode b_Mo_back 91 = .ok (.aload_n 0, 1) := by decide +kernel
theorem xd_Mo_back_92 : decode b_Mo_back 92 = .ok (.getfield 55, 3) := by decide +kernel
theorem xd_Mo_back_95 : decode b_Mo_back 95 = .ok (.bipush 20, 2) := by decide +kernel
theorem xd_Mo_back_97 : decode b_Mo_back 97 = .ok (.invokevirtual 209, 3) := by decide +kernel
theorem xd_Mo_back_100 : decode b_Mo_back 100 = .ok (.aload_n 0, 1) := by decide +kernel
theorem xd_Mo_back_101 : decode b_Mo_back 101 = .ok (.aload_n 0, 1) := by decide +kernel
theorem xd_Mo_back_102 : decode b_Mo_back 102 = .ok (.getfield 58, 3) := by decide +kernel
theorem xd_Mo_back_105 : decode b_Mo_back 105 = .ok (.bipush 20, 2) := by decide +kernel
theorem xd_Mo_back_107 : decode b_Mo_back 107 = .ok (.invokevirtual 209, 3) := by decide +kernel
theorem xd_Mo_back_110 : decode b_Mo_back 110 = .ok (.aload_n 0, 1) := by decide +kernel
theorem xd_Mo_back_111 : decode b_Mo_back 111 = .ok (.aload_n 0, 1) := by decide +kernel
theorem xd_Mo_back_112 : decode b_Mo_back 112 = .ok (.getfield 19, 3) := by decide +kernel
theorem xd_Mo_back_115 : decode b_Mo_back 115 = .ok (.bipush 27, 2) := by decide +kernel
theorem xd_Mo_back_117 : decode b_Mo_back 117 = .ok (.invokevirtual 209, 3) := by decide +kernel
theorem xd_Mo_back_120 : decode b_Mo_back 120 = .ok (.aload_n 0, 1) := by decide +kernel
theorem xd_Mo_back_121 : decode b_Mo_back 121 = .ok (.aload_n 0, 1) := by decide +kernel
theorem xd_Mo_back_122 : decode b_Mo_back 122 = .ok (.getfield 32, 3) := by decide +kernel
theorem xd_Mo_back_125 : decode b_Mo_back 125 = .ok (.iconst 3, 1) := by decide +kernel
theorem xd_Mo_back_126 : decode b_Mo_back 126 = .ok (.invokevirtual 209, 3) := by decide +kernel
theorem xd_Mo_back_129 : decode b_Mo_back 129 = .ok (.iconst 0, 1) := by decide +kernel
theorem xd_Mo_back_130 : decode b_Mo_back 130 = .ok (.istore_n 2, 1) := by decide +kernel
theorem xd_Mo_back_131 : decode b_Mo_back 131 = .ok (.iload_n 2, 1) := by decide +kernel
theorem xd_Mo_back_132 : decode b_Mo_back 132 = .ok (.bipush 12, 2) := by decide +kernel
theorem xd_Mo_back_134 : decode b_Mo_back 134 = .ok (.if_icmp .ge 35, 3) := by decide +kernel
theorem xd_Mo_back_137 : decode b_Mo_back 137 = .ok (.aload_n 0, 1) := by decide +kernel
theorem xd_Mo_back_138 : decode b_Mo_back 138 = .ok (.getfield 38, 3) := by decide +kernel
theorem xd_Mo_back_141 : decode b_Mo_back 141 = .ok (.iload_n 2, 1) := by decide +kernel
theorem xd_Mo_back_142 : decode b_Mo_back 142 = .ok (.aload_n 0, 1) := by decide +kernel
theorem xd_Mo_back_143 : decode b_Mo_back 143 = .ok (.getfield 79, 3) := by decide +kernel
theorem xd_Mo_back_146 : decode b_Mo_back 146 = .ok (.aload_n 0, 1) := by decide +kernel
theorem xd_Mo_back_147 : decode b_Mo_back 147 = .ok (.getfield 202, 3) := by decide +kernel
theorem xd_Mo_back_150 : decode b_Mo_back 150 = .ok (.iload_n 2, 1) := by decide +kernel
theorem xd_Mo_back_151 : decode b_Mo_back 151 = .ok (.iadd, 1) := by decide +kernel
theorem xd_Mo_back_152 : decode b_Mo_back 152 = .ok (.iaload, 1) := by decide +kernel
theorem xd_Mo_back_153 : decode b_Mo_back 153 = .ok (.iconst 1, 1) := by decide +kernel
theorem xd_Mo_back_154 : decode b_Mo_back 154 = .ok (.if_icmp .ne 7, 3) := by decide +kernel
theorem xd_Mo_back_157 : decode b_Mo_back 157 = .ok (.iconst 1, 1) := by decide +kernel
theorem xd_Mo_back_158 : decode b_Mo_back 158 = .ok (.goto 4, 3) := by decide +kernel
theorem xd_Mo_back_161 : decode b_Mo_back 161 = .ok (.iconst 0, 1) := by decide +kernel
theorem xd_Mo_back_162 : decode b_Mo_back 162 = .ok (.bastore, 1) := by decide +kernel
theorem xd_Mo_back_163 : decode b_Mo_back 163 = .ok (.iinc 2 1, 3) := by decide +kernel
theorem xd_Mo_back_166 : decode b_Mo_back 166 = .ok (.goto (-35), 3) := by decide +kernel
theorem xd_Mo_back_169 : decode b_Mo_back 169 = .ok (.aload_n 0, 1) := by decide +kernel
theorem xd_Mo_back_170 : decode b_Mo_back 170 = .ok (.aload_n 0, 1) := by decide +kernel
theorem xd_Mo_back_171 : decode b_Mo_back 171 = .ok (.getfield 79, 3) := by decide +kernel
theorem xd_Mo_back_174 : decode b_Mo_back 174 = .ok (.aload_n 0, 1) := by decide +kernel
theorem xd_Mo_back_175 : decode b_Mo_back 175 = .ok (.getfield 202, 3) := by decide +kernel
theorem xd_Mo_back_178 : decode b_Mo_back 178 = .ok (.bipush 12, 2) := by decide +kernel
theorem xd_Mo_back_180 : decode b_Mo_back 180 = .ok (.iadd, 1) := by decide +kernel
theorem xd_Mo_back_181 : decode b_Mo_back 181 = .ok (.iaload, 1) := by decide +kernel
theorem xd_Mo_back_182 : decode b_Mo_back 182 = .ok (.putfield 145, 3) := by decide +kernel
theorem xd_Mo_back_185 : decode b_Mo_back 185 = .ok (.aload_n 0, 1) := by decide +kernel
theorem xd_Mo_back_186 : decode b_Mo_back 186 = .ok (.aload_n 0, 1) := by decide +kernel
theorem xd_Mo_back_187 : decode b_Mo_back 187 = .ok (.getfield 79, 3) := by decide +kernel
theorem xd_Mo_back_190 : decode b_Mo_back 190 = .ok (.aload_n 0, 1) := by decide +kernel
theorem xd_Mo_back_191 : decode b_Mo_back 191 = .ok (.getfield 202, 3) := by decide +kernel
theorem xd_Mo_back_194 : decode b_Mo_back 194 = .ok (.bipush 13, 2) := by decide +kernel
theorem xd_Mo_back_196 : decode b_Mo_back 196 = .ok (.iadd, 1) := by decide +kernel
theorem xd_Mo_back_197 : decode b_Mo_back 197 = .ok (.iaload, 1) := by decide +kernel
theorem xd_Mo_back_198 : decode b_Mo_back 198 = .ok (.putfield 158, 3) := by decide +kernel
theorem xd_Mo_back_201 : decode b_Mo_back 201 = .ok (.aload_n 0, 1) := by decide +kernel
theorem xd_Mo_back_202 : decode b_Mo_back 202 = .ok (.aload_n 0, 1) := by decide +kernel
theorem xd_Mo_back_203 : decode b_Mo_back 203 = .ok (.getfield 79, 3) := by decide +kernel
theorem xd_Mo_back_206 : decode b_Mo_back 206 = .ok (.aload_n 0, 1) := by decide +kernel
theorem xd_Mo_back_207 : decode b_Mo_back 207 = .ok (.getfield 202, 3) := by decide +kernel
theorem xd_Mo_back_210 : decode b_Mo_back 210 = .ok (.bipush 14, 2) := by decide +kernel
theorem xd_Mo_back_212 : decode b_Mo_back 212 = .ok (.iadd, 1) := by decide +kernel
theorem xd_Mo_back_213 : decode b_Mo_back 213 = .ok (.iaload, 1) := by decide +kernel
theorem xd_Mo_back_214 : decode b_Mo_back 214 = .ok (.putfield 22, 3) := by decide +kernel
theorem xd_Mo_back_217 : decode b_Mo_back 217 = .ok (.aload_n 0, 1) := by decide +kernel
theorem xd_Mo_back_218 : decode b_Mo_back 218 = .ok (.aload_n 0, 1) := by decide +kernel
theorem xd_Mo_back_219 : decode b_Mo_back 219 = .ok (.getfield 79, 3) := by decide +kernel
theorem xd_Mo_back_222 : decode b_Mo_back 222 = .ok (.aload_n 0, 1) := by decide +kernel
theorem xd_Mo_back_223 : decode b_Mo_back 223 = .ok (.getfield 202, 3) := by decide +kernel
theorem xd_Mo_back_226 : decode b_Mo_back 226 = .ok (.bipush 15, 2) := by decide +kernel
theorem xd_Mo_back_228 : decode b_Mo_back 228 = .ok (.iadd, 1) := by decide +kernel
theorem xd_Mo_back_229 : decode b_Mo_back 229 = .ok (.iaload, 1) := by decide +kernel
theorem xd_Mo_back_230 : decode b_Mo_back 230 = .ok (.putfield 26, 3) := by decide +kernel
theorem xd_Mo_back_233 : decode b_Mo_back 233 = .ok (.aload_n 0, 1) := by decide +kernel
theorem xd_Mo_back_234 : decode b_Mo_back 234 = .ok (.aload_n 0, 1) := by decide +kernel
theorem xd_Mo_back_235 : decode b_Mo_back 235 = .ok (.getfield 79, 3) := by decide +kernel
theorem xd_Mo_back_238 : decode b_Mo_back 238 = .ok (.aload_n 0, 1) := by decide +kernel
theorem xd_Mo_back_239 : decode b_Mo_back 239 = .ok (.getfield 202, 3) := by decide +kernel
theorem xd_Mo_back_242 : decode b_Mo_back 242 = .ok (.bipush 16, 2) := by decide +kernel
theorem xd_Mo_back_244 : decode b_Mo_back 244 = .ok (.iadd, 1) := by decide +kernel
theorem xd_Mo_back_245 : decode b_Mo_back 245 = .ok (.iaload, 1) := by decide +kernel
theorem xd_Mo_back_246 : decode b_Mo_back 246 = .ok (.putfield 29, 3) := by decide +kernel
theorem xd_Mo_back_249 : decode b_Mo_back 249 = .ok (.aload_n 0, 1) := by decide +kernel
theorem xd_Mo_back_250 : decode b_Mo_back 250 = .ok (.iconst 0, 1) := by decide +kernel
theorem xd_Mo_back_251 : decode b_Mo_back 251 = .ok (.invokevirtual 89, 3) := by decide +kernel
theorem xd_Mo_back_254 : decode b_Mo_back 254 = .ok (.ireturn, 1) := by decide +kernel
abbrev rm_Mo_back : Room := { frames := 1, cells := 0, slots := 0, locals := 23 }
def xw_Mo_back_131 (post : Int32 → xM → Prop) (k169 : Int32 → xM → Prop) : Nat → Int32 → xM → Prop
  | 0, _, _ => False
  | n131 + 1, x2, M => (((12 : Int32) ≤ x2) → (k169 x2 M)) ∧ ((¬ (12 : Int32) ≤ x2) → ((vp_in ((M 9 0 29) + x2) 600) ∧ (((¬ (M 9 20 ((M 9 0 29) + x2).toNatClampNeg) = (1 : Int32)) → ((vp_in x2 12) ∧ (xw_Mo_back_131 post k169 n131 (x2 + (1 : Int32)) (us M 9 7 x2.toNatClampNeg (0 : Int32))))) ∧ (((M 9 20 ((M 9 0 29) + x2).toNatClampNeg) = (1 : Int32)) → ((vp_in x2 12) ∧ (xw_Mo_back_131 post k169 n131 (x2 + (1 : Int32)) (us M 9 7 x2.toNatClampNeg (1 : Int32))))))))
def xw_Mo_back (a1 : Int32) (M : xM) (post : Int32 → xM → Prop) : Prop :=
  xw_Mo_in a1 (0 : Int32) (2 : Int32) M (fun (r2 : Int32) (M1 : xM) => ((¬ r2 = 0) → ((vp_in a1 3) ∧ (((¬ (M1 9 19 a1.toNatClampNeg) = 0) → (xw_Mo_brings 9 6 12 (12 : Int32) (us M1 9 0 29 ((200 : Int32) * a1)) (fun (M3 : xM) => xw_Mo_brings 9 8 12 (12 : Int32) M3 (fun (M4 : xM) => xw_Mo_brings 9 9 8 (8 : Int32) M4 (fun (M5 : xM) => xw_Mo_brings 9 10 8 (8 : Int32) M5 (fun (M6 : xM) => xw_Mo_brings 9 11 20 (20 : Int32) M6 (fun (M7 : xM) => xw_Mo_brings 9 12 20 (20 : Int32) M7 (fun (M8 : xM) => xw_Mo_brings 9 13 20 (20 : Int32) M8 (fun (M9 : xM) => xw_Mo_brings 9 4 27 (27 : Int32) M9 (fun (M10 : xM) => xw_Mo_brings 9 5 3 (3 : Int32) M10 (fun (M11 : xM) => ∃ n131 : Nat, xw_Mo_back_131 post (fun (y12 : Int32) (M13 : xM) => (vp_in ((M13 9 0 29) + (12 : Int32)) 600) ∧ ((vp_in (((us M13 9 0 9 (M13 9 20 ((M13 9 0 29) + (12 : Int32)).toNatClampNeg)) 9 0 29) + (13 : Int32)) 600) ∧ ((vp_in (((us (us M13 9 0 9 (M13 9 20 ((M13 9 0 29) + (12 : Int32)).toNatClampNeg)) 9 0 10 ((us M13 9 0 9 (M13 9 20 ((M13 9 0 29) + (12 : Int32)).toNatClampNeg)) 9 20 (((us M13 9 0 9 (M13 9 20 ((M13 9 0 29) + (12 : Int32)).toNatClampNeg)) 9 0 29) + (13 : Int32)).toNatClampNeg)) 9 0 29) + (14 : Int32)) 600) ∧ ((vp_in (((us (us (us M13 9 0 9 (M13 9 20 ((M13 9 0 29) + (12 : Int32)).toNatClampNeg)) 9 0 10 ((us M13 9 0 9 (M13 9 20 ((M13 9 0 29) + (12 : Int32)).toNatClampNeg)) 9 20 (((us M13 9 0 9 (M13 9 20 ((M13 9 0 29) + (12 : Int32)).toNatClampNeg)) 9 0 29) + (13 : Int32)).toNatClampNeg)) 9 0 5 ((us (us M13 9 0 9 (M13 9 20 ((M13 9 0 29) + (12 : Int32)).toNatClampNeg)) 9 0 10 ((us M13 9 0 9 (M13 9 20 ((M13 9 0 29) + (12 : Int32)).toNatClampNeg)) 9 20 (((us M13 9 0 9 (M13 9 20 ((M13 9 0 29) + (12 : Int32)).toNatClampNeg)) 9 0 29) + (13 : Int32)).toNatClampNeg)) 9 20 (((us (us M13 9 0 9 (M13 9 20 ((M13 9 0 29) + (12 : Int32)).toNatClampNeg)) 9 0 10 ((us M13 9 0 9 (M13 9 20 ((M13 9 0 29) + (12 : Int32)).toNatClampNeg)) 9 20 (((us M13 9 0 9 (M13 9 20 ((M13 9 0 29) + (12 : Int32)).toNatClampNeg)) 9 0 29) + (13 : Int32)).toNatClampNeg)) 9 0 29) + (14 : Int32)).toNatClampNeg)) 9 0 29) + (15 : Int32)) 600) ∧ ((vp_in (((us (us (us (us M13 9 0 9 (M13 9 20 ((M13 9 0 29) + (12 : Int32)).toNatClampNeg)) 9 0 10 ((us M13 9 0 9 (M13 9 20 ((M13 9 0 29) + (12 : Int32)).toNatClampNeg)) 9 20 (((us M13 9 0 9 (M13 9 20 ((M13 9 0 29) + (12 : Int32)).toNatClampNeg)) 9 0 29) + (13 : Int32)).toNatClampNeg)) 9 0 5 ((us (us M13 9 0 9 (M13 9 20 ((M13 9 0 29) + (12 : Int32)).toNatClampNeg)) 9 0 10 ((us M13 9 0 9 (M13 9 20 ((M13 9 0 29) + (12 : Int32)).toNatClampNeg)) 9 20 (((us M13 9 0 9 (M13 9 20 ((M13 9 0 29) + (12 : Int32)).toNatClampNeg)) 9 0 29) + (13 : Int32)).toNatClampNeg)) 9 20 (((us (us M13 9 0 9 (M13 9 20 ((M13 9 0 29) + (12 : Int32)).toNatClampNeg)) 9 0 10 ((us M13 9 0 9 (M13 9 20 ((M13 9 0 29) + (12 : Int32)).toNatClampNeg)) 9 20 (((us M13 9 0 9 (M13 9 20 ((M13 9 0 29) + (12 : Int32)).toNatClampNeg)) 9 0 29) + (13 : Int32)).toNatClampNeg)) 9 0 29) + (14 : Int32)).toNatClampNeg)) 9 0 6 ((us (us (us M13 9 0 9 (M13 9 20 ((M13 9 0 29) + (12 : Int32)).toNatClampNeg)) 9 0 10 ((us M13 9 0 9 (M13 9 20 ((M13 9 0 29) + (12 : Int32)).toNatClampNeg)) 9 20 (((us M13 9 0 9 (M13 9 20 ((M13 9 0 29) + (12 : Int32)).toNatClampNeg)) 9 0 29) + (13 : Int32)).toNatClampNeg)) 9 0 5 ((us (us M13 9 0 9 (M13 9 20 ((M13 9 0 29) + (12 : Int32)).toNatClampNeg)) 9 0 10 ((us M13 9 0 9 (M13 9 20 ((M13 9 0 29) + (12 : Int32)).toNatClampNeg)) 9 20 (((us M13 9 0 9 (M13 9 20 ((M13 9 0 29) + (12 : Int32)).toNatClampNeg)) 9 0 29) + (13 : Int32)).toNatClampNeg)) 9 20 (((us (us M13 9 0 9 (M13 9 20 ((M13 9 0 29) + (12 : Int32)).toNatClampNeg)) 9 0 10 ((us M13 9 0 9 (M13 9 20 ((M13 9 0 29) + (12 : Int32)).toNatClampNeg)) 9 20 (((us M13 9 0 9 (M13 9 20 ((M13 9 0 29) + (12 : Int32)).toNatClampNeg)) 9 0 29) + (13 : Int32)).toNatClampNeg)) 9 0 29) + (14 : Int32)).toNatClampNeg)) 9 20 (((us (us (us M13 9 0 9 (M13 9 20 ((M13 9 0 29) + (12 : Int32)).toNatClampNeg)) 9 0 10 ((us M13 9 0 9 (M13 9 20 ((M13 9 0 29) + (12 : Int32)).toNatClampNeg)) 9 20 (((us M13 9 0 9 (M13 9 20 ((M13 9 0 29) + (12 : Int32)).toNatClampNeg)) 9 0 29) + (13 : Int32)).toNatClampNeg)) 9 0 5 ((us (us M13 9 0 9 (M13 9 20 ((M13 9 0 29) + (12 : Int32)).toNatClampNeg)) 9 0 10 ((us M13 9 0 9 (M13 9 20 ((M13 9 0 29) + (12 : Int32)).toNatClampNeg)) 9 20 (((us M13 9 0 9 (M13 9 20 ((M13 9 0 29) + (12 : Int32)).toNatClampNeg)) 9 0 29) + (13 : Int32)).toNatClampNeg)) 9 20 (((us (us M13 9 0 9 (M13 9 20 ((M13 9 0 29) + (12 : Int32)).toNatClampNeg)) 9 0 10 ((us M13 9 0 9 (M13 9 20 ((M13 9 0 29) + (12 : Int32)).toNatClampNeg)) 9 20 (((us M13 9 0 9 (M13 9 20 ((M13 9 0 29) + (12 : Int32)).toNatClampNeg)) 9 0 29) + (13 : Int32)).toNatClampNeg)) 9 0 29) + (14 : Int32)).toNatClampNeg)) 9 0 29) + (15 : Int32)).toNatClampNeg)) 9 0 29) + (16 : Int32)) 600) ∧ (xw_Mo_ends (0 : Int32) (us (us (us (us (us M13 9 0 9 (M13 9 20 ((M13 9 0 29) + (12 : Int32)).toNatClampNeg)) 9 0 10 ((us M13 9 0 9 (M13 9 20 ((M13 9 0 29) + (12 : Int32)).toNatClampNeg)) 9 20 (((us M13 9 0 9 (M13 9 20 ((M13 9 0 29) + (12 : Int32)).toNatClampNeg)) 9 0 29) + (13 : Int32)).toNatClampNeg)) 9 0 5 ((us (us M13 9 0 9 (M13 9 20 ((M13 9 0 29) + (12 : Int32)).toNatClampNeg)) 9 0 10 ((us M13 9 0 9 (M13 9 20 ((M13 9 0 29) + (12 : Int32)).toNatClampNeg)) 9 20 (((us M13 9 0 9 (M13 9 20 ((M13 9 0 29) + (12 : Int32)).toNatClampNeg)) 9 0 29) + (13 : Int32)).toNatClampNeg)) 9 20 (((us (us M13 9 0 9 (M13 9 20 ((M13 9 0 29) + (12 : Int32)).toNatClampNeg)) 9 0 10 ((us M13 9 0 9 (M13 9 20 ((M13 9 0 29) + (12 : Int32)).toNatClampNeg)) 9 20 (((us M13 9 0 9 (M13 9 20 ((M13 9 0 29) + (12 : Int32)).toNatClampNeg)) 9 0 29) + (13 : Int32)).toNatClampNeg)) 9 0 29) + (14 : Int32)).toNatClampNeg)) 9 0 6 ((us (us (us M13 9 0 9 (M13 9 20 ((M13 9 0 29) + (12 : Int32)).toNatClampNeg)) 9 0 10 ((us M13 9 0 9 (M13 9 20 ((M13 9 0 29) + (12 : Int32)).toNatClampNeg)) 9 20 (((us M13 9 0 9 (M13 9 20 ((M13 9 0 29) + (12 : Int32)).toNatClampNeg)) 9 0 29) + (13 : Int32)).toNatClampNeg)) 9 0 5 ((us (us M13 9 0 9 (M13 9 20 ((M13 9 0 29) + (12 : Int32)).toNatClampNeg)) 9 0 10 ((us M13 9 0 9 (M13 9 20 ((M13 9 0 29) + (12 : Int32)).toNatClampNeg)) 9 20 (((us M13 9 0 9 (M13 9 20 ((M13 9 0 29) + (12 : Int32)).toNatClampNeg)) 9 0 29) + (13 : Int32)).toNatClampNeg)) 9 20 (((us (us M13 9 0 9 (M13 9 20 ((M13 9 0 29) + (12 : Int32)).toNatClampNeg)) 9 0 10 ((us M13 9 0 9 (M13 9 20 ((M13 9 0 29) + (12 : Int32)).toNatClampNeg)) 9 20 (((us M13 9 0 9 (M13 9 20 ((M13 9 0 29) + (12 : Int32)).toNatClampNeg)) 9 0 29) + (13 : Int32)).toNatClampNeg)) 9 0 29) + (14 : Int32)).toNatClampNeg)) 9 20 (((us (us (us M13 9 0 9 (M13 9 20 ((M13 9 0 29) + (12 : Int32)).toNatClampNeg)) 9 0 10 ((us M13 9 0 9 (M13 9 20 ((M13 9 0 29) + (12 : Int32)).toNatClampNeg)) 9 20 (((us M13 9 0 9 (M13 9 20 ((M13 9 0 29) + (12 : Int32)).toNatClampNeg)) 9 0 29) + (13 : Int32)).toNatClampNeg)) 9 0 5 ((us (us M13 9 0 9 (M13 9 20 ((M13 9 0 29) + (12 : Int32)).toNatClampNeg)) 9 0 10 ((us M13 9 0 9 (M13 9 20 ((M13 9 0 29) + (12 : Int32)).toNatClampNeg)) 9 20 (((us M13 9 0 9 (M13 9 20 ((M13 9 0 29) + (12 : Int32)).toNatClampNeg)) 9 0 29) + (13 : Int32)).toNatClampNeg)) 9 20 (((us (us M13 9 0 9 (M13 9 20 ((M13 9 0 29) + (12 : Int32)).toNatClampNeg)) 9 0 10 ((us M13 9 0 9 (M13 9 20 ((M13 9 0 29) + (12 : Int32)).toNatClampNeg)) 9 20 (((us M13 9 0 9 (M13 9 20 ((M13 9 0 29) + (12 : Int32)).toNatClampNeg)) 9 0 29) + (13 : Int32)).toNatClampNeg)) 9 0 29) + (14 : Int32)).toNatClampNeg)) 9 0 29) + (15 : Int32)).toNatClampNeg)) 9 0 7 ((us (us (us (us M13 9 0 9 (M13 9 20 ((M13 9 0 29) + (12 : Int32)).toNatClampNeg)) 9 0 10 ((us M13 9 0 9 (M13 9 20 ((M13 9 0 29) + (12 : Int32)).toNatClampNeg)) 9 20 (((us M13 9 0 9 (M13 9 20 ((M13 9 0 29) + (12 : Int32)).toNatClampNeg)) 9 0 29) + (13 : Int32)).toNatClampNeg)) 9 0 5 ((us (us M13 9 0 9 (M13 9 20 ((M13 9 0 29) + (12 : Int32)).toNatClampNeg)) 9 0 10 ((us M13 9 0 9 (M13 9 20 ((M13 9 0 29) + (12 : Int32)).toNatClampNeg)) 9 20 (((us M13 9 0 9 (M13 9 20 ((M13 9 0 29) + (12 : Int32)).toNatClampNeg)) 9 0 29) + (13 : Int32)).toNatClampNeg)) 9 20 (((us (us M13 9 0 9 (M13 9 20 ((M13 9 0 29) + (12 : Int32)).toNatClampNeg)) 9 0 10 ((us M13 9 0 9 (M13 9 20 ((M13 9 0 29) + (12 : Int32)).toNatClampNeg)) 9 20 (((us M13 9 0 9 (M13 9 20 ((M13 9 0 29) + (12 : Int32)).toNatClampNeg)) 9 0 29) + (13 : Int32)).toNatClampNeg)) 9 0 29) + (14 : Int32)).toNatClampNeg)) 9 0 6 ((us (us (us M13 9 0 9 (M13 9 20 ((M13 9 0 29) + (12 : Int32)).toNatClampNeg)) 9 0 10 ((us M13 9 0 9 (M13 9 20 ((M13 9 0 29) + (12 : Int32)).toNatClampNeg)) 9 20 (((us M13 9 0 9 (M13 9 20 ((M13 9 0 29) + (12 : Int32)).toNatClampNeg)) 9 0 29) + (13 : Int32)).toNatClampNeg)) 9 0 5 ((us (us M13 9 0 9 (M13 9 20 ((M13 9 0 29) + (12 : Int32)).toNatClampNeg)) 9 0 10 ((us M13 9 0 9 (M13 9 20 ((M13 9 0 29) + (12 : Int32)).toNatClampNeg)) 9 20 (((us M13 9 0 9 (M13 9 20 ((M13 9 0 29) + (12 : Int32)).toNatClampNeg)) 9 0 29) + (13 : Int32)).toNatClampNeg)) 9 20 (((us (us M13 9 0 9 (M13 9 20 ((M13 9 0 29) + (12 : Int32)).toNatClampNeg)) 9 0 10 ((us M13 9 0 9 (M13 9 20 ((M13 9 0 29) + (12 : Int32)).toNatClampNeg)) 9 20 (((us M13 9 0 9 (M13 9 20 ((M13 9 0 29) + (12 : Int32)).toNatClampNeg)) 9 0 29) + (13 : Int32)).toNatClampNeg)) 9 0 29) + (14 : Int32)).toNatClampNeg)) 9 20 (((us (us (us M13 9 0 9 (M13 9 20 ((M13 9 0 29) + (12 : Int32)).toNatClampNeg)) 9 0 10 ((us M13 9 0 9 (M13 9 20 ((M13 9 0 29) + (12 : Int32)).toNatClampNeg)) 9 20 (((us M13 9 0 9 (M13 9 20 ((M13 9 0 29) + (12 : Int32)).toNatClampNeg)) 9 0 29) + (13 : Int32)).toNatClampNeg)) 9 0 5 ((us (us M13 9 0 9 (M13 9 20 ((M13 9 0 29) + (12 : Int32)).toNatClampNeg)) 9 0 10 ((us M13 9 0 9 (M13 9 20 ((M13 9 0 29) + (12 : Int32)).toNatClampNeg)) 9 20 (((us M13 9 0 9 (M13 9 20 ((M13 9 0 29) + (12 : Int32)).toNatClampNeg)) 9 0 29) + (13 : Int32)).toNatClampNeg)) 9 20 (((us (us M13 9 0 9 (M13 9 20 ((M13 9 0 29) + (12 : Int32)).toNatClampNeg)) 9 0 10 ((us M13 9 0 9 (M13 9 20 ((M13 9 0 29) + (12 : Int32)).toNatClampNeg)) 9 20 (((us M13 9 0 9 (M13 9 20 ((M13 9 0 29) + (12 : Int32)).toNatClampNeg)) 9 0 29) + (13 : Int32)).toNatClampNeg)) 9 0 29) + (14 : Int32)).toNatClampNeg)) 9 0 29) + (15 : Int32)).toNatClampNeg)) 9 20 (((us (us (us (us M13 9 0 9 (M13 9 20 ((M13 9 0 29) + (12 : Int32)).toNatClampNeg)) 9 0 10 ((us M13 9 0 9 (M13 9 20 ((M13 9 0 29) + (12 : Int32)).toNatClampNeg)) 9 20 (((us M13 9 0 9 (M13 9 20 ((M13 9 0 29) + (12 : Int32)).toNatClampNeg)) 9 0 29) + (13 : Int32)).toNatClampNeg)) 9 0 5 ((us (us M13 9 0 9 (M13 9 20 ((M13 9 0 29) + (12 : Int32)).toNatClampNeg)) 9 0 10 ((us M13 9 0 9 (M13 9 20 ((M13 9 0 29) + (12 : Int32)).toNatClampNeg)) 9 20 (((us M13 9 0 9 (M13 9 20 ((M13 9 0 29) + (12 : Int32)).toNatClampNeg)) 9 0 29) + (13 : Int32)).toNatClampNeg)) 9 20 (((us (us M13 9 0 9 (M13 9 20 ((M13 9 0 29) + (12 : Int32)).toNatClampNeg)) 9 0 10 ((us M13 9 0 9 (M13 9 20 ((M13 9 0 29) + (12 : Int32)).toNatClampNeg)) 9 20 (((us M13 9 0 9 (M13 9 20 ((M13 9 0 29) + (12 : Int32)).toNatClampNeg)) 9 0 29) + (13 : Int32)).toNatClampNeg)) 9 0 29) + (14 : Int32)).toNatClampNeg)) 9 0 6 ((us (us (us M13 9 0 9 (M13 9 20 ((M13 9 0 29) + (12 : Int32)).toNatClampNeg)) 9 0 10 ((us M13 9 0 9 (M13 9 20 ((M13 9 0 29) + (12 : Int32)).toNatClampNeg)) 9 20 (((us M13 9 0 9 (M13 9 20 ((M13 9 0 29) + (12 : Int32)).toNatClampNeg)) 9 0 29) + (13 : Int32)).toNatClampNeg)) 9 0 5 ((us (us M13 9 0 9 (M13 9 20 ((M13 9 0 29) + (12 : Int32)).toNatClampNeg)) 9 0 10 ((us M13 9 0 9 (M13 9 20 ((M13 9 0 29) + (12 : Int32)).toNatClampNeg)) 9 20 (((us M13 9 0 9 (M13 9 20 ((M13 9 0 29) + (12 : Int32)).toNatClampNeg)) 9 0 29) + (13 : Int32)).toNatClampNeg)) 9 20 (((us (us M13 9 0 9 (M13 9 20 ((M13 9 0 29) + (12 : Int32)).toNatClampNeg)) 9 0 10 ((us M13 9 0 9 (M13 9 20 ((M13 9 0 29) + (12 : Int32)).toNatClampNeg)) 9 20 (((us M13 9 0 9 (M13 9 20 ((M13 9 0 29) + (12 : Int32)).toNatClampNeg)) 9 0 29) + (13 : Int32)).toNatClampNeg)) 9 0 29) + (14 : Int32)).toNatClampNeg)) 9 20 (((us (us (us M13 9 0 9 (M13 9 20 ((M13 9 0 29) + (12 : Int32)).toNatClampNeg)) 9 0 10 ((us M13 9 0 9 (M13 9 20 ((M13 9 0 29) + (12 : Int32)).toNatClampNeg)) 9 20 (((us M13 9 0 9 (M13 9 20 ((M13 9 0 29) + (12 : Int32)).toNatClampNeg)) 9 0 29) + (13 : Int32)).toNatClampNeg)) 9 0 5 ((us (us M13 9 0 9 (M13 9 20 ((M13 9 0 29) + (12 : Int32)).toNatClampNeg)) 9 0 10 ((us M13 9 0 9 (M13 9 20 ((M13 9 0 29) + (12 : Int32)).toNatClampNeg)) 9 20 (((us M13 9 0 9 (M13 9 20 ((M13 9 0 29) + (12 : Int32)).toNatClampNeg)) 9 0 29) + (13 : Int32)).toNatClampNeg)) 9 20 (((us (us M13 9 0 9 (M13 9 20 ((M13 9 0 29) + (12 : Int32)).toNatClampNeg)) 9 0 10 ((us M13 9 0 9 (M13 9 20 ((M13 9 0 29) + (12 : Int32)).toNatClampNeg)) 9 20 (((us M13 9 0 9 (M13 9 20 ((M13 9 0 29) + (12 : Int32)).toNatClampNeg)) 9 0 29) + (13 : Int32)).toNatClampNeg)) 9 0 29) + (14 : Int32)).toNatClampNeg)) 9 0 29) + (15 : Int32)).toNatClampNeg)) 9 0 29) + (16 : Int32)).toNatClampNeg)) (fun (r15 : Int32) (M14 : xM) => post r15 M14))))))) n131 (0 : Int32) M11))))))))))) ∧ (((M1 9 19 a1.toNatClampNeg) = 0) → (xw_Mo_ends (-6 : Int32) M1 (fun (r17 : Int32) (M16 : xM) => post r17 M16)))))) ∧ ((r2 = 0) → (xw_Mo_ends (-1 : Int32) M1 (fun (r19 : Int32) (M18 : xM) => post r19 M18))))
set_option maxHeartbeats 4000000 in
set_option maxRecDepth 100000 in
theorem xt_Mo_back_131 {p : Program} {l : Launch} {e : Env} {s : State} {m : MethodId} {args : Array Value} {below : List Frame} {meth : Method} {c : Code} {G : xG} (hC : xC p s m args c b_Mo_back R_Mo 3 G) (hr : meth.sig.returnType = (some .int)) (hlk : meth.locks = false)  {post : Int32 → xM → Prop} {k169 : Int32 → xM → Prop} (hk169 : ∀ (x2 : Int32) (M : xM) (H : Heap) (locs : List Loc) (ls : Array Slot), k169 x2 M → xRp G M H → va_S (xA G) s.heap H locs → lv_has ls 3 [(0, .ref (G.1 9 0)), (2, .int x2)] → W p l e rm_Mo_back s m args below meth c H locs 0 0 (MQ below (xPi G post) args s 0 0 (xA G)) (F0 m 169 ls [])) : ∀ (n : Nat) (x2 : Int32) (M : xM) (H : Heap) (locs : List Loc) (ls : Array Slot), xw_Mo_back_131 post k169 n x2 M → xRp G M H → va_S (xA G) s.heap H locs → lv_has ls 3 [(0, .ref (G.1 9 0)), (2, .int x2)] → W p l e rm_Mo_back s m args below meth c H locs 0 0 (MQ below (xPi G post) args s 0 0 (xA G)) (F0 m 131 ls []) := by
  have hx := hC.1
  have hb := hC.2.1
  intro n
  induction n with
  | zero => intro x2 M H locs ls; exact fun h => h.elim
  | succ n ih =>
    intro x2 M H locs ls h hR hS hl
    refine lv_iload_n (pc := 131) hx hb xd_Mo_back_131 rfl (lv_at hl 1 rfl) ?_
    refine lv_bipush (pc := 132) (v := (12 : Int32)) hx hb xd_Mo_back_132 (by decide) ?_
    refine lv_icmp_ge (pc := 134) (tgt := 169) hx hb xd_Mo_back_134 (by decide) (fun hq => ?_) (fun hq => ?_)
    · have h := h.1 hq
      exact hk169 x2 M H locs ls h hR hS (lv_sub hl [0, 1] rfl)
    · have h := h.2 hq
      refine lv_aload_n (pc := 137) hx hb xd_Mo_back_137 rfl (lv_at hl 0 rfl) ?_
      refine xr_get (pc := 138) (v := .ref (G.1 9 7)) hC hR xo_M0 xf_Mo_38 rfl xd_Mo_back_138 ?_
      refine lv_iload_n (pc := 141) hx hb xd_Mo_back_141 rfl (lv_at hl 1 rfl) ?_
      refine lv_aload_n (pc := 142) hx hb xd_Mo_back_142 rfl (lv_at hl 0 rfl) ?_
      refine xr_get (pc := 143) (v := .ref (G.1 9 20)) hC hR xo_M0 xf_Mo_79 rfl xd_Mo_back_143 ?_
      refine lv_aload_n (pc := 146) hx hb xd_Mo_back_146 rfl (lv_at hl 0 rfl) ?_
      refine xr_get (pc := 147) (v := .int (M 9 0 29)) hC hR xo_M0 xf_Mo_202 rfl xd_Mo_back_147 ?_
      refine lv_iload_n (pc := 150) hx hb xd_Mo_back_150 rfl (lv_at hl 1 rfl) ?_
      refine lv_iadd (pc := 151) hx hb xd_Mo_back_151 ?_
      obtain ⟨hq, h⟩ := h
      refine xr_iald (pc := 152) hC hR xo_M20 hq xd_Mo_back_152 ?_
      refine lv_iconst (pc := 153) (v := (1 : Int32)) hx hb xd_Mo_back_153 (by decide) ?_
      refine lv_icmp_ne (pc := 154) (tgt := 161) hx hb xd_Mo_back_154 (by decide) (fun hq => ?_) (fun hq => ?_)
      · have h := h.1 hq
        refine lv_iconst (pc := 161) (v := (0 : Int32)) hx hb xd_Mo_back_161 (by decide) ?_
        obtain ⟨hq, h⟩ := h
        refine xr_zast (pc := 162) hC hR hS xo_M7 hq (by decide) xd_Mo_back_162 (fun H locs hR hS => ?_)
        refine lv_iinc (pc := 163) (v := (x2 + (1 : Int32))) (lv' := [(2, .int (x2 + (1 : Int32))), (0, .ref (G.1 9 0))]) hx hb xd_Mo_back_163 hl (k := 1) rfl rfl (by decide) rfl (fun ls hl => ?_)
        refine lv_goto (pc := 166) (tgt := 131) hx hb xd_Mo_back_166 (by decide) ?_
        exact ih (x2 + (1 : Int32)) (us M 9 7 x2.toNatClampNeg (0 : Int32)) H locs ls h hR hS (lv_sub hl [1, 0] rfl)
      · have h := h.2 hq
        refine lv_iconst (pc := 157) (v := (1 : Int32)) hx hb xd_Mo_back_157 (by decide) ?_
        refine lv_goto (pc := 158) (tgt := 162) hx hb xd_Mo_back_158 (by decide) ?_
        obtain ⟨hq, h⟩ := h
        refine xr_zast (pc := 162) hC hR hS xo_M7 hq (by decide) xd_Mo_back_162 (fun H locs hR hS => ?_)
        refine lv_iinc (pc := 163) (v := (x2 + (1 : Int32))) (lv' := [(2, .int (x2 + (1 : Int32))), (0, .ref (G.1 9 0))]) hx hb xd_Mo_back_163 hl (k := 1) rfl rfl (by decide) rfl (fun ls hl => ?_)
        refine lv_goto (pc := 166) (tgt := 131) hx hb xd_Mo_back_166 (by decide) ?_
        exact ih (x2 + (1 : Int32)) (us M 9 7 x2.toNatClampNeg (1 : Int32)) H locs ls h hR hS (lv_sub hl [1, 0] rfl)
set_option maxHeartbeats 4000000 in
set_option maxRecDepth 100000 in
theorem xc_Mo_back (l : Launch) (G : xG) {a1 : Int32}  {M : xM} {post : Int32 → xM → Prop} (h : xw_Mo_back a1 M post) : Met l y_Mo_back (Cond.code y_Mo_back b_Mo_back 3 (some .int) :: xTG) rm_Mo_back (xPre G M [.ref (G.1 9 0), .int a1]) (xPi G post) 0 0 (xA G) := by
  refine xMet (own := R_Mo) [.ref (G.1 9 0), .int a1] (Or.inl (by decide)) rfl (Nat.le_of_ble_eq_true rfl) (fun p e s m args below meth c ls hC hr hlk hR hS hl => ?_)
  have hx := hC.1
  have hb := hC.2.1
  have hl : lv_has ls 3 [(0, .ref (G.1 9 0)), (1, .int a1)] := hl
  obtain ⟨H, eH⟩ : ∃ H : Heap, H = s.heap := ⟨_, rfl⟩
  obtain ⟨locs, eL⟩ : ∃ locs : List Loc, locs = [] := ⟨_, rfl⟩
  rw [← eH] at hR
  replace hS : va_S (xA G) s.heap H locs := by rw [eH, eL]; exact hS
  suffices hh : W p l e rm_Mo_back s m args below meth c H locs 0 0 (MQ below (xPi G post) args s 0 0 (xA G)) (F0 m 0 ls []) from by rw [eH, eL] at hh; exact hh
  unfold xw_Mo_back at h
  refine lv_iload_n (pc := 0) hx hb xd_Mo_back_0 rfl (lv_at hl 1 rfl) ?_
  refine lv_iconst (pc := 1) (v := (0 : Int32)) hx hb xd_Mo_back_1 (by decide) ?_
  refine lv_iconst (pc := 2) (v := (2 : Int32)) hx hb xd_Mo_back_2 (by decide) ?_
  refine xr_callS (pc := 3) (As := [.int a1, .int (0 : Int32), .int (2 : Int32)]) (rest := []) hC hR hS (xc_Mo_in l G  h) xv_Mo_85 ⟨rfl, rfl, Nat.le_of_ble_eq_true rfl, Nat.le_of_ble_eq_true rfl⟩ rfl hl.1 rfl (Nat.le_of_ble_eq_true rfl) xd_Mo_back_3 (fun r2 M1 H locs h hR hS => ?_)
  refine lv_if_ne (pc := 6) (tgt := 15) hx hb xd_Mo_back_6 (by decide) (fun hq => ?_) (fun hq => ?_)
  · have h := h.1 hq
    refine lv_aload_n (pc := 15) hx hb xd_Mo_back_15 rfl (lv_at hl 0 rfl) ?_
    refine xr_get (pc := 16) (v := .ref (G.1 9 19)) hC hR xo_M0 xf_Mo_76 rfl xd_Mo_back_16 ?_
    refine lv_iload_n (pc := 19) hx hb xd_Mo_back_19 rfl (lv_at hl 1 rfl) ?_
    obtain ⟨hq, h⟩ := h
    refine xr_zald (pc := 20) hC hR xo_M19 hq xd_Mo_back_20 ?_
    refine lv_if_ne (pc := 21) (tgt := 31) hx hb xd_Mo_back_21 (by decide) (fun hq => ?_) (fun hq => ?_)
    · have h := h.1 hq
      refine lv_aload_n (pc := 31) hx hb xd_Mo_back_31 rfl (lv_at hl 0 rfl) ?_
      refine lv_sipush (pc := 32) (v := (200 : Int32)) hx hb xd_Mo_back_32 (by decide) ?_
      refine lv_iload_n (pc := 35) hx hb xd_Mo_back_35 rfl (lv_at hl 1 rfl) ?_
      refine lv_imul (pc := 36) hx hb xd_Mo_back_36 ?_
      refine xr_put (pc := 37) hC hR hS xo_M0 xf_Mo_202 xp_10_29 rfl rfl rfl xd_Mo_back_37 (fun H locs hR hS => ?_)
      refine lv_aload_n (pc := 40) hx hb xd_Mo_back_40 rfl (lv_at hl 0 rfl) ?_
      refine lv_aload_n (pc := 41) hx hb xd_Mo_back_41 rfl (lv_at hl 0 rfl) ?_
      refine xr_get (pc := 42) (v := .ref (G.1 9 6)) hC hR xo_M0 xf_Mo_35 rfl xd_Mo_back_42 ?_
      refine lv_bipush (pc := 45) (v := (12 : Int32)) hx hb xd_Mo_back_45 (by decide) ?_
      refine xr_callVv (pc := 47) (As := [.ref (G.1 9 6), .int (12 : Int32)]) (rest := []) hC hR hS (xc_Mo_brings l G xo_M6 h) xo_M0 xv_Mo_209 ⟨rfl, rfl, Nat.le_of_ble_eq_true rfl, Nat.le_of_ble_eq_true rfl⟩ rfl hl.1 rfl (Nat.le_of_ble_eq_true rfl) xd_Mo_back_47 (fun M3 H locs h hR hS => ?_)
      refine lv_aload_n (pc := 50) hx hb xd_Mo_back_50 rfl (lv_at hl 0 rfl) ?_
      refine lv_aload_n (pc := 51) hx hb xd_Mo_back_51 rfl (lv_at hl 0 rfl) ?_
      refine xr_get (pc := 52) (v := .ref (G.1 9 8)) hC hR xo_M0 xf_Mo_42 rfl xd_Mo_back_52 ?_
      refine lv_bipush (pc := 55) (v := (12 : Int32)) hx hb xd_Mo_back_55 (by decide) ?_
      refine xr_callVv (pc := 57) (As := [.ref (G.1 9 8), .int (12 : Int32)]) (rest := []) hC hR hS (xc_Mo_brings l G xo_M8 h) xo_M0 xv_Mo_209 ⟨rfl, rfl, Nat.le_of_ble_eq_true rfl, Nat.le_of_ble_eq_true rfl⟩ rfl hl.1 rfl (Nat.le_of_ble_eq_true rfl) xd_Mo_back_57 (fun M4 H locs h hR hS => ?_)
      refine lv_aload_n (pc := 60) hx hb xd_Mo_back_60 rfl (lv_at hl 0 rfl) ?_
      refine lv_aload_n (pc := 61) hx hb xd_Mo_back_61 rfl (lv_at hl 0 rfl) ?_
      refine xr_get (pc := 62) (v := .ref (G.1 9 9)) hC hR xo_M0 xf_Mo_45 rfl xd_Mo_back_62 ?_
      refine lv_bipush (pc := 65) (v := (8 : Int32)) hx hb xd_Mo_back_65 (by decide) ?_
      refine xr_callVv (pc := 67) (As := [.ref (G.1 9 9), .int (8 : Int32)]) (rest := []) hC hR hS (xc_Mo_brings l G xo_M9 h) xo_M0 xv_Mo_209 ⟨rfl, rfl, Nat.le_of_ble_eq_true rfl, Nat.le_of_ble_eq_true rfl⟩ rfl hl.1 rfl (Nat.le_of_ble_eq_true rfl) xd_Mo_back_67 (fun M5 H locs h hR hS => ?_)
      refine lv_aload_n (pc := 70) hx hb xd_Mo_back_70 rfl (lv_at hl 0 rfl) ?_
      refine lv_aload_n (pc := 71) hx hb xd_Mo_back_71 rfl (lv_at hl 0 rfl) ?_
      refine xr_get (pc := 72) (v := .ref (G.1 9 10)) hC hR xo_M0 xf_Mo_49 rfl xd_Mo_back_72 ?_
      refine lv_bipush (pc := 75) (v := (8 : Int32)) hx hb xd_Mo_back_75 (by decide) ?_
      refine xr_callVv (pc := 77) (As := [.ref (G.1 9 10), .int (8 : Int32)]) (rest := []) hC hR hS (xc_Mo_brings l G xo_M10 h) xo_M0 xv_Mo_209 ⟨rfl, rfl, Nat.le_of_ble_eq_true rfl, Nat.le_of_ble_eq_true rfl⟩ rfl hl.1 rfl (Nat.le_of_ble_eq_true rfl) xd_Mo_back_77 (fun M6 H locs h hR hS => ?_)
      refine lv_aload_n (pc := 80) hx hb xd_Mo_back_80 rfl (lv_at hl 0 rfl) ?_
      refine lv_aload_n (pc := 81) hx hb xd_Mo_back_81 rfl (lv_at hl 0 rfl) ?_
      refine xr_get (pc := 82) (v := .ref (G.1 9 11)) hC hR xo_M0 xf_Mo_52 rfl xd_Mo_back_82 ?_
      refine lv_bipush (pc := 85) (v := (20 : Int32)) hx hb xd_Mo_back_85 (by decide) ?_
      refine xr_callVv (pc := 87) (As := [.ref (G.1 9 11), .int (20 : Int32)]) (rest := []) hC hR hS (xc_Mo_brings l G xo_M11 h) xo_M0 xv_Mo_209 ⟨rfl, rfl, Nat.le_of_ble_eq_true rfl, Nat.le_of_ble_eq_true rfl⟩ rfl hl.1 rfl (Nat.le_of_ble_eq_true rfl) xd_Mo_back_87 (fun M7 H locs h hR hS => ?_)
      refine lv_aload_n (pc := 90) hx hb xd_Mo_back_90 rfl (lv_at hl 0 rfl) ?_
      refine lv_aload_n (pc := 91) hx hb xd_Mo_back_91 rfl (lv_at hl 0 rfl) ?_
      refine xr_get (pc := 92) (v := .ref (G.1 9 12)) hC hR xo_M0 xf_Mo_55 rfl xd_Mo_back_92 ?_
      refine lv_bipush (pc := 95) (v := (20 : Int32)) hx hb xd_Mo_back_95 (by decide) ?_
      refine xr_callVv (pc := 97) (As := [.ref (G.1 9 12), .int (20 : Int32)]) (rest := []) hC hR hS (xc_Mo_brings l G xo_M12 h) xo_M0 xv_Mo_209 ⟨rfl, rfl, Nat.le_of_ble_eq_true rfl, Nat.le_of_ble_eq_true rfl⟩ rfl hl.1 rfl (Nat.le_of_ble_eq_true rfl) xd_Mo_back_97 (fun M8 H locs h hR hS => ?_)
      refine lv_aload_n (pc := 100) hx hb xd_Mo_back_100 rfl (lv_at hl 0 rfl) ?_
      refine lv_aload_n (pc := 101) hx hb xd_Mo_back_101 rfl (lv_at hl 0 rfl) ?_
      refine xr_get (pc := 102) (v := .ref (G.1 9 13)) hC hR xo_M0 xf_Mo_58 rfl xd_Mo_back_102 ?_
      refine lv_bipush (pc := 105) (v := (20 : Int32)) hx hb xd_Mo_back_105 (by decide) ?_
      refine xr_callVv (pc := 107) (As := [.ref (G.1 9 13), .int (20 : Int32)]) (rest := []) hC hR hS (xc_Mo_brings l G xo_M13 h) xo_M0 xv_Mo_209 ⟨rfl, rfl, Nat.le_of_ble_eq_true rfl, Nat.le_of_ble_eq_true rfl⟩ rfl hl.1 rfl (Nat.le_of_ble_eq_true rfl) xd_Mo_back_107 (fun M9 H locs h hR hS => ?_)
      refine lv_aload_n (pc := 110) hx hb xd_Mo_back_110 rfl (lv_at hl 0 rfl) ?_
      refine lv_aload_n (pc := 111) hx hb xd_Mo_back_111 rfl (lv_at hl 0 rfl) ?_
      refine xr_get (pc := 112) (v := .ref (G.1 9 4)) hC hR xo_M0 xf_Mo_19 rfl xd_Mo_back_112 ?_
      refine lv_bipush (pc := 115) (v := (27 : Int32)) hx hb xd_Mo_back_115 (by decide) ?_
      refine xr_callVv (pc := 117) (As := [.ref (G.1 9 4), .int (27 : Int32)]) (rest := []) hC hR hS (xc_Mo_brings l G xo_M4 h) xo_M0 xv_Mo_209 ⟨rfl, rfl, Nat.le_of_ble_eq_true rfl, Nat.le_of_ble_eq_true rfl⟩ rfl hl.1 rfl (Nat.le_of_ble_eq_true rfl) xd_Mo_back_117 (fun M10 H locs h hR hS => ?_)
      refine lv_aload_n (pc := 120) hx hb xd_Mo_back_120 rfl (lv_at hl 0 rfl) ?_
      refine lv_aload_n (pc := 121) hx hb xd_Mo_back_121 rfl (lv_at hl 0 rfl) ?_
      refine xr_get (pc := 122) (v := .ref (G.1 9 5)) hC hR xo_M0 xf_Mo_32 rfl xd_Mo_back_122 ?_
      refine lv_iconst (pc := 125) (v := (3 : Int32)) hx hb xd_Mo_back_125 (by decide) ?_
      refine xr_callVv (pc := 126) (As := [.ref (G.1 9 5), .int (3 : Int32)]) (rest := []) hC hR hS (xc_Mo_brings l G xo_M5 h) xo_M0 xv_Mo_209 ⟨rfl, rfl, Nat.le_of_ble_eq_true rfl, Nat.le_of_ble_eq_true rfl⟩ rfl hl.1 rfl (Nat.le_of_ble_eq_true rfl) xd_Mo_back_126 (fun M11 H locs h hR hS => ?_)
      refine lv_iconst (pc := 129) (v := (0 : Int32)) hx hb xd_Mo_back_129 (by decide) ?_
      refine lv_istore_n (pc := 130) (lv' := [(2, .int (0 : Int32)), (0, .ref (G.1 9 0)), (1, .int a1)]) hx hb xd_Mo_back_130 rfl hl (by decide) rfl (fun ls hl => ?_)
      obtain ⟨n, h⟩ := h
      refine xt_Mo_back_131 hC hr hlk  (fun y12 M13 H locs ls h hR hS hl => ?_) n (0 : Int32) M11 H locs ls h hR hS (lv_sub hl [1, 0] rfl)
      refine lv_aload_n (pc := 169) hx hb xd_Mo_back_169 rfl (lv_at hl 0 rfl) ?_
      refine lv_aload_n (pc := 170) hx hb xd_Mo_back_170 rfl (lv_at hl 0 rfl) ?_
      refine xr_get (pc := 171) (v := .ref (G.1 9 20)) hC hR xo_M0 xf_Mo_79 rfl xd_Mo_back_171 ?_
      refine lv_aload_n (pc := 174) hx hb xd_Mo_back_174 rfl (lv_at hl 0 rfl) ?_
      refine xr_get (pc := 175) (v := .int (M13 9 0 29)) hC hR xo_M0 xf_Mo_202 rfl xd_Mo_back_175 ?_
      refine lv_bipush (pc := 178) (v := (12 : Int32)) hx hb xd_Mo_back_178 (by decide) ?_
      refine lv_iadd (pc := 180) hx hb xd_Mo_back_180 ?_
      obtain ⟨hq, h⟩ := h
      refine xr_iald (pc := 181) hC hR xo_M20 hq xd_Mo_back_181 ?_
      refine xr_put (pc := 182) hC hR hS xo_M0 xf_Mo_145 xp_10_9 rfl rfl rfl xd_Mo_back_182 (fun H locs hR hS => ?_)
      refine lv_aload_n (pc := 185) hx hb xd_Mo_back_185 rfl (lv_at hl 0 rfl) ?_
      refine lv_aload_n (pc := 186) hx hb xd_Mo_back_186 rfl (lv_at hl 0 rfl) ?_
      refine xr_get (pc := 187) (v := .ref (G.1 9 20)) hC hR xo_M0 xf_Mo_79 rfl xd_Mo_back_187 ?_
      refine lv_aload_n (pc := 190) hx hb xd_Mo_back_190 rfl (lv_at hl 0 rfl) ?_
      refine xr_get (pc := 191) (v := .int ((us M13 9 0 9 (M13 9 20 ((M13 9 0 29) + (12 : Int32)).toNatClampNeg)) 9 0 29)) hC hR xo_M0 xf_Mo_202 rfl xd_Mo_back_191 ?_
      refine lv_bipush (pc := 194) (v := (13 : Int32)) hx hb xd_Mo_back_194 (by decide) ?_
      refine lv_iadd (pc := 196) hx hb xd_Mo_back_196 ?_
      obtain ⟨hq, h⟩ := h
      refine xr_iald (pc := 197) hC hR xo_M20 hq xd_Mo_back_197 ?_
      refine xr_put (pc := 198) hC hR hS xo_M0 xf_Mo_158 xp_10_10 rfl rfl rfl xd_Mo_back_198 (fun H locs hR hS => ?_)
      refine lv_aload_n (pc := 201) hx hb xd_Mo_back_201 rfl (lv_at hl 0 rfl) ?_
      refine lv_aload_n (pc := 202) hx hb xd_Mo_back_202 rfl (lv_at hl 0 rfl) ?_
      refine xr_get (pc := 203) (v := .ref (G.1 9 20)) hC hR xo_M0 xf_Mo_79 rfl xd_Mo_back_203 ?_
      refine lv_aload_n (pc := 206) hx hb xd_Mo_back_206 rfl (lv_at hl 0 rfl) ?_
      refine xr_get (pc := 207) (v := .int ((us (us M13 9 0 9 (M13 9 20 ((M13 9 0 29) + (12 : Int32)).toNatClampNeg)) 9 0 10 ((us M13 9 0 9 (M13 9 20 ((M13 9 0 29) + (12 : Int32)).toNatClampNeg)) 9 20 (((us M13 9 0 9 (M13 9 20 ((M13 9 0 29) + (12 : Int32)).toNatClampNeg)) 9 0 29) + (13 : Int32)).toNatClampNeg)) 9 0 29)) hC hR xo_M0 xf_Mo_202 rfl xd_Mo_back_207 ?_
      refine lv_bipush (pc := 210) (v := (14 : Int32)) hx hb xd_Mo_back_210 (by decide) ?_
      refine lv_iadd (pc := 212) hx hb xd_Mo_back_212 ?_
      obtain ⟨hq, h⟩ := h
      refine xr_iald (pc := 213) hC hR xo_M20 hq xd_Mo_back_213 ?_
      refine xr_put (pc := 214) hC hR hS xo_M0 xf_Mo_22 xp_10_5 rfl rfl rfl xd_Mo_back_214 (fun H locs hR hS => ?_)
      refine lv_aload_n (pc := 217) hx hb xd_Mo_back_217 rfl (lv_at hl 0 rfl) ?_
      refine lv_aload_n (pc := 218) hx hb xd_Mo_back_218 rfl (lv_at hl 0 rfl) ?_
      refine xr_get (pc := 219) (v := .ref (G.1 9 20)) hC hR xo_M0 xf_Mo_79 rfl xd_Mo_back_219 ?_
      refine lv_aload_n (pc := 222) hx hb xd_Mo_back_222 rfl (lv_at hl 0 rfl) ?_
      refine xr_get (pc := 223) (v := .int ((us (us (us M13 9 0 9 (M13 9 20 ((M13 9 0 29) + (12 : Int32)).toNatClampNeg)) 9 0 10 ((us M13 9 0 9 (M13 9 20 ((M13 9 0 29) + (12 : Int32)).toNatClampNeg)) 9 20 (((us M13 9 0 9 (M13 9 20 ((M13 9 0 29) + (12 : Int32)).toNatClampNeg)) 9 0 29) + (13 : Int32)).toNatClampNeg)) 9 0 5 ((us (us M13 9 0 9 (M13 9 20 ((M13 9 0 29) + (12 : Int32)).toNatClampNeg)) 9 0 10 ((us M13 9 0 9 (M13 9 20 ((M13 9 0 29) + (12 : Int32)).toNatClampNeg)) 9 20 (((us M13 9 0 9 (M13 9 20 ((M13 9 0 29) + (12 : Int32)).toNatClampNeg)) 9 0 29) + (13 : Int32)).toNatClampNeg)) 9 20 (((us (us M13 9 0 9 (M13 9 20 ((M13 9 0 29) + (12 : Int32)).toNatClampNeg)) 9 0 10 ((us M13 9 0 9 (M13 9 20 ((M13 9 0 29) + (12 : Int32)).toNatClampNeg)) 9 20 (((us M13 9 0 9 (M13 9 20 ((M13 9 0 29) + (12 : Int32)).toNatClampNeg)) 9 0 29) + (13 : Int32)).toNatClampNeg)) 9 0 29) + (14 : Int32)).toNatClampNeg)) 9 0 29)) hC hR xo_M0 xf_Mo_202 rfl xd_Mo_back_223 ?_
      refine lv_bipush (pc := 226) (v := (15 : Int32)) hx hb xd_Mo_back_226 (by decide) ?_
      refine lv_iadd (pc := 228) hx hb xd_Mo_back_228 ?_
      obtain ⟨hq, h⟩ := h
      refine xr_iald (pc := 229) hC hR xo_M20 hq xd_Mo_back_229 ?_
      refine xr_put (pc := 230) hC hR hS xo_M0 xf_Mo_26 xp_10_6 rfl rfl rfl xd_Mo_back_230 (fun H locs hR hS => ?_)
      refine lv_aload_n (pc := 233) hx hb xd_Mo_back_233 rfl (lv_at hl 0 rfl) ?_
      refine lv_aload_n (pc := 234) hx hb xd_Mo_back_234 rfl (lv_at hl 0 rfl) ?_
      refine xr_get (pc := 235) (v := .ref (G.1 9 20)) hC hR xo_M0 xf_Mo_79 rfl xd_Mo_back_235 ?_
      refine lv_aload_n (pc := 238) hx hb xd_Mo_back_238 rfl (lv_at hl 0 rfl) ?_
      refine xr_get (pc := 239) (v := .int ((us (us (us (us M13 9 0 9 (M13 9 20 ((M13 9 0 29) + (12 : Int32)).toNatClampNeg)) 9 0 10 ((us M13 9 0 9 (M13 9 20 ((M13 9 0 29) + (12 : Int32)).toNatClampNeg)) 9 20 (((us M13 9 0 9 (M13 9 20 ((M13 9 0 29) + (12 : Int32)).toNatClampNeg)) 9 0 29) + (13 : Int32)).toNatClampNeg)) 9 0 5 ((us (us M13 9 0 9 (M13 9 20 ((M13 9 0 29) + (12 : Int32)).toNatClampNeg)) 9 0 10 ((us M13 9 0 9 (M13 9 20 ((M13 9 0 29) + (12 : Int32)).toNatClampNeg)) 9 20 (((us M13 9 0 9 (M13 9 20 ((M13 9 0 29) + (12 : Int32)).toNatClampNeg)) 9 0 29) + (13 : Int32)).toNatClampNeg)) 9 20 (((us (us M13 9 0 9 (M13 9 20 ((M13 9 0 29) + (12 : Int32)).toNatClampNeg)) 9 0 10 ((us M13 9 0 9 (M13 9 20 ((M13 9 0 29) + (12 : Int32)).toNatClampNeg)) 9 20 (((us M13 9 0 9 (M13 9 20 ((M13 9 0 29) + (12 : Int32)).toNatClampNeg)) 9 0 29) + (13 : Int32)).toNatClampNeg)) 9 0 29) + (14 : Int32)).toNatClampNeg)) 9 0 6 ((us (us (us M13 9 0 9 (M13 9 20 ((M13 9 0 29) + (12 : Int32)).toNatClampNeg)) 9 0 10 ((us M13 9 0 9 (M13 9 20 ((M13 9 0 29) + (12 : Int32)).toNatClampNeg)) 9 20 (((us M13 9 0 9 (M13 9 20 ((M13 9 0 29) + (12 : Int32)).toNatClampNeg)) 9 0 29) + (13 : Int32)).toNatClampNeg)) 9 0 5 ((us (us M13 9 0 9 (M13 9 20 ((M13 9 0 29) + (12 : Int32)).toNatClampNeg)) 9 0 10 ((us M13 9 0 9 (M13 9 20 ((M13 9 0 29) + (12 : Int32)).toNatClampNeg)) 9 20 (((us M13 9 0 9 (M13 9 20 ((M13 9 0 29) + (12 : Int32)).toNatClampNeg)) 9 0 29) + (13 : Int32)).toNatClampNeg)) 9 20 (((us (us M13 9 0 9 (M13 9 20 ((M13 9 0 29) + (12 : Int32)).toNatClampNeg)) 9 0 10 ((us M13 9 0 9 (M13 9 20 ((M13 9 0 29) + (12 : Int32)).toNatClampNeg)) 9 20 (((us M13 9 0 9 (M13 9 20 ((M13 9 0 29) + (12 : Int32)).toNatClampNeg)) 9 0 29) + (13 : Int32)).toNatClampNeg)) 9 0 29) + (14 : Int32)).toNatClampNeg)) 9 20 (((us (us (us M13 9 0 9 (M13 9 20 ((M13 9 0 29) + (12 : Int32)).toNatClampNeg)) 9 0 10 ((us M13 9 0 9 (M13 9 20 ((M13 9 0 29) + (12 : Int32)).toNatClampNeg)) 9 20 (((us M13 9 0 9 (M13 9 20 ((M13 9 0 29) + (12 : Int32)).toNatClampNeg)) 9 0 29) + (13 : Int32)).toNatClampNeg)) 9 0 5 ((us (us M13 9 0 9 (M13 9 20 ((M13 9 0 29) + (12 : Int32)).toNatClampNeg)) 9 0 10 ((us M13 9 0 9 (M13 9 20 ((M13 9 0 29) + (12 : Int32)).toNatClampNeg)) 9 20 (((us M13 9 0 9 (M13 9 20 ((M13 9 0 29) + (12 : Int32)).toNatClampNeg)) 9 0 29) + (13 : Int32)).toNatClampNeg)) 9 20 (((us (us M13 9 0 9 (M13 9 20 ((M13 9 0 29) + (12 : Int32)).toNatClampNeg)) 9 0 10 ((us M13 9 0 9 (M13 9 20 ((M13 9 0 29) + (12 : Int32)).toNatClampNeg)) 9 20 (((us M13 9 0 9 (M13 9 20 ((M13 9 0 29) + (12 : Int32)).toNatClampNeg)) 9 0 29) + (13 : Int32)).toNatClampNeg)) 9 0 29) + (14 : Int32)).toNatClampNeg)) 9 0 29) + (15 : Int32)).toNatClampNeg)) 9 0 29)) hC hR xo_M0 xf_Mo_202 rfl xd_Mo_back_239 ?_
      refine lv_bipush (pc := 242) (v := (16 : Int32)) hx hb xd_Mo_back_242 (by decide) ?_
      refine lv_iadd (pc := 244) hx hb xd_Mo_back_244 ?_
      obtain ⟨hq, h⟩ := h
      refine xr_iald (pc := 245) hC hR xo_M20 hq xd_Mo_back_245 ?_
      refine xr_put (pc := 246) hC hR hS xo_M0 xf_Mo_29 xp_10_7 rfl rfl rfl xd_Mo_back_246 (fun H locs hR hS => ?_)
      refine lv_aload_n (pc := 249) hx hb xd_Mo_back_249 rfl (lv_at hl 0 rfl) ?_
      refine lv_iconst (pc := 250) (v := (0 : Int32)) hx hb xd_Mo_back_250 (by decide) ?_
      refine xr_callV (pc := 251) (As := [.int (0 : Int32)]) (rest := []) hC hR hS (xc_Mo_ends l G  h) xo_M0 xv_Mo_89 ⟨rfl, rfl, Nat.le_of_ble_eq_true rfl, Nat.le_of_ble_eq_true rfl⟩ rfl hl.1 rfl (Nat.le_of_ble_eq_true rfl) xd_Mo_back_251 (fun r15 M14 H locs h hR hS => ?_)
      exact xr_iret hC hr hlk hR hS h xd_Mo_back_254
    · have h := h.2 hq
      refine lv_aload_n (pc := 24) hx hb xd_Mo_back_24 rfl (lv_at hl 0 rfl) ?_
      refine lv_bipush (pc := 25) (v := (-6 : Int32)) hx hb xd_Mo_back_25 (by decide) ?_
      refine xr_callV (pc := 27) (As := [.int (-6 : Int32)]) (rest := []) hC hR hS (xc_Mo_ends l G  h) xo_M0 xv_Mo_89 ⟨rfl, rfl, Nat.le_of_ble_eq_true rfl, Nat.le_of_ble_eq_true rfl⟩ rfl hl.1 rfl (Nat.le_of_ble_eq_true rfl) xd_Mo_back_27 (fun r17 M16 H locs h hR hS => ?_)
      exact xr_iret hC hr hlk hR hS h xd_Mo_back_30
  · have h := h.2 hq
    refine lv_aload_n (pc := 9) hx hb xd_Mo_back_9 rfl (lv_at hl 0 rfl) ?_
    refine lv_iconst (pc := 10) (v := (-1 : Int32)) hx hb xd_Mo_back_10 (by decide) ?_
    refine xr_callV (pc := 11) (As := [.int (-1 : Int32)]) (rest := []) hC hR hS (xc_Mo_ends l G  h) xo_M0 xv_Mo_89 ⟨rfl, rfl, Nat.le_of_ble_eq_true rfl, Nat.le_of_ble_eq_true rfl⟩ rfl hl.1 rfl (Nat.le_of_ble_eq_true rfl) xd_Mo_back_11 (fun r19 M18 H locs h hR hS => ?_)
    exact xr_iret hC hr hlk hR hS h xd_Mo_back_14

/-! ColoursApartModel.count(I)I -/
theorem xd_Mo_count_0 : decode b_Mo_count 0 = .ok (.iconst 0, 1) := by decide +kernel
theorem xd_Mo_count_1 : decode b_Mo_count 1 = .ok (.istore_n 2, 1) := by decide +kernel
theorem xd_Mo_count_2 : decode b_Mo_count 2 = .ok (.iload_n 1, 1) := by decide +kernel
theorem xd_Mo_count_3 : decode b_Mo_count 3 = .ok (.tableswitch 116 0 4 #[33, 38, 73, 78, 111], 33) := by decide +kernel
theorem xd_Mo_count_36 : decode b_Mo_count 36 = .ok (.aload_n 0, 1) := by decide +kernel
theorem xd_Mo_count_37 : decode b_Mo_count 37 = .ok (.getfield 145, 3) := by decide +kernel
theorem xd_Mo_count_40 : decode b_Mo_count 40 = .ok (.ireturn, 1) := by decide +kernel
theorem xd_Mo_count_41 : decode b_Mo_count 41 = .ok (.iconst 0, 1) := by decide +kernel
theorem xd_Mo_count_42 : decode b_Mo_count 42 = .ok (.istore_n 3, 1) := by decide +kernel
theorem xd_Mo_count_43 : decode b_Mo_count 43 = .ok (.iload_n 3, 1) := by decide +kernel
theorem xd_Mo_count_44 : decode b_Mo_count 44 = .ok (.aload_n 0, 1) := by decide +kernel
theorem xd_Mo_count_45 : decode b_Mo_count 45 = .ok (.getfield 145, 3) := by decide +kernel
theorem xd_Mo_count_48 : decode b_Mo_count 48 = .ok (.if_icmp .ge 26, 3) := by decide +kernel
theorem xd_Mo_count_51 : decode b_Mo_count 51 = .ok (.iload_n 2, 1) := by decide +kernel
theorem xd_Mo_count_52 : decode b_Mo_count 52 = .ok (.aload_n 0, 1) := by decide +kernel
theorem xd_Mo_count_53 : decode b_Mo_count 53 = .ok (.getfield 38, 3) := by decide +kernel
theorem xd_Mo_count_56 : decode b_Mo_count 56 = .ok (.iload_n 3, 1) := by decide +kernel
theorem xd_Mo_count_57 : decode b_Mo_count 57 = .ok (.baload, 1) := by decide +kernel
theorem xd_Mo_count_58 : decode b_Mo_count 58 = .ok (.ifCond .eq 7, 3) := by decide +kernel
theorem xd_Mo_count_61 : decode b_Mo_count 61 = .ok (.iconst 1, 1) := by decide +kernel
theorem xd_Mo_count_62 : decode b_Mo_count 62 = .ok (.goto 4, 3) := by decide +kernel
theorem xd_Mo_count_65 : decode b_Mo_count 65 = .ok (.iconst 0, 1) := by decide +kernel
theorem xd_Mo_count_66 : decode b_Mo_count 66 = .ok (.iadd, 1) := by decide +kernel
theorem xd_Mo_count_67 : decode b_Mo_count 67 = .ok (.istore_n 2, 1) := by decide +kernel
theorem xd_Mo_count_68 : decode b_Mo_count 68 = .ok (.iinc 3 1, 3) := by decide +kernel
theorem xd_Mo_count_71 : decode b_Mo_count 71 = .ok (.goto (-28), 3) := by decide +kernel
theorem xd_Mo_count_74 : decode b_Mo_count 74 = .ok (.iload_n 2, 1) := by decide +kernel
theorem xd_Mo_count_75 : decode b_Mo_count 75 = .ok (.ireturn, 1) := by decide +kernel
theorem xd_Mo_count_76 : decode b_Mo_count 76 = .ok (.aload_n 0, 1) := by decide +kernel
theorem xd_Mo_count_77 : decode b_Mo_count 77 = .ok (.getfield 158, 3) := by decide +kernel
theorem xd_Mo_count_80 : decode b_Mo_count 80 = .ok (.ireturn, 1) := by decide +kernel
theorem xd_Mo_count_81 : decode b_Mo_count 81 = .ok (.iconst 0, 1) := by decide +kernel
theorem xd_Mo_count_82 : decode b_Mo_count 82 = .ok (.istore_n 3, 1) := by decide +kernel
theorem xd_Mo_count_83 : decode b_Mo_count 83 = .ok (.iload_n 3, 1) := by decide +kernel
theorem xd_Mo_count_84 : decode b_Mo_count 84 = .ok (.iconst 4, 1) := by decide +kernel
theorem xd_Mo_count_85 : decode b_Mo_count 85 = .ok (.if_icmp .ge 27, 3) := by decide +kernel
theorem xd_Mo_count_88 : decode b_Mo_count 88 = .ok (.iload_n 2, 1) := by decide +kernel
theorem xd_Mo_count_89 : decode b_Mo_count 89 = .ok (.aload_n 0, 1) := by decide +kernel
theorem xd_Mo_count_90 : decode b_Mo_count 90 = .ok (.getfield 13, 3) := by decide +kernel
theorem xd_Mo_count_93 : decode b_Mo_count 93 = .ok (.iload_n 3, 1) := by decide +kernel
theorem xd_Mo_count_94 : decode b_Mo_count 94 = .ok (.iaload, 1) := by decide +kernel
theorem xd_Mo_count_95 : decode b_Mo_count 95 = .ok (.iconst (-1), 1) := by decide +kernel
theorem xd_Mo_count_96 : decode b_Mo_count 96 = .ok (.if_icmp .ne 7, 3) := by decide +kernel
theorem xd_Mo_count_99 : decode b_Mo_count 99 = .ok (.iconst 0, 1) := by decide +kernel
theorem xd_Mo_count_100 : decode b_Mo_count 100 = .ok (.goto 4, 3) := by decide +kernel
theorem xd_Mo_count_103 : decode b_Mo_count 103 = .ok (.iconst 1, 1) := by decide +kernel
theorem xd_Mo_count_104 : decode b_Mo_count 104 = .ok (.iadd, 1) := by decide +kernel
theorem xd_Mo_count_105 : decode b_Mo_count 105 = .ok (.istore_n 2, 1) := by decide +kernel
theorem xd_Mo_count_106 : decode b_Mo_count 106 = .ok (.iinc 3 1, 3) := by decide +kernel
theorem xd_Mo_count_109 : decode b_Mo_count 109 = .ok (.goto (-26), 3) := by decide +kernel
theorem xd_Mo_count_112 : decode b_Mo_count 112 = .ok (.iload_n 2, 1) := by decide +kernel
theorem xd_Mo_count_113 : decode b_Mo_count 113 = .ok (.ireturn, 1) := by decide +kernel
theorem xd_Mo_count_114 : decode b_Mo_count 114 = .ok (.aload_n 0, 1) := by decide +kernel
theorem xd_Mo_count_115 : decode b_Mo_count 115 = .ok (.invokevirtual 107, 3) := by decide +kernel
theorem xd_Mo_count_118 : decode b_Mo_count 118 = .ok (.ireturn, 1) := by decide +kernel
theorem xd_Mo_count_119 : decode b_Mo_count 119 = .ok (.iconst (-1), 1) := by decide +kernel
theorem xd_Mo_count_120 : decode b_Mo_count 120 = .ok (.ireturn, 1) := by decide +kernel
abbrev rm_Mo_count : Room := { frames := 1, cells := 0, slots := 0, locals := 20 }
def xw_Mo_count_43 (post : Int32 → xM → Prop) (k74 : Int32 → Int32 → xM → Prop) : Nat → Int32 → Int32 → xM → Prop
  | 0, _, _, _ => False
  | n43 + 1, x2, x3, M => (((M 9 0 9) ≤ x3) → (k74 x2 x3 M)) ∧ ((¬ (M 9 0 9) ≤ x3) → ((vp_in x3 12) ∧ ((((M 9 7 x3.toNatClampNeg) = 0) → (xw_Mo_count_43 post k74 n43 (x2 + (0 : Int32)) (x3 + (1 : Int32)) M)) ∧ ((¬ (M 9 7 x3.toNatClampNeg) = 0) → (xw_Mo_count_43 post k74 n43 (x2 + (1 : Int32)) (x3 + (1 : Int32)) M)))))
def xw_Mo_count_83 (post : Int32 → xM → Prop) (k112 : Int32 → Int32 → xM → Prop) : Nat → Int32 → Int32 → xM → Prop
  | 0, _, _, _ => False
  | n83 + 1, x2, x3, M => (((4 : Int32) ≤ x3) → (k112 x2 x3 M)) ∧ ((¬ (4 : Int32) ≤ x3) → ((vp_in x3 4) ∧ (((¬ (M 9 2 x3.toNatClampNeg) = (-1 : Int32)) → (xw_Mo_count_83 post k112 n83 (x2 + (1 : Int32)) (x3 + (1 : Int32)) M)) ∧ (((M 9 2 x3.toNatClampNeg) = (-1 : Int32)) → (xw_Mo_count_83 post k112 n83 (x2 + (0 : Int32)) (x3 + (1 : Int32)) M)))))
def xw_Mo_count (a1 : Int32) (M : xM) (post : Int32 → xM → Prop) : Prop :=
  (a1 = (0 : Int32) → (post (M 9 0 9) M)) ∧ (a1 = (1 : Int32) → (∃ n43 : Nat, xw_Mo_count_43 post (fun (y1 : Int32) (y2 : Int32) (M3 : xM) => post y1 M3) n43 (0 : Int32) (0 : Int32) M)) ∧ (a1 = (2 : Int32) → (post (M 9 0 10) M)) ∧ (a1 = (3 : Int32) → (∃ n83 : Nat, xw_Mo_count_83 post (fun (y4 : Int32) (y5 : Int32) (M6 : xM) => post y4 M6) n83 (0 : Int32) (0 : Int32) M)) ∧ (a1 = (4 : Int32) → (xw_Mo_places M (fun (r8 : Int32) (M7 : xM) => post r8 M7))) ∧ (¬ a1 = (0 : Int32) → ¬ a1 = (1 : Int32) → ¬ a1 = (2 : Int32) → ¬ a1 = (3 : Int32) → ¬ a1 = (4 : Int32) → (post (-1 : Int32) M))
set_option maxHeartbeats 4000000 in
set_option maxRecDepth 100000 in
theorem xt_Mo_count_43 {p : Program} {l : Launch} {e : Env} {s : State} {m : MethodId} {args : Array Value} {below : List Frame} {meth : Method} {c : Code} {G : xG} (hC : xC p s m args c b_Mo_count R_Mo 4 G) (hr : meth.sig.returnType = (some .int)) (hlk : meth.locks = false)  {post : Int32 → xM → Prop} {k74 : Int32 → Int32 → xM → Prop} (hk74 : ∀ (x2 : Int32) (x3 : Int32) (M : xM) (H : Heap) (locs : List Loc) (ls : Array Slot), k74 x2 x3 M → xRp G M H → va_S (xA G) s.heap H locs → lv_has ls 4 [(0, .ref (G.1 9 0)), (2, .int x2), (3, .int x3)] → W p l e rm_Mo_count s m args below meth c H locs 0 0 (MQ below (xPi G post) args s 0 0 (xA G)) (F0 m 74 ls [])) : ∀ (n : Nat) (x2 : Int32) (x3 : Int32) (M : xM) (H : Heap) (locs : List Loc) (ls : Array Slot), xw_Mo_count_43 post k74 n x2 x3 M → xRp G M H → va_S (xA G) s.heap H locs → lv_has ls 4 [(0, .ref (G.1 9 0)), (2, .int x2), (3, .int x3)] → W p l e rm_Mo_count s m args below meth c H locs 0 0 (MQ below (xPi G post) args s 0 0 (xA G)) (F0 m 43 ls []) := by
  have hx := hC.1
  have hb := hC.2.1
  intro n
  induction n with
  | zero => intro x2 x3 M H locs ls; exact fun h => h.elim
  | succ n ih =>
    intro x2 x3 M H locs ls h hR hS hl
    refine lv_iload_n (pc := 43) hx hb xd_Mo_count_43 rfl (lv_at hl 2 rfl) ?_
    refine lv_aload_n (pc := 44) hx hb xd_Mo_count_44 rfl (lv_at hl 0 rfl) ?_
    refine xr_get (pc := 45) (v := .int (M 9 0 9)) hC hR xo_M0 xf_Mo_145 rfl xd_Mo_count_45 ?_
    refine lv_icmp_ge (pc := 48) (tgt := 74) hx hb xd_Mo_count_48 (by decide) (fun hq => ?_) (fun hq => ?_)
    · have h := h.1 hq
      exact hk74 x2 x3 M H locs ls h hR hS (lv_sub hl [0, 1, 2] rfl)
    · have h := h.2 hq
      refine lv_iload_n (pc := 51) hx hb xd_Mo_count_51 rfl (lv_at hl 1 rfl) ?_
      refine lv_aload_n (pc := 52) hx hb xd_Mo_count_52 rfl (lv_at hl 0 rfl) ?_
      refine xr_get (pc := 53) (v := .ref (G.1 9 7)) hC hR xo_M0 xf_Mo_38 rfl xd_Mo_count_53 ?_
      refine lv_iload_n (pc := 56) hx hb xd_Mo_count_56 rfl (lv_at hl 2 rfl) ?_
      obtain ⟨hq, h⟩ := h
      refine xr_zald (pc := 57) hC hR xo_M7 hq xd_Mo_count_57 ?_
      refine lv_if_eq (pc := 58) (tgt := 65) hx hb xd_Mo_count_58 (by decide) (fun hq => ?_) (fun hq => ?_)
      · have h := h.1 hq
        refine lv_iconst (pc := 65) (v := (0 : Int32)) hx hb xd_Mo_count_65 (by decide) ?_
        refine lv_iadd (pc := 66) hx hb xd_Mo_count_66 ?_
        refine lv_istore_n (pc := 67) (lv' := [(2, .int (x2 + (0 : Int32))), (0, .ref (G.1 9 0)), (3, .int x3)]) hx hb xd_Mo_count_67 rfl hl (by decide) rfl (fun ls hl => ?_)
        refine lv_iinc (pc := 68) (v := (x3 + (1 : Int32))) (lv' := [(3, .int (x3 + (1 : Int32))), (2, .int (x2 + (0 : Int32))), (0, .ref (G.1 9 0))]) hx hb xd_Mo_count_68 hl (k := 2) rfl rfl (by decide) rfl (fun ls hl => ?_)
        refine lv_goto (pc := 71) (tgt := 43) hx hb xd_Mo_count_71 (by decide) ?_
        exact ih (x2 + (0 : Int32)) (x3 + (1 : Int32)) M H locs ls h hR hS (lv_sub hl [2, 1, 0] rfl)
      · have h := h.2 hq
        refine lv_iconst (pc := 61) (v := (1 : Int32)) hx hb xd_Mo_count_61 (by decide) ?_
        refine lv_goto (pc := 62) (tgt := 66) hx hb xd_Mo_count_62 (by decide) ?_
        refine lv_iadd (pc := 66) hx hb xd_Mo_count_66 ?_
        refine lv_istore_n (pc := 67) (lv' := [(2, .int (x2 + (1 : Int32))), (0, .ref (G.1 9 0)), (3, .int x3)]) hx hb xd_Mo_count_67 rfl hl (by decide) rfl (fun ls hl => ?_)
        refine lv_iinc (pc := 68) (v := (x3 + (1 : Int32))) (lv' := [(3, .int (x3 + (1 : Int32))), (2, .int (x2 + (1 : Int32))), (0, .ref (G.1 9 0))]) hx hb xd_Mo_count_68 hl (k := 2) rfl rfl (by decide) rfl (fun ls hl => ?_)
        refine lv_goto (pc := 71) (tgt := 43) hx hb xd_Mo_count_71 (by decide) ?_
        exact ih (x2 + (1 : Int32)) (x3 + (1 : Int32)) M H locs ls h hR hS (lv_sub hl [2, 1, 0] rfl)
set_option maxHeartbeats 4000000 in
set_option maxRecDepth 100000 in
theorem xt_Mo_count_83 {p : Program} {l : Launch} {e : Env} {s : State} {m : MethodId} {args : Array Value} {below : List Frame} {meth : Method} {c : Code} {G : xG} (hC : xC p s m args c b_Mo_count R_Mo 4 G) (hr : meth.sig.returnType = (some .int)) (hlk : meth.locks = false)  {post : Int32 → xM → Prop} {k112 : Int32 → Int32 → xM → Prop} (hk112 : ∀ (x2 : Int32) (x3 : Int32) (M : xM) (H : Heap) (locs : List Loc) (ls : Array Slot), k112 x2 x3 M → xRp G M H → va_S (xA G) s.heap H locs → lv_has ls 4 [(0, .ref (G.1 9 0)), (2, .int x2), (3, .int x3)] → W p l e rm_Mo_count s m args below meth c H locs 0 0 (MQ below (xPi G post) args s 0 0 (xA G)) (F0 m 112 ls [])) : ∀ (n : Nat) (x2 : Int32) (x3 : Int32) (M : xM) (H : Heap) (locs : List Loc) (ls : Array Slot), xw_Mo_count_83 post k112 n x2 x3 M → xRp G M H → va_S (xA G) s.heap H locs → lv_has ls 4 [(0, .ref (G.1 9 0)), (2, .int x2), (3, .int x3)] → W p l e rm_Mo_count s m args below meth c H locs 0 0 (MQ below (xPi G post) args s 0 0 (xA G)) (F0 m 83 ls []) := by
  have hx := hC.1
  have hb := hC.2.1
  intro n
  induction n with
  | zero => intro x2 x3 M H locs ls; exact fun h => h.elim
  | succ n ih =>
    intro x2 x3 M H locs ls h hR hS hl
    refine lv_iload_n (pc := 83) hx hb xd_Mo_count_83 rfl (lv_at hl 2 rfl) ?_
    refine lv_iconst (pc := 84) (v := (4 : Int32)) hx hb xd_Mo_count_84 (by decide) ?_
    refine lv_icmp_ge (pc := 85) (tgt := 112) hx hb xd_Mo_count_85 (by decide) (fun hq => ?_) (fun hq => ?_)
    · have h := h.1 hq
      exact hk112 x2 x3 M H locs ls h hR hS (lv_sub hl [0, 1, 2] rfl)
    · have h := h.2 hq
      refine lv_iload_n (pc := 88) hx hb xd_Mo_count_88 rfl (lv_at hl 1 rfl) ?_
      refine lv_aload_n (pc := 89) hx hb xd_Mo_count_89 rfl (lv_at hl 0 rfl) ?_
      refine xr_get (pc := 90) (v := .ref (G.1 9 2)) hC hR xo_M0 xf_Mo_13 rfl xd_Mo_count_90 ?_
      refine lv_iload_n (pc := 93) hx hb xd_Mo_count_93 rfl (lv_at hl 2 rfl) ?_
      obtain ⟨hq, h⟩ := h
      refine xr_iald (pc := 94) hC hR xo_M2 hq xd_Mo_count_94 ?_
      refine lv_iconst (pc := 95) (v := (-1 : Int32)) hx hb xd_Mo_count_95 (by decide) ?_
      refine lv_icmp_ne (pc := 96) (tgt := 103) hx hb xd_Mo_count_96 (by decide) (fun hq => ?_) (fun hq => ?_)
      · have h := h.1 hq
        refine lv_iconst (pc := 103) (v := (1 : Int32)) hx hb xd_Mo_count_103 (by decide) ?_
        refine lv_iadd (pc := 104) hx hb xd_Mo_count_104 ?_
        refine lv_istore_n (pc := 105) (lv' := [(2, .int (x2 + (1 : Int32))), (0, .ref (G.1 9 0)), (3, .int x3)]) hx hb xd_Mo_count_105 rfl hl (by decide) rfl (fun ls hl => ?_)
        refine lv_iinc (pc := 106) (v := (x3 + (1 : Int32))) (lv' := [(3, .int (x3 + (1 : Int32))), (2, .int (x2 + (1 : Int32))), (0, .ref (G.1 9 0))]) hx hb xd_Mo_count_106 hl (k := 2) rfl rfl (by decide) rfl (fun ls hl => ?_)
        refine lv_goto (pc := 109) (tgt := 83) hx hb xd_Mo_count_109 (by decide) ?_
        exact ih (x2 + (1 : Int32)) (x3 + (1 : Int32)) M H locs ls h hR hS (lv_sub hl [2, 1, 0] rfl)
      · have h := h.2 hq
        refine lv_iconst (pc := 99) (v := (0 : Int32)) hx hb xd_Mo_count_99 (by decide) ?_
        refine lv_goto (pc := 100) (tgt := 104) hx hb xd_Mo_count_100 (by decide) ?_
        refine lv_iadd (pc := 104) hx hb xd_Mo_count_104 ?_
        refine lv_istore_n (pc := 105) (lv' := [(2, .int (x2 + (0 : Int32))), (0, .ref (G.1 9 0)), (3, .int x3)]) hx hb xd_Mo_count_105 rfl hl (by decide) rfl (fun ls hl => ?_)
        refine lv_iinc (pc := 106) (v := (x3 + (1 : Int32))) (lv' := [(3, .int (x3 + (1 : Int32))), (2, .int (x2 + (0 : Int32))), (0, .ref (G.1 9 0))]) hx hb xd_Mo_count_106 hl (k := 2) rfl rfl (by decide) rfl (fun ls hl => ?_)
        refine lv_goto (pc := 109) (tgt := 83) hx hb xd_Mo_count_109 (by decide) ?_
        exact ih (x2 + (0 : Int32)) (x3 + (1 : Int32)) M H locs ls h hR hS (lv_sub hl [2, 1, 0] rfl)
set_option maxHeartbeats 4000000 in
set_option maxRecDepth 100000 in
theorem xc_Mo_count (l : Launch) (G : xG) {a1 : Int32}  {M : xM} {post : Int32 → xM → Prop} (h : xw_Mo_count a1 M post) : Met l y_Mo_count (Cond.code y_Mo_count b_Mo_count 4 (some .int) :: xTG) rm_Mo_count (xPre G M [.ref (G.1 9 0), .int a1]) (xPi G post) 0 0 (xA G) := by
  refine xMet (own := R_Mo) [.ref (G.1 9 0), .int a1] (Or.inl (by decide)) rfl (Nat.le_of_ble_eq_true rfl) (fun p e s m args below meth c ls hC hr hlk hR hS hl => ?_)
  have hx := hC.1
  have hb := hC.2.1
  have hl : lv_has ls 4 [(0, .ref (G.1 9 0)), (1, .int a1)] := hl
  obtain ⟨H, eH⟩ : ∃ H : Heap, H = s.heap := ⟨_, rfl⟩
  obtain ⟨locs, eL⟩ : ∃ locs : List Loc, locs = [] := ⟨_, rfl⟩
  rw [← eH] at hR
  replace hS : va_S (xA G) s.heap H locs := by rw [eH, eL]; exact hS
  suffices hh : W p l e rm_Mo_count s m args below meth c H locs 0 0 (MQ below (xPi G post) args s 0 0 (xA G)) (F0 m 0 ls []) from by rw [eH, eL] at hh; exact hh
  unfold xw_Mo_count at h
  refine lv_iconst (pc := 0) (v := (0 : Int32)) hx hb xd_Mo_count_0 (by decide) ?_
  refine lv_istore_n (pc := 1) (lv' := [(2, .int (0 : Int32)), (0, .ref (G.1 9 0)), (1, .int a1)]) hx hb xd_Mo_count_1 rfl hl (by decide) rfl (fun ls hl => ?_)
  refine lv_iload_n (pc := 2) hx hb xd_Mo_count_2 rfl (lv_at hl 2 rfl) ?_
  by_cases hs0 : a1 = (0 : Int32)
  · have h := h.1 hs0
    refine lv_tableIn (pc := 3) (tgt := 36) (off := 33) hx hb xd_Mo_count_3 (by rw [hs0]; decide) (by rw [hs0]; decide) (by rw [hs0]; rfl) (by decide) ?_
    refine lv_aload_n (pc := 36) hx hb xd_Mo_count_36 rfl (lv_at hl 1 rfl) ?_
    refine xr_get (pc := 37) (v := .int (M 9 0 9)) hC hR xo_M0 xf_Mo_145 rfl xd_Mo_count_37 ?_
    exact xr_iret hC hr hlk hR hS h xd_Mo_count_40
  by_cases hs1 : a1 = (1 : Int32)
  · have h := h.2.1 hs1
    refine lv_tableIn (pc := 3) (tgt := 41) (off := 38) hx hb xd_Mo_count_3 (by rw [hs1]; decide) (by rw [hs1]; decide) (by rw [hs1]; rfl) (by decide) ?_
    refine lv_iconst (pc := 41) (v := (0 : Int32)) hx hb xd_Mo_count_41 (by decide) ?_
    refine lv_istore_n (pc := 42) (lv' := [(3, .int (0 : Int32)), (2, .int (0 : Int32)), (0, .ref (G.1 9 0)), (1, .int a1)]) hx hb xd_Mo_count_42 rfl hl (by decide) rfl (fun ls hl => ?_)
    obtain ⟨n, h⟩ := h
    refine xt_Mo_count_43 hC hr hlk  (fun y1 y2 M3 H locs ls h hR hS hl => ?_) n (0 : Int32) (0 : Int32) M H locs ls h hR hS (lv_sub hl [2, 1, 0] rfl)
    refine lv_iload_n (pc := 74) hx hb xd_Mo_count_74 rfl (lv_at hl 1 rfl) ?_
    exact xr_iret hC hr hlk hR hS h xd_Mo_count_75
  by_cases hs2 : a1 = (2 : Int32)
  · have h := h.2.2.1 hs2
    refine lv_tableIn (pc := 3) (tgt := 76) (off := 73) hx hb xd_Mo_count_3 (by rw [hs2]; decide) (by rw [hs2]; decide) (by rw [hs2]; rfl) (by decide) ?_
    refine lv_aload_n (pc := 76) hx hb xd_Mo_count_76 rfl (lv_at hl 1 rfl) ?_
    refine xr_get (pc := 77) (v := .int (M 9 0 10)) hC hR xo_M0 xf_Mo_158 rfl xd_Mo_count_77 ?_
    exact xr_iret hC hr hlk hR hS h xd_Mo_count_80
  by_cases hs3 : a1 = (3 : Int32)
  · have h := h.2.2.2.1 hs3
    refine lv_tableIn (pc := 3) (tgt := 81) (off := 78) hx hb xd_Mo_count_3 (by rw [hs3]; decide) (by rw [hs3]; decide) (by rw [hs3]; rfl) (by decide) ?_
    refine lv_iconst (pc := 81) (v := (0 : Int32)) hx hb xd_Mo_count_81 (by decide) ?_
    refine lv_istore_n (pc := 82) (lv' := [(3, .int (0 : Int32)), (2, .int (0 : Int32)), (0, .ref (G.1 9 0)), (1, .int a1)]) hx hb xd_Mo_count_82 rfl hl (by decide) rfl (fun ls hl => ?_)
    obtain ⟨n, h⟩ := h
    refine xt_Mo_count_83 hC hr hlk  (fun y4 y5 M6 H locs ls h hR hS hl => ?_) n (0 : Int32) (0 : Int32) M H locs ls h hR hS (lv_sub hl [2, 1, 0] rfl)
    refine lv_iload_n (pc := 112) hx hb xd_Mo_count_112 rfl (lv_at hl 1 rfl) ?_
    exact xr_iret hC hr hlk hR hS h xd_Mo_count_113
  by_cases hs4 : a1 = (4 : Int32)
  · have h := h.2.2.2.2.1 hs4
    refine lv_tableIn (pc := 3) (tgt := 114) (off := 111) hx hb xd_Mo_count_3 (by rw [hs4]; decide) (by rw [hs4]; decide) (by rw [hs4]; rfl) (by decide) ?_
    refine lv_aload_n (pc := 114) hx hb xd_Mo_count_114 rfl (lv_at hl 1 rfl) ?_
    refine xr_callV (pc := 115) (As := []) (rest := []) hC hR hS (xc_Mo_places l G  h) xo_M0 xv_Mo_107 ⟨rfl, rfl, Nat.le_of_ble_eq_true rfl, Nat.le_of_ble_eq_true rfl⟩ rfl hl.1 rfl (Nat.le_of_ble_eq_true rfl) xd_Mo_count_115 (fun r8 M7 H locs h hR hS => ?_)
    exact xr_iret hC hr hlk hR hS h xd_Mo_count_118
  have h := h.2.2.2.2.2 hs0 hs1 hs2 hs3 hs4
  refine lv_tableOut (pc := 3) (tgt := 119) hx hb xd_Mo_count_3 (xsw5 hs0 hs1 hs2 hs3 hs4) (by decide) ?_
  refine lv_iconst (pc := 119) (v := (-1 : Int32)) hx hb xd_Mo_count_119 (by decide) ?_
  exact xr_iret hC hr hlk hR hS h xd_Mo_count_120

/-! ColoursApartModel.status()I -/
theorem xd_Mo_status_0 : decode b_Mo_status 0 = .ok (.aload_n 0, 1) := by decide +kernel
theorem xd_Mo_status_1 : decode b_Mo_status 1 = .ok (.getfield 82, 3) := by decide +kernel
theorem xd_Mo_status_4 : decode b_Mo_status 4 = .ok (.ireturn, 1) := by decide +kernel
abbrev rm_Mo_status : Room := { frames := 0, cells := 0, slots := 0, locals := 0 }
def xw_Mo_status  (M : xM) (post : Int32 → xM → Prop) : Prop :=
  post (M 9 0 0) M
set_option maxHeartbeats 4000000 in
set_option maxRecDepth 100000 in
theorem xc_Mo_status (l : Launch) (G : xG)   {M : xM} {post : Int32 → xM → Prop} (h : xw_Mo_status  M post) : Met l y_Mo_status (Cond.code y_Mo_status b_Mo_status 1 (some .int) :: xTG) rm_Mo_status (xPre G M [.ref (G.1 9 0)]) (xPi G post) 0 0 (xA G) := by
  refine xMet (own := R_Mo) [.ref (G.1 9 0)] (Or.inl (by decide)) rfl (Nat.le_of_ble_eq_true rfl) (fun p e s m args below meth c ls hC hr hlk hR hS hl => ?_)
  have hx := hC.1
  have hb := hC.2.1
  have hl : lv_has ls 1 [(0, .ref (G.1 9 0))] := hl
  obtain ⟨H, eH⟩ : ∃ H : Heap, H = s.heap := ⟨_, rfl⟩
  obtain ⟨locs, eL⟩ : ∃ locs : List Loc, locs = [] := ⟨_, rfl⟩
  rw [← eH] at hR
  replace hS : va_S (xA G) s.heap H locs := by rw [eH, eL]; exact hS
  suffices hh : W p l e rm_Mo_status s m args below meth c H locs 0 0 (MQ below (xPi G post) args s 0 0 (xA G)) (F0 m 0 ls []) from by rw [eH, eL] at hh; exact hh
  unfold xw_Mo_status at h
  refine lv_aload_n (pc := 0) hx hb xd_Mo_status_0 rfl (lv_at hl 0 rfl) ?_
  refine xr_get (pc := 1) (v := .int (M 9 0 0)) hC hR xo_M0 xf_Mo_82 rfl xd_Mo_status_1 ?_
  exact xr_iret hC hr hlk hR hS h xd_Mo_status_4
