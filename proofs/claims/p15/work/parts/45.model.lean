theorem dM6_performOne_0 : decode prog_8_method_22_code 0 = .ok (.aload_n 0, 1) := by decide +kernel
theorem dM6_performOne_1 : decode prog_8_method_22_code 1 = .ok (.getfield 62, 3) := by decide +kernel
theorem dM6_performOne_4 : decode prog_8_method_22_code 4 = .ok (.iload_n 1, 1) := by decide +kernel
theorem dM6_performOne_5 : decode prog_8_method_22_code 5 = .ok (.iaload, 1) := by decide +kernel
theorem dM6_performOne_6 : decode prog_8_method_22_code 6 = .ok (.istore_n 2, 1) := by decide +kernel
theorem dM6_performOne_7 : decode prog_8_method_22_code 7 = .ok (.aload_n 0, 1) := by decide +kernel
theorem dM6_performOne_8 : decode prog_8_method_22_code 8 = .ok (.getfield 65, 3) := by decide +kernel
theorem dM6_performOne_11 : decode prog_8_method_22_code 11 = .ok (.iload_n 1, 1) := by decide +kernel
theorem dM6_performOne_12 : decode prog_8_method_22_code 12 = .ok (.iconst 2, 1) := by decide +kernel
theorem dM6_performOne_13 : decode prog_8_method_22_code 13 = .ok (.iastore, 1) := by decide +kernel
theorem dM6_performOne_14 : decode prog_8_method_22_code 14 = .ok (.aload_n 0, 1) := by decide +kernel
theorem dM6_performOne_15 : decode prog_8_method_22_code 15 = .ok (.getfield 7, 3) := by decide +kernel
theorem dM6_performOne_18 : decode prog_8_method_22_code 18 = .ok (.iload_n 2, 1) := by decide +kernel
theorem dM6_performOne_19 : decode prog_8_method_22_code 19 = .ok (.iaload, 1) := by decide +kernel
theorem dM6_performOne_20 : decode prog_8_method_22_code 20 = .ok (.tableswitch 257 0 4 #[36, 50, 89, 182, 248], 36) := by decide +kernel
theorem dM6_performOne_56 : decode prog_8_method_22_code 56 = .ok (.aload_n 0, 1) := by decide +kernel
theorem dM6_performOne_57 : decode prog_8_method_22_code 57 = .ok (.iload_n 2, 1) := by decide +kernel
theorem dM6_performOne_58 : decode prog_8_method_22_code 58 = .ok (.aload_n 0, 1) := by decide +kernel
theorem dM6_performOne_59 : decode prog_8_method_22_code 59 = .ok (.getfield 13, 3) := by decide +kernel
theorem dM6_performOne_62 : decode prog_8_method_22_code 62 = .ok (.iload_n 2, 1) := by decide +kernel
theorem dM6_performOne_63 : decode prog_8_method_22_code 63 = .ok (.iaload, 1) := by decide +kernel
theorem dM6_performOne_64 : decode prog_8_method_22_code 64 = .ok (.invokevirtual 167, 3) := by decide +kernel
theorem dM6_performOne_67 : decode prog_8_method_22_code 67 = .ok (.goto 216, 3) := by decide +kernel
theorem dM6_performOne_70 : decode prog_8_method_22_code 70 = .ok (.aload_n 0, 1) := by decide +kernel
theorem dM6_performOne_71 : decode prog_8_method_22_code 71 = .ok (.getfield 16, 3) := by decide +kernel
theorem dM6_performOne_74 : decode prog_8_method_22_code 74 = .ok (.iload_n 2, 1) := by decide +kernel
theorem dM6_performOne_75 : decode prog_8_method_22_code 75 = .ok (.iaload, 1) := by decide +kernel
theorem dM6_performOne_76 : decode prog_8_method_22_code 76 = .ok (.ifCond .ne 12, 3) := by decide +kernel
theorem dM6_performOne_79 : decode prog_8_method_22_code 79 = .ok (.aload_n 0, 1) := by decide +kernel
theorem dM6_performOne_80 : decode prog_8_method_22_code 80 = .ok (.iload_n 2, 1) := by decide +kernel
theorem dM6_performOne_81 : decode prog_8_method_22_code 81 = .ok (.iconst 1, 1) := by decide +kernel
theorem dM6_performOne_82 : decode prog_8_method_22_code 82 = .ok (.invokevirtual 157, 3) := by decide +kernel
theorem dM6_performOne_85 : decode prog_8_method_22_code 85 = .ok (.goto 198, 3) := by decide +kernel
theorem dM6_performOne_88 : decode prog_8_method_22_code 88 = .ok (.aload_n 0, 1) := by decide +kernel
theorem dM6_performOne_89 : decode prog_8_method_22_code 89 = .ok (.iload_n 2, 1) := by decide +kernel
theorem dM6_performOne_90 : decode prog_8_method_22_code 90 = .ok (.aload_n 0, 1) := by decide +kernel
theorem dM6_performOne_91 : decode prog_8_method_22_code 91 = .ok (.getfield 13, 3) := by decide +kernel
theorem dM6_performOne_94 : decode prog_8_method_22_code 94 = .ok (.iload_n 2, 1) := by decide +kernel
theorem dM6_performOne_95 : decode prog_8_method_22_code 95 = .ok (.iaload, 1) := by decide +kernel
theorem dM6_performOne_96 : decode prog_8_method_22_code 96 = .ok (.aload_n 0, 1) := by decide +kernel
theorem dM6_performOne_97 : decode prog_8_method_22_code 97 = .ok (.getfield 16, 3) := by decide +kernel
theorem dM6_performOne_100 : decode prog_8_method_22_code 100 = .ok (.iload_n 2, 1) := by decide +kernel
theorem dM6_performOne_101 : decode prog_8_method_22_code 101 = .ok (.iaload, 1) := by decide +kernel
theorem dM6_performOne_102 : decode prog_8_method_22_code 102 = .ok (.idiv, 1) := by decide +kernel
theorem dM6_performOne_103 : decode prog_8_method_22_code 103 = .ok (.invokevirtual 167, 3) := by decide +kernel
theorem dM6_performOne_106 : decode prog_8_method_22_code 106 = .ok (.goto 177, 3) := by decide +kernel
theorem dM6_performOne_109 : decode prog_8_method_22_code 109 = .ok (.aload_n 0, 1) := by decide +kernel
theorem dM6_performOne_110 : decode prog_8_method_22_code 110 = .ok (.aload_n 0, 1) := by decide +kernel
theorem dM6_performOne_111 : decode prog_8_method_22_code 111 = .ok (.getfield 13, 3) := by decide +kernel
theorem dM6_performOne_114 : decode prog_8_method_22_code 114 = .ok (.iload_n 2, 1) := by decide +kernel
theorem dM6_performOne_115 : decode prog_8_method_22_code 115 = .ok (.iaload, 1) := by decide +kernel
theorem dM6_performOne_116 : decode prog_8_method_22_code 116 = .ok (.iconst 5, 1) := by decide +kernel
theorem dM6_performOne_117 : decode prog_8_method_22_code 117 = .ok (.invokevirtual 104, 3) := by decide +kernel
theorem dM6_performOne_120 : decode prog_8_method_22_code 120 = .ok (.ifCond .eq 12, 3) := by decide +kernel
theorem dM6_performOne_123 : decode prog_8_method_22_code 123 = .ok (.aload_n 0, 1) := by decide +kernel
theorem dM6_performOne_124 : decode prog_8_method_22_code 124 = .ok (.iload_n 2, 1) := by decide +kernel
theorem dM6_performOne_125 : decode prog_8_method_22_code 125 = .ok (.iconst 2, 1) := by decide +kernel
theorem dM6_performOne_126 : decode prog_8_method_22_code 126 = .ok (.invokevirtual 157, 3) := by decide +kernel
theorem dM6_performOne_129 : decode prog_8_method_22_code 129 = .ok (.goto 154, 3) := by decide +kernel
theorem dM6_performOne_132 : decode prog_8_method_22_code 132 = .ok (.aload_n 0, 1) := by decide +kernel
theorem dM6_performOne_133 : decode prog_8_method_22_code 133 = .ok (.iload_n 2, 1) := by decide +kernel
theorem dM6_performOne_134 : decode prog_8_method_22_code 134 = .ok (.aload_n 0, 1) := by decide +kernel
theorem dM6_performOne_135 : decode prog_8_method_22_code 135 = .ok (.getfield 13, 3) := by decide +kernel
theorem dM6_performOne_138 : decode prog_8_method_22_code 138 = .ok (.iload_n 2, 1) := by decide +kernel
theorem dM6_performOne_139 : decode prog_8_method_22_code 139 = .ok (.iaload, 1) := by decide +kernel
theorem dM6_performOne_140 : decode prog_8_method_22_code 140 = .ok (.ifCond .ne 7, 3) := by decide +kernel
theorem dM6_performOne_143 : decode prog_8_method_22_code 143 = .ok (.iconst 2, 1) := by decide +kernel
theorem dM6_performOne_144 : decode prog_8_method_22_code 144 = .ok (.goto 52, 3) := by decide +kernel
theorem dM6_performOne_147 : decode prog_8_method_22_code 147 = .ok (.aload_n 0, 1) := by decide +kernel
theorem dM6_performOne_148 : decode prog_8_method_22_code 148 = .ok (.getfield 13, 3) := by decide +kernel
theorem dM6_performOne_151 : decode prog_8_method_22_code 151 = .ok (.iload_n 2, 1) := by decide +kernel
theorem dM6_performOne_152 : decode prog_8_method_22_code 152 = .ok (.iaload, 1) := by decide +kernel
theorem dM6_performOne_153 : decode prog_8_method_22_code 153 = .ok (.iconst 1, 1) := by decide +kernel
theorem dM6_performOne_154 : decode prog_8_method_22_code 154 = .ok (.if_icmp .ne 7, 3) := by decide +kernel
theorem dM6_performOne_157 : decode prog_8_method_22_code 157 = .ok (.iconst 3, 1) := by decide +kernel
theorem dM6_performOne_158 : decode prog_8_method_22_code 158 = .ok (.goto 38, 3) := by decide +kernel
theorem dM6_performOne_161 : decode prog_8_method_22_code 161 = .ok (.aload_n 0, 1) := by decide +kernel
theorem dM6_performOne_162 : decode prog_8_method_22_code 162 = .ok (.getfield 13, 3) := by decide +kernel
theorem dM6_performOne_165 : decode prog_8_method_22_code 165 = .ok (.iload_n 2, 1) := by decide +kernel
theorem dM6_performOne_166 : decode prog_8_method_22_code 166 = .ok (.iaload, 1) := by decide +kernel
theorem dM6_performOne_167 : decode prog_8_method_22_code 167 = .ok (.iconst 2, 1) := by decide +kernel
theorem dM6_performOne_168 : decode prog_8_method_22_code 168 = .ok (.if_icmp .ne 7, 3) := by decide +kernel
theorem dM6_performOne_171 : decode prog_8_method_22_code 171 = .ok (.iconst 5, 1) := by decide +kernel
theorem dM6_performOne_172 : decode prog_8_method_22_code 172 = .ok (.goto 24, 3) := by decide +kernel
theorem dM6_performOne_175 : decode prog_8_method_22_code 175 = .ok (.aload_n 0, 1) := by decide +kernel
theorem dM6_performOne_176 : decode prog_8_method_22_code 176 = .ok (.getfield 13, 3) := by decide +kernel
theorem dM6_performOne_179 : decode prog_8_method_22_code 179 = .ok (.iload_n 2, 1) := by decide +kernel
theorem dM6_performOne_180 : decode prog_8_method_22_code 180 = .ok (.iaload, 1) := by decide +kernel
theorem dM6_performOne_181 : decode prog_8_method_22_code 181 = .ok (.iconst 3, 1) := by decide +kernel
theorem dM6_performOne_182 : decode prog_8_method_22_code 182 = .ok (.if_icmp .ne 8, 3) := by decide +kernel
theorem dM6_performOne_185 : decode prog_8_method_22_code 185 = .ok (.bipush 7, 2) := by decide +kernel
theorem dM6_performOne_187 : decode prog_8_method_22_code 187 = .ok (.goto 9, 3) := by decide +kernel
theorem dM6_performOne_190 : decode prog_8_method_22_code 190 = .ok (.aload_n 0, 1) := by decide +kernel
theorem dM6_performOne_191 : decode prog_8_method_22_code 191 = .ok (.getfield 16, 3) := by decide +kernel
theorem dM6_performOne_194 : decode prog_8_method_22_code 194 = .ok (.iload_n 2, 1) := by decide +kernel
theorem dM6_performOne_195 : decode prog_8_method_22_code 195 = .ok (.iaload, 1) := by decide +kernel
theorem dM6_performOne_196 : decode prog_8_method_22_code 196 = .ok (.invokevirtual 167, 3) := by decide +kernel
theorem dM6_performOne_199 : decode prog_8_method_22_code 199 = .ok (.goto 84, 3) := by decide +kernel
theorem dM6_performOne_202 : decode prog_8_method_22_code 202 = .ok (.aload_n 0, 1) := by decide +kernel
theorem dM6_performOne_203 : decode prog_8_method_22_code 203 = .ok (.aload_n 0, 1) := by decide +kernel
theorem dM6_performOne_204 : decode prog_8_method_22_code 204 = .ok (.getfield 13, 3) := by decide +kernel
theorem dM6_performOne_207 : decode prog_8_method_22_code 207 = .ok (.iload_n 2, 1) := by decide +kernel
theorem dM6_performOne_208 : decode prog_8_method_22_code 208 = .ok (.iaload, 1) := by decide +kernel
theorem dM6_performOne_209 : decode prog_8_method_22_code 209 = .ok (.invokevirtual 170, 3) := by decide +kernel
theorem dM6_performOne_212 : decode prog_8_method_22_code 212 = .ok (.ifCond .eq 47, 3) := by decide +kernel
theorem dM6_performOne_215 : decode prog_8_method_22_code 215 = .ok (.aload_n 0, 1) := by decide +kernel
theorem dM6_performOne_216 : decode prog_8_method_22_code 216 = .ok (.aload_n 0, 1) := by decide +kernel
theorem dM6_performOne_217 : decode prog_8_method_22_code 217 = .ok (.getfield 16, 3) := by decide +kernel
theorem dM6_performOne_220 : decode prog_8_method_22_code 220 = .ok (.iload_n 2, 1) := by decide +kernel
theorem dM6_performOne_221 : decode prog_8_method_22_code 221 = .ok (.iaload, 1) := by decide +kernel
theorem dM6_performOne_222 : decode prog_8_method_22_code 222 = .ok (.invokevirtual 170, 3) := by decide +kernel
theorem dM6_performOne_225 : decode prog_8_method_22_code 225 = .ok (.ifCond .eq 34, 3) := by decide +kernel
theorem dM6_performOne_228 : decode prog_8_method_22_code 228 = .ok (.aload_n 0, 1) := by decide +kernel
theorem dM6_performOne_229 : decode prog_8_method_22_code 229 = .ok (.iload_n 2, 1) := by decide +kernel
theorem dM6_performOne_230 : decode prog_8_method_22_code 230 = .ok (.aload_n 0, 1) := by decide +kernel
theorem dM6_performOne_231 : decode prog_8_method_22_code 231 = .ok (.getfield 28, 3) := by decide +kernel
theorem dM6_performOne_234 : decode prog_8_method_22_code 234 = .ok (.aload_n 0, 1) := by decide +kernel
theorem dM6_performOne_235 : decode prog_8_method_22_code 235 = .ok (.getfield 13, 3) := by decide +kernel
theorem dM6_performOne_238 : decode prog_8_method_22_code 238 = .ok (.iload_n 2, 1) := by decide +kernel
theorem dM6_performOne_239 : decode prog_8_method_22_code 239 = .ok (.iaload, 1) := by decide +kernel
theorem dM6_performOne_240 : decode prog_8_method_22_code 240 = .ok (.iaload, 1) := by decide +kernel
theorem dM6_performOne_241 : decode prog_8_method_22_code 241 = .ok (.aload_n 0, 1) := by decide +kernel
theorem dM6_performOne_242 : decode prog_8_method_22_code 242 = .ok (.getfield 28, 3) := by decide +kernel
theorem dM6_performOne_245 : decode prog_8_method_22_code 245 = .ok (.aload_n 0, 1) := by decide +kernel
theorem dM6_performOne_246 : decode prog_8_method_22_code 246 = .ok (.getfield 16, 3) := by decide +kernel
theorem dM6_performOne_249 : decode prog_8_method_22_code 249 = .ok (.iload_n 2, 1) := by decide +kernel
theorem dM6_performOne_250 : decode prog_8_method_22_code 250 = .ok (.iaload, 1) := by decide +kernel
theorem dM6_performOne_251 : decode prog_8_method_22_code 251 = .ok (.iaload, 1) := by decide +kernel
theorem dM6_performOne_252 : decode prog_8_method_22_code 252 = .ok (.iadd, 1) := by decide +kernel
theorem dM6_performOne_253 : decode prog_8_method_22_code 253 = .ok (.invokevirtual 167, 3) := by decide +kernel
theorem dM6_performOne_256 : decode prog_8_method_22_code 256 = .ok (.goto 27, 3) := by decide +kernel
theorem dM6_performOne_259 : decode prog_8_method_22_code 259 = .ok (.aload_n 0, 1) := by decide +kernel
theorem dM6_performOne_260 : decode prog_8_method_22_code 260 = .ok (.iload_n 2, 1) := by decide +kernel
theorem dM6_performOne_261 : decode prog_8_method_22_code 261 = .ok (.iconst 3, 1) := by decide +kernel
theorem dM6_performOne_262 : decode prog_8_method_22_code 262 = .ok (.invokevirtual 157, 3) := by decide +kernel
theorem dM6_performOne_265 : decode prog_8_method_22_code 265 = .ok (.goto 18, 3) := by decide +kernel
theorem dM6_performOne_268 : decode prog_8_method_22_code 268 = .ok (.aload_n 0, 1) := by decide +kernel
theorem dM6_performOne_269 : decode prog_8_method_22_code 269 = .ok (.iload_n 1, 1) := by decide +kernel
theorem dM6_performOne_270 : decode prog_8_method_22_code 270 = .ok (.iload_n 2, 1) := by decide +kernel
theorem dM6_performOne_271 : decode prog_8_method_22_code 271 = .ok (.invokevirtual 173, 3) := by decide +kernel
theorem dM6_performOne_274 : decode prog_8_method_22_code 274 = .ok (.goto 9, 3) := by decide +kernel
theorem dM6_performOne_277 : decode prog_8_method_22_code 277 = .ok (.aload_n 0, 1) := by decide +kernel
theorem dM6_performOne_278 : decode prog_8_method_22_code 278 = .ok (.iload_n 2, 1) := by decide +kernel
theorem dM6_performOne_279 : decode prog_8_method_22_code 279 = .ok (.iconst 5, 1) := by decide +kernel
theorem dM6_performOne_280 : decode prog_8_method_22_code 280 = .ok (.invokevirtual 157, 3) := by decide +kernel
theorem dM6_performOne_283 : decode prog_8_method_22_code 283 = .ok (.return_, 1) := by decide +kernel
def wpM6_performOne (K : KM) (post : gS → Prop) (u : gS) (p1 : Int32) : Prop :=
  vp_in p1 60 ∧ (∀ x1 : Int32, x1 = sA u 13 p1.toNatClampNeg → (vp_in p1 60 ∧ (∀ u2 : gS, u2 = tA u 14 p1.toNatClampNeg 2 → (vp_in x1 24 ∧ ((((sA u2 0 x1.toNatClampNeg) = 0 → (vp_in x1 24 ∧ (wpM6_done K (fun (u5 : gS) => post u5) u2 x1 (sA u2 1 x1.toNatClampNeg)))) ∧ (¬ (sA u2 0 x1.toNatClampNeg) = 0 → ((((sA u2 0 x1.toNatClampNeg) = 1 → (vp_in x1 24 ∧ (((¬ (sA u2 2 x1.toNatClampNeg) = 0 → (vp_in x1 24 ∧ (vp_in x1 24 ∧ ((¬ (sA u2 2 x1.toNatClampNeg) = 0) ∧ (wpM6_done K (fun (u9 : gS) => post u9) u2 x1 ((sA u2 1 x1.toNatClampNeg) / (sA u2 2 x1.toNatClampNeg))))))) ∧ ((sA u2 2 x1.toNatClampNeg) = 0 → (wpM6_broke K (fun (u11 : gS) => post u11) u2 x1 1)))))) ∧ (¬ (sA u2 0 x1.toNatClampNeg) = 1 → ((((sA u2 0 x1.toNatClampNeg) = 2 → (vp_in x1 24 ∧ (wpM6_out K (fun (r13 : Int32) (u14 : gS) => ((r13 = 0 → (vp_in x1 24 ∧ (((¬ (sA u14 1 x1.toNatClampNeg) = 0 → (vp_in x1 24 ∧ (((¬ (sA u14 1 x1.toNatClampNeg) = 1 → (vp_in x1 24 ∧ (((¬ (sA u14 1 x1.toNatClampNeg) = 2 → (vp_in x1 24 ∧ (((¬ (sA u14 1 x1.toNatClampNeg) = 3 → (vp_in x1 24 ∧ (wpM6_done K (fun (u21 : gS) => post u21) u14 x1 (sA u14 2 x1.toNatClampNeg)))) ∧ ((sA u14 1 x1.toNatClampNeg) = 3 → (wpM6_done K (fun (u23 : gS) => post u23) u14 x1 7)))))) ∧ ((sA u14 1 x1.toNatClampNeg) = 2 → (wpM6_done K (fun (u25 : gS) => post u25) u14 x1 5)))))) ∧ ((sA u14 1 x1.toNatClampNeg) = 1 → (wpM6_done K (fun (u27 : gS) => post u27) u14 x1 3)))))) ∧ ((sA u14 1 x1.toNatClampNeg) = 0 → (wpM6_done K (fun (u29 : gS) => post u29) u14 x1 2)))))) ∧ (¬ r13 = 0 → (wpM6_broke K (fun (u31 : gS) => post u31) u14 x1 2)))) u2 (sA u2 1 x1.toNatClampNeg) 5))) ∧ (¬ (sA u2 0 x1.toNatClampNeg) = 2 → ((((sA u2 0 x1.toNatClampNeg) = 3 → (vp_in x1 24 ∧ (wpM6_isDone K (fun (r33 : Int32) (u34 : gS) => ((r33 = 0 → (wpM6_broke K (fun (u37 : gS) => post u37) u34 x1 3)) ∧ (¬ r33 = 0 → (vp_in x1 24 ∧ (wpM6_isDone K (fun (r38 : Int32) (u39 : gS) => ((r38 = 0 → (wpM6_broke K (fun (u42 : gS) => post u42) u39 x1 3)) ∧ (¬ r38 = 0 → (vp_in x1 24 ∧ (vp_in (sA u39 1 x1.toNatClampNeg) 24 ∧ (vp_in x1 24 ∧ (vp_in (sA u39 2 x1.toNatClampNeg) 24 ∧ (wpM6_done K (fun (u44 : gS) => post u44) u39 x1 ((sA u39 6 (sA u39 1 x1.toNatClampNeg).toNatClampNeg) + (sA u39 6 (sA u39 2 x1.toNatClampNeg).toNatClampNeg)))))))))) u34 (sA u34 2 x1.toNatClampNeg)))))) u2 (sA u2 1 x1.toNatClampNeg)))) ∧ (¬ (sA u2 0 x1.toNatClampNeg) = 3 → ((((sA u2 0 x1.toNatClampNeg) = 4 → (wpM6_fork K (fun (u47 : gS) => post u47) u2 p1 x1)) ∧ (¬ (sA u2 0 x1.toNatClampNeg) = 4 → (wpM6_broke K (fun (u49 : gS) => post u49) u2 x1 5))))))))))))))))))))

set_option maxHeartbeats 8000000 in
set_option maxRecDepth 100000 in
theorem cM6_performOne (l : Launch) (dC : Nat → ClassId) (dI : Nat → Nat → Nat) (ad : Nat → Nat) (ca : Nat → ClassId) (K : KM) (sz : Nat) (u : gS) (p1 : Int32) (post : gS → Prop)  (h : wpM6_performOne K post u p1) : Met l ⟨"WorkHallModel", "performOne", "(I)V"⟩ (gw ⟨"WorkHallModel", "performOne", "(I)V"⟩ prog_8_method_22_code 3 none) ({ frames := 5, cells := 0, slots := 0, locals := 200 } : Room) (va_Pc [.ref (ad 0), .int p1] (gB (dC, dI) vwCl (mT ca) mE (wM ad ca K u) sz)) (va_Qv post (gAt (dC, dI) vwCl (mT ca) (wM ad ca K) (va_A (wM ad ca K u) sz)) (va_A (wM ad ca K u) sz)) 0 0 (va_A (wM ad ca K u) sz) := by
  refine Met.ofW (cc := prog_8_method_22_code) (maxL := 3) (ret := none) (by decide) rfl ?_
  intro p e s m args below meth c s₁ B hml hv
  obtain ⟨rfl, hsz, hP, hK, hD0, hE⟩ := hv
  have hx := B.exec
  have hb := B.bytes
  have hr := B.returns
  have hts : ∀ w ∈ gW, w.before _ s = true := fun w h9 => atoms_spec (ws := (gw ⟨"WorkHallModel", "performOne", "(I)V"⟩ prog_8_method_22_code 3 none)) B.pre w (List.mem_cons_of_mem _ h9)
  have hown : s.vm.findClass RX6 = some m.cls := findClass_of_methodNamed B.named
  have hlocks := B.notSynchronized
  subst hsz
  have hD := hD0.self (sz := s.heap.size)
  generalize hAe : va_A (wM ad ca K u) s.heap.size = A at hD hE ⊢
  have hA : ∀ q : Nat, s.heap.size ≤ q → A q := fun q h => by rw [← hAe]; exact Or.inr h
  obtain ⟨H, hHe⟩ : ∃ z : Heap, z = s.heap := ⟨_, rfl⟩
  rw [← hHe]
  have hS : va_S A s.heap H [] := by rw [hHe]; exact va_S.rf
  have hP : va_P (dC, dI) vwCl (wM ad ca K u) H := by rw [hHe]; exact hP
  have hl := lv_entry ([.ref (ad 0), .int p1]) (n := 3) (Nat.le_of_ble_eq_true rfl)
  rw [lg_entry_eq]
  generalize (lg_sl ([.ref (ad 0), .int p1]) ++ List.replicate (3 - (lg_sl ([.ref (ad 0), .int p1])).length) Slot.unset).toArray = ls at hl ⊢
  have hl : lv_has ls 3 [(0, .ref (ad 0)), (1, .int p1)] := hl
  clear hAe
  refine lv_aload_n hx hb dM6_performOne_0 rfl (lv_at hl 0 rfl) ?_
  refine va_get (D := (dC, dI)) (ci := 6) (v := .ref (ad 18)) (C := RX6) (T := TX6) (N := 36) hx hb hts uwX6 hown hK hP 0 rfl rfl 33 (by decide) (hts _ wd_736) (fun _ h9 => h9) rfl dM6_performOne_1 ?_
  refine lv_iload_n hx hb dM6_performOne_4 rfl (lv_at hl 1 rfl) ?_
  refine va_iald hx hb hK hP 18 0 rfl rfl h.1 dM6_performOne_5 ?_
  have h := h.2
  refine lv_topi (fun x1 ex1 => ?_)
  have h := h x1 ex1
  refine lv_istore_n (lv' := [(2, .int x1), (0, .ref (ad 0)), (1, .int p1)]) hx hb dM6_performOne_6 rfl hl (by decide) rfl (fun ls hl => ?_)
  refine lv_aload_n hx hb dM6_performOne_7 rfl (lv_at hl 1 rfl) ?_
  refine va_get (D := (dC, dI)) (ci := 6) (v := .ref (ad 19)) (C := RX6) (T := TX6) (N := 36) hx hb hts uwX6 hown hK hP 0 rfl rfl 34 (by decide) (hts _ wd_737) (fun _ h9 => h9) rfl dM6_performOne_8 ?_
  refine lv_iload_n hx hb dM6_performOne_11 rfl (lv_at hl 2 rfl) ?_
  refine lv_iconst (v := 2) hx hb dM6_performOne_12 (by decide) ?_
  refine va_iast hx hb hK hP hD hS 19 0 rfl rfl h.1 dM6_performOne_13 (fun H locs hP hD hS => ?_)
  have h := h.2
  obtain ⟨u2, eu2⟩ : ∃ z : gS, z = tA u 14 p1.toNatClampNeg 2 := ⟨_, rfl⟩
  have hP : va_P (dC, dI) vwCl (wM ad ca K u2) H := by rw [eu2, wM_a19]; exact hP
  have hD : va_D A (wM ad ca K u2) := by rw [eu2, wM_a19]; exact hD
  have h := h u2 eu2
  refine lv_aload_n hx hb dM6_performOne_14 rfl (lv_at hl 1 rfl) ?_
  refine va_get (D := (dC, dI)) (ci := 6) (v := .ref (ad 1)) (C := RX6) (T := TX6) (N := 36) hx hb hts uwX6 hown hK hP 0 rfl rfl 5 (by decide) (hts _ wd_708) (fun _ h9 => h9) rfl dM6_performOne_15 ?_
  refine lv_iload_n hx hb dM6_performOne_18 rfl (lv_at hl 0 rfl) ?_
  refine va_iald hx hb hK hP 1 0 rfl rfl h.1 dM6_performOne_19 ?_
  have h := h.2
  by_cases c3 : (sA u2 0 x1.toNatClampNeg) = 0
  · have h := h.1 c3
    have e54 : (sA u2 0 x1.toNatClampNeg).toInt = 0 := by rw [c3]; rfl
    refine lv_tableIn (off := 36) (tgt := 56) hx hb dM6_performOne_20 (by rw [e54]; decide) (by rw [e54]; decide) (by rw [e54]; rfl) (by decide) ?_
    refine lv_aload_n hx hb dM6_performOne_56 rfl (lv_at hl 1 rfl) ?_
    refine lv_iload_n hx hb dM6_performOne_57 rfl (lv_at hl 0 rfl) ?_
    refine lv_aload_n hx hb dM6_performOne_58 rfl (lv_at hl 1 rfl) ?_
    refine va_get (D := (dC, dI)) (ci := 6) (v := .ref (ad 2)) (C := RX6) (T := TX6) (N := 36) hx hb hts uwX6 hown hK hP 0 rfl rfl 6 (by decide) (hts _ wd_709) (fun _ h9 => h9) rfl dM6_performOne_59 ?_
    refine lv_iload_n hx hb dM6_performOne_62 rfl (lv_at hl 0 rfl) ?_
    refine va_iald hx hb hK hP 2 0 rfl rfl h.1 dM6_performOne_63 ?_
    have h := h.2
    refine gc_v (w := wM ad ca K) (u := u2) (va_runV (As := [.int x1, .int (sA u2 1 x1.toNatClampNeg)]) (rest := []) ⟨hx, hb, hml, hown, hts⟩ (cM6_done l dC dI ad ca K H.size u2 x1 (sA u2 1 x1.toNatClampNeg) _ h) (cwV 2 hts (gG_V wd_877 wd_879 wd_30 wd_52 wd_880) rfl rfl rfl (by decide +kernel) ⟨Nat.le_of_ble_eq_true rfl, Nat.le_of_ble_eq_true rfl⟩) ⟨gB_blind mE_ok, va_recv hK hP (ci := 6) (q0 := 0) rfl rfl, gB_pre mE_ok hP hK hD hE hS hA⟩ rfl rfl hl.1 rfl (lv_room (Nat.le_of_ble_eq_true rfl)) dM6_performOne_64 ⟨Nat.le_of_ble_eq_true rfl, Nat.le_of_ble_eq_true rfl⟩) hD hS hA (fun u5 H locs h hP hD hS => ?_)
    refine lv_goto (tgt := 283) hx hb dM6_performOne_67 (by decide) ?_
    exact gr_v (w := wM ad ca K) (u := u5) hx hb hr hlocks h hP hK hD hS dM6_performOne_283
  · have h := h.2 c3
    by_cases c6 : (sA u2 0 x1.toNatClampNeg) = 1
    · have h := h.1 c6
      have e53 : (sA u2 0 x1.toNatClampNeg).toInt = 1 := by rw [c6]; rfl
      refine lv_tableIn (off := 50) (tgt := 70) hx hb dM6_performOne_20 (by rw [e53]; decide) (by rw [e53]; decide) (by rw [e53]; rfl) (by decide) ?_
      refine lv_aload_n hx hb dM6_performOne_70 rfl (lv_at hl 1 rfl) ?_
      refine va_get (D := (dC, dI)) (ci := 6) (v := .ref (ad 3)) (C := RX6) (T := TX6) (N := 36) hx hb hts uwX6 hown hK hP 0 rfl rfl 7 (by decide) (hts _ wd_710) (fun _ h9 => h9) rfl dM6_performOne_71 ?_
      refine lv_iload_n hx hb dM6_performOne_74 rfl (lv_at hl 0 rfl) ?_
      refine va_iald hx hb hK hP 3 0 rfl rfl h.1 dM6_performOne_75 ?_
      have h := h.2
      refine lv_if_ne (tgt := 88) hx hb dM6_performOne_76 (by decide) (fun c7 => ?_) (fun c7 => ?_)
      · have h := h.1 c7
        refine lv_aload_n hx hb dM6_performOne_88 rfl (lv_at hl 1 rfl) ?_
        refine lv_iload_n hx hb dM6_performOne_89 rfl (lv_at hl 0 rfl) ?_
        refine lv_aload_n hx hb dM6_performOne_90 rfl (lv_at hl 1 rfl) ?_
        refine va_get (D := (dC, dI)) (ci := 6) (v := .ref (ad 2)) (C := RX6) (T := TX6) (N := 36) hx hb hts uwX6 hown hK hP 0 rfl rfl 6 (by decide) (hts _ wd_709) (fun _ h9 => h9) rfl dM6_performOne_91 ?_
        refine lv_iload_n hx hb dM6_performOne_94 rfl (lv_at hl 0 rfl) ?_
        refine va_iald hx hb hK hP 2 0 rfl rfl h.1 dM6_performOne_95 ?_
        have h := h.2
        refine lv_aload_n hx hb dM6_performOne_96 rfl (lv_at hl 1 rfl) ?_
        refine va_get (D := (dC, dI)) (ci := 6) (v := .ref (ad 3)) (C := RX6) (T := TX6) (N := 36) hx hb hts uwX6 hown hK hP 0 rfl rfl 7 (by decide) (hts _ wd_710) (fun _ h9 => h9) rfl dM6_performOne_97 ?_
        refine lv_iload_n hx hb dM6_performOne_100 rfl (lv_at hl 0 rfl) ?_
        refine va_iald hx hb hK hP 3 0 rfl rfl h.1 dM6_performOne_101 ?_
        have h := h.2
        refine lv_idiv hx hb dM6_performOne_102 h.1 ?_
        have h := h.2
        refine gc_v (w := wM ad ca K) (u := u2) (va_runV (As := [.int x1, .int ((sA u2 1 x1.toNatClampNeg) / (sA u2 2 x1.toNatClampNeg))]) (rest := []) ⟨hx, hb, hml, hown, hts⟩ (cM6_done l dC dI ad ca K H.size u2 x1 ((sA u2 1 x1.toNatClampNeg) / (sA u2 2 x1.toNatClampNeg)) _ h) (cwV 2 hts (gG_V wd_877 wd_879 wd_30 wd_52 wd_880) rfl rfl rfl (by decide +kernel) ⟨Nat.le_of_ble_eq_true rfl, Nat.le_of_ble_eq_true rfl⟩) ⟨gB_blind mE_ok, va_recv hK hP (ci := 6) (q0 := 0) rfl rfl, gB_pre mE_ok hP hK hD hE hS hA⟩ rfl rfl hl.1 rfl (lv_room (Nat.le_of_ble_eq_true rfl)) dM6_performOne_103 ⟨Nat.le_of_ble_eq_true rfl, Nat.le_of_ble_eq_true rfl⟩) hD hS hA (fun u9 H locs h hP hD hS => ?_)
        refine lv_goto (tgt := 283) hx hb dM6_performOne_106 (by decide) ?_
        exact gr_v (w := wM ad ca K) (u := u9) hx hb hr hlocks h hP hK hD hS dM6_performOne_283
      · have h := h.2 c7
        refine lv_aload_n hx hb dM6_performOne_79 rfl (lv_at hl 1 rfl) ?_
        refine lv_iload_n hx hb dM6_performOne_80 rfl (lv_at hl 0 rfl) ?_
        refine lv_iconst (v := 1) hx hb dM6_performOne_81 (by decide) ?_
        refine gc_v (w := wM ad ca K) (u := u2) (va_runV (As := [.int x1, .int 1]) (rest := []) ⟨hx, hb, hml, hown, hts⟩ (cM6_broke l dC dI ad ca K H.size u2 x1 1 _ h) (cwV 2 hts (gG_V wd_881 wd_883 wd_31 wd_52 wd_884) rfl rfl rfl (by decide +kernel) ⟨Nat.le_of_ble_eq_true rfl, Nat.le_of_ble_eq_true rfl⟩) ⟨gB_blind mE_ok, va_recv hK hP (ci := 6) (q0 := 0) rfl rfl, gB_pre mE_ok hP hK hD hE hS hA⟩ rfl rfl hl.1 rfl (lv_room (Nat.le_of_ble_eq_true rfl)) dM6_performOne_82 ⟨Nat.le_of_ble_eq_true rfl, Nat.le_of_ble_eq_true rfl⟩) hD hS hA (fun u11 H locs h hP hD hS => ?_)
        refine lv_goto (tgt := 283) hx hb dM6_performOne_85 (by decide) ?_
        exact gr_v (w := wM ad ca K) (u := u11) hx hb hr hlocks h hP hK hD hS dM6_performOne_283
    · have h := h.2 c6
      by_cases c12 : (sA u2 0 x1.toNatClampNeg) = 2
      · have h := h.1 c12
        have e52 : (sA u2 0 x1.toNatClampNeg).toInt = 2 := by rw [c12]; rfl
        refine lv_tableIn (off := 89) (tgt := 109) hx hb dM6_performOne_20 (by rw [e52]; decide) (by rw [e52]; decide) (by rw [e52]; rfl) (by decide) ?_
        refine lv_aload_n hx hb dM6_performOne_109 rfl (lv_at hl 1 rfl) ?_
        refine lv_aload_n hx hb dM6_performOne_110 rfl (lv_at hl 1 rfl) ?_
        refine va_get (D := (dC, dI)) (ci := 6) (v := .ref (ad 2)) (C := RX6) (T := TX6) (N := 36) hx hb hts uwX6 hown hK hP 0 rfl rfl 6 (by decide) (hts _ wd_709) (fun _ h9 => h9) rfl dM6_performOne_111 ?_
        refine lv_iload_n hx hb dM6_performOne_114 rfl (lv_at hl 0 rfl) ?_
        refine va_iald hx hb hK hP 2 0 rfl rfl h.1 dM6_performOne_115 ?_
        have h := h.2
        refine lv_iconst (v := 5) hx hb dM6_performOne_116 (by decide) ?_
        refine gc_i (w := wM ad ca K) (u := u2) (va_runV (As := [.int (sA u2 1 x1.toNatClampNeg), .int 5]) (rest := []) ⟨hx, hb, hml, hown, hts⟩ (cM6_out l dC dI ad ca K H.size u2 (sA u2 1 x1.toNatClampNeg) 5 _ h) (cwV 2 hts (gG_V wd_821 wd_823 wd_17 wd_52 wd_824) rfl rfl rfl (by decide +kernel) ⟨Nat.le_of_ble_eq_true rfl, Nat.le_of_ble_eq_true rfl⟩) ⟨gB_blind mE_ok, va_recv hK hP (ci := 6) (q0 := 0) rfl rfl, gB_pre mE_ok hP hK hD hE hS hA⟩ rfl rfl hl.1 rfl (lv_room (Nat.le_of_ble_eq_true rfl)) dM6_performOne_117 ⟨Nat.le_of_ble_eq_true rfl, Nat.le_of_ble_eq_true rfl⟩) hD hS hA (fun r13 u14 H locs h hP hD hS => ?_)
        refine lv_if_eq (tgt := 132) hx hb dM6_performOne_120 (by decide) (fun c15 => ?_) (fun c15 => ?_)
        · have h := h.1 c15
          refine lv_aload_n hx hb dM6_performOne_132 rfl (lv_at hl 1 rfl) ?_
          refine lv_iload_n hx hb dM6_performOne_133 rfl (lv_at hl 0 rfl) ?_
          refine lv_aload_n hx hb dM6_performOne_134 rfl (lv_at hl 1 rfl) ?_
          refine va_get (D := (dC, dI)) (ci := 6) (v := .ref (ad 2)) (C := RX6) (T := TX6) (N := 36) hx hb hts uwX6 hown hK hP 0 rfl rfl 6 (by decide) (hts _ wd_709) (fun _ h9 => h9) rfl dM6_performOne_135 ?_
          refine lv_iload_n hx hb dM6_performOne_138 rfl (lv_at hl 0 rfl) ?_
          refine va_iald hx hb hK hP 2 0 rfl rfl h.1 dM6_performOne_139 ?_
          have h := h.2
          refine lv_if_ne (tgt := 147) hx hb dM6_performOne_140 (by decide) (fun c16 => ?_) (fun c16 => ?_)
          · have h := h.1 c16
            refine lv_aload_n hx hb dM6_performOne_147 rfl (lv_at hl 1 rfl) ?_
            refine va_get (D := (dC, dI)) (ci := 6) (v := .ref (ad 2)) (C := RX6) (T := TX6) (N := 36) hx hb hts uwX6 hown hK hP 0 rfl rfl 6 (by decide) (hts _ wd_709) (fun _ h9 => h9) rfl dM6_performOne_148 ?_
            refine lv_iload_n hx hb dM6_performOne_151 rfl (lv_at hl 0 rfl) ?_
            refine va_iald hx hb hK hP 2 0 rfl rfl h.1 dM6_performOne_152 ?_
            have h := h.2
            refine lv_iconst (v := 1) hx hb dM6_performOne_153 (by decide) ?_
            refine lv_icmp_ne (tgt := 161) hx hb dM6_performOne_154 (by decide) (fun c17 => ?_) (fun c17 => ?_)
            · have h := h.1 c17
              refine lv_aload_n hx hb dM6_performOne_161 rfl (lv_at hl 1 rfl) ?_
              refine va_get (D := (dC, dI)) (ci := 6) (v := .ref (ad 2)) (C := RX6) (T := TX6) (N := 36) hx hb hts uwX6 hown hK hP 0 rfl rfl 6 (by decide) (hts _ wd_709) (fun _ h9 => h9) rfl dM6_performOne_162 ?_
              refine lv_iload_n hx hb dM6_performOne_165 rfl (lv_at hl 0 rfl) ?_
              refine va_iald hx hb hK hP 2 0 rfl rfl h.1 dM6_performOne_166 ?_
              have h := h.2
              refine lv_iconst (v := 2) hx hb dM6_performOne_167 (by decide) ?_
              refine lv_icmp_ne (tgt := 175) hx hb dM6_performOne_168 (by decide) (fun c18 => ?_) (fun c18 => ?_)
              · have h := h.1 c18
                refine lv_aload_n hx hb dM6_performOne_175 rfl (lv_at hl 1 rfl) ?_
                refine va_get (D := (dC, dI)) (ci := 6) (v := .ref (ad 2)) (C := RX6) (T := TX6) (N := 36) hx hb hts uwX6 hown hK hP 0 rfl rfl 6 (by decide) (hts _ wd_709) (fun _ h9 => h9) rfl dM6_performOne_176 ?_
                refine lv_iload_n hx hb dM6_performOne_179 rfl (lv_at hl 0 rfl) ?_
                refine va_iald hx hb hK hP 2 0 rfl rfl h.1 dM6_performOne_180 ?_
                have h := h.2
                refine lv_iconst (v := 3) hx hb dM6_performOne_181 (by decide) ?_
                refine lv_icmp_ne (tgt := 190) hx hb dM6_performOne_182 (by decide) (fun c19 => ?_) (fun c19 => ?_)
                · have h := h.1 c19
                  refine lv_aload_n hx hb dM6_performOne_190 rfl (lv_at hl 1 rfl) ?_
                  refine va_get (D := (dC, dI)) (ci := 6) (v := .ref (ad 3)) (C := RX6) (T := TX6) (N := 36) hx hb hts uwX6 hown hK hP 0 rfl rfl 7 (by decide) (hts _ wd_710) (fun _ h9 => h9) rfl dM6_performOne_191 ?_
                  refine lv_iload_n hx hb dM6_performOne_194 rfl (lv_at hl 0 rfl) ?_
                  refine va_iald hx hb hK hP 3 0 rfl rfl h.1 dM6_performOne_195 ?_
                  have h := h.2
                  refine gc_v (w := wM ad ca K) (u := u14) (va_runV (As := [.int x1, .int (sA u14 2 x1.toNatClampNeg)]) (rest := []) ⟨hx, hb, hml, hown, hts⟩ (cM6_done l dC dI ad ca K H.size u14 x1 (sA u14 2 x1.toNatClampNeg) _ h) (cwV 2 hts (gG_V wd_877 wd_879 wd_30 wd_52 wd_880) rfl rfl rfl (by decide +kernel) ⟨Nat.le_of_ble_eq_true rfl, Nat.le_of_ble_eq_true rfl⟩) ⟨gB_blind mE_ok, va_recv hK hP (ci := 6) (q0 := 0) rfl rfl, gB_pre mE_ok hP hK hD hE hS hA⟩ rfl rfl hl.1 rfl (lv_room (Nat.le_of_ble_eq_true rfl)) dM6_performOne_196 ⟨Nat.le_of_ble_eq_true rfl, Nat.le_of_ble_eq_true rfl⟩) hD hS hA (fun u21 H locs h hP hD hS => ?_)
                  refine lv_goto (tgt := 283) hx hb dM6_performOne_199 (by decide) ?_
                  exact gr_v (w := wM ad ca K) (u := u21) hx hb hr hlocks h hP hK hD hS dM6_performOne_283
                · have h := h.2 c19
                  refine lv_bipush (v := 7) hx hb dM6_performOne_185 (by decide) ?_
                  refine lv_goto (tgt := 196) hx hb dM6_performOne_187 (by decide) ?_
                  refine gc_v (w := wM ad ca K) (u := u14) (va_runV (As := [.int x1, .int 7]) (rest := []) ⟨hx, hb, hml, hown, hts⟩ (cM6_done l dC dI ad ca K H.size u14 x1 7 _ h) (cwV 2 hts (gG_V wd_877 wd_879 wd_30 wd_52 wd_880) rfl rfl rfl (by decide +kernel) ⟨Nat.le_of_ble_eq_true rfl, Nat.le_of_ble_eq_true rfl⟩) ⟨gB_blind mE_ok, va_recv hK hP (ci := 6) (q0 := 0) rfl rfl, gB_pre mE_ok hP hK hD hE hS hA⟩ rfl rfl hl.1 rfl (lv_room (Nat.le_of_ble_eq_true rfl)) dM6_performOne_196 ⟨Nat.le_of_ble_eq_true rfl, Nat.le_of_ble_eq_true rfl⟩) hD hS hA (fun u23 H locs h hP hD hS => ?_)
                  refine lv_goto (tgt := 283) hx hb dM6_performOne_199 (by decide) ?_
                  exact gr_v (w := wM ad ca K) (u := u23) hx hb hr hlocks h hP hK hD hS dM6_performOne_283
              · have h := h.2 c18
                refine lv_iconst (v := 5) hx hb dM6_performOne_171 (by decide) ?_
                refine lv_goto (tgt := 196) hx hb dM6_performOne_172 (by decide) ?_
                refine gc_v (w := wM ad ca K) (u := u14) (va_runV (As := [.int x1, .int 5]) (rest := []) ⟨hx, hb, hml, hown, hts⟩ (cM6_done l dC dI ad ca K H.size u14 x1 5 _ h) (cwV 2 hts (gG_V wd_877 wd_879 wd_30 wd_52 wd_880) rfl rfl rfl (by decide +kernel) ⟨Nat.le_of_ble_eq_true rfl, Nat.le_of_ble_eq_true rfl⟩) ⟨gB_blind mE_ok, va_recv hK hP (ci := 6) (q0 := 0) rfl rfl, gB_pre mE_ok hP hK hD hE hS hA⟩ rfl rfl hl.1 rfl (lv_room (Nat.le_of_ble_eq_true rfl)) dM6_performOne_196 ⟨Nat.le_of_ble_eq_true rfl, Nat.le_of_ble_eq_true rfl⟩) hD hS hA (fun u25 H locs h hP hD hS => ?_)
                refine lv_goto (tgt := 283) hx hb dM6_performOne_199 (by decide) ?_
                exact gr_v (w := wM ad ca K) (u := u25) hx hb hr hlocks h hP hK hD hS dM6_performOne_283
            · have h := h.2 c17
              refine lv_iconst (v := 3) hx hb dM6_performOne_157 (by decide) ?_
              refine lv_goto (tgt := 196) hx hb dM6_performOne_158 (by decide) ?_
              refine gc_v (w := wM ad ca K) (u := u14) (va_runV (As := [.int x1, .int 3]) (rest := []) ⟨hx, hb, hml, hown, hts⟩ (cM6_done l dC dI ad ca K H.size u14 x1 3 _ h) (cwV 2 hts (gG_V wd_877 wd_879 wd_30 wd_52 wd_880) rfl rfl rfl (by decide +kernel) ⟨Nat.le_of_ble_eq_true rfl, Nat.le_of_ble_eq_true rfl⟩) ⟨gB_blind mE_ok, va_recv hK hP (ci := 6) (q0 := 0) rfl rfl, gB_pre mE_ok hP hK hD hE hS hA⟩ rfl rfl hl.1 rfl (lv_room (Nat.le_of_ble_eq_true rfl)) dM6_performOne_196 ⟨Nat.le_of_ble_eq_true rfl, Nat.le_of_ble_eq_true rfl⟩) hD hS hA (fun u27 H locs h hP hD hS => ?_)
              refine lv_goto (tgt := 283) hx hb dM6_performOne_199 (by decide) ?_
              exact gr_v (w := wM ad ca K) (u := u27) hx hb hr hlocks h hP hK hD hS dM6_performOne_283
          · have h := h.2 c16
            refine lv_iconst (v := 2) hx hb dM6_performOne_143 (by decide) ?_
            refine lv_goto (tgt := 196) hx hb dM6_performOne_144 (by decide) ?_
            refine gc_v (w := wM ad ca K) (u := u14) (va_runV (As := [.int x1, .int 2]) (rest := []) ⟨hx, hb, hml, hown, hts⟩ (cM6_done l dC dI ad ca K H.size u14 x1 2 _ h) (cwV 2 hts (gG_V wd_877 wd_879 wd_30 wd_52 wd_880) rfl rfl rfl (by decide +kernel) ⟨Nat.le_of_ble_eq_true rfl, Nat.le_of_ble_eq_true rfl⟩) ⟨gB_blind mE_ok, va_recv hK hP (ci := 6) (q0 := 0) rfl rfl, gB_pre mE_ok hP hK hD hE hS hA⟩ rfl rfl hl.1 rfl (lv_room (Nat.le_of_ble_eq_true rfl)) dM6_performOne_196 ⟨Nat.le_of_ble_eq_true rfl, Nat.le_of_ble_eq_true rfl⟩) hD hS hA (fun u29 H locs h hP hD hS => ?_)
            refine lv_goto (tgt := 283) hx hb dM6_performOne_199 (by decide) ?_
            exact gr_v (w := wM ad ca K) (u := u29) hx hb hr hlocks h hP hK hD hS dM6_performOne_283
        · have h := h.2 c15
          refine lv_aload_n hx hb dM6_performOne_123 rfl (lv_at hl 1 rfl) ?_
          refine lv_iload_n hx hb dM6_performOne_124 rfl (lv_at hl 0 rfl) ?_
          refine lv_iconst (v := 2) hx hb dM6_performOne_125 (by decide) ?_
          refine gc_v (w := wM ad ca K) (u := u14) (va_runV (As := [.int x1, .int 2]) (rest := []) ⟨hx, hb, hml, hown, hts⟩ (cM6_broke l dC dI ad ca K H.size u14 x1 2 _ h) (cwV 2 hts (gG_V wd_881 wd_883 wd_31 wd_52 wd_884) rfl rfl rfl (by decide +kernel) ⟨Nat.le_of_ble_eq_true rfl, Nat.le_of_ble_eq_true rfl⟩) ⟨gB_blind mE_ok, va_recv hK hP (ci := 6) (q0 := 0) rfl rfl, gB_pre mE_ok hP hK hD hE hS hA⟩ rfl rfl hl.1 rfl (lv_room (Nat.le_of_ble_eq_true rfl)) dM6_performOne_126 ⟨Nat.le_of_ble_eq_true rfl, Nat.le_of_ble_eq_true rfl⟩) hD hS hA (fun u31 H locs h hP hD hS => ?_)
          refine lv_goto (tgt := 283) hx hb dM6_performOne_129 (by decide) ?_
          exact gr_v (w := wM ad ca K) (u := u31) hx hb hr hlocks h hP hK hD hS dM6_performOne_283
      · have h := h.2 c12
        by_cases c32 : (sA u2 0 x1.toNatClampNeg) = 3
        · have h := h.1 c32
          have e51 : (sA u2 0 x1.toNatClampNeg).toInt = 3 := by rw [c32]; rfl
          refine lv_tableIn (off := 182) (tgt := 202) hx hb dM6_performOne_20 (by rw [e51]; decide) (by rw [e51]; decide) (by rw [e51]; rfl) (by decide) ?_
          refine lv_aload_n hx hb dM6_performOne_202 rfl (lv_at hl 1 rfl) ?_
          refine lv_aload_n hx hb dM6_performOne_203 rfl (lv_at hl 1 rfl) ?_
          refine va_get (D := (dC, dI)) (ci := 6) (v := .ref (ad 2)) (C := RX6) (T := TX6) (N := 36) hx hb hts uwX6 hown hK hP 0 rfl rfl 6 (by decide) (hts _ wd_709) (fun _ h9 => h9) rfl dM6_performOne_204 ?_
          refine lv_iload_n hx hb dM6_performOne_207 rfl (lv_at hl 0 rfl) ?_
          refine va_iald hx hb hK hP 2 0 rfl rfl h.1 dM6_performOne_208 ?_
          have h := h.2
          refine gc_i (w := wM ad ca K) (u := u2) (va_runV (As := [.int (sA u2 1 x1.toNatClampNeg)]) (rest := []) ⟨hx, hb, hml, hown, hts⟩ (cM6_isDone l dC dI ad ca K H.size u2 (sA u2 1 x1.toNatClampNeg) _ h) (cwV 1 hts (gG_V wd_885 wd_887 wd_32 wd_52 wd_888) rfl rfl rfl (by decide +kernel) ⟨Nat.le_of_ble_eq_true rfl, Nat.le_of_ble_eq_true rfl⟩) ⟨gB_blind mE_ok, va_recv hK hP (ci := 6) (q0 := 0) rfl rfl, gB_pre mE_ok hP hK hD hE hS hA⟩ rfl rfl hl.1 rfl (lv_room (Nat.le_of_ble_eq_true rfl)) dM6_performOne_209 ⟨Nat.le_of_ble_eq_true rfl, Nat.le_of_ble_eq_true rfl⟩) hD hS hA (fun r33 u34 H locs h hP hD hS => ?_)
          refine lv_if_eq (tgt := 259) hx hb dM6_performOne_212 (by decide) (fun c35 => ?_) (fun c35 => ?_)
          · have h := h.1 c35
            refine lv_aload_n hx hb dM6_performOne_259 rfl (lv_at hl 1 rfl) ?_
            refine lv_iload_n hx hb dM6_performOne_260 rfl (lv_at hl 0 rfl) ?_
            refine lv_iconst (v := 3) hx hb dM6_performOne_261 (by decide) ?_
            refine gc_v (w := wM ad ca K) (u := u34) (va_runV (As := [.int x1, .int 3]) (rest := []) ⟨hx, hb, hml, hown, hts⟩ (cM6_broke l dC dI ad ca K H.size u34 x1 3 _ h) (cwV 2 hts (gG_V wd_881 wd_883 wd_31 wd_52 wd_884) rfl rfl rfl (by decide +kernel) ⟨Nat.le_of_ble_eq_true rfl, Nat.le_of_ble_eq_true rfl⟩) ⟨gB_blind mE_ok, va_recv hK hP (ci := 6) (q0 := 0) rfl rfl, gB_pre mE_ok hP hK hD hE hS hA⟩ rfl rfl hl.1 rfl (lv_room (Nat.le_of_ble_eq_true rfl)) dM6_performOne_262 ⟨Nat.le_of_ble_eq_true rfl, Nat.le_of_ble_eq_true rfl⟩) hD hS hA (fun u37 H locs h hP hD hS => ?_)
            refine lv_goto (tgt := 283) hx hb dM6_performOne_265 (by decide) ?_
            exact gr_v (w := wM ad ca K) (u := u37) hx hb hr hlocks h hP hK hD hS dM6_performOne_283
          · have h := h.2 c35
            refine lv_aload_n hx hb dM6_performOne_215 rfl (lv_at hl 1 rfl) ?_
            refine lv_aload_n hx hb dM6_performOne_216 rfl (lv_at hl 1 rfl) ?_
            refine va_get (D := (dC, dI)) (ci := 6) (v := .ref (ad 3)) (C := RX6) (T := TX6) (N := 36) hx hb hts uwX6 hown hK hP 0 rfl rfl 7 (by decide) (hts _ wd_710) (fun _ h9 => h9) rfl dM6_performOne_217 ?_
            refine lv_iload_n hx hb dM6_performOne_220 rfl (lv_at hl 0 rfl) ?_
            refine va_iald hx hb hK hP 3 0 rfl rfl h.1 dM6_performOne_221 ?_
            have h := h.2
            refine gc_i (w := wM ad ca K) (u := u34) (va_runV (As := [.int (sA u34 2 x1.toNatClampNeg)]) (rest := []) ⟨hx, hb, hml, hown, hts⟩ (cM6_isDone l dC dI ad ca K H.size u34 (sA u34 2 x1.toNatClampNeg) _ h) (cwV 1 hts (gG_V wd_885 wd_887 wd_32 wd_52 wd_888) rfl rfl rfl (by decide +kernel) ⟨Nat.le_of_ble_eq_true rfl, Nat.le_of_ble_eq_true rfl⟩) ⟨gB_blind mE_ok, va_recv hK hP (ci := 6) (q0 := 0) rfl rfl, gB_pre mE_ok hP hK hD hE hS hA⟩ rfl rfl hl.1 rfl (lv_room (Nat.le_of_ble_eq_true rfl)) dM6_performOne_222 ⟨Nat.le_of_ble_eq_true rfl, Nat.le_of_ble_eq_true rfl⟩) hD hS hA (fun r38 u39 H locs h hP hD hS => ?_)
            refine lv_if_eq (tgt := 259) hx hb dM6_performOne_225 (by decide) (fun c40 => ?_) (fun c40 => ?_)
            · have h := h.1 c40
              refine lv_aload_n hx hb dM6_performOne_259 rfl (lv_at hl 1 rfl) ?_
              refine lv_iload_n hx hb dM6_performOne_260 rfl (lv_at hl 0 rfl) ?_
              refine lv_iconst (v := 3) hx hb dM6_performOne_261 (by decide) ?_
              refine gc_v (w := wM ad ca K) (u := u39) (va_runV (As := [.int x1, .int 3]) (rest := []) ⟨hx, hb, hml, hown, hts⟩ (cM6_broke l dC dI ad ca K H.size u39 x1 3 _ h) (cwV 2 hts (gG_V wd_881 wd_883 wd_31 wd_52 wd_884) rfl rfl rfl (by decide +kernel) ⟨Nat.le_of_ble_eq_true rfl, Nat.le_of_ble_eq_true rfl⟩) ⟨gB_blind mE_ok, va_recv hK hP (ci := 6) (q0 := 0) rfl rfl, gB_pre mE_ok hP hK hD hE hS hA⟩ rfl rfl hl.1 rfl (lv_room (Nat.le_of_ble_eq_true rfl)) dM6_performOne_262 ⟨Nat.le_of_ble_eq_true rfl, Nat.le_of_ble_eq_true rfl⟩) hD hS hA (fun u42 H locs h hP hD hS => ?_)
              refine lv_goto (tgt := 283) hx hb dM6_performOne_265 (by decide) ?_
              exact gr_v (w := wM ad ca K) (u := u42) hx hb hr hlocks h hP hK hD hS dM6_performOne_283
            · have h := h.2 c40
              refine lv_aload_n hx hb dM6_performOne_228 rfl (lv_at hl 1 rfl) ?_
              refine lv_iload_n hx hb dM6_performOne_229 rfl (lv_at hl 0 rfl) ?_
              refine lv_aload_n hx hb dM6_performOne_230 rfl (lv_at hl 1 rfl) ?_
              refine va_get (D := (dC, dI)) (ci := 6) (v := .ref (ad 7)) (C := RX6) (T := TX6) (N := 36) hx hb hts uwX6 hown hK hP 0 rfl rfl 11 (by decide) (hts _ wd_714) (fun _ h9 => h9) rfl dM6_performOne_231 ?_
              refine lv_aload_n hx hb dM6_performOne_234 rfl (lv_at hl 1 rfl) ?_
              refine va_get (D := (dC, dI)) (ci := 6) (v := .ref (ad 2)) (C := RX6) (T := TX6) (N := 36) hx hb hts uwX6 hown hK hP 0 rfl rfl 6 (by decide) (hts _ wd_709) (fun _ h9 => h9) rfl dM6_performOne_235 ?_
              refine lv_iload_n hx hb dM6_performOne_238 rfl (lv_at hl 0 rfl) ?_
              refine va_iald hx hb hK hP 2 0 rfl rfl h.1 dM6_performOne_239 ?_
              have h := h.2
              refine va_iald hx hb hK hP 7 0 rfl rfl h.1 dM6_performOne_240 ?_
              have h := h.2
              refine lv_aload_n hx hb dM6_performOne_241 rfl (lv_at hl 1 rfl) ?_
              refine va_get (D := (dC, dI)) (ci := 6) (v := .ref (ad 7)) (C := RX6) (T := TX6) (N := 36) hx hb hts uwX6 hown hK hP 0 rfl rfl 11 (by decide) (hts _ wd_714) (fun _ h9 => h9) rfl dM6_performOne_242 ?_
              refine lv_aload_n hx hb dM6_performOne_245 rfl (lv_at hl 1 rfl) ?_
              refine va_get (D := (dC, dI)) (ci := 6) (v := .ref (ad 3)) (C := RX6) (T := TX6) (N := 36) hx hb hts uwX6 hown hK hP 0 rfl rfl 7 (by decide) (hts _ wd_710) (fun _ h9 => h9) rfl dM6_performOne_246 ?_
              refine lv_iload_n hx hb dM6_performOne_249 rfl (lv_at hl 0 rfl) ?_
              refine va_iald hx hb hK hP 3 0 rfl rfl h.1 dM6_performOne_250 ?_
              have h := h.2
              refine va_iald hx hb hK hP 7 0 rfl rfl h.1 dM6_performOne_251 ?_
              have h := h.2
              refine lv_iadd hx hb dM6_performOne_252 ?_
              refine gc_v (w := wM ad ca K) (u := u39) (va_runV (As := [.int x1, .int ((sA u39 6 (sA u39 1 x1.toNatClampNeg).toNatClampNeg) + (sA u39 6 (sA u39 2 x1.toNatClampNeg).toNatClampNeg))]) (rest := []) ⟨hx, hb, hml, hown, hts⟩ (cM6_done l dC dI ad ca K H.size u39 x1 ((sA u39 6 (sA u39 1 x1.toNatClampNeg).toNatClampNeg) + (sA u39 6 (sA u39 2 x1.toNatClampNeg).toNatClampNeg)) _ h) (cwV 2 hts (gG_V wd_877 wd_879 wd_30 wd_52 wd_880) rfl rfl rfl (by decide +kernel) ⟨Nat.le_of_ble_eq_true rfl, Nat.le_of_ble_eq_true rfl⟩) ⟨gB_blind mE_ok, va_recv hK hP (ci := 6) (q0 := 0) rfl rfl, gB_pre mE_ok hP hK hD hE hS hA⟩ rfl rfl hl.1 rfl (lv_room (Nat.le_of_ble_eq_true rfl)) dM6_performOne_253 ⟨Nat.le_of_ble_eq_true rfl, Nat.le_of_ble_eq_true rfl⟩) hD hS hA (fun u44 H locs h hP hD hS => ?_)
              refine lv_goto (tgt := 283) hx hb dM6_performOne_256 (by decide) ?_
              exact gr_v (w := wM ad ca K) (u := u44) hx hb hr hlocks h hP hK hD hS dM6_performOne_283
        · have h := h.2 c32
          by_cases c45 : (sA u2 0 x1.toNatClampNeg) = 4
          · have h := h.1 c45
            have e50 : (sA u2 0 x1.toNatClampNeg).toInt = 4 := by rw [c45]; rfl
            refine lv_tableIn (off := 248) (tgt := 268) hx hb dM6_performOne_20 (by rw [e50]; decide) (by rw [e50]; decide) (by rw [e50]; rfl) (by decide) ?_
            refine lv_aload_n hx hb dM6_performOne_268 rfl (lv_at hl 1 rfl) ?_
            refine lv_iload_n hx hb dM6_performOne_269 rfl (lv_at hl 2 rfl) ?_
            refine lv_iload_n hx hb dM6_performOne_270 rfl (lv_at hl 0 rfl) ?_
            refine gc_v (w := wM ad ca K) (u := u2) (va_runV (As := [.int p1, .int x1]) (rest := []) ⟨hx, hb, hml, hown, hts⟩ (cM6_fork l dC dI ad ca K H.size u2 p1 x1 _ h) (cwV 2 hts (gG_V wd_889 wd_891 wd_33 wd_52 wd_892) rfl rfl rfl (by decide +kernel) ⟨Nat.le_of_ble_eq_true rfl, Nat.le_of_ble_eq_true rfl⟩) ⟨gB_blind mE_ok, va_recv hK hP (ci := 6) (q0 := 0) rfl rfl, gB_pre mE_ok hP hK hD hE hS hA⟩ rfl rfl hl.1 rfl (lv_room (Nat.le_of_ble_eq_true rfl)) dM6_performOne_271 ⟨Nat.le_of_ble_eq_true rfl, Nat.le_of_ble_eq_true rfl⟩) hD hS hA (fun u47 H locs h hP hD hS => ?_)
            refine lv_goto (tgt := 283) hx hb dM6_performOne_274 (by decide) ?_
            exact gr_v (w := wM ad ca K) (u := u47) hx hb hr hlocks h hP hK hD hS dM6_performOne_283
          · have h := h.2 c45
            refine lv_tableOut (tgt := 277) hx hb dM6_performOne_20 (by have a0 := lv_neT (a := 0) c3 rfl; have a1 := lv_neT (a := 1) c6 rfl; have a2 := lv_neT (a := 2) c12 rfl; have a3 := lv_neT (a := 3) c32 rfl; have a4 := lv_neT (a := 4) c45 rfl; omega) (by decide) ?_
            refine lv_aload_n hx hb dM6_performOne_277 rfl (lv_at hl 1 rfl) ?_
            refine lv_iload_n hx hb dM6_performOne_278 rfl (lv_at hl 0 rfl) ?_
            refine lv_iconst (v := 5) hx hb dM6_performOne_279 (by decide) ?_
            refine gc_v (w := wM ad ca K) (u := u2) (va_runV (As := [.int x1, .int 5]) (rest := []) ⟨hx, hb, hml, hown, hts⟩ (cM6_broke l dC dI ad ca K H.size u2 x1 5 _ h) (cwV 2 hts (gG_V wd_881 wd_883 wd_31 wd_52 wd_884) rfl rfl rfl (by decide +kernel) ⟨Nat.le_of_ble_eq_true rfl, Nat.le_of_ble_eq_true rfl⟩) ⟨gB_blind mE_ok, va_recv hK hP (ci := 6) (q0 := 0) rfl rfl, gB_pre mE_ok hP hK hD hE hS hA⟩ rfl rfl hl.1 rfl (lv_room (Nat.le_of_ble_eq_true rfl)) dM6_performOne_280 ⟨Nat.le_of_ble_eq_true rfl, Nat.le_of_ble_eq_true rfl⟩) hD hS hA (fun u49 H locs h hP hD hS => ?_)
            exact gr_v (w := wM ad ca K) (u := u49) hx hb hr hlocks h hP hK hD hS dM6_performOne_283

