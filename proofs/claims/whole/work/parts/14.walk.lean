/-! M_readStatement -/
theorem d_M_readStatement_0 : decode prog_8_method_33_code 0 = .ok (.aload_n 0, 1) := by decide +kernel
theorem d_M_readStatement_1 : decode prog_8_method_33_code 1 = .ok (.getfield 222, 3) := by decide +kernel
theorem d_M_readStatement_4 : decode prog_8_method_33_code 4 = .ok (.istore_n 1, 1) := by decide +kernel
theorem d_M_readStatement_5 : decode prog_8_method_33_code 5 = .ok (.aload_n 0, 1) := by decide +kernel
theorem d_M_readStatement_6 : decode prog_8_method_33_code 6 = .ok (.invokevirtual 211, 3) := by decide +kernel
theorem d_M_readStatement_9 : decode prog_8_method_33_code 9 = .ok (.istore_n 2, 1) := by decide +kernel
theorem d_M_readStatement_10 : decode prog_8_method_33_code 10 = .ok (.aload_n 0, 1) := by decide +kernel
theorem d_M_readStatement_11 : decode prog_8_method_33_code 11 = .ok (.getfield 71, 3) := by decide +kernel
theorem d_M_readStatement_14 : decode prog_8_method_33_code 14 = .ok (.iload_n 1, 1) := by decide +kernel
theorem d_M_readStatement_15 : decode prog_8_method_33_code 15 = .ok (.aload_n 0, 1) := by decide +kernel
theorem d_M_readStatement_16 : decode prog_8_method_33_code 16 = .ok (.getfield 199, 3) := by decide +kernel
theorem d_M_readStatement_19 : decode prog_8_method_33_code 19 = .ok (.iastore, 1) := by decide +kernel
theorem d_M_readStatement_20 : decode prog_8_method_33_code 20 = .ok (.aload_n 0, 1) := by decide +kernel
theorem d_M_readStatement_21 : decode prog_8_method_33_code 21 = .ok (.getfield 74, 3) := by decide +kernel
theorem d_M_readStatement_24 : decode prog_8_method_33_code 24 = .ok (.iload_n 1, 1) := by decide +kernel
theorem d_M_readStatement_25 : decode prog_8_method_33_code 25 = .ok (.iload_n 2, 1) := by decide +kernel
theorem d_M_readStatement_26 : decode prog_8_method_33_code 26 = .ok (.iastore, 1) := by decide +kernel
theorem d_M_readStatement_27 : decode prog_8_method_33_code 27 = .ok (.aload_n 0, 1) := by decide +kernel
theorem d_M_readStatement_28 : decode prog_8_method_33_code 28 = .ok (.aload_n 0, 1) := by decide +kernel
theorem d_M_readStatement_29 : decode prog_8_method_33_code 29 = .ok (.getfield 208, 3) := by decide +kernel
theorem d_M_readStatement_32 : decode prog_8_method_33_code 32 = .ok (.ifCond .ne 39, 3) := by decide +kernel
theorem d_M_readStatement_35 : decode prog_8_method_33_code 35 = .ok (.iload_n 2, 1) := by decide +kernel
theorem d_M_readStatement_36 : decode prog_8_method_33_code 36 = .ok (.bipush 103, 2) := by decide +kernel
theorem d_M_readStatement_38 : decode prog_8_method_33_code 38 = .ok (.if_icmp .eq 37, 3) := by decide +kernel
theorem d_M_readStatement_41 : decode prog_8_method_33_code 41 = .ok (.iload_n 2, 1) := by decide +kernel
theorem d_M_readStatement_42 : decode prog_8_method_33_code 42 = .ok (.bipush 112, 2) := by decide +kernel
theorem d_M_readStatement_44 : decode prog_8_method_33_code 44 = .ok (.if_icmp .eq 31, 3) := by decide +kernel
theorem d_M_readStatement_47 : decode prog_8_method_33_code 47 = .ok (.iload_n 2, 1) := by decide +kernel
theorem d_M_readStatement_48 : decode prog_8_method_33_code 48 = .ok (.bipush 104, 2) := by decide +kernel
theorem d_M_readStatement_50 : decode prog_8_method_33_code 50 = .ok (.if_icmp .eq 25, 3) := by decide +kernel
theorem d_M_readStatement_53 : decode prog_8_method_33_code 53 = .ok (.iload_n 2, 1) := by decide +kernel
theorem d_M_readStatement_54 : decode prog_8_method_33_code 54 = .ok (.bipush 99, 2) := by decide +kernel
theorem d_M_readStatement_56 : decode prog_8_method_33_code 56 = .ok (.if_icmp .eq 19, 3) := by decide +kernel
theorem d_M_readStatement_59 : decode prog_8_method_33_code 59 = .ok (.iload_n 2, 1) := by decide +kernel
theorem d_M_readStatement_60 : decode prog_8_method_33_code 60 = .ok (.bipush 116, 2) := by decide +kernel
theorem d_M_readStatement_62 : decode prog_8_method_33_code 62 = .ok (.if_icmp .eq 13, 3) := by decide +kernel
theorem d_M_readStatement_65 : decode prog_8_method_33_code 65 = .ok (.iload_n 2, 1) := by decide +kernel
theorem d_M_readStatement_66 : decode prog_8_method_33_code 66 = .ok (.bipush 109, 2) := by decide +kernel
theorem d_M_readStatement_68 : decode prog_8_method_33_code 68 = .ok (.if_icmp .eq 7, 3) := by decide +kernel
theorem d_M_readStatement_71 : decode prog_8_method_33_code 71 = .ok (.iconst 1, 1) := by decide +kernel
theorem d_M_readStatement_72 : decode prog_8_method_33_code 72 = .ok (.goto 4, 3) := by decide +kernel
theorem d_M_readStatement_75 : decode prog_8_method_33_code 75 = .ok (.iconst 0, 1) := by decide +kernel
theorem d_M_readStatement_76 : decode prog_8_method_33_code 76 = .ok (.putfield 208, 3) := by decide +kernel
theorem d_M_readStatement_79 : decode prog_8_method_33_code 79 = .ok (.aload_n 0, 1) := by decide +kernel
theorem d_M_readStatement_80 : decode prog_8_method_33_code 80 = .ok (.dup, 1) := by decide +kernel
theorem d_M_readStatement_81 : decode prog_8_method_33_code 81 = .ok (.getfield 199, 3) := by decide +kernel
theorem d_M_readStatement_84 : decode prog_8_method_33_code 84 = .ok (.aload_n 0, 1) := by decide +kernel
theorem d_M_readStatement_85 : decode prog_8_method_33_code 85 = .ok (.getfield 208, 3) := by decide +kernel
theorem d_M_readStatement_88 : decode prog_8_method_33_code 88 = .ok (.ifCond .eq 7, 3) := by decide +kernel
theorem d_M_readStatement_91 : decode prog_8_method_33_code 91 = .ok (.iconst 0, 1) := by decide +kernel
theorem d_M_readStatement_92 : decode prog_8_method_33_code 92 = .ok (.goto 4, 3) := by decide +kernel
theorem d_M_readStatement_95 : decode prog_8_method_33_code 95 = .ok (.iconst 1, 1) := by decide +kernel
theorem d_M_readStatement_96 : decode prog_8_method_33_code 96 = .ok (.iadd, 1) := by decide +kernel
theorem d_M_readStatement_97 : decode prog_8_method_33_code 97 = .ok (.putfield 199, 3) := by decide +kernel
theorem d_M_readStatement_100 : decode prog_8_method_33_code 100 = .ok (.iload_n 2, 1) := by decide +kernel
theorem d_M_readStatement_101 : decode prog_8_method_33_code 101 = .ok (.bipush 103, 2) := by decide +kernel
theorem d_M_readStatement_103 : decode prog_8_method_33_code 103 = .ok (.if_icmp .ne 7, 3) := by decide +kernel
theorem d_M_readStatement_106 : decode prog_8_method_33_code 106 = .ok (.iconst 4, 1) := by decide +kernel
theorem d_M_readStatement_107 : decode prog_8_method_33_code 107 = .ok (.goto 36, 3) := by decide +kernel
theorem d_M_readStatement_110 : decode prog_8_method_33_code 110 = .ok (.iload_n 2, 1) := by decide +kernel
theorem d_M_readStatement_111 : decode prog_8_method_33_code 111 = .ok (.bipush 112, 2) := by decide +kernel
theorem d_M_readStatement_113 : decode prog_8_method_33_code 113 = .ok (.if_icmp .ne 7, 3) := by decide +kernel
theorem d_M_readStatement_116 : decode prog_8_method_33_code 116 = .ok (.iconst 5, 1) := by decide +kernel
theorem d_M_readStatement_117 : decode prog_8_method_33_code 117 = .ok (.goto 26, 3) := by decide +kernel
theorem d_M_readStatement_120 : decode prog_8_method_33_code 120 = .ok (.iload_n 2, 1) := by decide +kernel
theorem d_M_readStatement_121 : decode prog_8_method_33_code 121 = .ok (.bipush 104, 2) := by decide +kernel
theorem d_M_readStatement_123 : decode prog_8_method_33_code 123 = .ok (.if_icmp .eq 15, 3) := by decide +kernel
theorem d_M_readStatement_126 : decode prog_8_method_33_code 126 = .ok (.iload_n 2, 1) := by decide +kernel
theorem d_M_readStatement_127 : decode prog_8_method_33_code 127 = .ok (.bipush 99, 2) := by decide +kernel
theorem d_M_readStatement_129 : decode prog_8_method_33_code 129 = .ok (.if_icmp .eq 9, 3) := by decide +kernel
theorem d_M_readStatement_132 : decode prog_8_method_33_code 132 = .ok (.iload_n 2, 1) := by decide +kernel
theorem d_M_readStatement_133 : decode prog_8_method_33_code 133 = .ok (.bipush 116, 2) := by decide +kernel
theorem d_M_readStatement_135 : decode prog_8_method_33_code 135 = .ok (.if_icmp .ne 7, 3) := by decide +kernel
theorem d_M_readStatement_138 : decode prog_8_method_33_code 138 = .ok (.iconst 1, 1) := by decide +kernel
theorem d_M_readStatement_139 : decode prog_8_method_33_code 139 = .ok (.goto 4, 3) := by decide +kernel
theorem d_M_readStatement_142 : decode prog_8_method_33_code 142 = .ok (.iconst 0, 1) := by decide +kernel
theorem d_M_readStatement_143 : decode prog_8_method_33_code 143 = .ok (.istore_n 3, 1) := by decide +kernel
theorem d_M_readStatement_144 : decode prog_8_method_33_code 144 = .ok (.iconst 0, 1) := by decide +kernel
theorem d_M_readStatement_145 : decode prog_8_method_33_code 145 = .ok (.istore 4, 2) := by decide +kernel
theorem d_M_readStatement_147 : decode prog_8_method_33_code 147 = .ok (.iload 4, 2) := by decide +kernel
theorem d_M_readStatement_149 : decode prog_8_method_33_code 149 = .ok (.iload_n 3, 1) := by decide +kernel
theorem d_M_readStatement_150 : decode prog_8_method_33_code 150 = .ok (.if_icmp .ge 24, 3) := by decide +kernel
theorem d_M_readStatement_153 : decode prog_8_method_33_code 153 = .ok (.aload_n 0, 1) := by decide +kernel
theorem d_M_readStatement_154 : decode prog_8_method_33_code 154 = .ok (.getfield 77, 3) := by decide +kernel
theorem d_M_readStatement_157 : decode prog_8_method_33_code 157 = .ok (.iconst 5, 1) := by decide +kernel
theorem d_M_readStatement_158 : decode prog_8_method_33_code 158 = .ok (.iload_n 1, 1) := by decide +kernel
theorem d_M_readStatement_159 : decode prog_8_method_33_code 159 = .ok (.imul, 1) := by decide +kernel
theorem d_M_readStatement_160 : decode prog_8_method_33_code 160 = .ok (.iload 4, 2) := by decide +kernel
theorem d_M_readStatement_162 : decode prog_8_method_33_code 162 = .ok (.iadd, 1) := by decide +kernel
theorem d_M_readStatement_163 : decode prog_8_method_33_code 163 = .ok (.aload_n 0, 1) := by decide +kernel
theorem d_M_readStatement_164 : decode prog_8_method_33_code 164 = .ok (.invokevirtual 219, 3) := by decide +kernel
theorem d_M_readStatement_167 : decode prog_8_method_33_code 167 = .ok (.iastore, 1) := by decide +kernel
theorem d_M_readStatement_168 : decode prog_8_method_33_code 168 = .ok (.iinc 4 1, 3) := by decide +kernel
theorem d_M_readStatement_171 : decode prog_8_method_33_code 171 = .ok (.goto (-24), 3) := by decide +kernel
theorem d_M_readStatement_174 : decode prog_8_method_33_code 174 = .ok (.iload_n 2, 1) := by decide +kernel
theorem d_M_readStatement_175 : decode prog_8_method_33_code 175 = .ok (.bipush 104, 2) := by decide +kernel
theorem d_M_readStatement_177 : decode prog_8_method_33_code 177 = .ok (.if_icmp .ne 17, 3) := by decide +kernel
theorem d_M_readStatement_180 : decode prog_8_method_33_code 180 = .ok (.aload_n 0, 1) := by decide +kernel
theorem d_M_readStatement_181 : decode prog_8_method_33_code 181 = .ok (.getfield 77, 3) := by decide +kernel
theorem d_M_readStatement_184 : decode prog_8_method_33_code 184 = .ok (.iconst 5, 1) := by decide +kernel
theorem d_M_readStatement_185 : decode prog_8_method_33_code 185 = .ok (.iload_n 1, 1) := by decide +kernel
theorem d_M_readStatement_186 : decode prog_8_method_33_code 186 = .ok (.imul, 1) := by decide +kernel
theorem d_M_readStatement_187 : decode prog_8_method_33_code 187 = .ok (.iconst 1, 1) := by decide +kernel
theorem d_M_readStatement_188 : decode prog_8_method_33_code 188 = .ok (.iadd, 1) := by decide +kernel
theorem d_M_readStatement_189 : decode prog_8_method_33_code 189 = .ok (.aload_n 0, 1) := by decide +kernel
theorem d_M_readStatement_190 : decode prog_8_method_33_code 190 = .ok (.invokevirtual 225, 3) := by decide +kernel
theorem d_M_readStatement_193 : decode prog_8_method_33_code 193 = .ok (.iastore, 1) := by decide +kernel
theorem d_M_readStatement_194 : decode prog_8_method_33_code 194 = .ok (.iload_n 2, 1) := by decide +kernel
theorem d_M_readStatement_195 : decode prog_8_method_33_code 195 = .ok (.bipush 116, 2) := by decide +kernel
theorem d_M_readStatement_197 : decode prog_8_method_33_code 197 = .ok (.if_icmp .ne 51, 3) := by decide +kernel
theorem d_M_readStatement_200 : decode prog_8_method_33_code 200 = .ok (.aload_n 0, 1) := by decide +kernel
theorem d_M_readStatement_201 : decode prog_8_method_33_code 201 = .ok (.getfield 208, 3) := by decide +kernel
theorem d_M_readStatement_204 : decode prog_8_method_33_code 204 = .ok (.ifCond .ne 44, 3) := by decide +kernel
theorem d_M_readStatement_207 : decode prog_8_method_33_code 207 = .ok (.aload_n 0, 1) := by decide +kernel
theorem d_M_readStatement_208 : decode prog_8_method_33_code 208 = .ok (.invokevirtual 211, 3) := by decide +kernel
theorem d_M_readStatement_211 : decode prog_8_method_33_code 211 = .ok (.i2l, 1) := by decide +kernel
theorem d_M_readStatement_212 : decode prog_8_method_33_code 212 = .ok (.ldc2_w 215, 3) := by decide +kernel
theorem d_M_readStatement_215 : decode prog_8_method_33_code 215 = .ok (.ldc2_w 217, 3) := by decide +kernel
theorem d_M_readStatement_218 : decode prog_8_method_33_code 218 = .ok (.invokestatic 108, 3) := by decide +kernel
theorem d_M_readStatement_221 : decode prog_8_method_33_code 221 = .ok (.ifCond .eq 27, 3) := by decide +kernel
theorem d_M_readStatement_224 : decode prog_8_method_33_code 224 = .ok (.aload_n 0, 1) := by decide +kernel
theorem d_M_readStatement_225 : decode prog_8_method_33_code 225 = .ok (.getfield 77, 3) := by decide +kernel
theorem d_M_readStatement_228 : decode prog_8_method_33_code 228 = .ok (.iconst 5, 1) := by decide +kernel
theorem d_M_readStatement_229 : decode prog_8_method_33_code 229 = .ok (.iload_n 1, 1) := by decide +kernel
theorem d_M_readStatement_230 : decode prog_8_method_33_code 230 = .ok (.imul, 1) := by decide +kernel
theorem d_M_readStatement_231 : decode prog_8_method_33_code 231 = .ok (.bipush 10, 2) := by decide +kernel
theorem d_M_readStatement_233 : decode prog_8_method_33_code 233 = .ok (.aload_n 0, 1) := by decide +kernel
theorem d_M_readStatement_234 : decode prog_8_method_33_code 234 = .ok (.getfield 77, 3) := by decide +kernel
theorem d_M_readStatement_237 : decode prog_8_method_33_code 237 = .ok (.iconst 5, 1) := by decide +kernel
theorem d_M_readStatement_238 : decode prog_8_method_33_code 238 = .ok (.iload_n 1, 1) := by decide +kernel
theorem d_M_readStatement_239 : decode prog_8_method_33_code 239 = .ok (.imul, 1) := by decide +kernel
theorem d_M_readStatement_240 : decode prog_8_method_33_code 240 = .ok (.iaload, 1) := by decide +kernel
theorem d_M_readStatement_241 : decode prog_8_method_33_code 241 = .ok (.imul, 1) := by decide +kernel
theorem d_M_readStatement_242 : decode prog_8_method_33_code 242 = .ok (.aload_n 0, 1) := by decide +kernel
theorem d_M_readStatement_243 : decode prog_8_method_33_code 243 = .ok (.invokevirtual 219, 3) := by decide +kernel
theorem d_M_readStatement_246 : decode prog_8_method_33_code 246 = .ok (.iadd, 1) := by decide +kernel
theorem d_M_readStatement_247 : decode prog_8_method_33_code 247 = .ok (.iastore, 1) := by decide +kernel
theorem d_M_readStatement_248 : decode prog_8_method_33_code 248 = .ok (.aload_n 0, 1) := by decide +kernel
theorem d_M_readStatement_249 : decode prog_8_method_33_code 249 = .ok (.aload_n 0, 1) := by decide +kernel
theorem d_M_readStatement_250 : decode prog_8_method_33_code 250 = .ok (.getfield 208, 3) := by decide +kernel
theorem d_M_readStatement_253 : decode prog_8_method_33_code 253 = .ok (.ifCond .ne 12, 3) := by decide +kernel
theorem d_M_readStatement_256 : decode prog_8_method_33_code 256 = .ok (.aload_n 0, 1) := by decide +kernel
theorem d_M_readStatement_257 : decode prog_8_method_33_code 257 = .ok (.invokevirtual 211, 3) := by decide +kernel
theorem d_M_readStatement_260 : decode prog_8_method_33_code 260 = .ok (.bipush 59, 2) := by decide +kernel
theorem d_M_readStatement_262 : decode prog_8_method_33_code 262 = .ok (.if_icmp .eq 7, 3) := by decide +kernel
theorem d_M_readStatement_265 : decode prog_8_method_33_code 265 = .ok (.iconst 1, 1) := by decide +kernel
theorem d_M_readStatement_266 : decode prog_8_method_33_code 266 = .ok (.goto 4, 3) := by decide +kernel
theorem d_M_readStatement_269 : decode prog_8_method_33_code 269 = .ok (.iconst 0, 1) := by decide +kernel
theorem d_M_readStatement_270 : decode prog_8_method_33_code 270 = .ok (.putfield 208, 3) := by decide +kernel
theorem d_M_readStatement_273 : decode prog_8_method_33_code 273 = .ok (.aload_n 0, 1) := by decide +kernel
theorem d_M_readStatement_274 : decode prog_8_method_33_code 274 = .ok (.dup, 1) := by decide +kernel
theorem d_M_readStatement_275 : decode prog_8_method_33_code 275 = .ok (.getfield 199, 3) := by decide +kernel
theorem d_M_readStatement_278 : decode prog_8_method_33_code 278 = .ok (.aload_n 0, 1) := by decide +kernel
theorem d_M_readStatement_279 : decode prog_8_method_33_code 279 = .ok (.getfield 208, 3) := by decide +kernel
theorem d_M_readStatement_282 : decode prog_8_method_33_code 282 = .ok (.ifCond .eq 7, 3) := by decide +kernel
theorem d_M_readStatement_285 : decode prog_8_method_33_code 285 = .ok (.iconst 0, 1) := by decide +kernel
theorem d_M_readStatement_286 : decode prog_8_method_33_code 286 = .ok (.goto 4, 3) := by decide +kernel
theorem d_M_readStatement_289 : decode prog_8_method_33_code 289 = .ok (.iconst 1, 1) := by decide +kernel
theorem d_M_readStatement_290 : decode prog_8_method_33_code 290 = .ok (.iadd, 1) := by decide +kernel
theorem d_M_readStatement_291 : decode prog_8_method_33_code 291 = .ok (.putfield 199, 3) := by decide +kernel
theorem d_M_readStatement_294 : decode prog_8_method_33_code 294 = .ok (.aload_n 0, 1) := by decide +kernel
theorem d_M_readStatement_295 : decode prog_8_method_33_code 295 = .ok (.dup, 1) := by decide +kernel
theorem d_M_readStatement_296 : decode prog_8_method_33_code 296 = .ok (.getfield 222, 3) := by decide +kernel
theorem d_M_readStatement_299 : decode prog_8_method_33_code 299 = .ok (.iconst 1, 1) := by decide +kernel
theorem d_M_readStatement_300 : decode prog_8_method_33_code 300 = .ok (.iadd, 1) := by decide +kernel
theorem d_M_readStatement_301 : decode prog_8_method_33_code 301 = .ok (.putfield 222, 3) := by decide +kernel
theorem d_M_readStatement_304 : decode prog_8_method_33_code 304 = .ok (.return_, 1) := by decide +kernel
theorem gc_M_readStatement_211 : GoodIn yGW (wsV "WhoseGlassModel" 211 yR5 m_M_here ws_M_here) := y_gV g_964 g_966 gs_16 g_6 g_967
theorem gc_M_readStatement_219 : GoodIn yGW (wsV "WhoseGlassModel" 219 yR5 m_M_readDigit ws_M_readDigit) := y_gV g_968 g_970 gs_17 g_6 g_971
theorem gc_M_readStatement_225 : GoodIn yGW (wsV "WhoseGlassModel" 225 yR5 m_M_readTwo ws_M_readTwo) := y_gV g_974 g_976 gs_18 g_6 g_977
set_option maxHeartbeats 4000000 in
set_option maxRecDepth 100000 in
def f_M_readStatement_L147 (F : Nat) (a0 : Option Nat) (a1 : Int32) (a2 : Int32) (a3 : Int32) (k : Mm → Option (Unit × Mm)) : Nat → Mm → Int32 → Option (Unit × Mm)
  | 0, _, _ => none
  | n + 1, u, a4 => (if a3 ≤ a4 then k u  else ob (jgr YM 5 37 a0) fun (r31 : Option Nat) => ob (jk YM 5 a0) fun t => yb (f_M_readDigit F u t ) fun x32 u33 => ob (jas YM u33 r31 (((5 : Int32) * a1) + a4) x32) fun (u34 : Mm) => ob (some (a4 + (1 : Int32))) fun (x35 : Int32) => f_M_readStatement_L147 F a0 a1 a2 a3 k n u34 x35)
set_option maxHeartbeats 4000000 in
set_option maxRecDepth 100000 in
theorem w_M_readStatement_L147 {p : Program} {l : Launch} {e : Env} {s : State} {m : MethodId} {args : Array Value} {below : List Frame} {meth : Method} {c : Code} {w : WP} {Q : State → Prop} (F : Nat) (C : yX p e ({ frames := 3, cells := 0, slots := 0, locals := 66 } : Room) s m args c YM w 5 prog_8_method_33_code "WhoseGlassModel") (hr : meth.sig.returnType = none) (hlocks : meth.locks = false) (a0 : Option Nat) (a1 : Int32) (a2 : Int32) (a3 : Int32) {out : Unit × Mm} (k : Mm → Option (Unit × Mm)) (hk : ∀ (u : Mm), k u  = some out → yG p l e ({ frames := 3, cells := 0, slots := 0, locals := 66 } : Room) s m args below meth c YM w 5 Q u 174 [(0, va_re w.1 a0), (1, .int a1), (2, .int a2)] []) : ∀ (n : Nat) (u : Mm) (a4 : Int32), f_M_readStatement_L147 F a0 a1 a2 a3 k n u a4 = some out → yG p l e ({ frames := 3, cells := 0, slots := 0, locals := 66 } : Room) s m args below meth c YM w 5 Q u 147 [(0, va_re w.1 a0), (1, .int a1), (2, .int a2), (3, .int a3), (4, .int a4)] [] := by
  intro n
  induction n with
  | zero => intro u a4 h; rw [f_M_readStatement_L147] at h; cases h
  | succ n ih =>
    intro u a4 h
    rw [f_M_readStatement_L147] at h
    refine y_iload C (i := 4) 4 d_M_readStatement_147 rfl ?_
    refine y_iload_n C (i := 3) 3 d_M_readStatement_149 rfl rfl ?_
    refine y_ic_ge C 174 d_M_readStatement_150 (by decide) h (fun k30 h => ?_) (fun k30 h => ?_)
    · exact y_sub [0, 1, 2] rfl (hk _ h)
    · refine y_aload_n C (i := 0) 0 d_M_readStatement_153 rfl rfl ?_
      refine y_gr C (q := (yR5, yT5, 46)) (ci := 5) (k := 37) rfl (by decide) rfl (by decide) g_821 d_M_readStatement_154 h (fun r31 h => ?_)
      refine y_iconst C (v := 5) d_M_readStatement_157 (by decide) ?_
      refine y_iload_n C (i := 1) 1 d_M_readStatement_158 rfl rfl ?_
      refine y_imul C d_M_readStatement_159 ?_
      refine y_iload C (i := 4) 4 d_M_readStatement_160 rfl ?_
      refine y_iadd C d_M_readStatement_162 ?_
      refine y_aload_n C (i := 0) 0 d_M_readStatement_163 rfl rfl ?_
      refine y_callV 0 C (q := (yR5, yT5, 46)) (ci := 5) (fun t out hh => c_M_readDigit l w F u t out hh) gc_M_readStatement_219 rfl (by decide) hd_M_readDigit ⟨Nat.le_of_ble_eq_true rfl, Nat.le_of_ble_eq_true rfl⟩ rfl rfl rfl rfl (by simp [y_cat, y_catI, y_catJ]) d_M_readStatement_164 h (fun x32 u33 h => ?_)
      refine y_stk (stp0 := [.int x32, .int (((5 : Int32) * a1) + a4), va_re w.1 r31]) rfl ?_
      refine y_as C d_M_readStatement_167 h (fun u34 h => ?_)
      refine y_iinc C (j := 4) (v := 1) (lvp := [(0, va_re w.1 a0), (1, .int a1), (2, .int a2), (3, .int a3)]) d_M_readStatement_168 rfl (by decide) (by decide) rfl h (fun x35 h => ?_)
      refine y_goto C (tgt := 147) d_M_readStatement_171 (by decide) ?_
      exact y_sub [1, 2, 3, 4, 0] rfl (ih _ _ h)
set_option maxRecDepth 100000 in
def f_M_readStatement (F : Nat) (u : Mm) (o : Nat) : Option (Unit × Mm) := ob (jgi YM 5 34 u (some o)) fun (x1 : Int32) => ob (jk YM 5 (some o)) fun t => yb (f_M_here F u t ) fun x2 u3 => ob (jgr YM 5 35 (some o)) fun (r4 : Option Nat) => ob (jgi YM 5 32 u3 (some o)) fun (x5 : Int32) => ob (jas YM u3 r4 x1 x5) fun (u6 : Mm) => ob (jgr YM 5 36 (some o)) fun (r7 : Option Nat) => ob (jas YM u6 r7 x1 x2) fun (u8 : Mm) => ob (jgi YM 5 33 u8 (some o)) fun (x9 : Int32) => ob ((if x9 = 0 then (if x2 = (103 : Int32) then some (0 : Int32) else (if x2 = (112 : Int32) then some (0 : Int32) else (if x2 = (104 : Int32) then some (0 : Int32) else (if x2 = (99 : Int32) then some (0 : Int32) else (if x2 = (116 : Int32) then some (0 : Int32) else (if x2 = (109 : Int32) then some (0 : Int32) else some (1 : Int32))))))) else some (1 : Int32)) : Option (Int32)) fun q10 => ob (jpz YM 5 33 u8 (some o) q10) fun (u18 : Mm) => ob (jgi YM 5 32 u18 (some o)) fun (x19 : Int32) => ob (jgi YM 5 33 u18 (some o)) fun (x20 : Int32) => ob ((if x20 = 0 then some (1 : Int32) else some (0 : Int32)) : Option (Int32)) fun q21 => ob (jpi YM 5 32 u18 (some o) (x19 + q21)) fun (u23 : Mm) => ob ((if x2 = (103 : Int32) then some (4 : Int32) else (if x2 = (112 : Int32) then some (5 : Int32) else (if x2 = (104 : Int32) then some (1 : Int32) else (if x2 = (99 : Int32) then some (1 : Int32) else (if x2 = (116 : Int32) then some (1 : Int32) else some (0 : Int32)))))) : Option (Int32)) fun q24 => f_M_readStatement_L147 F (some o) x1 x2 q24 (fun (u36 : Mm) => ob ((if x2 = (104 : Int32) then ob (jgr YM 5 37 (some o)) fun (r39 : Option Nat) => ob (jk YM 5 (some o)) fun t => yb (f_M_readTwo F u36 t ) fun x40 u41 => ob (jas YM u41 r39 (((5 : Int32) * x1) + (1 : Int32)) x40) fun (u42 : Mm) => some u42 else some u36) : Option (Mm)) fun q37 => ob ((if x2 = (116 : Int32) then ob (jgi YM 5 33 q37 (some o)) fun (x45 : Int32) => (if x45 = 0 then ob (jk YM 5 (some o)) fun t => yb (f_M_here F q37 t ) fun x47 u48 => yb (f_M_in F u48 (x47.toInt64) (48 : Int64) (57 : Int64)) fun x49 u50 => (if x49 = 0 then some u50 else ob (jgr YM 5 37 (some o)) fun (r52 : Option Nat) => ob (jgr YM 5 37 (some o)) fun (r53 : Option Nat) => ob (jal YM u50 r53 ((5 : Int32) * x1)) fun (x54 : Int32) => ob (jk YM 5 (some o)) fun t => yb (f_M_readDigit F u50 t ) fun x55 u56 => ob (jas YM u56 r52 ((5 : Int32) * x1) (((10 : Int32) * x54) + x55)) fun (u57 : Mm) => some u57) else some q37) else some q37) : Option (Mm)) fun q43 => ob (jgi YM 5 33 q43 (some o)) fun (x58 : Int32) => ob ((if x58 = 0 then ob (jk YM 5 (some o)) fun t => yb (f_M_here F q43 t ) fun x61 u62 => (if x61 = (59 : Int32) then some ((0 : Int32), u62) else some ((1 : Int32), u62)) else some ((1 : Int32), q43)) : Option (Int32 × Mm)) fun q59 => ob (jpz YM 5 33 q59.2 (some o) q59.1) fun (u64 : Mm) => ob (jgi YM 5 32 u64 (some o)) fun (x65 : Int32) => ob (jgi YM 5 33 u64 (some o)) fun (x66 : Int32) => ob ((if x66 = 0 then some (1 : Int32) else some (0 : Int32)) : Option (Int32)) fun q67 => ob (jpi YM 5 32 u64 (some o) (x65 + q67)) fun (u69 : Mm) => ob (jgi YM 5 34 u69 (some o)) fun (x70 : Int32) => ob (jpi YM 5 34 u69 (some o) (x70 + (1 : Int32))) fun (u71 : Mm) => some ((), u71)) F u23 (0 : Int32)
set_option maxHeartbeats 4000000 in
set_option maxRecDepth 100000 in
theorem c_M_readStatement (l : Launch) (w : WP) (F : Nat) (u : Mm) (o : Nat) (out : Unit × Mm) (h : f_M_readStatement F u o = some out) : yMet l m_M_readStatement ws_M_readStatement ({ frames := 3, cells := 0, slots := 0, locals := 66 } : Room) YM w u [va_re w.1 (some o)] yfv out := by
  refine y_entry (own := "WhoseGlassModel") (lv := [(0, va_re w.1 (some o))]) (by decide +kernel) rfl (by simp [lv_args, y_cat, y_catI, y_catJ]) (by simp [lg_sl, y_cat, y_catI, y_catJ]) ?_
  intro p e s m args below meth c C hr hlocks
  unfold f_M_readStatement at h
  refine y_aload_n C (i := 0) 0 d_M_readStatement_0 rfl rfl ?_
  refine y_gi C (q := (yR5, yT5, 46)) (ci := 5) (k := 34) rfl (by decide) rfl g_818 d_M_readStatement_1 h (fun x1 h => ?_)
  refine y_istore_n C (i := 1) (lvp := [(0, va_re w.1 (some o))]) d_M_readStatement_4 rfl (by decide) (by simp [List.filter, y_cat, y_catI, y_catJ]) ?_
  refine y_aload_n C (i := 0) 1 d_M_readStatement_5 rfl rfl ?_
  refine y_callV 0 C (q := (yR5, yT5, 46)) (ci := 5) (fun t out hh => c_M_here l w F u t out hh) gc_M_readStatement_211 rfl (by decide) hd_M_here ⟨Nat.le_of_ble_eq_true rfl, Nat.le_of_ble_eq_true rfl⟩ rfl rfl rfl rfl (by simp [y_cat, y_catI, y_catJ]) d_M_readStatement_6 h (fun x2 u3 h => ?_)
  refine y_stk (stp0 := [.int x2]) rfl ?_
  refine y_istore_n C (i := 2) (lvp := [(1, .int x1), (0, va_re w.1 (some o))]) d_M_readStatement_9 rfl (by decide) rfl ?_
  refine y_aload_n C (i := 0) 2 d_M_readStatement_10 rfl rfl ?_
  refine y_gr C (q := (yR5, yT5, 46)) (ci := 5) (k := 35) rfl (by decide) rfl (by decide) g_819 d_M_readStatement_11 h (fun r4 h => ?_)
  refine y_iload_n C (i := 1) 1 d_M_readStatement_14 rfl rfl ?_
  refine y_aload_n C (i := 0) 2 d_M_readStatement_15 rfl rfl ?_
  refine y_gi C (q := (yR5, yT5, 46)) (ci := 5) (k := 32) rfl (by decide) rfl g_816 d_M_readStatement_16 h (fun x5 h => ?_)
  refine y_as C d_M_readStatement_19 h (fun u6 h => ?_)
  refine y_aload_n C (i := 0) 2 d_M_readStatement_20 rfl rfl ?_
  refine y_gr C (q := (yR5, yT5, 46)) (ci := 5) (k := 36) rfl (by decide) rfl (by decide) g_820 d_M_readStatement_21 h (fun r7 h => ?_)
  refine y_iload_n C (i := 1) 1 d_M_readStatement_24 rfl rfl ?_
  refine y_iload_n C (i := 2) 0 d_M_readStatement_25 rfl rfl ?_
  refine y_as C d_M_readStatement_26 h (fun u8 h => ?_)
  refine y_aload_n C (i := 0) 2 d_M_readStatement_27 rfl rfl ?_
  refine y_aload_n C (i := 0) 2 d_M_readStatement_28 rfl rfl ?_
  refine y_gi C (q := (yR5, yT5, 46)) (ci := 5) (k := 33) rfl (by decide) rfl g_817 d_M_readStatement_29 h (fun x9 h => ?_)
  obtain ⟨q10, hq10, h⟩ := ob_e h
  have hJq10 : yG p l e ({ frames := 3, cells := 0, slots := 0, locals := 66 } : Room) s m args below meth c YM w 5 (MQ below (yQ YM w yfv out) args s 0 0 (yA YM w)) u8 76 [(0, va_re w.1 (some o)), (1, .int x1), (2, .int x2)] [.int q10, va_re w.1 (some o)] := by
    refine y_pz C (q := (yR5, yT5, 46)) (ci := 5) (k := 33) rfl (by decide) rfl rfl (by decide +kernel) g_817 d_M_readStatement_76 h (fun u18 h => ?_)
    refine y_aload_n C (i := 0) 0 d_M_readStatement_79 rfl rfl ?_
    refine y_dup C d_M_readStatement_80 (y_cat _ _) ?_
    refine y_gi C (q := (yR5, yT5, 46)) (ci := 5) (k := 32) rfl (by decide) rfl g_816 d_M_readStatement_81 h (fun x19 h => ?_)
    refine y_aload_n C (i := 0) 0 d_M_readStatement_84 rfl rfl ?_
    refine y_gi C (q := (yR5, yT5, 46)) (ci := 5) (k := 33) rfl (by decide) rfl g_817 d_M_readStatement_85 h (fun x20 h => ?_)
    obtain ⟨q21, hq21, h⟩ := ob_e h
    have hJq21 : yG p l e ({ frames := 3, cells := 0, slots := 0, locals := 66 } : Room) s m args below meth c YM w 5 (MQ below (yQ YM w yfv out) args s 0 0 (yA YM w)) u18 96 [(0, va_re w.1 (some o)), (1, .int x1), (2, .int x2)] [.int q21, .int x19, va_re w.1 (some o)] := by
      refine y_iadd C d_M_readStatement_96 ?_
      refine y_pi C (q := (yR5, yT5, 46)) (ci := 5) (k := 32) rfl (by decide) rfl rfl (by decide +kernel) g_816 d_M_readStatement_97 h (fun u23 h => ?_)
      refine y_iload_n C (i := 2) 2 d_M_readStatement_100 rfl rfl ?_
      refine y_bipush C (v := 103) d_M_readStatement_101 (by decide) ?_
      obtain ⟨q24, hq24, h⟩ := ob_e h
      have hJq24 : yG p l e ({ frames := 3, cells := 0, slots := 0, locals := 66 } : Room) s m args below meth c YM w 5 (MQ below (yQ YM w yfv out) args s 0 0 (yA YM w)) u23 143 [(0, va_re w.1 (some o)), (1, .int x1), (2, .int x2)] [.int q24] := by
        refine y_istore_n C (i := 3) (lvp := [(0, va_re w.1 (some o)), (1, .int x1), (2, .int x2)]) d_M_readStatement_143 rfl (by decide) rfl ?_
        refine y_iconst C (v := 0) d_M_readStatement_144 (by decide) ?_
        refine y_istore C (i := 4) (lvp := [(3, .int q24), (0, va_re w.1 (some o)), (1, .int x1), (2, .int x2)]) d_M_readStatement_145 (by decide) rfl ?_
        refine y_sub [2, 3, 4, 1, 0] rfl (w_M_readStatement_L147 F C hr hlocks _ _ _ _ _ (fun u36 h => ?_) _ _ _ h)
        refine y_iload_n C (i := 2) 2 d_M_readStatement_174 rfl rfl ?_
        refine y_bipush C (v := 104) d_M_readStatement_175 (by decide) ?_
        obtain ⟨q37, hq37, h⟩ := ob_e h
        have hJq37 : yG p l e ({ frames := 3, cells := 0, slots := 0, locals := 66 } : Room) s m args below meth c YM w 5 (MQ below (yQ YM w yfv out) args s 0 0 (yA YM w)) q37 194 [(0, va_re w.1 (some o)), (1, .int x1), (2, .int x2)] [] := by
          refine y_iload_n C (i := 2) 2 d_M_readStatement_194 rfl rfl ?_
          refine y_bipush C (v := 116) d_M_readStatement_195 (by decide) ?_
          obtain ⟨q43, hq43, h⟩ := ob_e h
          have hJq43 : yG p l e ({ frames := 3, cells := 0, slots := 0, locals := 66 } : Room) s m args below meth c YM w 5 (MQ below (yQ YM w yfv out) args s 0 0 (yA YM w)) q43 248 [(0, va_re w.1 (some o))] [] := by
            refine y_aload_n C (i := 0) 0 d_M_readStatement_248 rfl rfl ?_
            refine y_aload_n C (i := 0) 0 d_M_readStatement_249 rfl rfl ?_
            refine y_gi C (q := (yR5, yT5, 46)) (ci := 5) (k := 33) rfl (by decide) rfl g_817 d_M_readStatement_250 h (fun x58 h => ?_)
            obtain ⟨q59, hq59, h⟩ := ob_e h
            have hJq59 : yG p l e ({ frames := 3, cells := 0, slots := 0, locals := 66 } : Room) s m args below meth c YM w 5 (MQ below (yQ YM w yfv out) args s 0 0 (yA YM w)) q59.2 270 [(0, va_re w.1 (some o))] [.int q59.1, va_re w.1 (some o)] := by
              refine y_pz C (q := (yR5, yT5, 46)) (ci := 5) (k := 33) rfl (by decide) rfl rfl (by decide +kernel) g_817 d_M_readStatement_270 h (fun u64 h => ?_)
              refine y_aload_n C (i := 0) 0 d_M_readStatement_273 rfl rfl ?_
              refine y_dup C d_M_readStatement_274 (y_cat _ _) ?_
              refine y_gi C (q := (yR5, yT5, 46)) (ci := 5) (k := 32) rfl (by decide) rfl g_816 d_M_readStatement_275 h (fun x65 h => ?_)
              refine y_aload_n C (i := 0) 0 d_M_readStatement_278 rfl rfl ?_
              refine y_gi C (q := (yR5, yT5, 46)) (ci := 5) (k := 33) rfl (by decide) rfl g_817 d_M_readStatement_279 h (fun x66 h => ?_)
              obtain ⟨q67, hq67, h⟩ := ob_e h
              have hJq67 : yG p l e ({ frames := 3, cells := 0, slots := 0, locals := 66 } : Room) s m args below meth c YM w 5 (MQ below (yQ YM w yfv out) args s 0 0 (yA YM w)) u64 290 [(0, va_re w.1 (some o))] [.int q67, .int x65, va_re w.1 (some o)] := by
                refine y_iadd C d_M_readStatement_290 ?_
                refine y_pi C (q := (yR5, yT5, 46)) (ci := 5) (k := 32) rfl (by decide) rfl rfl (by decide +kernel) g_816 d_M_readStatement_291 h (fun u69 h => ?_)
                refine y_aload_n C (i := 0) 0 d_M_readStatement_294 rfl rfl ?_
                refine y_dup C d_M_readStatement_295 (y_cat _ _) ?_
                refine y_gi C (q := (yR5, yT5, 46)) (ci := 5) (k := 34) rfl (by decide) rfl g_818 d_M_readStatement_296 h (fun x70 h => ?_)
                refine y_iconst C (v := 1) d_M_readStatement_299 (by decide) ?_
                refine y_iadd C d_M_readStatement_300 ?_
                refine y_pi C (q := (yR5, yT5, 46)) (ci := 5) (k := 34) rfl (by decide) rfl rfl (by decide +kernel) g_818 d_M_readStatement_301 h (fun u71 h => ?_)
                exact y_vret C hr hlocks d_M_readStatement_304 h
              refine y_if_eq C 289 d_M_readStatement_282 (by decide) hq67 (fun k68 hq67 => ?_) (fun k68 hq67 => ?_)
              · refine y_iconst C (v := 1) d_M_readStatement_289 (by decide) ?_
                cases hq67
                exact y_sub [0] rfl hJq67
              · refine y_iconst C (v := 0) d_M_readStatement_285 (by decide) ?_
                refine y_goto C (tgt := 290) d_M_readStatement_286 (by decide) ?_
                cases hq67
                exact y_sub [0] rfl hJq67
            refine y_if_ne C 265 d_M_readStatement_253 (by decide) hq59 (fun k60 hq59 => ?_) (fun k60 hq59 => ?_)
            · refine y_aload_n C (i := 0) 0 d_M_readStatement_256 rfl rfl ?_
              refine y_callV 0 C (q := (yR5, yT5, 46)) (ci := 5) (fun t out hh => c_M_here l w F q43 t out hh) gc_M_readStatement_211 rfl (by decide) hd_M_here ⟨Nat.le_of_ble_eq_true rfl, Nat.le_of_ble_eq_true rfl⟩ rfl rfl rfl rfl (by simp [y_cat, y_catI, y_catJ]) d_M_readStatement_257 hq59 (fun x61 u62 hq59 => ?_)
              refine y_stk (stp0 := [.int x61, va_re w.1 (some o)]) rfl ?_
              refine y_bipush C (v := 59) d_M_readStatement_260 (by decide) ?_
              refine y_ic_eq C 269 d_M_readStatement_262 (by decide) hq59 (fun k63 hq59 => ?_) (fun k63 hq59 => ?_)
              · refine y_iconst C (v := 0) d_M_readStatement_269 (by decide) ?_
                cases hq59
                exact y_sub [0] rfl hJq59
              · refine y_iconst C (v := 1) d_M_readStatement_265 (by decide) ?_
                refine y_goto C (tgt := 270) d_M_readStatement_266 (by decide) ?_
                cases hq59
                exact y_sub [0] rfl hJq59
            · refine y_iconst C (v := 1) d_M_readStatement_265 (by decide) ?_
              refine y_goto C (tgt := 270) d_M_readStatement_266 (by decide) ?_
              cases hq59
              exact y_sub [0] rfl hJq59
          refine y_ic_ne C 248 d_M_readStatement_197 (by decide) hq43 (fun k44 hq43 => ?_) (fun k44 hq43 => ?_)
          · refine y_aload_n C (i := 0) 0 d_M_readStatement_200 rfl rfl ?_
            refine y_gi C (q := (yR5, yT5, 46)) (ci := 5) (k := 33) rfl (by decide) rfl g_817 d_M_readStatement_201 hq43 (fun x45 hq43 => ?_)
            refine y_if_ne C 248 d_M_readStatement_204 (by decide) hq43 (fun k46 hq43 => ?_) (fun k46 hq43 => ?_)
            · refine y_aload_n C (i := 0) 0 d_M_readStatement_207 rfl rfl ?_
              refine y_callV 0 C (q := (yR5, yT5, 46)) (ci := 5) (fun t out hh => c_M_here l w F q37 t out hh) gc_M_readStatement_211 rfl (by decide) hd_M_here ⟨Nat.le_of_ble_eq_true rfl, Nat.le_of_ble_eq_true rfl⟩ rfl rfl rfl rfl (by simp [y_cat, y_catI, y_catJ]) d_M_readStatement_208 hq43 (fun x47 u48 hq43 => ?_)
              refine y_stk (stp0 := [.int x47]) rfl ?_
              refine y_i2l C d_M_readStatement_211 ?_
              refine y_ldc2 C d_M_readStatement_212 g_972 ?_
              refine y_ldc2 C d_M_readStatement_215 g_973 ?_
              refine y_callS 3 C (fun out hh => c_M_in l w F u48 (x47.toInt64) (48 : Int64) (57 : Int64) out hh) (y_gc g_959) g_957 g_6 g_958 hn_M_in ⟨Nat.le_of_ble_eq_true rfl, Nat.le_of_ble_eq_true rfl⟩ rfl rfl rfl rfl (by simp [y_cat, y_catI, y_catJ]) d_M_readStatement_218 hq43 (fun x49 u50 hq43 => ?_)
              refine y_stk (stp0 := [.int x49]) rfl ?_
              refine y_if_eq C 248 d_M_readStatement_221 (by decide) hq43 (fun k51 hq43 => ?_) (fun k51 hq43 => ?_)
              · cases hq43
                exact y_sub [0] rfl hJq43
              · refine y_aload_n C (i := 0) 0 d_M_readStatement_224 rfl rfl ?_
                refine y_gr C (q := (yR5, yT5, 46)) (ci := 5) (k := 37) rfl (by decide) rfl (by decide) g_821 d_M_readStatement_225 hq43 (fun r52 hq43 => ?_)
                refine y_iconst C (v := 5) d_M_readStatement_228 (by decide) ?_
                refine y_iload_n C (i := 1) 1 d_M_readStatement_229 rfl rfl ?_
                refine y_imul C d_M_readStatement_230 ?_
                refine y_bipush C (v := 10) d_M_readStatement_231 (by decide) ?_
                refine y_aload_n C (i := 0) 0 d_M_readStatement_233 rfl rfl ?_
                refine y_gr C (q := (yR5, yT5, 46)) (ci := 5) (k := 37) rfl (by decide) rfl (by decide) g_821 d_M_readStatement_234 hq43 (fun r53 hq43 => ?_)
                refine y_iconst C (v := 5) d_M_readStatement_237 (by decide) ?_
                refine y_iload_n C (i := 1) 1 d_M_readStatement_238 rfl rfl ?_
                refine y_imul C d_M_readStatement_239 ?_
                refine y_al C d_M_readStatement_240 hq43 (fun x54 hq43 => ?_)
                refine y_imul C d_M_readStatement_241 ?_
                refine y_aload_n C (i := 0) 0 d_M_readStatement_242 rfl rfl ?_
                refine y_callV 0 C (q := (yR5, yT5, 46)) (ci := 5) (fun t out hh => c_M_readDigit l w F u50 t out hh) gc_M_readStatement_219 rfl (by decide) hd_M_readDigit ⟨Nat.le_of_ble_eq_true rfl, Nat.le_of_ble_eq_true rfl⟩ rfl rfl rfl rfl (by simp [y_cat, y_catI, y_catJ]) d_M_readStatement_243 hq43 (fun x55 u56 hq43 => ?_)
                refine y_stk (stp0 := [.int x55, .int ((10 : Int32) * x54), .int ((5 : Int32) * x1), va_re w.1 r52]) rfl ?_
                refine y_iadd C d_M_readStatement_246 ?_
                refine y_as C d_M_readStatement_247 hq43 (fun u57 hq43 => ?_)
                cases hq43
                exact y_sub [0] rfl hJq43
            · cases hq43
              exact y_sub [0] rfl hJq43
          · cases hq43
            exact y_sub [0] rfl hJq43
        refine y_ic_ne C 194 d_M_readStatement_177 (by decide) hq37 (fun k38 hq37 => ?_) (fun k38 hq37 => ?_)
        · refine y_aload_n C (i := 0) 0 d_M_readStatement_180 rfl rfl ?_
          refine y_gr C (q := (yR5, yT5, 46)) (ci := 5) (k := 37) rfl (by decide) rfl (by decide) g_821 d_M_readStatement_181 hq37 (fun r39 hq37 => ?_)
          refine y_iconst C (v := 5) d_M_readStatement_184 (by decide) ?_
          refine y_iload_n C (i := 1) 1 d_M_readStatement_185 rfl rfl ?_
          refine y_imul C d_M_readStatement_186 ?_
          refine y_iconst C (v := 1) d_M_readStatement_187 (by decide) ?_
          refine y_iadd C d_M_readStatement_188 ?_
          refine y_aload_n C (i := 0) 0 d_M_readStatement_189 rfl rfl ?_
          refine y_callV 0 C (q := (yR5, yT5, 46)) (ci := 5) (fun t out hh => c_M_readTwo l w F u36 t out hh) gc_M_readStatement_225 rfl (by decide) hd_M_readTwo ⟨Nat.le_of_ble_eq_true rfl, Nat.le_of_ble_eq_true rfl⟩ rfl rfl rfl rfl (by simp [y_cat, y_catI, y_catJ]) d_M_readStatement_190 hq37 (fun x40 u41 hq37 => ?_)
          refine y_stk (stp0 := [.int x40, .int (((5 : Int32) * x1) + (1 : Int32)), va_re w.1 r39]) rfl ?_
          refine y_as C d_M_readStatement_193 hq37 (fun u42 hq37 => ?_)
          cases hq37
          exact y_sub [0, 1, 2] rfl hJq37
        · cases hq37
          exact y_sub [0, 1, 2] rfl hJq37
      refine y_ic_ne C 110 d_M_readStatement_103 (by decide) hq24 (fun k25 hq24 => ?_) (fun k25 hq24 => ?_)
      · refine y_iconst C (v := 4) d_M_readStatement_106 (by decide) ?_
        refine y_goto C (tgt := 143) d_M_readStatement_107 (by decide) ?_
        cases hq24
        exact y_sub [0, 1, 2] rfl hJq24
      · refine y_iload_n C (i := 2) 2 d_M_readStatement_110 rfl rfl ?_
        refine y_bipush C (v := 112) d_M_readStatement_111 (by decide) ?_
        refine y_ic_ne C 120 d_M_readStatement_113 (by decide) hq24 (fun k26 hq24 => ?_) (fun k26 hq24 => ?_)
        · refine y_iconst C (v := 5) d_M_readStatement_116 (by decide) ?_
          refine y_goto C (tgt := 143) d_M_readStatement_117 (by decide) ?_
          cases hq24
          exact y_sub [0, 1, 2] rfl hJq24
        · refine y_iload_n C (i := 2) 2 d_M_readStatement_120 rfl rfl ?_
          refine y_bipush C (v := 104) d_M_readStatement_121 (by decide) ?_
          refine y_ic_eq C 138 d_M_readStatement_123 (by decide) hq24 (fun k27 hq24 => ?_) (fun k27 hq24 => ?_)
          · refine y_iconst C (v := 1) d_M_readStatement_138 (by decide) ?_
            refine y_goto C (tgt := 143) d_M_readStatement_139 (by decide) ?_
            cases hq24
            exact y_sub [0, 1, 2] rfl hJq24
          · refine y_iload_n C (i := 2) 2 d_M_readStatement_126 rfl rfl ?_
            refine y_bipush C (v := 99) d_M_readStatement_127 (by decide) ?_
            refine y_ic_eq C 138 d_M_readStatement_129 (by decide) hq24 (fun k28 hq24 => ?_) (fun k28 hq24 => ?_)
            · refine y_iconst C (v := 1) d_M_readStatement_138 (by decide) ?_
              refine y_goto C (tgt := 143) d_M_readStatement_139 (by decide) ?_
              cases hq24
              exact y_sub [0, 1, 2] rfl hJq24
            · refine y_iload_n C (i := 2) 2 d_M_readStatement_132 rfl rfl ?_
              refine y_bipush C (v := 116) d_M_readStatement_133 (by decide) ?_
              refine y_ic_ne C 142 d_M_readStatement_135 (by decide) hq24 (fun k29 hq24 => ?_) (fun k29 hq24 => ?_)
              · refine y_iconst C (v := 1) d_M_readStatement_138 (by decide) ?_
                refine y_goto C (tgt := 143) d_M_readStatement_139 (by decide) ?_
                cases hq24
                exact y_sub [0, 1, 2] rfl hJq24
              · refine y_iconst C (v := 0) d_M_readStatement_142 (by decide) ?_
                cases hq24
                exact y_sub [0, 1, 2] rfl hJq24
    refine y_if_eq C 95 d_M_readStatement_88 (by decide) hq21 (fun k22 hq21 => ?_) (fun k22 hq21 => ?_)
    · refine y_iconst C (v := 1) d_M_readStatement_95 (by decide) ?_
      cases hq21
      exact y_sub [0, 1, 2] rfl hJq21
    · refine y_iconst C (v := 0) d_M_readStatement_91 (by decide) ?_
      refine y_goto C (tgt := 96) d_M_readStatement_92 (by decide) ?_
      cases hq21
      exact y_sub [0, 1, 2] rfl hJq21
  refine y_if_ne C 71 d_M_readStatement_32 (by decide) hq10 (fun k11 hq10 => ?_) (fun k11 hq10 => ?_)
  · refine y_iload_n C (i := 2) 0 d_M_readStatement_35 rfl rfl ?_
    refine y_bipush C (v := 103) d_M_readStatement_36 (by decide) ?_
    refine y_ic_eq C 75 d_M_readStatement_38 (by decide) hq10 (fun k12 hq10 => ?_) (fun k12 hq10 => ?_)
    · refine y_iconst C (v := 0) d_M_readStatement_75 (by decide) ?_
      cases hq10
      exact y_sub [2, 1, 0] rfl hJq10
    · refine y_iload_n C (i := 2) 0 d_M_readStatement_41 rfl rfl ?_
      refine y_bipush C (v := 112) d_M_readStatement_42 (by decide) ?_
      refine y_ic_eq C 75 d_M_readStatement_44 (by decide) hq10 (fun k13 hq10 => ?_) (fun k13 hq10 => ?_)
      · refine y_iconst C (v := 0) d_M_readStatement_75 (by decide) ?_
        cases hq10
        exact y_sub [2, 1, 0] rfl hJq10
      · refine y_iload_n C (i := 2) 0 d_M_readStatement_47 rfl rfl ?_
        refine y_bipush C (v := 104) d_M_readStatement_48 (by decide) ?_
        refine y_ic_eq C 75 d_M_readStatement_50 (by decide) hq10 (fun k14 hq10 => ?_) (fun k14 hq10 => ?_)
        · refine y_iconst C (v := 0) d_M_readStatement_75 (by decide) ?_
          cases hq10
          exact y_sub [2, 1, 0] rfl hJq10
        · refine y_iload_n C (i := 2) 0 d_M_readStatement_53 rfl rfl ?_
          refine y_bipush C (v := 99) d_M_readStatement_54 (by decide) ?_
          refine y_ic_eq C 75 d_M_readStatement_56 (by decide) hq10 (fun k15 hq10 => ?_) (fun k15 hq10 => ?_)
          · refine y_iconst C (v := 0) d_M_readStatement_75 (by decide) ?_
            cases hq10
            exact y_sub [2, 1, 0] rfl hJq10
          · refine y_iload_n C (i := 2) 0 d_M_readStatement_59 rfl rfl ?_
            refine y_bipush C (v := 116) d_M_readStatement_60 (by decide) ?_
            refine y_ic_eq C 75 d_M_readStatement_62 (by decide) hq10 (fun k16 hq10 => ?_) (fun k16 hq10 => ?_)
            · refine y_iconst C (v := 0) d_M_readStatement_75 (by decide) ?_
              cases hq10
              exact y_sub [2, 1, 0] rfl hJq10
            · refine y_iload_n C (i := 2) 0 d_M_readStatement_65 rfl rfl ?_
              refine y_bipush C (v := 109) d_M_readStatement_66 (by decide) ?_
              refine y_ic_eq C 75 d_M_readStatement_68 (by decide) hq10 (fun k17 hq10 => ?_) (fun k17 hq10 => ?_)
              · refine y_iconst C (v := 0) d_M_readStatement_75 (by decide) ?_
                cases hq10
                exact y_sub [2, 1, 0] rfl hJq10
              · refine y_iconst C (v := 1) d_M_readStatement_71 (by decide) ?_
                refine y_goto C (tgt := 76) d_M_readStatement_72 (by decide) ?_
                cases hq10
                exact y_sub [2, 1, 0] rfl hJq10
  · refine y_iconst C (v := 1) d_M_readStatement_71 (by decide) ?_
    refine y_goto C (tgt := 76) d_M_readStatement_72 (by decide) ?_
    cases hq10
    exact y_sub [2, 1, 0] rfl hJq10
/-! M_open -/
theorem d_M_open_0 : decode prog_8_method_25_code 0 = .ok (.aload_n 0, 1) := by decide +kernel
theorem d_M_open_1 : decode prog_8_method_25_code 1 = .ok (.aload_n 0, 1) := by decide +kernel
theorem d_M_open_2 : decode prog_8_method_25_code 2 = .ok (.getfield 65, 3) := by decide +kernel
theorem d_M_open_5 : decode prog_8_method_25_code 5 = .ok (.iconst 1, 1) := by decide +kernel
theorem d_M_open_6 : decode prog_8_method_25_code 6 = .ok (.invokevirtual 189, 3) := by decide +kernel
theorem d_M_open_9 : decode prog_8_method_25_code 9 = .ok (.return_, 1) := by decide +kernel
theorem gc_M_open_189 : GoodIn yGW (wsV "WhoseGlassModel" 189 yR5 m_M_carryAll ws_M_carryAll) := y_gV g_932 g_934 gs_11 g_6 g_935
set_option maxRecDepth 100000 in
def f_M_open (F : Nat) (u : Mm) (o : Nat) : Option (Unit × Mm) := ob (jgr YM 5 24 (some o)) fun (r1 : Option Nat) => ob (jk YM 5 (some o)) fun t => yb (f_M_carryAll F u t r1 (1 : Int32)) fun v2 u3 => some ((), u3)
set_option maxHeartbeats 4000000 in
set_option maxRecDepth 100000 in
theorem c_M_open (l : Launch) (w : WP) (F : Nat) (u : Mm) (o : Nat) (out : Unit × Mm) (h : f_M_open F u o = some out) : yMet l m_M_open ws_M_open ({ frames := 2, cells := 0, slots := 0, locals := 44 } : Room) YM w u [va_re w.1 (some o)] yfv out := by
  refine y_entry (own := "WhoseGlassModel") (lv := [(0, va_re w.1 (some o))]) (by decide +kernel) rfl (by simp [lv_args, y_cat, y_catI, y_catJ]) (by simp [lg_sl, y_cat, y_catI, y_catJ]) ?_
  intro p e s m args below meth c C hr hlocks
  unfold f_M_open at h
  refine y_aload_n C (i := 0) 0 d_M_open_0 rfl rfl ?_
  refine y_aload_n C (i := 0) 0 d_M_open_1 rfl rfl ?_
  refine y_gr C (q := (yR5, yT5, 46)) (ci := 5) (k := 24) rfl (by decide) rfl (by decide) g_808 d_M_open_2 h (fun r1 h => ?_)
  refine y_iconst C (v := 1) d_M_open_5 (by decide) ?_
  refine y_callV 2 C (q := (yR5, yT5, 46)) (ci := 5) (fun t out hh => c_M_carryAll l w F u t r1 (1 : Int32) out hh) gc_M_open_189 rfl (by decide) hd_M_carryAll ⟨Nat.le_of_ble_eq_true rfl, Nat.le_of_ble_eq_true rfl⟩ rfl rfl rfl rfl (by simp [y_cat, y_catI, y_catJ]) d_M_open_6 h (fun v2 u3 h => ?_)
  refine y_stk (stp0 := []) rfl ?_
  exact y_vret C hr hlocks d_M_open_9 h
/-! M_bring -/
theorem d_M_bring_0 : decode prog_8_method_17_code 0 = .ok (.aload_n 0, 1) := by decide +kernel
theorem d_M_bring_1 : decode prog_8_method_17_code 1 = .ok (.getfield 105, 3) := by decide +kernel
theorem d_M_bring_4 : decode prog_8_method_17_code 4 = .ok (.istore 5, 2) := by decide +kernel
theorem d_M_bring_6 : decode prog_8_method_17_code 6 = .ok (.aload_n 0, 1) := by decide +kernel
theorem d_M_bring_7 : decode prog_8_method_17_code 7 = .ok (.getfield 13, 3) := by decide +kernel
theorem d_M_bring_10 : decode prog_8_method_17_code 10 = .ok (.iload 5, 2) := by decide +kernel
theorem d_M_bring_12 : decode prog_8_method_17_code 12 = .ok (.iload_n 1, 1) := by decide +kernel
theorem d_M_bring_13 : decode prog_8_method_17_code 13 = .ok (.iastore, 1) := by decide +kernel
theorem d_M_bring_14 : decode prog_8_method_17_code 14 = .ok (.aload_n 0, 1) := by decide +kernel
theorem d_M_bring_15 : decode prog_8_method_17_code 15 = .ok (.getfield 17, 3) := by decide +kernel
theorem d_M_bring_18 : decode prog_8_method_17_code 18 = .ok (.iload 5, 2) := by decide +kernel
theorem d_M_bring_20 : decode prog_8_method_17_code 20 = .ok (.iload_n 2, 1) := by decide +kernel
theorem d_M_bring_21 : decode prog_8_method_17_code 21 = .ok (.iastore, 1) := by decide +kernel
theorem d_M_bring_22 : decode prog_8_method_17_code 22 = .ok (.aload_n 0, 1) := by decide +kernel
theorem d_M_bring_23 : decode prog_8_method_17_code 23 = .ok (.getfield 20, 3) := by decide +kernel
theorem d_M_bring_26 : decode prog_8_method_17_code 26 = .ok (.iload 5, 2) := by decide +kernel
theorem d_M_bring_28 : decode prog_8_method_17_code 28 = .ok (.iload_n 3, 1) := by decide +kernel
theorem d_M_bring_29 : decode prog_8_method_17_code 29 = .ok (.iastore, 1) := by decide +kernel
theorem d_M_bring_30 : decode prog_8_method_17_code 30 = .ok (.aload_n 0, 1) := by decide +kernel
theorem d_M_bring_31 : decode prog_8_method_17_code 31 = .ok (.getfield 23, 3) := by decide +kernel
theorem d_M_bring_34 : decode prog_8_method_17_code 34 = .ok (.iload 5, 2) := by decide +kernel
theorem d_M_bring_36 : decode prog_8_method_17_code 36 = .ok (.iload 4, 2) := by decide +kernel
theorem d_M_bring_38 : decode prog_8_method_17_code 38 = .ok (.iastore, 1) := by decide +kernel
theorem d_M_bring_39 : decode prog_8_method_17_code 39 = .ok (.aload_n 0, 1) := by decide +kernel
theorem d_M_bring_40 : decode prog_8_method_17_code 40 = .ok (.getfield 26, 3) := by decide +kernel
theorem d_M_bring_43 : decode prog_8_method_17_code 43 = .ok (.iload 5, 2) := by decide +kernel
theorem d_M_bring_45 : decode prog_8_method_17_code 45 = .ok (.iload 4, 2) := by decide +kernel
theorem d_M_bring_47 : decode prog_8_method_17_code 47 = .ok (.bipush 10, 2) := by decide +kernel
theorem d_M_bring_49 : decode prog_8_method_17_code 49 = .ok (.if_icmp .ge 10, 3) := by decide +kernel
theorem d_M_bring_52 : decode prog_8_method_17_code 52 = .ok (.aload_n 0, 1) := by decide +kernel
theorem d_M_bring_53 : decode prog_8_method_17_code 53 = .ok (.getfield 133, 3) := by decide +kernel
theorem d_M_bring_56 : decode prog_8_method_17_code 56 = .ok (.goto 5, 3) := by decide +kernel
theorem d_M_bring_59 : decode prog_8_method_17_code 59 = .ok (.bipush (-4), 2) := by decide +kernel
theorem d_M_bring_61 : decode prog_8_method_17_code 61 = .ok (.iastore, 1) := by decide +kernel
theorem d_M_bring_62 : decode prog_8_method_17_code 62 = .ok (.aload_n 0, 1) := by decide +kernel
theorem d_M_bring_63 : decode prog_8_method_17_code 63 = .ok (.getfield 29, 3) := by decide +kernel
theorem d_M_bring_66 : decode prog_8_method_17_code 66 = .ok (.iload 5, 2) := by decide +kernel
theorem d_M_bring_68 : decode prog_8_method_17_code 68 = .ok (.iconst 0, 1) := by decide +kernel
theorem d_M_bring_69 : decode prog_8_method_17_code 69 = .ok (.iastore, 1) := by decide +kernel
theorem d_M_bring_70 : decode prog_8_method_17_code 70 = .ok (.aload_n 0, 1) := by decide +kernel
theorem d_M_bring_71 : decode prog_8_method_17_code 71 = .ok (.getfield 32, 3) := by decide +kernel
theorem d_M_bring_74 : decode prog_8_method_17_code 74 = .ok (.iload 5, 2) := by decide +kernel
theorem d_M_bring_76 : decode prog_8_method_17_code 76 = .ok (.iconst 0, 1) := by decide +kernel
theorem d_M_bring_77 : decode prog_8_method_17_code 77 = .ok (.iastore, 1) := by decide +kernel
theorem d_M_bring_78 : decode prog_8_method_17_code 78 = .ok (.aload_n 0, 1) := by decide +kernel
theorem d_M_bring_79 : decode prog_8_method_17_code 79 = .ok (.dup, 1) := by decide +kernel
theorem d_M_bring_80 : decode prog_8_method_17_code 80 = .ok (.getfield 105, 3) := by decide +kernel
theorem d_M_bring_83 : decode prog_8_method_17_code 83 = .ok (.iconst 1, 1) := by decide +kernel
theorem d_M_bring_84 : decode prog_8_method_17_code 84 = .ok (.iadd, 1) := by decide +kernel
theorem d_M_bring_85 : decode prog_8_method_17_code 85 = .ok (.putfield 105, 3) := by decide +kernel
theorem d_M_bring_88 : decode prog_8_method_17_code 88 = .ok (.iload 5, 2) := by decide +kernel
theorem d_M_bring_90 : decode prog_8_method_17_code 90 = .ok (.ireturn, 1) := by decide +kernel
set_option maxRecDepth 100000 in
def f_M_bring (F : Nat) (u : Mm) (o : Nat) (a1 : Int32) (a2 : Int32) (a3 : Int32) (a4 : Int32) : Option (Int32 × Mm) := ob (jgi YM 5 0 u (some o)) fun (x1 : Int32) => ob (jgr YM 5 4 (some o)) fun (r2 : Option Nat) => ob (jas YM u r2 x1 a1) fun (u3 : Mm) => ob (jgr YM 5 5 (some o)) fun (r4 : Option Nat) => ob (jas YM u3 r4 x1 a2) fun (u5 : Mm) => ob (jgr YM 5 6 (some o)) fun (r6 : Option Nat) => ob (jas YM u5 r6 x1 a3) fun (u7 : Mm) => ob (jgr YM 5 7 (some o)) fun (r8 : Option Nat) => ob (jas YM u7 r8 x1 a4) fun (u9 : Mm) => ob (jgr YM 5 8 (some o)) fun (r10 : Option Nat) => ob ((if (10 : Int32) ≤ a4 then some (-4 : Int32) else ob (jgi YM 5 3 u9 (some o)) fun (x13 : Int32) => some x13) : Option (Int32)) fun q11 => ob (jas YM u9 r10 x1 q11) fun (u14 : Mm) => ob (jgr YM 5 9 (some o)) fun (r15 : Option Nat) => ob (jas YM u14 r15 x1 (0 : Int32)) fun (u16 : Mm) => ob (jgr YM 5 10 (some o)) fun (r17 : Option Nat) => ob (jas YM u16 r17 x1 (0 : Int32)) fun (u18 : Mm) => ob (jgi YM 5 0 u18 (some o)) fun (x19 : Int32) => ob (jpi YM 5 0 u18 (some o) (x19 + (1 : Int32))) fun (u20 : Mm) => some (x1, u20)
set_option maxHeartbeats 4000000 in
set_option maxRecDepth 100000 in
theorem c_M_bring (l : Launch) (w : WP) (F : Nat) (u : Mm) (o : Nat) (a1 : Int32) (a2 : Int32) (a3 : Int32) (a4 : Int32) (out : Int32 × Mm) (h : f_M_bring F u o a1 a2 a3 a4 = some out) : yMet l m_M_bring ws_M_bring ({ frames := 0, cells := 0, slots := 0, locals := 0 } : Room) YM w u [va_re w.1 (some o), .int a1, .int a2, .int a3, .int a4] yfi out := by
  refine y_entry (own := "WhoseGlassModel") (lv := [(0, va_re w.1 (some o)), (1, .int a1), (2, .int a2), (3, .int a3), (4, .int a4)]) (by decide +kernel) rfl (by simp [lv_args, y_cat, y_catI, y_catJ]) (by simp [lg_sl, y_cat, y_catI, y_catJ]) ?_
  intro p e s m args below meth c C hr hlocks
  unfold f_M_bring at h
  refine y_aload_n C (i := 0) 0 d_M_bring_0 rfl rfl ?_
  refine y_gi C (q := (yR5, yT5, 46)) (ci := 5) (k := 0) rfl (by decide) rfl g_784 d_M_bring_1 h (fun x1 h => ?_)
  refine y_istore C (i := 5) (lvp := [(0, va_re w.1 (some o)), (1, .int a1), (2, .int a2), (3, .int a3), (4, .int a4)]) d_M_bring_4 (by decide) rfl ?_
  refine y_aload_n C (i := 0) 1 d_M_bring_6 rfl rfl ?_
  refine y_gr C (q := (yR5, yT5, 46)) (ci := 5) (k := 4) rfl (by decide) rfl (by decide) g_788 d_M_bring_7 h (fun r2 h => ?_)
  refine y_iload C (i := 5) 0 d_M_bring_10 rfl ?_
  refine y_iload_n C (i := 1) 2 d_M_bring_12 rfl rfl ?_
  refine y_as C d_M_bring_13 h (fun u3 h => ?_)
  refine y_aload_n C (i := 0) 1 d_M_bring_14 rfl rfl ?_
  refine y_gr C (q := (yR5, yT5, 46)) (ci := 5) (k := 5) rfl (by decide) rfl (by decide) g_789 d_M_bring_15 h (fun r4 h => ?_)
  refine y_iload C (i := 5) 0 d_M_bring_18 rfl ?_
  refine y_iload_n C (i := 2) 3 d_M_bring_20 rfl rfl ?_
  refine y_as C d_M_bring_21 h (fun u5 h => ?_)
  refine y_aload_n C (i := 0) 1 d_M_bring_22 rfl rfl ?_
  refine y_gr C (q := (yR5, yT5, 46)) (ci := 5) (k := 6) rfl (by decide) rfl (by decide) g_790 d_M_bring_23 h (fun r6 h => ?_)
  refine y_iload C (i := 5) 0 d_M_bring_26 rfl ?_
  refine y_iload_n C (i := 3) 4 d_M_bring_28 rfl rfl ?_
  refine y_as C d_M_bring_29 h (fun u7 h => ?_)
  refine y_aload_n C (i := 0) 1 d_M_bring_30 rfl rfl ?_
  refine y_gr C (q := (yR5, yT5, 46)) (ci := 5) (k := 7) rfl (by decide) rfl (by decide) g_791 d_M_bring_31 h (fun r8 h => ?_)
  refine y_iload C (i := 5) 0 d_M_bring_34 rfl ?_
  refine y_iload C (i := 4) 5 d_M_bring_36 rfl ?_
  refine y_as C d_M_bring_38 h (fun u9 h => ?_)
  refine y_aload_n C (i := 0) 1 d_M_bring_39 rfl rfl ?_
  refine y_gr C (q := (yR5, yT5, 46)) (ci := 5) (k := 8) rfl (by decide) rfl (by decide) g_792 d_M_bring_40 h (fun r10 h => ?_)
  refine y_iload C (i := 5) 0 d_M_bring_43 rfl ?_
  refine y_iload C (i := 4) 5 d_M_bring_45 rfl ?_
  refine y_bipush C (v := 10) d_M_bring_47 (by decide) ?_
  obtain ⟨q11, hq11, h⟩ := ob_e h
  have hJq11 : yG p l e ({ frames := 0, cells := 0, slots := 0, locals := 0 } : Room) s m args below meth c YM w 6 (MQ below (yQ YM w yfi out) args s 0 0 (yA YM w)) u9 61 [(0, va_re w.1 (some o)), (5, .int x1)] [.int q11, .int x1, va_re w.1 r10] := by
    refine y_as C d_M_bring_61 h (fun u14 h => ?_)
    refine y_aload_n C (i := 0) 0 d_M_bring_62 rfl rfl ?_
    refine y_gr C (q := (yR5, yT5, 46)) (ci := 5) (k := 9) rfl (by decide) rfl (by decide) g_793 d_M_bring_63 h (fun r15 h => ?_)
    refine y_iload C (i := 5) 1 d_M_bring_66 rfl ?_
    refine y_iconst C (v := 0) d_M_bring_68 (by decide) ?_
    refine y_as C d_M_bring_69 h (fun u16 h => ?_)
    refine y_aload_n C (i := 0) 0 d_M_bring_70 rfl rfl ?_
    refine y_gr C (q := (yR5, yT5, 46)) (ci := 5) (k := 10) rfl (by decide) rfl (by decide) g_794 d_M_bring_71 h (fun r17 h => ?_)
    refine y_iload C (i := 5) 1 d_M_bring_74 rfl ?_
    refine y_iconst C (v := 0) d_M_bring_76 (by decide) ?_
    refine y_as C d_M_bring_77 h (fun u18 h => ?_)
    refine y_aload_n C (i := 0) 0 d_M_bring_78 rfl rfl ?_
    refine y_dup C d_M_bring_79 (y_cat _ _) ?_
    refine y_gi C (q := (yR5, yT5, 46)) (ci := 5) (k := 0) rfl (by decide) rfl g_784 d_M_bring_80 h (fun x19 h => ?_)
    refine y_iconst C (v := 1) d_M_bring_83 (by decide) ?_
    refine y_iadd C d_M_bring_84 ?_
    refine y_pi C (q := (yR5, yT5, 46)) (ci := 5) (k := 0) rfl (by decide) rfl rfl (by decide +kernel) g_784 d_M_bring_85 h (fun u20 h => ?_)
    refine y_iload C (i := 5) 1 d_M_bring_88 rfl ?_
    exact y_iret C hr hlocks d_M_bring_90 h
  refine y_ic_ge C 59 d_M_bring_49 (by decide) hq11 (fun k12 hq11 => ?_) (fun k12 hq11 => ?_)
  · refine y_bipush C (v := -4) d_M_bring_59 (by decide) ?_
    cases hq11
    exact y_sub [1, 0] rfl hJq11
  · refine y_aload_n C (i := 0) 1 d_M_bring_52 rfl rfl ?_
    refine y_gi C (q := (yR5, yT5, 46)) (ci := 5) (k := 3) rfl (by decide) rfl g_787 d_M_bring_53 hq11 (fun x13 hq11 => ?_)
    refine y_goto C (tgt := 61) d_M_bring_56 (by decide) ?_
    cases hq11
    exact y_sub [1, 0] rfl hJq11
/-! M_glassComes -/
theorem d_M_glassComes_0 : decode prog_8_method_34_code 0 = .ok (.aload_n 0, 1) := by decide +kernel
theorem d_M_glassComes_1 : decode prog_8_method_34_code 1 = .ok (.getfield 77, 3) := by decide +kernel
theorem d_M_glassComes_4 : decode prog_8_method_34_code 4 = .ok (.iload_n 1, 1) := by decide +kernel
theorem d_M_glassComes_5 : decode prog_8_method_34_code 5 = .ok (.iaload, 1) := by decide +kernel
theorem d_M_glassComes_6 : decode prog_8_method_34_code 6 = .ok (.bipush 8, 2) := by decide +kernel
theorem d_M_glassComes_8 : decode prog_8_method_34_code 8 = .ok (.if_icmp .ge 29, 3) := by decide +kernel
theorem d_M_glassComes_11 : decode prog_8_method_34_code 11 = .ok (.aload_n 0, 1) := by decide +kernel
theorem d_M_glassComes_12 : decode prog_8_method_34_code 12 = .ok (.getfield 77, 3) := by decide +kernel
theorem d_M_glassComes_15 : decode prog_8_method_34_code 15 = .ok (.iload_n 1, 1) := by decide +kernel
theorem d_M_glassComes_16 : decode prog_8_method_34_code 16 = .ok (.iconst 3, 1) := by decide +kernel
theorem d_M_glassComes_17 : decode prog_8_method_34_code 17 = .ok (.iadd, 1) := by decide +kernel
theorem d_M_glassComes_18 : decode prog_8_method_34_code 18 = .ok (.iaload, 1) := by decide +kernel
theorem d_M_glassComes_19 : decode prog_8_method_34_code 19 = .ok (.bipush 6, 2) := by decide +kernel
theorem d_M_glassComes_21 : decode prog_8_method_34_code 21 = .ok (.if_icmp .ge 16, 3) := by decide +kernel
theorem d_M_glassComes_24 : decode prog_8_method_34_code 24 = .ok (.aload_n 0, 1) := by decide +kernel
theorem d_M_glassComes_25 : decode prog_8_method_34_code 25 = .ok (.getfield 105, 3) := by decide +kernel
theorem d_M_glassComes_28 : decode prog_8_method_34_code 28 = .ok (.bipush 12, 2) := by decide +kernel
theorem d_M_glassComes_30 : decode prog_8_method_34_code 30 = .ok (.if_icmp .ge 7, 3) := by decide +kernel
theorem d_M_glassComes_33 : decode prog_8_method_34_code 33 = .ok (.iconst 1, 1) := by decide +kernel
theorem d_M_glassComes_34 : decode prog_8_method_34_code 34 = .ok (.goto 4, 3) := by decide +kernel
theorem d_M_glassComes_37 : decode prog_8_method_34_code 37 = .ok (.iconst 0, 1) := by decide +kernel
theorem d_M_glassComes_38 : decode prog_8_method_34_code 38 = .ok (.istore_n 2, 1) := by decide +kernel
theorem d_M_glassComes_39 : decode prog_8_method_34_code 39 = .ok (.iload_n 2, 1) := by decide +kernel
theorem d_M_glassComes_40 : decode prog_8_method_34_code 40 = .ok (.ifCond .eq 38, 3) := by decide +kernel
theorem d_M_glassComes_43 : decode prog_8_method_34_code 43 = .ok (.aload_n 0, 1) := by decide +kernel
theorem d_M_glassComes_44 : decode prog_8_method_34_code 44 = .ok (.aload_n 0, 1) := by decide +kernel
theorem d_M_glassComes_45 : decode prog_8_method_34_code 45 = .ok (.getfield 77, 3) := by decide +kernel
theorem d_M_glassComes_48 : decode prog_8_method_34_code 48 = .ok (.iload_n 1, 1) := by decide +kernel
theorem d_M_glassComes_49 : decode prog_8_method_34_code 49 = .ok (.iaload, 1) := by decide +kernel
theorem d_M_glassComes_50 : decode prog_8_method_34_code 50 = .ok (.aload_n 0, 1) := by decide +kernel
theorem d_M_glassComes_51 : decode prog_8_method_34_code 51 = .ok (.getfield 77, 3) := by decide +kernel
theorem d_M_glassComes_54 : decode prog_8_method_34_code 54 = .ok (.iload_n 1, 1) := by decide +kernel
theorem d_M_glassComes_55 : decode prog_8_method_34_code 55 = .ok (.iconst 1, 1) := by decide +kernel
theorem d_M_glassComes_56 : decode prog_8_method_34_code 56 = .ok (.iadd, 1) := by decide +kernel
theorem d_M_glassComes_57 : decode prog_8_method_34_code 57 = .ok (.iaload, 1) := by decide +kernel
theorem d_M_glassComes_58 : decode prog_8_method_34_code 58 = .ok (.aload_n 0, 1) := by decide +kernel
theorem d_M_glassComes_59 : decode prog_8_method_34_code 59 = .ok (.getfield 77, 3) := by decide +kernel
theorem d_M_glassComes_62 : decode prog_8_method_34_code 62 = .ok (.iload_n 1, 1) := by decide +kernel
theorem d_M_glassComes_63 : decode prog_8_method_34_code 63 = .ok (.iconst 2, 1) := by decide +kernel
theorem d_M_glassComes_64 : decode prog_8_method_34_code 64 = .ok (.iadd, 1) := by decide +kernel
theorem d_M_glassComes_65 : decode prog_8_method_34_code 65 = .ok (.iaload, 1) := by decide +kernel
theorem d_M_glassComes_66 : decode prog_8_method_34_code 66 = .ok (.aload_n 0, 1) := by decide +kernel
theorem d_M_glassComes_67 : decode prog_8_method_34_code 67 = .ok (.getfield 77, 3) := by decide +kernel
theorem d_M_glassComes_70 : decode prog_8_method_34_code 70 = .ok (.iload_n 1, 1) := by decide +kernel
theorem d_M_glassComes_71 : decode prog_8_method_34_code 71 = .ok (.iconst 3, 1) := by decide +kernel
theorem d_M_glassComes_72 : decode prog_8_method_34_code 72 = .ok (.iadd, 1) := by decide +kernel
theorem d_M_glassComes_73 : decode prog_8_method_34_code 73 = .ok (.iaload, 1) := by decide +kernel
theorem d_M_glassComes_74 : decode prog_8_method_34_code 74 = .ok (.invokevirtual 153, 3) := by decide +kernel
theorem d_M_glassComes_77 : decode prog_8_method_34_code 77 = .ok (.pop, 1) := by decide +kernel
theorem d_M_glassComes_78 : decode prog_8_method_34_code 78 = .ok (.iload_n 2, 1) := by decide +kernel
theorem d_M_glassComes_79 : decode prog_8_method_34_code 79 = .ok (.ireturn, 1) := by decide +kernel
theorem gc_M_glassComes_153 : GoodIn yGW (wsV "WhoseGlassModel" 153 yR5 m_M_bring ws_M_bring) := y_gV g_990 g_992 gs_22 g_6 g_993
set_option maxRecDepth 100000 in
def f_M_glassComes (F : Nat) (u : Mm) (o : Nat) (a1 : Int32) : Option (Int32 × Mm) := ob (jgr YM 5 37 (some o)) fun (r1 : Option Nat) => ob (jal YM u r1 a1) fun (x2 : Int32) => ob ((if (8 : Int32) ≤ x2 then some (0 : Int32) else ob (jgr YM 5 37 (some o)) fun (r5 : Option Nat) => ob (jal YM u r5 (a1 + (3 : Int32))) fun (x6 : Int32) => (if (6 : Int32) ≤ x6 then some (0 : Int32) else ob (jgi YM 5 0 u (some o)) fun (x8 : Int32) => (if (12 : Int32) ≤ x8 then some (0 : Int32) else some (1 : Int32)))) : Option (Int32)) fun q3 => ob ((if q3 = 0 then some u else ob (jgr YM 5 37 (some o)) fun (r12 : Option Nat) => ob (jal YM u r12 a1) fun (x13 : Int32) => ob (jgr YM 5 37 (some o)) fun (r14 : Option Nat) => ob (jal YM u r14 (a1 + (1 : Int32))) fun (x15 : Int32) => ob (jgr YM 5 37 (some o)) fun (r16 : Option Nat) => ob (jal YM u r16 (a1 + (2 : Int32))) fun (x17 : Int32) => ob (jgr YM 5 37 (some o)) fun (r18 : Option Nat) => ob (jal YM u r18 (a1 + (3 : Int32))) fun (x19 : Int32) => ob (jk YM 5 (some o)) fun t => yb (f_M_bring F u t x13 x15 x17 x19) fun x20 u21 => some u21) : Option (Mm)) fun q10 => ob (jz q3) (fun v => some (v, q10))
set_option maxHeartbeats 4000000 in
set_option maxRecDepth 100000 in
theorem c_M_glassComes (l : Launch) (w : WP) (F : Nat) (u : Mm) (o : Nat) (a1 : Int32) (out : Int32 × Mm) (h : f_M_glassComes F u o a1 = some out) : yMet l m_M_glassComes ws_M_glassComes ({ frames := 1, cells := 0, slots := 0, locals := 25 } : Room) YM w u [va_re w.1 (some o), .int a1] yfi out := by
  refine y_entry (own := "WhoseGlassModel") (lv := [(0, va_re w.1 (some o)), (1, .int a1)]) (by decide +kernel) rfl (by simp [lv_args, y_cat, y_catI, y_catJ]) (by simp [lg_sl, y_cat, y_catI, y_catJ]) ?_
  intro p e s m args below meth c C hr hlocks
  unfold f_M_glassComes at h
  refine y_aload_n C (i := 0) 0 d_M_glassComes_0 rfl rfl ?_
  refine y_gr C (q := (yR5, yT5, 46)) (ci := 5) (k := 37) rfl (by decide) rfl (by decide) g_821 d_M_glassComes_1 h (fun r1 h => ?_)
  refine y_iload_n C (i := 1) 1 d_M_glassComes_4 rfl rfl ?_
  refine y_al C d_M_glassComes_5 h (fun x2 h => ?_)
  refine y_bipush C (v := 8) d_M_glassComes_6 (by decide) ?_
  obtain ⟨q3, hq3, h⟩ := ob_e h
  have hJq3 : yG p l e ({ frames := 1, cells := 0, slots := 0, locals := 25 } : Room) s m args below meth c YM w 3 (MQ below (yQ YM w yfi out) args s 0 0 (yA YM w)) u 38 [(0, va_re w.1 (some o)), (1, .int a1)] [.int q3] := by
    refine y_istore_n C (i := 2) (lvp := [(0, va_re w.1 (some o)), (1, .int a1)]) d_M_glassComes_38 rfl (by decide) rfl ?_
    refine y_iload_n C (i := 2) 0 d_M_glassComes_39 rfl rfl ?_
    obtain ⟨q10, hq10, h⟩ := ob_e h
    have hJq10 : yG p l e ({ frames := 1, cells := 0, slots := 0, locals := 25 } : Room) s m args below meth c YM w 3 (MQ below (yQ YM w yfi out) args s 0 0 (yA YM w)) q10 78 [(2, .int q3)] [] := by
      refine y_iload_n C (i := 2) 0 d_M_glassComes_78 rfl rfl ?_
      exact y_zret C hr hlocks d_M_glassComes_79 h
    refine y_if_eq C 78 d_M_glassComes_40 (by decide) hq10 (fun k11 hq10 => ?_) (fun k11 hq10 => ?_)
    · cases hq10
      exact y_sub [0] rfl hJq10
    · refine y_aload_n C (i := 0) 1 d_M_glassComes_43 rfl rfl ?_
      refine y_aload_n C (i := 0) 1 d_M_glassComes_44 rfl rfl ?_
      refine y_gr C (q := (yR5, yT5, 46)) (ci := 5) (k := 37) rfl (by decide) rfl (by decide) g_821 d_M_glassComes_45 hq10 (fun r12 hq10 => ?_)
      refine y_iload_n C (i := 1) 2 d_M_glassComes_48 rfl rfl ?_
      refine y_al C d_M_glassComes_49 hq10 (fun x13 hq10 => ?_)
      refine y_aload_n C (i := 0) 1 d_M_glassComes_50 rfl rfl ?_
      refine y_gr C (q := (yR5, yT5, 46)) (ci := 5) (k := 37) rfl (by decide) rfl (by decide) g_821 d_M_glassComes_51 hq10 (fun r14 hq10 => ?_)
      refine y_iload_n C (i := 1) 2 d_M_glassComes_54 rfl rfl ?_
      refine y_iconst C (v := 1) d_M_glassComes_55 (by decide) ?_
      refine y_iadd C d_M_glassComes_56 ?_
      refine y_al C d_M_glassComes_57 hq10 (fun x15 hq10 => ?_)
      refine y_aload_n C (i := 0) 1 d_M_glassComes_58 rfl rfl ?_
      refine y_gr C (q := (yR5, yT5, 46)) (ci := 5) (k := 37) rfl (by decide) rfl (by decide) g_821 d_M_glassComes_59 hq10 (fun r16 hq10 => ?_)
      refine y_iload_n C (i := 1) 2 d_M_glassComes_62 rfl rfl ?_
      refine y_iconst C (v := 2) d_M_glassComes_63 (by decide) ?_
      refine y_iadd C d_M_glassComes_64 ?_
      refine y_al C d_M_glassComes_65 hq10 (fun x17 hq10 => ?_)
      refine y_aload_n C (i := 0) 1 d_M_glassComes_66 rfl rfl ?_
      refine y_gr C (q := (yR5, yT5, 46)) (ci := 5) (k := 37) rfl (by decide) rfl (by decide) g_821 d_M_glassComes_67 hq10 (fun r18 hq10 => ?_)
      refine y_iload_n C (i := 1) 2 d_M_glassComes_70 rfl rfl ?_
      refine y_iconst C (v := 3) d_M_glassComes_71 (by decide) ?_
      refine y_iadd C d_M_glassComes_72 ?_
      refine y_al C d_M_glassComes_73 hq10 (fun x19 hq10 => ?_)
      refine y_callV 4 C (q := (yR5, yT5, 46)) (ci := 5) (fun t out hh => c_M_bring l w F u t x13 x15 x17 x19 out hh) gc_M_glassComes_153 rfl (by decide) hd_M_bring ⟨Nat.le_of_ble_eq_true rfl, Nat.le_of_ble_eq_true rfl⟩ rfl rfl rfl rfl (by simp [y_cat, y_catI, y_catJ]) d_M_glassComes_74 hq10 (fun x20 u21 hq10 => ?_)
      refine y_stk (stp0 := [.int x20]) rfl ?_
      refine y_pop C d_M_glassComes_77 rfl ?_
      cases hq10
      exact y_sub [0] rfl hJq10
  refine y_ic_ge C 37 d_M_glassComes_8 (by decide) hq3 (fun k4 hq3 => ?_) (fun k4 hq3 => ?_)
  · refine y_iconst C (v := 0) d_M_glassComes_37 (by decide) ?_
    cases hq3
    exact y_sub [0, 1] rfl hJq3
  · refine y_aload_n C (i := 0) 0 d_M_glassComes_11 rfl rfl ?_
    refine y_gr C (q := (yR5, yT5, 46)) (ci := 5) (k := 37) rfl (by decide) rfl (by decide) g_821 d_M_glassComes_12 hq3 (fun r5 hq3 => ?_)
    refine y_iload_n C (i := 1) 1 d_M_glassComes_15 rfl rfl ?_
    refine y_iconst C (v := 3) d_M_glassComes_16 (by decide) ?_
    refine y_iadd C d_M_glassComes_17 ?_
    refine y_al C d_M_glassComes_18 hq3 (fun x6 hq3 => ?_)
    refine y_bipush C (v := 6) d_M_glassComes_19 (by decide) ?_
    refine y_ic_ge C 37 d_M_glassComes_21 (by decide) hq3 (fun k7 hq3 => ?_) (fun k7 hq3 => ?_)
    · refine y_iconst C (v := 0) d_M_glassComes_37 (by decide) ?_
      cases hq3
      exact y_sub [0, 1] rfl hJq3
    · refine y_aload_n C (i := 0) 0 d_M_glassComes_24 rfl rfl ?_
      refine y_gi C (q := (yR5, yT5, 46)) (ci := 5) (k := 0) rfl (by decide) rfl g_784 d_M_glassComes_25 hq3 (fun x8 hq3 => ?_)
      refine y_bipush C (v := 12) d_M_glassComes_28 (by decide) ?_
      refine y_ic_ge C 37 d_M_glassComes_30 (by decide) hq3 (fun k9 hq3 => ?_) (fun k9 hq3 => ?_)
      · refine y_iconst C (v := 0) d_M_glassComes_37 (by decide) ?_
        cases hq3
        exact y_sub [0, 1] rfl hJq3
      · refine y_iconst C (v := 1) d_M_glassComes_33 (by decide) ?_
        refine y_goto C (tgt := 38) d_M_glassComes_34 (by decide) ?_
        cases hq3
        exact y_sub [0, 1] rfl hJq3
/-! M_guestComes -/
theorem d_M_guestComes_0 : decode prog_8_method_35_code 0 = .ok (.aload_n 0, 1) := by decide +kernel
theorem d_M_guestComes_1 : decode prog_8_method_35_code 1 = .ok (.getfield 112, 3) := by decide +kernel
theorem d_M_guestComes_4 : decode prog_8_method_35_code 4 = .ok (.istore_n 2, 1) := by decide +kernel
theorem d_M_guestComes_5 : decode prog_8_method_35_code 5 = .ok (.aload_n 0, 1) := by decide +kernel
theorem d_M_guestComes_6 : decode prog_8_method_35_code 6 = .ok (.getfield 77, 3) := by decide +kernel
theorem d_M_guestComes_9 : decode prog_8_method_35_code 9 = .ok (.iload_n 1, 1) := by decide +kernel
theorem d_M_guestComes_10 : decode prog_8_method_35_code 10 = .ok (.iaload, 1) := by decide +kernel
theorem d_M_guestComes_11 : decode prog_8_method_35_code 11 = .ok (.ifCond .eq 32, 3) := by decide +kernel
theorem d_M_guestComes_14 : decode prog_8_method_35_code 14 = .ok (.aload_n 0, 1) := by decide +kernel
theorem d_M_guestComes_15 : decode prog_8_method_35_code 15 = .ok (.getfield 77, 3) := by decide +kernel
theorem d_M_guestComes_18 : decode prog_8_method_35_code 18 = .ok (.iload_n 1, 1) := by decide +kernel
theorem d_M_guestComes_19 : decode prog_8_method_35_code 19 = .ok (.iconst 1, 1) := by decide +kernel
theorem d_M_guestComes_20 : decode prog_8_method_35_code 20 = .ok (.iadd, 1) := by decide +kernel
theorem d_M_guestComes_21 : decode prog_8_method_35_code 21 = .ok (.iaload, 1) := by decide +kernel
theorem d_M_guestComes_22 : decode prog_8_method_35_code 22 = .ok (.ifCond .eq 21, 3) := by decide +kernel
theorem d_M_guestComes_25 : decode prog_8_method_35_code 25 = .ok (.aload_n 0, 1) := by decide +kernel
theorem d_M_guestComes_26 : decode prog_8_method_35_code 26 = .ok (.getfield 77, 3) := by decide +kernel
theorem d_M_guestComes_29 : decode prog_8_method_35_code 29 = .ok (.iload_n 1, 1) := by decide +kernel
theorem d_M_guestComes_30 : decode prog_8_method_35_code 30 = .ok (.iconst 4, 1) := by decide +kernel
theorem d_M_guestComes_31 : decode prog_8_method_35_code 31 = .ok (.iadd, 1) := by decide +kernel
theorem d_M_guestComes_32 : decode prog_8_method_35_code 32 = .ok (.iaload, 1) := by decide +kernel
theorem d_M_guestComes_33 : decode prog_8_method_35_code 33 = .ok (.iconst 5, 1) := by decide +kernel
theorem d_M_guestComes_34 : decode prog_8_method_35_code 34 = .ok (.if_icmp .gt 9, 3) := by decide +kernel
theorem d_M_guestComes_37 : decode prog_8_method_35_code 37 = .ok (.iload_n 2, 1) := by decide +kernel
theorem d_M_guestComes_38 : decode prog_8_method_35_code 38 = .ok (.bipush 6, 2) := by decide +kernel
theorem d_M_guestComes_40 : decode prog_8_method_35_code 40 = .ok (.if_icmp .ne 5, 3) := by decide +kernel
theorem d_M_guestComes_43 : decode prog_8_method_35_code 43 = .ok (.iconst 0, 1) := by decide +kernel
theorem d_M_guestComes_44 : decode prog_8_method_35_code 44 = .ok (.ireturn, 1) := by decide +kernel
theorem d_M_guestComes_45 : decode prog_8_method_35_code 45 = .ok (.aload_n 0, 1) := by decide +kernel
theorem d_M_guestComes_46 : decode prog_8_method_35_code 46 = .ok (.getfield 35, 3) := by decide +kernel
theorem d_M_guestComes_49 : decode prog_8_method_35_code 49 = .ok (.iload_n 2, 1) := by decide +kernel
theorem d_M_guestComes_50 : decode prog_8_method_35_code 50 = .ok (.aload_n 0, 1) := by decide +kernel
theorem d_M_guestComes_51 : decode prog_8_method_35_code 51 = .ok (.getfield 77, 3) := by decide +kernel
theorem d_M_guestComes_54 : decode prog_8_method_35_code 54 = .ok (.iload_n 1, 1) := by decide +kernel
theorem d_M_guestComes_55 : decode prog_8_method_35_code 55 = .ok (.iaload, 1) := by decide +kernel
theorem d_M_guestComes_56 : decode prog_8_method_35_code 56 = .ok (.iastore, 1) := by decide +kernel
theorem d_M_guestComes_57 : decode prog_8_method_35_code 57 = .ok (.aload_n 0, 1) := by decide +kernel
theorem d_M_guestComes_58 : decode prog_8_method_35_code 58 = .ok (.getfield 38, 3) := by decide +kernel
theorem d_M_guestComes_61 : decode prog_8_method_35_code 61 = .ok (.iload_n 2, 1) := by decide +kernel
theorem d_M_guestComes_62 : decode prog_8_method_35_code 62 = .ok (.aload_n 0, 1) := by decide +kernel
theorem d_M_guestComes_63 : decode prog_8_method_35_code 63 = .ok (.getfield 77, 3) := by decide +kernel
theorem d_M_guestComes_66 : decode prog_8_method_35_code 66 = .ok (.iload_n 1, 1) := by decide +kernel
theorem d_M_guestComes_67 : decode prog_8_method_35_code 67 = .ok (.iconst 1, 1) := by decide +kernel
theorem d_M_guestComes_68 : decode prog_8_method_35_code 68 = .ok (.iadd, 1) := by decide +kernel
theorem d_M_guestComes_69 : decode prog_8_method_35_code 69 = .ok (.iaload, 1) := by decide +kernel
theorem d_M_guestComes_70 : decode prog_8_method_35_code 70 = .ok (.iastore, 1) := by decide +kernel
theorem d_M_guestComes_71 : decode prog_8_method_35_code 71 = .ok (.aload_n 0, 1) := by decide +kernel
theorem d_M_guestComes_72 : decode prog_8_method_35_code 72 = .ok (.getfield 41, 3) := by decide +kernel
theorem d_M_guestComes_75 : decode prog_8_method_35_code 75 = .ok (.iload_n 2, 1) := by decide +kernel
theorem d_M_guestComes_76 : decode prog_8_method_35_code 76 = .ok (.aload_n 0, 1) := by decide +kernel
theorem d_M_guestComes_77 : decode prog_8_method_35_code 77 = .ok (.getfield 77, 3) := by decide +kernel
theorem d_M_guestComes_80 : decode prog_8_method_35_code 80 = .ok (.iload_n 1, 1) := by decide +kernel
theorem d_M_guestComes_81 : decode prog_8_method_35_code 81 = .ok (.iconst 2, 1) := by decide +kernel
theorem d_M_guestComes_82 : decode prog_8_method_35_code 82 = .ok (.iadd, 1) := by decide +kernel
theorem d_M_guestComes_83 : decode prog_8_method_35_code 83 = .ok (.iaload, 1) := by decide +kernel
theorem d_M_guestComes_84 : decode prog_8_method_35_code 84 = .ok (.iastore, 1) := by decide +kernel
theorem d_M_guestComes_85 : decode prog_8_method_35_code 85 = .ok (.aload_n 0, 1) := by decide +kernel
theorem d_M_guestComes_86 : decode prog_8_method_35_code 86 = .ok (.getfield 44, 3) := by decide +kernel
theorem d_M_guestComes_89 : decode prog_8_method_35_code 89 = .ok (.iload_n 2, 1) := by decide +kernel
theorem d_M_guestComes_90 : decode prog_8_method_35_code 90 = .ok (.aload_n 0, 1) := by decide +kernel
theorem d_M_guestComes_91 : decode prog_8_method_35_code 91 = .ok (.getfield 77, 3) := by decide +kernel
theorem d_M_guestComes_94 : decode prog_8_method_35_code 94 = .ok (.iload_n 1, 1) := by decide +kernel
theorem d_M_guestComes_95 : decode prog_8_method_35_code 95 = .ok (.iconst 3, 1) := by decide +kernel
theorem d_M_guestComes_96 : decode prog_8_method_35_code 96 = .ok (.iadd, 1) := by decide +kernel
theorem d_M_guestComes_97 : decode prog_8_method_35_code 97 = .ok (.iaload, 1) := by decide +kernel
theorem d_M_guestComes_98 : decode prog_8_method_35_code 98 = .ok (.iastore, 1) := by decide +kernel
theorem d_M_guestComes_99 : decode prog_8_method_35_code 99 = .ok (.aload_n 0, 1) := by decide +kernel
theorem d_M_guestComes_100 : decode prog_8_method_35_code 100 = .ok (.getfield 47, 3) := by decide +kernel
theorem d_M_guestComes_103 : decode prog_8_method_35_code 103 = .ok (.iload_n 2, 1) := by decide +kernel
theorem d_M_guestComes_104 : decode prog_8_method_35_code 104 = .ok (.aload_n 0, 1) := by decide +kernel
theorem d_M_guestComes_105 : decode prog_8_method_35_code 105 = .ok (.getfield 77, 3) := by decide +kernel
theorem d_M_guestComes_108 : decode prog_8_method_35_code 108 = .ok (.iload_n 1, 1) := by decide +kernel
theorem d_M_guestComes_109 : decode prog_8_method_35_code 109 = .ok (.iconst 4, 1) := by decide +kernel
theorem d_M_guestComes_110 : decode prog_8_method_35_code 110 = .ok (.iadd, 1) := by decide +kernel
theorem d_M_guestComes_111 : decode prog_8_method_35_code 111 = .ok (.iaload, 1) := by decide +kernel
theorem d_M_guestComes_112 : decode prog_8_method_35_code 112 = .ok (.iastore, 1) := by decide +kernel
theorem d_M_guestComes_113 : decode prog_8_method_35_code 113 = .ok (.aload_n 0, 1) := by decide +kernel
theorem d_M_guestComes_114 : decode prog_8_method_35_code 114 = .ok (.getfield 50, 3) := by decide +kernel
theorem d_M_guestComes_117 : decode prog_8_method_35_code 117 = .ok (.iload_n 2, 1) := by decide +kernel
theorem d_M_guestComes_118 : decode prog_8_method_35_code 118 = .ok (.bipush (-4), 2) := by decide +kernel
theorem d_M_guestComes_120 : decode prog_8_method_35_code 120 = .ok (.iastore, 1) := by decide +kernel
theorem d_M_guestComes_121 : decode prog_8_method_35_code 121 = .ok (.aload_n 0, 1) := by decide +kernel
theorem d_M_guestComes_122 : decode prog_8_method_35_code 122 = .ok (.getfield 53, 3) := by decide +kernel
theorem d_M_guestComes_125 : decode prog_8_method_35_code 125 = .ok (.iload_n 2, 1) := by decide +kernel
theorem d_M_guestComes_126 : decode prog_8_method_35_code 126 = .ok (.bipush (-4), 2) := by decide +kernel
theorem d_M_guestComes_128 : decode prog_8_method_35_code 128 = .ok (.iastore, 1) := by decide +kernel
theorem d_M_guestComes_129 : decode prog_8_method_35_code 129 = .ok (.aload_n 0, 1) := by decide +kernel
theorem d_M_guestComes_130 : decode prog_8_method_35_code 130 = .ok (.getfield 56, 3) := by decide +kernel
theorem d_M_guestComes_133 : decode prog_8_method_35_code 133 = .ok (.iload_n 2, 1) := by decide +kernel
theorem d_M_guestComes_134 : decode prog_8_method_35_code 134 = .ok (.iconst 0, 1) := by decide +kernel
theorem d_M_guestComes_135 : decode prog_8_method_35_code 135 = .ok (.iastore, 1) := by decide +kernel
theorem d_M_guestComes_136 : decode prog_8_method_35_code 136 = .ok (.aload_n 0, 1) := by decide +kernel
theorem d_M_guestComes_137 : decode prog_8_method_35_code 137 = .ok (.getfield 59, 3) := by decide +kernel
theorem d_M_guestComes_140 : decode prog_8_method_35_code 140 = .ok (.iload_n 2, 1) := by decide +kernel
theorem d_M_guestComes_141 : decode prog_8_method_35_code 141 = .ok (.iconst 0, 1) := by decide +kernel
theorem d_M_guestComes_142 : decode prog_8_method_35_code 142 = .ok (.iastore, 1) := by decide +kernel
theorem d_M_guestComes_143 : decode prog_8_method_35_code 143 = .ok (.aload_n 0, 1) := by decide +kernel
theorem d_M_guestComes_144 : decode prog_8_method_35_code 144 = .ok (.dup, 1) := by decide +kernel
theorem d_M_guestComes_145 : decode prog_8_method_35_code 145 = .ok (.getfield 112, 3) := by decide +kernel
theorem d_M_guestComes_148 : decode prog_8_method_35_code 148 = .ok (.iconst 1, 1) := by decide +kernel
theorem d_M_guestComes_149 : decode prog_8_method_35_code 149 = .ok (.iadd, 1) := by decide +kernel
theorem d_M_guestComes_150 : decode prog_8_method_35_code 150 = .ok (.putfield 112, 3) := by decide +kernel
theorem d_M_guestComes_153 : decode prog_8_method_35_code 153 = .ok (.iconst 1, 1) := by decide +kernel
theorem d_M_guestComes_154 : decode prog_8_method_35_code 154 = .ok (.ireturn, 1) := by decide +kernel
set_option maxRecDepth 100000 in
def f_M_guestComes (F : Nat) (u : Mm) (o : Nat) (a1 : Int32) : Option (Int32 × Mm) := ob (jgi YM 5 1 u (some o)) fun (x1 : Int32) => ob (jgr YM 5 37 (some o)) fun (r2 : Option Nat) => ob (jal YM u r2 a1) fun (x3 : Int32) => (if x3 = 0 then ob (jz (0 : Int32)) (fun v => some (v, u)) else ob (jgr YM 5 37 (some o)) fun (r5 : Option Nat) => ob (jal YM u r5 (a1 + (1 : Int32))) fun (x6 : Int32) => (if x6 = 0 then ob (jz (0 : Int32)) (fun v => some (v, u)) else ob (jgr YM 5 37 (some o)) fun (r8 : Option Nat) => ob (jal YM u r8 (a1 + (4 : Int32))) fun (x9 : Int32) => (if (5 : Int32) < x9 then ob (jz (0 : Int32)) (fun v => some (v, u)) else (if x1 = (6 : Int32) then ob (jz (0 : Int32)) (fun v => some (v, u)) else ob (jgr YM 5 11 (some o)) fun (r12 : Option Nat) => ob (jgr YM 5 37 (some o)) fun (r13 : Option Nat) => ob (jal YM u r13 a1) fun (x14 : Int32) => ob (jas YM u r12 x1 x14) fun (u15 : Mm) => ob (jgr YM 5 12 (some o)) fun (r16 : Option Nat) => ob (jgr YM 5 37 (some o)) fun (r17 : Option Nat) => ob (jal YM u15 r17 (a1 + (1 : Int32))) fun (x18 : Int32) => ob (jas YM u15 r16 x1 x18) fun (u19 : Mm) => ob (jgr YM 5 13 (some o)) fun (r20 : Option Nat) => ob (jgr YM 5 37 (some o)) fun (r21 : Option Nat) => ob (jal YM u19 r21 (a1 + (2 : Int32))) fun (x22 : Int32) => ob (jas YM u19 r20 x1 x22) fun (u23 : Mm) => ob (jgr YM 5 14 (some o)) fun (r24 : Option Nat) => ob (jgr YM 5 37 (some o)) fun (r25 : Option Nat) => ob (jal YM u23 r25 (a1 + (3 : Int32))) fun (x26 : Int32) => ob (jas YM u23 r24 x1 x26) fun (u27 : Mm) => ob (jgr YM 5 15 (some o)) fun (r28 : Option Nat) => ob (jgr YM 5 37 (some o)) fun (r29 : Option Nat) => ob (jal YM u27 r29 (a1 + (4 : Int32))) fun (x30 : Int32) => ob (jas YM u27 r28 x1 x30) fun (u31 : Mm) => ob (jgr YM 5 16 (some o)) fun (r32 : Option Nat) => ob (jas YM u31 r32 x1 (-4 : Int32)) fun (u33 : Mm) => ob (jgr YM 5 17 (some o)) fun (r34 : Option Nat) => ob (jas YM u33 r34 x1 (-4 : Int32)) fun (u35 : Mm) => ob (jgr YM 5 18 (some o)) fun (r36 : Option Nat) => ob (jas YM u35 r36 x1 (0 : Int32)) fun (u37 : Mm) => ob (jgr YM 5 19 (some o)) fun (r38 : Option Nat) => ob (jas YM u37 r38 x1 (0 : Int32)) fun (u39 : Mm) => ob (jgi YM 5 1 u39 (some o)) fun (x40 : Int32) => ob (jpi YM 5 1 u39 (some o) (x40 + (1 : Int32))) fun (u41 : Mm) => ob (jz (1 : Int32)) (fun v => some (v, u41))))))
set_option maxHeartbeats 4000000 in
set_option maxRecDepth 100000 in
theorem c_M_guestComes (l : Launch) (w : WP) (F : Nat) (u : Mm) (o : Nat) (a1 : Int32) (out : Int32 × Mm) (h : f_M_guestComes F u o a1 = some out) : yMet l m_M_guestComes ws_M_guestComes ({ frames := 0, cells := 0, slots := 0, locals := 0 } : Room) YM w u [va_re w.1 (some o), .int a1] yfi out := by
  refine y_entry (own := "WhoseGlassModel") (lv := [(0, va_re w.1 (some o)), (1, .int a1)]) (by decide +kernel) rfl (by simp [lv_args, y_cat, y_catI, y_catJ]) (by simp [lg_sl, y_cat, y_catI, y_catJ]) ?_
  intro p e s m args below meth c C hr hlocks
  unfold f_M_guestComes at h
  refine y_aload_n C (i := 0) 0 d_M_guestComes_0 rfl rfl ?_
  refine y_gi C (q := (yR5, yT5, 46)) (ci := 5) (k := 1) rfl (by decide) rfl g_785 d_M_guestComes_1 h (fun x1 h => ?_)
  refine y_istore_n C (i := 2) (lvp := [(0, va_re w.1 (some o)), (1, .int a1)]) d_M_guestComes_4 rfl (by decide) rfl ?_
  refine y_aload_n C (i := 0) 1 d_M_guestComes_5 rfl rfl ?_
  refine y_gr C (q := (yR5, yT5, 46)) (ci := 5) (k := 37) rfl (by decide) rfl (by decide) g_821 d_M_guestComes_6 h (fun r2 h => ?_)
  refine y_iload_n C (i := 1) 2 d_M_guestComes_9 rfl rfl ?_
  refine y_al C d_M_guestComes_10 h (fun x3 h => ?_)
  refine y_if_eq C 43 d_M_guestComes_11 (by decide) h (fun k4 h => ?_) (fun k4 h => ?_)
  · refine y_iconst C (v := 0) d_M_guestComes_43 (by decide) ?_
    exact y_zret C hr hlocks d_M_guestComes_44 h
  · refine y_aload_n C (i := 0) 1 d_M_guestComes_14 rfl rfl ?_
    refine y_gr C (q := (yR5, yT5, 46)) (ci := 5) (k := 37) rfl (by decide) rfl (by decide) g_821 d_M_guestComes_15 h (fun r5 h => ?_)
    refine y_iload_n C (i := 1) 2 d_M_guestComes_18 rfl rfl ?_
    refine y_iconst C (v := 1) d_M_guestComes_19 (by decide) ?_
    refine y_iadd C d_M_guestComes_20 ?_
    refine y_al C d_M_guestComes_21 h (fun x6 h => ?_)
    refine y_if_eq C 43 d_M_guestComes_22 (by decide) h (fun k7 h => ?_) (fun k7 h => ?_)
    · refine y_iconst C (v := 0) d_M_guestComes_43 (by decide) ?_
      exact y_zret C hr hlocks d_M_guestComes_44 h
    · refine y_aload_n C (i := 0) 1 d_M_guestComes_25 rfl rfl ?_
      refine y_gr C (q := (yR5, yT5, 46)) (ci := 5) (k := 37) rfl (by decide) rfl (by decide) g_821 d_M_guestComes_26 h (fun r8 h => ?_)
      refine y_iload_n C (i := 1) 2 d_M_guestComes_29 rfl rfl ?_
      refine y_iconst C (v := 4) d_M_guestComes_30 (by decide) ?_
      refine y_iadd C d_M_guestComes_31 ?_
      refine y_al C d_M_guestComes_32 h (fun x9 h => ?_)
      refine y_iconst C (v := 5) d_M_guestComes_33 (by decide) ?_
      refine y_ic_gt C 43 d_M_guestComes_34 (by decide) h (fun k10 h => ?_) (fun k10 h => ?_)
      · refine y_iconst C (v := 0) d_M_guestComes_43 (by decide) ?_
        exact y_zret C hr hlocks d_M_guestComes_44 h
      · refine y_iload_n C (i := 2) 0 d_M_guestComes_37 rfl rfl ?_
        refine y_bipush C (v := 6) d_M_guestComes_38 (by decide) ?_
        refine y_ic_ne C 45 d_M_guestComes_40 (by decide) h (fun k11 h => ?_) (fun k11 h => ?_)
        · refine y_iconst C (v := 0) d_M_guestComes_43 (by decide) ?_
          exact y_zret C hr hlocks d_M_guestComes_44 h
        · refine y_aload_n C (i := 0) 1 d_M_guestComes_45 rfl rfl ?_
          refine y_gr C (q := (yR5, yT5, 46)) (ci := 5) (k := 11) rfl (by decide) rfl (by decide) g_795 d_M_guestComes_46 h (fun r12 h => ?_)
          refine y_iload_n C (i := 2) 0 d_M_guestComes_49 rfl rfl ?_
          refine y_aload_n C (i := 0) 1 d_M_guestComes_50 rfl rfl ?_
          refine y_gr C (q := (yR5, yT5, 46)) (ci := 5) (k := 37) rfl (by decide) rfl (by decide) g_821 d_M_guestComes_51 h (fun r13 h => ?_)
          refine y_iload_n C (i := 1) 2 d_M_guestComes_54 rfl rfl ?_
          refine y_al C d_M_guestComes_55 h (fun x14 h => ?_)
          refine y_as C d_M_guestComes_56 h (fun u15 h => ?_)
          refine y_aload_n C (i := 0) 1 d_M_guestComes_57 rfl rfl ?_
          refine y_gr C (q := (yR5, yT5, 46)) (ci := 5) (k := 12) rfl (by decide) rfl (by decide) g_796 d_M_guestComes_58 h (fun r16 h => ?_)
          refine y_iload_n C (i := 2) 0 d_M_guestComes_61 rfl rfl ?_
          refine y_aload_n C (i := 0) 1 d_M_guestComes_62 rfl rfl ?_
          refine y_gr C (q := (yR5, yT5, 46)) (ci := 5) (k := 37) rfl (by decide) rfl (by decide) g_821 d_M_guestComes_63 h (fun r17 h => ?_)
          refine y_iload_n C (i := 1) 2 d_M_guestComes_66 rfl rfl ?_
          refine y_iconst C (v := 1) d_M_guestComes_67 (by decide) ?_
          refine y_iadd C d_M_guestComes_68 ?_
          refine y_al C d_M_guestComes_69 h (fun x18 h => ?_)
          refine y_as C d_M_guestComes_70 h (fun u19 h => ?_)
          refine y_aload_n C (i := 0) 1 d_M_guestComes_71 rfl rfl ?_
          refine y_gr C (q := (yR5, yT5, 46)) (ci := 5) (k := 13) rfl (by decide) rfl (by decide) g_797 d_M_guestComes_72 h (fun r20 h => ?_)
          refine y_iload_n C (i := 2) 0 d_M_guestComes_75 rfl rfl ?_
          refine y_aload_n C (i := 0) 1 d_M_guestComes_76 rfl rfl ?_
          refine y_gr C (q := (yR5, yT5, 46)) (ci := 5) (k := 37) rfl (by decide) rfl (by decide) g_821 d_M_guestComes_77 h (fun r21 h => ?_)
          refine y_iload_n C (i := 1) 2 d_M_guestComes_80 rfl rfl ?_
          refine y_iconst C (v := 2) d_M_guestComes_81 (by decide) ?_
          refine y_iadd C d_M_guestComes_82 ?_
          refine y_al C d_M_guestComes_83 h (fun x22 h => ?_)
          refine y_as C d_M_guestComes_84 h (fun u23 h => ?_)
          refine y_aload_n C (i := 0) 1 d_M_guestComes_85 rfl rfl ?_
          refine y_gr C (q := (yR5, yT5, 46)) (ci := 5) (k := 14) rfl (by decide) rfl (by decide) g_798 d_M_guestComes_86 h (fun r24 h => ?_)
          refine y_iload_n C (i := 2) 0 d_M_guestComes_89 rfl rfl ?_
          refine y_aload_n C (i := 0) 1 d_M_guestComes_90 rfl rfl ?_
          refine y_gr C (q := (yR5, yT5, 46)) (ci := 5) (k := 37) rfl (by decide) rfl (by decide) g_821 d_M_guestComes_91 h (fun r25 h => ?_)
          refine y_iload_n C (i := 1) 2 d_M_guestComes_94 rfl rfl ?_
          refine y_iconst C (v := 3) d_M_guestComes_95 (by decide) ?_
          refine y_iadd C d_M_guestComes_96 ?_
          refine y_al C d_M_guestComes_97 h (fun x26 h => ?_)
          refine y_as C d_M_guestComes_98 h (fun u27 h => ?_)
          refine y_aload_n C (i := 0) 1 d_M_guestComes_99 rfl rfl ?_
          refine y_gr C (q := (yR5, yT5, 46)) (ci := 5) (k := 15) rfl (by decide) rfl (by decide) g_799 d_M_guestComes_100 h (fun r28 h => ?_)
          refine y_iload_n C (i := 2) 0 d_M_guestComes_103 rfl rfl ?_
          refine y_aload_n C (i := 0) 1 d_M_guestComes_104 rfl rfl ?_
          refine y_gr C (q := (yR5, yT5, 46)) (ci := 5) (k := 37) rfl (by decide) rfl (by decide) g_821 d_M_guestComes_105 h (fun r29 h => ?_)
          refine y_iload_n C (i := 1) 2 d_M_guestComes_108 rfl rfl ?_
          refine y_iconst C (v := 4) d_M_guestComes_109 (by decide) ?_
          refine y_iadd C d_M_guestComes_110 ?_
          refine y_al C d_M_guestComes_111 h (fun x30 h => ?_)
          refine y_as C d_M_guestComes_112 h (fun u31 h => ?_)
          refine y_aload_n C (i := 0) 1 d_M_guestComes_113 rfl rfl ?_
          refine y_gr C (q := (yR5, yT5, 46)) (ci := 5) (k := 16) rfl (by decide) rfl (by decide) g_800 d_M_guestComes_114 h (fun r32 h => ?_)
          refine y_iload_n C (i := 2) 0 d_M_guestComes_117 rfl rfl ?_
          refine y_bipush C (v := -4) d_M_guestComes_118 (by decide) ?_
          refine y_as C d_M_guestComes_120 h (fun u33 h => ?_)
          refine y_aload_n C (i := 0) 1 d_M_guestComes_121 rfl rfl ?_
          refine y_gr C (q := (yR5, yT5, 46)) (ci := 5) (k := 17) rfl (by decide) rfl (by decide) g_801 d_M_guestComes_122 h (fun r34 h => ?_)
          refine y_iload_n C (i := 2) 0 d_M_guestComes_125 rfl rfl ?_
          refine y_bipush C (v := -4) d_M_guestComes_126 (by decide) ?_
          refine y_as C d_M_guestComes_128 h (fun u35 h => ?_)
          refine y_aload_n C (i := 0) 1 d_M_guestComes_129 rfl rfl ?_
          refine y_gr C (q := (yR5, yT5, 46)) (ci := 5) (k := 18) rfl (by decide) rfl (by decide) g_802 d_M_guestComes_130 h (fun r36 h => ?_)
          refine y_iload_n C (i := 2) 0 d_M_guestComes_133 rfl rfl ?_
          refine y_iconst C (v := 0) d_M_guestComes_134 (by decide) ?_
          refine y_as C d_M_guestComes_135 h (fun u37 h => ?_)
          refine y_aload_n C (i := 0) 1 d_M_guestComes_136 rfl rfl ?_
          refine y_gr C (q := (yR5, yT5, 46)) (ci := 5) (k := 19) rfl (by decide) rfl (by decide) g_803 d_M_guestComes_137 h (fun r38 h => ?_)
          refine y_iload_n C (i := 2) 0 d_M_guestComes_140 rfl rfl ?_
          refine y_iconst C (v := 0) d_M_guestComes_141 (by decide) ?_
          refine y_as C d_M_guestComes_142 h (fun u39 h => ?_)
          refine y_aload_n C (i := 0) 1 d_M_guestComes_143 rfl rfl ?_
          refine y_dup C d_M_guestComes_144 (y_cat _ _) ?_
          refine y_gi C (q := (yR5, yT5, 46)) (ci := 5) (k := 1) rfl (by decide) rfl g_785 d_M_guestComes_145 h (fun x40 h => ?_)
          refine y_iconst C (v := 1) d_M_guestComes_148 (by decide) ?_
          refine y_iadd C d_M_guestComes_149 ?_
          refine y_pi C (q := (yR5, yT5, 46)) (ci := 5) (k := 1) rfl (by decide) rfl rfl (by decide +kernel) g_785 d_M_guestComes_150 h (fun u41 h => ?_)
          refine y_iconst C (v := 1) d_M_guestComes_153 (by decide) ?_
          exact y_zret C hr hlocks d_M_guestComes_154 h
/-! M_isGuest -/
theorem d_M_isGuest_0 : decode prog_8_method_5_code 0 = .ok (.iload_n 1, 1) := by decide +kernel
theorem d_M_isGuest_1 : decode prog_8_method_5_code 1 = .ok (.i2l, 1) := by decide +kernel
theorem d_M_isGuest_2 : decode prog_8_method_5_code 2 = .ok (.lconst 0, 1) := by decide +kernel
theorem d_M_isGuest_3 : decode prog_8_method_5_code 3 = .ok (.aload_n 0, 1) := by decide +kernel
theorem d_M_isGuest_4 : decode prog_8_method_5_code 4 = .ok (.getfield 112, 3) := by decide +kernel
theorem d_M_isGuest_7 : decode prog_8_method_5_code 7 = .ok (.iconst 1, 1) := by decide +kernel
theorem d_M_isGuest_8 : decode prog_8_method_5_code 8 = .ok (.isub, 1) := by decide +kernel
theorem d_M_isGuest_9 : decode prog_8_method_5_code 9 = .ok (.i2l, 1) := by decide +kernel
theorem d_M_isGuest_10 : decode prog_8_method_5_code 10 = .ok (.invokestatic 108, 3) := by decide +kernel
theorem d_M_isGuest_13 : decode prog_8_method_5_code 13 = .ok (.ireturn, 1) := by decide +kernel
set_option maxRecDepth 100000 in
def f_M_isGuest (F : Nat) (u : Mm) (o : Nat) (a1 : Int32) : Option (Int32 × Mm) := ob (jgi YM 5 1 u (some o)) fun (x1 : Int32) => yb (f_M_in F u (a1.toInt64) (0 : Int64) ((x1 - (1 : Int32)).toInt64)) fun x2 u3 => ob (jz x2) (fun v => some (v, u3))
set_option maxHeartbeats 4000000 in
set_option maxRecDepth 100000 in
theorem c_M_isGuest (l : Launch) (w : WP) (F : Nat) (u : Mm) (o : Nat) (a1 : Int32) (out : Int32 × Mm) (h : f_M_isGuest F u o a1 = some out) : yMet l m_M_isGuest ws_M_isGuest ({ frames := 1, cells := 0, slots := 0, locals := 25 } : Room) YM w u [va_re w.1 (some o), .int a1] yfi out := by
  refine y_entry (own := "WhoseGlassModel") (lv := [(0, va_re w.1 (some o)), (1, .int a1)]) (by decide +kernel) rfl (by simp [lv_args, y_cat, y_catI, y_catJ]) (by simp [lg_sl, y_cat, y_catI, y_catJ]) ?_
  intro p e s m args below meth c C hr hlocks
  unfold f_M_isGuest at h
  refine y_iload_n C (i := 1) 1 d_M_isGuest_0 rfl rfl ?_
  refine y_i2l C d_M_isGuest_1 ?_
  refine y_lconst C (v := 0) d_M_isGuest_2 (by decide) ?_
  refine y_aload_n C (i := 0) 0 d_M_isGuest_3 rfl rfl ?_
  refine y_gi C (q := (yR5, yT5, 46)) (ci := 5) (k := 1) rfl (by decide) rfl g_785 d_M_isGuest_4 h (fun x1 h => ?_)
  refine y_iconst C (v := 1) d_M_isGuest_7 (by decide) ?_
  refine y_isub C d_M_isGuest_8 ?_
  refine y_i2l C d_M_isGuest_9 ?_
  refine y_callS 3 C (fun out hh => c_M_in l w F u (a1.toInt64) (0 : Int64) ((x1 - (1 : Int32)).toInt64) out hh) (y_gc g_959) g_957 g_6 g_958 hn_M_in ⟨Nat.le_of_ble_eq_true rfl, Nat.le_of_ble_eq_true rfl⟩ rfl rfl rfl rfl (by simp [y_cat, y_catI, y_catJ]) d_M_isGuest_10 h (fun x2 u3 h => ?_)
  refine y_stk (stp0 := [.int x2]) rfl ?_
  exact y_zret C hr hlocks d_M_isGuest_13 h
/-! M_isGlass -/
theorem d_M_isGlass_0 : decode prog_8_method_4_code 0 = .ok (.iload_n 1, 1) := by decide +kernel
theorem d_M_isGlass_1 : decode prog_8_method_4_code 1 = .ok (.i2l, 1) := by decide +kernel
theorem d_M_isGlass_2 : decode prog_8_method_4_code 2 = .ok (.lconst 0, 1) := by decide +kernel
theorem d_M_isGlass_3 : decode prog_8_method_4_code 3 = .ok (.aload_n 0, 1) := by decide +kernel
theorem d_M_isGlass_4 : decode prog_8_method_4_code 4 = .ok (.getfield 105, 3) := by decide +kernel
theorem d_M_isGlass_7 : decode prog_8_method_4_code 7 = .ok (.iconst 1, 1) := by decide +kernel
theorem d_M_isGlass_8 : decode prog_8_method_4_code 8 = .ok (.isub, 1) := by decide +kernel
theorem d_M_isGlass_9 : decode prog_8_method_4_code 9 = .ok (.i2l, 1) := by decide +kernel
theorem d_M_isGlass_10 : decode prog_8_method_4_code 10 = .ok (.invokestatic 108, 3) := by decide +kernel
theorem d_M_isGlass_13 : decode prog_8_method_4_code 13 = .ok (.ireturn, 1) := by decide +kernel
set_option maxRecDepth 100000 in
def f_M_isGlass (F : Nat) (u : Mm) (o : Nat) (a1 : Int32) : Option (Int32 × Mm) := ob (jgi YM 5 0 u (some o)) fun (x1 : Int32) => yb (f_M_in F u (a1.toInt64) (0 : Int64) ((x1 - (1 : Int32)).toInt64)) fun x2 u3 => ob (jz x2) (fun v => some (v, u3))
set_option maxHeartbeats 4000000 in
set_option maxRecDepth 100000 in
theorem c_M_isGlass (l : Launch) (w : WP) (F : Nat) (u : Mm) (o : Nat) (a1 : Int32) (out : Int32 × Mm) (h : f_M_isGlass F u o a1 = some out) : yMet l m_M_isGlass ws_M_isGlass ({ frames := 1, cells := 0, slots := 0, locals := 25 } : Room) YM w u [va_re w.1 (some o), .int a1] yfi out := by
  refine y_entry (own := "WhoseGlassModel") (lv := [(0, va_re w.1 (some o)), (1, .int a1)]) (by decide +kernel) rfl (by simp [lv_args, y_cat, y_catI, y_catJ]) (by simp [lg_sl, y_cat, y_catI, y_catJ]) ?_
  intro p e s m args below meth c C hr hlocks
  unfold f_M_isGlass at h
  refine y_iload_n C (i := 1) 1 d_M_isGlass_0 rfl rfl ?_
  refine y_i2l C d_M_isGlass_1 ?_
  refine y_lconst C (v := 0) d_M_isGlass_2 (by decide) ?_
  refine y_aload_n C (i := 0) 0 d_M_isGlass_3 rfl rfl ?_
  refine y_gi C (q := (yR5, yT5, 46)) (ci := 5) (k := 0) rfl (by decide) rfl g_784 d_M_isGlass_4 h (fun x1 h => ?_)
  refine y_iconst C (v := 1) d_M_isGlass_7 (by decide) ?_
  refine y_isub C d_M_isGlass_8 ?_
  refine y_i2l C d_M_isGlass_9 ?_
  refine y_callS 3 C (fun out hh => c_M_in l w F u (a1.toInt64) (0 : Int64) ((x1 - (1 : Int32)).toInt64) out hh) (y_gc g_959) g_957 g_6 g_958 hn_M_in ⟨Nat.le_of_ble_eq_true rfl, Nat.le_of_ble_eq_true rfl⟩ rfl rfl rfl rfl (by simp [y_cat, y_catI, y_catJ]) d_M_isGlass_10 h (fun x2 u3 h => ?_)
  refine y_stk (stp0 := [.int x2]) rfl ?_
  exact y_zret C hr hlocks d_M_isGlass_13 h
/-! M_hold -/
theorem d_M_hold_0 : decode prog_8_method_18_code 0 = .ok (.aload_n 0, 1) := by decide +kernel
theorem d_M_hold_1 : decode prog_8_method_18_code 1 = .ok (.getfield 23, 3) := by decide +kernel
theorem d_M_hold_4 : decode prog_8_method_18_code 4 = .ok (.iload_n 2, 1) := by decide +kernel
theorem d_M_hold_5 : decode prog_8_method_18_code 5 = .ok (.bipush 10, 2) := by decide +kernel
theorem d_M_hold_7 : decode prog_8_method_18_code 7 = .ok (.iload_n 1, 1) := by decide +kernel
theorem d_M_hold_8 : decode prog_8_method_18_code 8 = .ok (.iadd, 1) := by decide +kernel
theorem d_M_hold_9 : decode prog_8_method_18_code 9 = .ok (.iastore, 1) := by decide +kernel
theorem d_M_hold_10 : decode prog_8_method_18_code 10 = .ok (.aload_n 0, 1) := by decide +kernel
theorem d_M_hold_11 : decode prog_8_method_18_code 11 = .ok (.getfield 26, 3) := by decide +kernel
theorem d_M_hold_14 : decode prog_8_method_18_code 14 = .ok (.iload_n 2, 1) := by decide +kernel
theorem d_M_hold_15 : decode prog_8_method_18_code 15 = .ok (.bipush (-4), 2) := by decide +kernel
theorem d_M_hold_17 : decode prog_8_method_18_code 17 = .ok (.iastore, 1) := by decide +kernel
theorem d_M_hold_18 : decode prog_8_method_18_code 18 = .ok (.aload_n 0, 1) := by decide +kernel
theorem d_M_hold_19 : decode prog_8_method_18_code 19 = .ok (.getfield 50, 3) := by decide +kernel
theorem d_M_hold_22 : decode prog_8_method_18_code 22 = .ok (.iload_n 1, 1) := by decide +kernel
theorem d_M_hold_23 : decode prog_8_method_18_code 23 = .ok (.iload_n 2, 1) := by decide +kernel
theorem d_M_hold_24 : decode prog_8_method_18_code 24 = .ok (.iastore, 1) := by decide +kernel
theorem d_M_hold_25 : decode prog_8_method_18_code 25 = .ok (.aload_n 0, 1) := by decide +kernel
theorem d_M_hold_26 : decode prog_8_method_18_code 26 = .ok (.getfield 53, 3) := by decide +kernel
theorem d_M_hold_29 : decode prog_8_method_18_code 29 = .ok (.iload_n 1, 1) := by decide +kernel
theorem d_M_hold_30 : decode prog_8_method_18_code 30 = .ok (.iload_n 2, 1) := by decide +kernel
theorem d_M_hold_31 : decode prog_8_method_18_code 31 = .ok (.iastore, 1) := by decide +kernel
theorem d_M_hold_32 : decode prog_8_method_18_code 32 = .ok (.return_, 1) := by decide +kernel
set_option maxRecDepth 100000 in
def f_M_hold (F : Nat) (u : Mm) (o : Nat) (a1 : Int32) (a2 : Int32) : Option (Unit × Mm) := ob (jgr YM 5 7 (some o)) fun (r1 : Option Nat) => ob (jas YM u r1 a2 ((10 : Int32) + a1)) fun (u2 : Mm) => ob (jgr YM 5 8 (some o)) fun (r3 : Option Nat) => ob (jas YM u2 r3 a2 (-4 : Int32)) fun (u4 : Mm) => ob (jgr YM 5 16 (some o)) fun (r5 : Option Nat) => ob (jas YM u4 r5 a1 a2) fun (u6 : Mm) => ob (jgr YM 5 17 (some o)) fun (r7 : Option Nat) => ob (jas YM u6 r7 a1 a2) fun (u8 : Mm) => some ((), u8)
set_option maxHeartbeats 4000000 in
set_option maxRecDepth 100000 in
theorem c_M_hold (l : Launch) (w : WP) (F : Nat) (u : Mm) (o : Nat) (a1 : Int32) (a2 : Int32) (out : Unit × Mm) (h : f_M_hold F u o a1 a2 = some out) : yMet l m_M_hold ws_M_hold ({ frames := 0, cells := 0, slots := 0, locals := 0 } : Room) YM w u [va_re w.1 (some o), .int a1, .int a2] yfv out := by
  refine y_entry (own := "WhoseGlassModel") (lv := [(0, va_re w.1 (some o)), (1, .int a1), (2, .int a2)]) (by decide +kernel) rfl (by simp [lv_args, y_cat, y_catI, y_catJ]) (by simp [lg_sl, y_cat, y_catI, y_catJ]) ?_
  intro p e s m args below meth c C hr hlocks
  unfold f_M_hold at h
  refine y_aload_n C (i := 0) 0 d_M_hold_0 rfl rfl ?_
  refine y_gr C (q := (yR5, yT5, 46)) (ci := 5) (k := 7) rfl (by decide) rfl (by decide) g_791 d_M_hold_1 h (fun r1 h => ?_)
  refine y_iload_n C (i := 2) 2 d_M_hold_4 rfl rfl ?_
  refine y_bipush C (v := 10) d_M_hold_5 (by decide) ?_
  refine y_iload_n C (i := 1) 1 d_M_hold_7 rfl rfl ?_
  refine y_iadd C d_M_hold_8 ?_
  refine y_as C d_M_hold_9 h (fun u2 h => ?_)
  refine y_aload_n C (i := 0) 0 d_M_hold_10 rfl rfl ?_
  refine y_gr C (q := (yR5, yT5, 46)) (ci := 5) (k := 8) rfl (by decide) rfl (by decide) g_792 d_M_hold_11 h (fun r3 h => ?_)
  refine y_iload_n C (i := 2) 2 d_M_hold_14 rfl rfl ?_
  refine y_bipush C (v := -4) d_M_hold_15 (by decide) ?_
  refine y_as C d_M_hold_17 h (fun u4 h => ?_)
  refine y_aload_n C (i := 0) 0 d_M_hold_18 rfl rfl ?_
  refine y_gr C (q := (yR5, yT5, 46)) (ci := 5) (k := 16) rfl (by decide) rfl (by decide) g_800 d_M_hold_19 h (fun r5 h => ?_)
  refine y_iload_n C (i := 1) 1 d_M_hold_22 rfl rfl ?_
  refine y_iload_n C (i := 2) 2 d_M_hold_23 rfl rfl ?_
  refine y_as C d_M_hold_24 h (fun u6 h => ?_)
  refine y_aload_n C (i := 0) 0 d_M_hold_25 rfl rfl ?_
  refine y_gr C (q := (yR5, yT5, 46)) (ci := 5) (k := 17) rfl (by decide) rfl (by decide) g_801 d_M_hold_26 h (fun r7 h => ?_)
  refine y_iload_n C (i := 1) 1 d_M_hold_29 rfl rfl ?_
  refine y_iload_n C (i := 2) 2 d_M_hold_30 rfl rfl ?_
  refine y_as C d_M_hold_31 h (fun u8 h => ?_)
  exact y_vret C hr hlocks d_M_hold_32 h
/-! M_holdComes -/
theorem d_M_holdComes_0 : decode prog_8_method_36_code 0 = .ok (.aload_n 0, 1) := by decide +kernel
theorem d_M_holdComes_1 : decode prog_8_method_36_code 1 = .ok (.iload_n 1, 1) := by decide +kernel
theorem d_M_holdComes_2 : decode prog_8_method_36_code 2 = .ok (.invokevirtual 228, 3) := by decide +kernel
theorem d_M_holdComes_5 : decode prog_8_method_36_code 5 = .ok (.ifCond .eq 35, 3) := by decide +kernel
theorem d_M_holdComes_8 : decode prog_8_method_36_code 8 = .ok (.aload_n 0, 1) := by decide +kernel
theorem d_M_holdComes_9 : decode prog_8_method_36_code 9 = .ok (.iload_n 2, 1) := by decide +kernel
theorem d_M_holdComes_10 : decode prog_8_method_36_code 10 = .ok (.invokevirtual 232, 3) := by decide +kernel
theorem d_M_holdComes_13 : decode prog_8_method_36_code 13 = .ok (.ifCond .eq 27, 3) := by decide +kernel
theorem d_M_holdComes_16 : decode prog_8_method_36_code 16 = .ok (.aload_n 0, 1) := by decide +kernel
theorem d_M_holdComes_17 : decode prog_8_method_36_code 17 = .ok (.getfield 50, 3) := by decide +kernel
theorem d_M_holdComes_20 : decode prog_8_method_36_code 20 = .ok (.iload_n 1, 1) := by decide +kernel
theorem d_M_holdComes_21 : decode prog_8_method_36_code 21 = .ok (.iaload, 1) := by decide +kernel
theorem d_M_holdComes_22 : decode prog_8_method_36_code 22 = .ok (.ifCond .ge 18, 3) := by decide +kernel
theorem d_M_holdComes_25 : decode prog_8_method_36_code 25 = .ok (.aload_n 0, 1) := by decide +kernel
theorem d_M_holdComes_26 : decode prog_8_method_36_code 26 = .ok (.getfield 23, 3) := by decide +kernel
theorem d_M_holdComes_29 : decode prog_8_method_36_code 29 = .ok (.iload_n 2, 1) := by decide +kernel
theorem d_M_holdComes_30 : decode prog_8_method_36_code 30 = .ok (.iaload, 1) := by decide +kernel
theorem d_M_holdComes_31 : decode prog_8_method_36_code 31 = .ok (.bipush 10, 2) := by decide +kernel
theorem d_M_holdComes_33 : decode prog_8_method_36_code 33 = .ok (.if_icmp .ge 7, 3) := by decide +kernel
theorem d_M_holdComes_36 : decode prog_8_method_36_code 36 = .ok (.iconst 1, 1) := by decide +kernel
theorem d_M_holdComes_37 : decode prog_8_method_36_code 37 = .ok (.goto 4, 3) := by decide +kernel
theorem d_M_holdComes_40 : decode prog_8_method_36_code 40 = .ok (.iconst 0, 1) := by decide +kernel
theorem d_M_holdComes_41 : decode prog_8_method_36_code 41 = .ok (.istore_n 3, 1) := by decide +kernel
theorem d_M_holdComes_42 : decode prog_8_method_36_code 42 = .ok (.iload_n 3, 1) := by decide +kernel
theorem d_M_holdComes_43 : decode prog_8_method_36_code 43 = .ok (.ifCond .eq 9, 3) := by decide +kernel
theorem d_M_holdComes_46 : decode prog_8_method_36_code 46 = .ok (.aload_n 0, 1) := by decide +kernel
theorem d_M_holdComes_47 : decode prog_8_method_36_code 47 = .ok (.iload_n 1, 1) := by decide +kernel
theorem d_M_holdComes_48 : decode prog_8_method_36_code 48 = .ok (.iload_n 2, 1) := by decide +kernel
theorem d_M_holdComes_49 : decode prog_8_method_36_code 49 = .ok (.invokevirtual 149, 3) := by decide +kernel
theorem d_M_holdComes_52 : decode prog_8_method_36_code 52 = .ok (.iload_n 3, 1) := by decide +kernel
theorem d_M_holdComes_53 : decode prog_8_method_36_code 53 = .ok (.ireturn, 1) := by decide +kernel
theorem gc_M_holdComes_228 : GoodIn yGW (wsV "WhoseGlassModel" 228 yR5 m_M_isGuest ws_M_isGuest) := y_gV g_1002 g_1004 gs_25 g_6 g_1005
theorem gc_M_holdComes_232 : GoodIn yGW (wsV "WhoseGlassModel" 232 yR5 m_M_isGlass ws_M_isGlass) := y_gV g_1006 g_1008 gs_26 g_6 g_1009
theorem gc_M_holdComes_149 : GoodIn yGW (wsV "WhoseGlassModel" 149 yR5 m_M_hold ws_M_hold) := y_gV g_1010 g_1012 gs_27 g_6 g_1013
set_option maxRecDepth 100000 in
def f_M_holdComes (F : Nat) (u : Mm) (o : Nat) (a1 : Int32) (a2 : Int32) : Option (Int32 × Mm) := ob (jk YM 5 (some o)) fun t => yb (f_M_isGuest F u t a1) fun x1 u2 => ob ((if x1 = 0 then some ((0 : Int32), u2) else ob (jk YM 5 (some o)) fun t => yb (f_M_isGlass F u2 t a2) fun x5 u6 => (if x5 = 0 then some ((0 : Int32), u6) else ob (jgr YM 5 16 (some o)) fun (r8 : Option Nat) => ob (jal YM u6 r8 a1) fun (x9 : Int32) => (if 0 ≤ x9 then some ((0 : Int32), u6) else ob (jgr YM 5 7 (some o)) fun (r11 : Option Nat) => ob (jal YM u6 r11 a2) fun (x12 : Int32) => (if (10 : Int32) ≤ x12 then some ((0 : Int32), u6) else some ((1 : Int32), u6))))) : Option (Int32 × Mm)) fun q3 => ob ((if q3.1 = 0 then some q3.2 else ob (jk YM 5 (some o)) fun t => yb (f_M_hold F q3.2 t a1 a2) fun v16 u17 => some u17) : Option (Mm)) fun q14 => ob (jz q3.1) (fun v => some (v, q14))
set_option maxHeartbeats 4000000 in
set_option maxRecDepth 100000 in
theorem c_M_holdComes (l : Launch) (w : WP) (F : Nat) (u : Mm) (o : Nat) (a1 : Int32) (a2 : Int32) (out : Int32 × Mm) (h : f_M_holdComes F u o a1 a2 = some out) : yMet l m_M_holdComes ws_M_holdComes ({ frames := 2, cells := 0, slots := 0, locals := 46 } : Room) YM w u [va_re w.1 (some o), .int a1, .int a2] yfi out := by
  refine y_entry (own := "WhoseGlassModel") (lv := [(0, va_re w.1 (some o)), (1, .int a1), (2, .int a2)]) (by decide +kernel) rfl (by simp [lv_args, y_cat, y_catI, y_catJ]) (by simp [lg_sl, y_cat, y_catI, y_catJ]) ?_
  intro p e s m args below meth c C hr hlocks
  unfold f_M_holdComes at h
  refine y_aload_n C (i := 0) 0 d_M_holdComes_0 rfl rfl ?_
  refine y_iload_n C (i := 1) 1 d_M_holdComes_1 rfl rfl ?_
  refine y_callV 1 C (q := (yR5, yT5, 46)) (ci := 5) (fun t out hh => c_M_isGuest l w F u t a1 out hh) gc_M_holdComes_228 rfl (by decide) hd_M_isGuest ⟨Nat.le_of_ble_eq_true rfl, Nat.le_of_ble_eq_true rfl⟩ rfl rfl rfl rfl (by simp [y_cat, y_catI, y_catJ]) d_M_holdComes_2 h (fun x1 u2 h => ?_)
  refine y_stk (stp0 := [.int x1]) rfl ?_
  obtain ⟨q3, hq3, h⟩ := ob_e h
  have hJq3 : yG p l e ({ frames := 2, cells := 0, slots := 0, locals := 46 } : Room) s m args below meth c YM w 4 (MQ below (yQ YM w yfi out) args s 0 0 (yA YM w)) q3.2 41 [(0, va_re w.1 (some o)), (1, .int a1), (2, .int a2)] [.int q3.1] := by
    refine y_istore_n C (i := 3) (lvp := [(0, va_re w.1 (some o)), (1, .int a1), (2, .int a2)]) d_M_holdComes_41 rfl (by decide) rfl ?_
    refine y_iload_n C (i := 3) 0 d_M_holdComes_42 rfl rfl ?_
    obtain ⟨q14, hq14, h⟩ := ob_e h
    have hJq14 : yG p l e ({ frames := 2, cells := 0, slots := 0, locals := 46 } : Room) s m args below meth c YM w 4 (MQ below (yQ YM w yfi out) args s 0 0 (yA YM w)) q14 52 [(3, .int q3.1)] [] := by
      refine y_iload_n C (i := 3) 0 d_M_holdComes_52 rfl rfl ?_
      exact y_zret C hr hlocks d_M_holdComes_53 h
    refine y_if_eq C 52 d_M_holdComes_43 (by decide) hq14 (fun k15 hq14 => ?_) (fun k15 hq14 => ?_)
    · cases hq14
      exact y_sub [0] rfl hJq14
    · refine y_aload_n C (i := 0) 1 d_M_holdComes_46 rfl rfl ?_
      refine y_iload_n C (i := 1) 2 d_M_holdComes_47 rfl rfl ?_
      refine y_iload_n C (i := 2) 3 d_M_holdComes_48 rfl rfl ?_
      refine y_callV 2 C (q := (yR5, yT5, 46)) (ci := 5) (fun t out hh => c_M_hold l w F q3.2 t a1 a2 out hh) gc_M_holdComes_149 rfl (by decide) hd_M_hold ⟨Nat.le_of_ble_eq_true rfl, Nat.le_of_ble_eq_true rfl⟩ rfl rfl rfl rfl (by simp [y_cat, y_catI, y_catJ]) d_M_holdComes_49 hq14 (fun v16 u17 hq14 => ?_)
      refine y_stk (stp0 := []) rfl ?_
      cases hq14
      exact y_sub [0] rfl hJq14
  refine y_if_eq C 40 d_M_holdComes_5 (by decide) hq3 (fun k4 hq3 => ?_) (fun k4 hq3 => ?_)
  · refine y_iconst C (v := 0) d_M_holdComes_40 (by decide) ?_
    cases hq3
    exact y_sub [0, 1, 2] rfl hJq3
  · refine y_aload_n C (i := 0) 0 d_M_holdComes_8 rfl rfl ?_
    refine y_iload_n C (i := 2) 2 d_M_holdComes_9 rfl rfl ?_
    refine y_callV 1 C (q := (yR5, yT5, 46)) (ci := 5) (fun t out hh => c_M_isGlass l w F u2 t a2 out hh) gc_M_holdComes_232 rfl (by decide) hd_M_isGlass ⟨Nat.le_of_ble_eq_true rfl, Nat.le_of_ble_eq_true rfl⟩ rfl rfl rfl rfl (by simp [y_cat, y_catI, y_catJ]) d_M_holdComes_10 hq3 (fun x5 u6 hq3 => ?_)
    refine y_stk (stp0 := [.int x5]) rfl ?_
    refine y_if_eq C 40 d_M_holdComes_13 (by decide) hq3 (fun k7 hq3 => ?_) (fun k7 hq3 => ?_)
    · refine y_iconst C (v := 0) d_M_holdComes_40 (by decide) ?_
      cases hq3
      exact y_sub [0, 1, 2] rfl hJq3
    · refine y_aload_n C (i := 0) 0 d_M_holdComes_16 rfl rfl ?_
      refine y_gr C (q := (yR5, yT5, 46)) (ci := 5) (k := 16) rfl (by decide) rfl (by decide) g_800 d_M_holdComes_17 hq3 (fun r8 hq3 => ?_)
      refine y_iload_n C (i := 1) 1 d_M_holdComes_20 rfl rfl ?_
      refine y_al C d_M_holdComes_21 hq3 (fun x9 hq3 => ?_)
      refine y_if_ge C 40 d_M_holdComes_22 (by decide) hq3 (fun k10 hq3 => ?_) (fun k10 hq3 => ?_)
      · refine y_iconst C (v := 0) d_M_holdComes_40 (by decide) ?_
        cases hq3
        exact y_sub [0, 1, 2] rfl hJq3
      · refine y_aload_n C (i := 0) 0 d_M_holdComes_25 rfl rfl ?_
        refine y_gr C (q := (yR5, yT5, 46)) (ci := 5) (k := 7) rfl (by decide) rfl (by decide) g_791 d_M_holdComes_26 hq3 (fun r11 hq3 => ?_)
        refine y_iload_n C (i := 2) 2 d_M_holdComes_29 rfl rfl ?_
        refine y_al C d_M_holdComes_30 hq3 (fun x12 hq3 => ?_)
        refine y_bipush C (v := 10) d_M_holdComes_31 (by decide) ?_
        refine y_ic_ge C 40 d_M_holdComes_33 (by decide) hq3 (fun k13 hq3 => ?_) (fun k13 hq3 => ?_)
        · refine y_iconst C (v := 0) d_M_holdComes_40 (by decide) ?_
          cases hq3
          exact y_sub [0, 1, 2] rfl hJq3
        · refine y_iconst C (v := 1) d_M_holdComes_36 (by decide) ?_
          refine y_goto C (tgt := 41) d_M_holdComes_37 (by decide) ?_
          cases hq3
          exact y_sub [0, 1, 2] rfl hJq3
