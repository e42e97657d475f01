/-! the law's own words; rows of the law -/
theorem Wd.newL {p : Program} {l : Launch} {e : Env} {R : Room} {s : State} {m : MethodId} {args : Array Value} {below : List Frame} {meth : Method} {c : Code} {H : Heap} {locs : List Loc} {cells slots : Nat} {Q : State → Prop} {cc : ByteArray} {pc : Nat} {ls : Array Slot} {rest : List Value} {G : Gt} {A : Nat → Prop} {ws : va_W} (hx : p.tables.exec = Jvm.exec) (hb : c.code = cc) (hts : ∀ w ∈ wsA, w.before args s = true) {own : String} (hown : s.vm.findClass own = some m.cls) (hK : KX G s) (hA : ∀ q, s.heap.size ≤ q → A q) (hW : Wd G A s.heap ws H locs) {ci index N : Nat} {C : String} {T : u_T} {fs : List Value} {ty0 : Nat → FieldType} (hin : ∀ w ∈ u_ws C T N, w ∈ wsA) (hty : ∀ k, k < N → parseFieldDescriptor (T k).2.2.1 = some (ty0 k)) (hcl : (Cond.classLink own index C).before args s = true) (hinst : (Cond.instantiable C N).before args s = true) (hini : Cond.initialized C ∈ wsA) (hdg : decode cc pc = .ok (.new index, 3)) (hc : vcl[ci]? = some (C, T, N)) (hfs : ∀ j, j < N → defaultValue (ty0 j) = vp_V fs j) (hcells : cells + 1 ≤ R.cells) (hslots : slots + N ≤ R.slots)
    (kk : ∀ (q : Nat) (H1 : Heap), Wd G A s.heap (ws ++ [(q, .inr (ci, fs))]) H1 locs → W p l e R s m args below meth c H1 locs (cells + 1) (slots + N) Q (F0 m (pc + 3) ls (.ref q :: rest))) : W p l e R s m args below meth c H locs cells slots Q (F0 m pc ls rest) :=
  va_new hx hb hts hin ty0 hty hown hcl hinst (hts _ hini) hK.1 hW.1 hW.2.1 hW.2.2 hA hc hfs hcells hslots hdg (fun q H1 h1 h2 h3 => kk q H1 ⟨h1, h2, h3⟩)

theorem lt_le7 {x : Int32} (h : x < 8) : x ≤ 7 := by
  rw [Int32.le_iff_toInt_le]; rw [Int32.lt_iff_toInt_lt] at h
  have e1 : (8 : Int32).toInt = 8 := by decide
  have e2 : (7 : Int32).toInt = 7 := by decide
  omega
theorem nlt_nle7 {x : Int32} (h : ¬ x < 8) : ¬ x ≤ 7 := fun q => h (Int32.lt_of_le_of_lt q (by decide))
theorem lt_le2 {x : Int32} (h : x < 3) : x ≤ 2 := by
  rw [Int32.le_iff_toInt_le]; rw [Int32.lt_iff_toInt_lt] at h
  have e1 : (3 : Int32).toInt = 3 := by decide
  have e2 : (2 : Int32).toInt = 2 := by decide
  omega
theorem nlt_nle2 {x : Int32} (h : ¬ x < 3) : ¬ x ≤ 2 := fun q => h (Int32.lt_of_le_of_lt q (by decide))

def lawW : List Cond := [.classLink "ThreeClerksLaw" 8 "ThreeClerks", .instantiable "ThreeClerks" 14, .methodLink "ThreeClerksLaw" 34 y_TC_init, .classLink "ThreeClerksLaw" 35 "ThreeClerksModel", .instantiable "ThreeClerksModel" 21, .methodLink "ThreeClerksLaw" 37 y_Mo_init, .constantLong "ThreeClerksLaw" 38 4294967295, .methodLink "ThreeClerksLaw" 40 y_TC_write, .methodLink "ThreeClerksLaw" 44 y_Mo_write, .methodLink "ThreeClerksLaw" 45 y_TC_wipe, .methodLink "ThreeClerksLaw" 48 y_Mo_wipe, .methodLink "ThreeClerksLaw" 49 y_Law_compile, .static y_Law_compile, .initialized "ThreeClerksLaw", hd_Law_compile, .methodLink "ThreeClerksLaw" 54 y_Mo_compile, .methodLink "ThreeClerksLaw" 55 y_Mo_thrown, .methodLink "ThreeClerksLaw" 58 y_TC_place, .methodLink "ThreeClerksLaw" 61 y_Mo_place, .methodLink "ThreeClerksLaw" 62 y_Law_input, .static y_Law_input, hd_Law_input, .methodLink "ThreeClerksLaw" 65 y_Mo_input, .methodLink "ThreeClerksLaw" 66 y_Law_seed, .static y_Law_seed, hd_Law_seed, .methodLink "ThreeClerksLaw" 69 y_Mo_seed, .methodLink "ThreeClerksLaw" 70 y_Law_run, .static y_Law_run, hd_Law_run, .methodLink "ThreeClerksLaw" 73 y_Mo_run, .methodLink "ThreeClerksLaw" 74 y_Law_output, .static y_Law_output, hd_Law_output, .methodLink "ThreeClerksLaw" 76 y_Mo_output]
theorem lawW_tbl : ∀ w ∈ lawW, w ∈ lw_tbl := by decide +kernel
theorem lawW_good : ∀ w ∈ lawW, (w.onTables && w.keeps) = true ∨ ∃ ty, w = .arrayClass ty := fun w h => good_of_word (List.all_eq_true.mp (show lawW.all goodWord = true by decide +kernel) w h)
theorem good_L2 : ∀ w ∈ lawW ++ wsA, (w.onTables && w.keeps) = true ∨ ∃ ty, w = .arrayClass ty := fun w h => (List.mem_append.mp h).elim (lawW_good w) (good_A w)
theorem good_VL {C : String} {idx mL : Nat} {y : MethodName} {bc : ByteArray} {ret : Option FieldType} (h1 : Cond.methodLink "ThreeClerksLaw" idx y ∈ lawW) (h2 : Cond.instanceMethod y ∈ wsA) (h3 : Cond.selects C y y ∈ wsA) (h4 : Cond.initialized C ∈ wsA) (h5 : Cond.code y bc mL ret ∈ wsA) : GoodIn (lawW ++ wsA) (wsV "ThreeClerksLaw" idx C y (Cond.code y bc mL ret :: wsA)) := by
  intro w hw
  have hm : w ∈ lawW ++ wsA := by
    unfold wsV at hw
    rcases List.mem_append.mp hw with h | h
    · simp only [List.mem_cons, List.not_mem_nil, or_false] at h
      rcases h with rfl | rfl | rfl | rfl
      · exact List.mem_append_left _ h1
      · exact List.mem_append_right _ h2
      · exact List.mem_append_right _ h3
      · exact List.mem_append_right _ h4
    · rcases List.mem_cons.mp h with rfl | h
      · exact List.mem_append_right _ h5
      · exact List.mem_append_right _ h
  exact ⟨hm, good_L2 w hm⟩
theorem good_CL {mL : Nat} {y : MethodName} {bc : ByteArray} {ret : Option FieldType} (h5 : Cond.code y bc mL ret ∈ wsA) : GoodIn (lawW ++ wsA) (Cond.code y bc mL ret :: wsA) := by
  intro w hw
  have hm : w ∈ lawW ++ wsA := by
    rcases List.mem_cons.mp hw with rfl | h
    · exact List.mem_append_right _ h5
    · exact List.mem_append_right _ h
  exact ⟨hm, good_L2 w hm⟩
theorem d_Law_law_0 : decode code 0 = .ok (.new 8, 3) := by decide +kernel
theorem d_Law_law_3 : decode code 3 = .ok (.dup, 1) := by decide +kernel
theorem d_Law_law_4 : decode code 4 = .ok (.invokespecial 34, 3) := by decide +kernel
theorem d_Law_law_7 : decode code 7 = .ok (.astore_n 1, 1) := by decide +kernel
theorem d_Law_law_8 : decode code 8 = .ok (.new 35, 3) := by decide +kernel
theorem d_Law_law_11 : decode code 11 = .ok (.dup, 1) := by decide +kernel
theorem d_Law_law_12 : decode code 12 = .ok (.invokespecial 37, 3) := by decide +kernel
theorem d_Law_law_15 : decode code 15 = .ok (.astore_n 2, 1) := by decide +kernel
theorem d_Law_law_16 : decode code 16 = .ok (.iconst 1, 1) := by decide +kernel
theorem d_Law_law_17 : decode code 17 = .ok (.newarray .long, 2) := by decide +kernel
theorem d_Law_law_19 : decode code 19 = .ok (.astore_n 3, 1) := by decide +kernel
theorem d_Law_law_20 : decode code 20 = .ok (.iconst 0, 1) := by decide +kernel
theorem d_Law_law_21 : decode code 21 = .ok (.istore 4, 2) := by decide +kernel
theorem d_Law_law_23 : decode code 23 = .ok (.iload 4, 2) := by decide +kernel
theorem d_Law_law_25 : decode code 25 = .ok (.aload_n 0, 1) := by decide +kernel
theorem d_Law_law_26 : decode code 26 = .ok (.arraylength, 1) := by decide +kernel
theorem d_Law_law_27 : decode code 27 = .ok (.iconst 4, 1) := by decide +kernel
theorem d_Law_law_28 : decode code 28 = .ok (.isub, 1) := by decide +kernel
theorem d_Law_law_29 : decode code 29 = .ok (.if_icmp .gt 408, 3) := by decide +kernel
theorem d_Law_law_32 : decode code 32 = .ok (.aload_n 0, 1) := by decide +kernel
theorem d_Law_law_33 : decode code 33 = .ok (.iload 4, 2) := by decide +kernel
theorem d_Law_law_35 : decode code 35 = .ok (.iaload, 1) := by decide +kernel
theorem d_Law_law_36 : decode code 36 = .ok (.bipush 7, 2) := by decide +kernel
theorem d_Law_law_38 : decode code 38 = .ok (.iand, 1) := by decide +kernel
theorem d_Law_law_39 : decode code 39 = .ok (.tableswitch 392 0 7 #[45, 102, 115, 159, 172, 220, 280, 336], 45) := by decide +kernel
theorem d_Law_law_84 : decode code 84 = .ok (.aload_n 1, 1) := by decide +kernel
theorem d_Law_law_85 : decode code 85 = .ok (.aload_n 0, 1) := by decide +kernel
theorem d_Law_law_86 : decode code 86 = .ok (.iload 4, 2) := by decide +kernel
theorem d_Law_law_88 : decode code 88 = .ok (.iconst 1, 1) := by decide +kernel
theorem d_Law_law_89 : decode code 89 = .ok (.iadd, 1) := by decide +kernel
theorem d_Law_law_90 : decode code 90 = .ok (.iaload, 1) := by decide +kernel
theorem d_Law_law_91 : decode code 91 = .ok (.i2l, 1) := by decide +kernel
theorem d_Law_law_92 : decode code 92 = .ok (.bipush 32, 2) := by decide +kernel
theorem d_Law_law_94 : decode code 94 = .ok (.lshl, 1) := by decide +kernel
theorem d_Law_law_95 : decode code 95 = .ok (.aload_n 0, 1) := by decide +kernel
theorem d_Law_law_96 : decode code 96 = .ok (.iload 4, 2) := by decide +kernel
theorem d_Law_law_98 : decode code 98 = .ok (.iconst 2, 1) := by decide +kernel
theorem d_Law_law_99 : decode code 99 = .ok (.iadd, 1) := by decide +kernel
theorem d_Law_law_100 : decode code 100 = .ok (.iaload, 1) := by decide +kernel
theorem d_Law_law_101 : decode code 101 = .ok (.i2l, 1) := by decide +kernel
theorem d_Law_law_102 : decode code 102 = .ok (.ldc2_w 38, 3) := by decide +kernel
theorem d_Law_law_105 : decode code 105 = .ok (.land, 1) := by decide +kernel
theorem d_Law_law_106 : decode code 106 = .ok (.lor, 1) := by decide +kernel
theorem d_Law_law_107 : decode code 107 = .ok (.invokevirtual 40, 3) := by decide +kernel
theorem d_Law_law_110 : decode code 110 = .ok (.aload_n 2, 1) := by decide +kernel
theorem d_Law_law_111 : decode code 111 = .ok (.aload_n 0, 1) := by decide +kernel
theorem d_Law_law_112 : decode code 112 = .ok (.iload 4, 2) := by decide +kernel
theorem d_Law_law_114 : decode code 114 = .ok (.iconst 1, 1) := by decide +kernel
theorem d_Law_law_115 : decode code 115 = .ok (.iadd, 1) := by decide +kernel
theorem d_Law_law_116 : decode code 116 = .ok (.iaload, 1) := by decide +kernel
theorem d_Law_law_117 : decode code 117 = .ok (.i2l, 1) := by decide +kernel
theorem d_Law_law_118 : decode code 118 = .ok (.bipush 32, 2) := by decide +kernel
theorem d_Law_law_120 : decode code 120 = .ok (.lshl, 1) := by decide +kernel
theorem d_Law_law_121 : decode code 121 = .ok (.aload_n 0, 1) := by decide +kernel
theorem d_Law_law_122 : decode code 122 = .ok (.iload 4, 2) := by decide +kernel
theorem d_Law_law_124 : decode code 124 = .ok (.iconst 2, 1) := by decide +kernel
theorem d_Law_law_125 : decode code 125 = .ok (.iadd, 1) := by decide +kernel
theorem d_Law_law_126 : decode code 126 = .ok (.iaload, 1) := by decide +kernel
theorem d_Law_law_127 : decode code 127 = .ok (.i2l, 1) := by decide +kernel
theorem d_Law_law_128 : decode code 128 = .ok (.ldc2_w 38, 3) := by decide +kernel
theorem d_Law_law_131 : decode code 131 = .ok (.land, 1) := by decide +kernel
theorem d_Law_law_132 : decode code 132 = .ok (.lor, 1) := by decide +kernel
theorem d_Law_law_133 : decode code 133 = .ok (.invokevirtual 44, 3) := by decide +kernel
theorem d_Law_law_136 : decode code 136 = .ok (.if_icmp .eq 295, 3) := by decide +kernel
theorem d_Law_law_139 : decode code 139 = .ok (.iconst 0, 1) := by decide +kernel
theorem d_Law_law_140 : decode code 140 = .ok (.ireturn, 1) := by decide +kernel
theorem d_Law_law_141 : decode code 141 = .ok (.aload_n 1, 1) := by decide +kernel
theorem d_Law_law_142 : decode code 142 = .ok (.invokevirtual 45, 3) := by decide +kernel
theorem d_Law_law_145 : decode code 145 = .ok (.aload_n 2, 1) := by decide +kernel
theorem d_Law_law_146 : decode code 146 = .ok (.invokevirtual 48, 3) := by decide +kernel
theorem d_Law_law_149 : decode code 149 = .ok (.if_icmp .eq 282, 3) := by decide +kernel
theorem d_Law_law_152 : decode code 152 = .ok (.iconst 0, 1) := by decide +kernel
theorem d_Law_law_153 : decode code 153 = .ok (.ireturn, 1) := by decide +kernel
theorem d_Law_law_154 : decode code 154 = .ok (.aload_n 1, 1) := by decide +kernel
theorem d_Law_law_155 : decode code 155 = .ok (.aload_n 3, 1) := by decide +kernel
theorem d_Law_law_156 : decode code 156 = .ok (.invokestatic 49, 3) := by decide +kernel
theorem d_Law_law_159 : decode code 159 = .ok (.istore 5, 2) := by decide +kernel
theorem d_Law_law_161 : decode code 161 = .ok (.aload_n 2, 1) := by decide +kernel
theorem d_Law_law_162 : decode code 162 = .ok (.invokevirtual 54, 3) := by decide +kernel
theorem d_Law_law_165 : decode code 165 = .ok (.istore 6, 2) := by decide +kernel
theorem d_Law_law_167 : decode code 167 = .ok (.aload_n 2, 1) := by decide +kernel
theorem d_Law_law_168 : decode code 168 = .ok (.invokevirtual 55, 3) := by decide +kernel
theorem d_Law_law_171 : decode code 171 = .ok (.iload 5, 2) := by decide +kernel
theorem d_Law_law_173 : decode code 173 = .ok (.if_icmp .eq 5, 3) := by decide +kernel
theorem d_Law_law_176 : decode code 176 = .ok (.iconst 0, 1) := by decide +kernel
theorem d_Law_law_177 : decode code 177 = .ok (.ireturn, 1) := by decide +kernel
theorem d_Law_law_178 : decode code 178 = .ok (.iload 5, 2) := by decide +kernel
theorem d_Law_law_180 : decode code 180 = .ok (.ifCond .ne 15, 3) := by decide +kernel
theorem d_Law_law_183 : decode code 183 = .ok (.aload_n 3, 1) := by decide +kernel
theorem d_Law_law_184 : decode code 184 = .ok (.iconst 0, 1) := by decide +kernel
theorem d_Law_law_185 : decode code 185 = .ok (.laload, 1) := by decide +kernel
theorem d_Law_law_186 : decode code 186 = .ok (.iload 6, 2) := by decide +kernel
theorem d_Law_law_188 : decode code 188 = .ok (.i2l, 1) := by decide +kernel
theorem d_Law_law_189 : decode code 189 = .ok (.lcmp, 1) := by decide +kernel
theorem d_Law_law_190 : decode code 190 = .ok (.ifCond .eq 5, 3) := by decide +kernel
theorem d_Law_law_193 : decode code 193 = .ok (.iconst 0, 1) := by decide +kernel
theorem d_Law_law_194 : decode code 194 = .ok (.ireturn, 1) := by decide +kernel
theorem d_Law_law_195 : decode code 195 = .ok (.goto 236, 3) := by decide +kernel
theorem d_Law_law_198 : decode code 198 = .ok (.aload_n 1, 1) := by decide +kernel
theorem d_Law_law_199 : decode code 199 = .ok (.invokevirtual 58, 3) := by decide +kernel
theorem d_Law_law_202 : decode code 202 = .ok (.aload_n 2, 1) := by decide +kernel
theorem d_Law_law_203 : decode code 203 = .ok (.invokevirtual 61, 3) := by decide +kernel
theorem d_Law_law_206 : decode code 206 = .ok (.if_icmp .eq 225, 3) := by decide +kernel
theorem d_Law_law_209 : decode code 209 = .ok (.iconst 0, 1) := by decide +kernel
theorem d_Law_law_210 : decode code 210 = .ok (.ireturn, 1) := by decide +kernel
theorem d_Law_law_211 : decode code 211 = .ok (.aload_n 1, 1) := by decide +kernel
theorem d_Law_law_212 : decode code 212 = .ok (.aload_n 0, 1) := by decide +kernel
theorem d_Law_law_213 : decode code 213 = .ok (.iload 4, 2) := by decide +kernel
theorem d_Law_law_215 : decode code 215 = .ok (.iconst 1, 1) := by decide +kernel
theorem d_Law_law_216 : decode code 216 = .ok (.iadd, 1) := by decide +kernel
theorem d_Law_law_217 : decode code 217 = .ok (.iaload, 1) := by decide +kernel
theorem d_Law_law_218 : decode code 218 = .ok (.aload_n 0, 1) := by decide +kernel
theorem d_Law_law_219 : decode code 219 = .ok (.iload 4, 2) := by decide +kernel
theorem d_Law_law_221 : decode code 221 = .ok (.iconst 2, 1) := by decide +kernel
theorem d_Law_law_222 : decode code 222 = .ok (.iadd, 1) := by decide +kernel
theorem d_Law_law_223 : decode code 223 = .ok (.iaload, 1) := by decide +kernel
theorem d_Law_law_224 : decode code 224 = .ok (.invokestatic 62, 3) := by decide +kernel
theorem d_Law_law_227 : decode code 227 = .ok (.istore 5, 2) := by decide +kernel
theorem d_Law_law_229 : decode code 229 = .ok (.aload_n 2, 1) := by decide +kernel
theorem d_Law_law_230 : decode code 230 = .ok (.aload_n 0, 1) := by decide +kernel
theorem d_Law_law_231 : decode code 231 = .ok (.iload 4, 2) := by decide +kernel
theorem d_Law_law_233 : decode code 233 = .ok (.iconst 1, 1) := by decide +kernel
theorem d_Law_law_234 : decode code 234 = .ok (.iadd, 1) := by decide +kernel
theorem d_Law_law_235 : decode code 235 = .ok (.iaload, 1) := by decide +kernel
theorem d_Law_law_236 : decode code 236 = .ok (.aload_n 0, 1) := by decide +kernel
theorem d_Law_law_237 : decode code 237 = .ok (.iload 4, 2) := by decide +kernel
theorem d_Law_law_239 : decode code 239 = .ok (.iconst 2, 1) := by decide +kernel
theorem d_Law_law_240 : decode code 240 = .ok (.iadd, 1) := by decide +kernel
theorem d_Law_law_241 : decode code 241 = .ok (.iaload, 1) := by decide +kernel
theorem d_Law_law_242 : decode code 242 = .ok (.invokevirtual 65, 3) := by decide +kernel
theorem d_Law_law_245 : decode code 245 = .ok (.aload_n 2, 1) := by decide +kernel
theorem d_Law_law_246 : decode code 246 = .ok (.invokevirtual 55, 3) := by decide +kernel
theorem d_Law_law_249 : decode code 249 = .ok (.iload 5, 2) := by decide +kernel
theorem d_Law_law_251 : decode code 251 = .ok (.if_icmp .eq 5, 3) := by decide +kernel
theorem d_Law_law_254 : decode code 254 = .ok (.iconst 0, 1) := by decide +kernel
theorem d_Law_law_255 : decode code 255 = .ok (.ireturn, 1) := by decide +kernel
theorem d_Law_law_256 : decode code 256 = .ok (.goto 175, 3) := by decide +kernel
theorem d_Law_law_259 : decode code 259 = .ok (.aload_n 1, 1) := by decide +kernel
theorem d_Law_law_260 : decode code 260 = .ok (.aload_n 0, 1) := by decide +kernel
theorem d_Law_law_261 : decode code 261 = .ok (.iload 4, 2) := by decide +kernel
theorem d_Law_law_263 : decode code 263 = .ok (.iconst 1, 1) := by decide +kernel
theorem d_Law_law_264 : decode code 264 = .ok (.iadd, 1) := by decide +kernel
theorem d_Law_law_265 : decode code 265 = .ok (.iaload, 1) := by decide +kernel
theorem d_Law_law_266 : decode code 266 = .ok (.aload_n 0, 1) := by decide +kernel
theorem d_Law_law_267 : decode code 267 = .ok (.iload 4, 2) := by decide +kernel
theorem d_Law_law_269 : decode code 269 = .ok (.iconst 2, 1) := by decide +kernel
theorem d_Law_law_270 : decode code 270 = .ok (.iadd, 1) := by decide +kernel
theorem d_Law_law_271 : decode code 271 = .ok (.iaload, 1) := by decide +kernel
theorem d_Law_law_272 : decode code 272 = .ok (.aload_n 0, 1) := by decide +kernel
theorem d_Law_law_273 : decode code 273 = .ok (.iload 4, 2) := by decide +kernel
theorem d_Law_law_275 : decode code 275 = .ok (.iconst 3, 1) := by decide +kernel
theorem d_Law_law_276 : decode code 276 = .ok (.iadd, 1) := by decide +kernel
theorem d_Law_law_277 : decode code 277 = .ok (.iaload, 1) := by decide +kernel
theorem d_Law_law_278 : decode code 278 = .ok (.invokestatic 66, 3) := by decide +kernel
theorem d_Law_law_281 : decode code 281 = .ok (.istore 5, 2) := by decide +kernel
theorem d_Law_law_283 : decode code 283 = .ok (.aload_n 2, 1) := by decide +kernel
theorem d_Law_law_284 : decode code 284 = .ok (.aload_n 0, 1) := by decide +kernel
theorem d_Law_law_285 : decode code 285 = .ok (.iload 4, 2) := by decide +kernel
theorem d_Law_law_287 : decode code 287 = .ok (.iconst 1, 1) := by decide +kernel
theorem d_Law_law_288 : decode code 288 = .ok (.iadd, 1) := by decide +kernel
theorem d_Law_law_289 : decode code 289 = .ok (.iaload, 1) := by decide +kernel
theorem d_Law_law_290 : decode code 290 = .ok (.aload_n 0, 1) := by decide +kernel
theorem d_Law_law_291 : decode code 291 = .ok (.iload 4, 2) := by decide +kernel
theorem d_Law_law_293 : decode code 293 = .ok (.iconst 2, 1) := by decide +kernel
theorem d_Law_law_294 : decode code 294 = .ok (.iadd, 1) := by decide +kernel
theorem d_Law_law_295 : decode code 295 = .ok (.iaload, 1) := by decide +kernel
theorem d_Law_law_296 : decode code 296 = .ok (.aload_n 0, 1) := by decide +kernel
theorem d_Law_law_297 : decode code 297 = .ok (.iload 4, 2) := by decide +kernel
theorem d_Law_law_299 : decode code 299 = .ok (.iconst 3, 1) := by decide +kernel
theorem d_Law_law_300 : decode code 300 = .ok (.iadd, 1) := by decide +kernel
theorem d_Law_law_301 : decode code 301 = .ok (.iaload, 1) := by decide +kernel
theorem d_Law_law_302 : decode code 302 = .ok (.invokevirtual 69, 3) := by decide +kernel
theorem d_Law_law_305 : decode code 305 = .ok (.aload_n 2, 1) := by decide +kernel
theorem d_Law_law_306 : decode code 306 = .ok (.invokevirtual 55, 3) := by decide +kernel
theorem d_Law_law_309 : decode code 309 = .ok (.iload 5, 2) := by decide +kernel
theorem d_Law_law_311 : decode code 311 = .ok (.if_icmp .eq 5, 3) := by decide +kernel
theorem d_Law_law_314 : decode code 314 = .ok (.iconst 0, 1) := by decide +kernel
theorem d_Law_law_315 : decode code 315 = .ok (.ireturn, 1) := by decide +kernel
theorem d_Law_law_316 : decode code 316 = .ok (.goto 115, 3) := by decide +kernel
theorem d_Law_law_319 : decode code 319 = .ok (.aload_n 1, 1) := by decide +kernel
theorem d_Law_law_320 : decode code 320 = .ok (.aload_n 0, 1) := by decide +kernel
theorem d_Law_law_321 : decode code 321 = .ok (.iload 4, 2) := by decide +kernel
theorem d_Law_law_323 : decode code 323 = .ok (.iconst 1, 1) := by decide +kernel
theorem d_Law_law_324 : decode code 324 = .ok (.iadd, 1) := by decide +kernel
theorem d_Law_law_325 : decode code 325 = .ok (.iaload, 1) := by decide +kernel
theorem d_Law_law_326 : decode code 326 = .ok (.aload_n 3, 1) := by decide +kernel
theorem d_Law_law_327 : decode code 327 = .ok (.invokestatic 70, 3) := by decide +kernel
theorem d_Law_law_330 : decode code 330 = .ok (.istore 5, 2) := by decide +kernel
theorem d_Law_law_332 : decode code 332 = .ok (.aload_n 2, 1) := by decide +kernel
theorem d_Law_law_333 : decode code 333 = .ok (.aload_n 0, 1) := by decide +kernel
theorem d_Law_law_334 : decode code 334 = .ok (.iload 4, 2) := by decide +kernel
theorem d_Law_law_336 : decode code 336 = .ok (.iconst 1, 1) := by decide +kernel
theorem d_Law_law_337 : decode code 337 = .ok (.iadd, 1) := by decide +kernel
theorem d_Law_law_338 : decode code 338 = .ok (.iaload, 1) := by decide +kernel
theorem d_Law_law_339 : decode code 339 = .ok (.invokevirtual 73, 3) := by decide +kernel
theorem d_Law_law_342 : decode code 342 = .ok (.istore 6, 2) := by decide +kernel
theorem d_Law_law_344 : decode code 344 = .ok (.aload_n 2, 1) := by decide +kernel
theorem d_Law_law_345 : decode code 345 = .ok (.invokevirtual 55, 3) := by decide +kernel
theorem d_Law_law_348 : decode code 348 = .ok (.iload 5, 2) := by decide +kernel
theorem d_Law_law_350 : decode code 350 = .ok (.if_icmp .eq 5, 3) := by decide +kernel
theorem d_Law_law_353 : decode code 353 = .ok (.iconst 0, 1) := by decide +kernel
theorem d_Law_law_354 : decode code 354 = .ok (.ireturn, 1) := by decide +kernel
theorem d_Law_law_355 : decode code 355 = .ok (.iload 5, 2) := by decide +kernel
theorem d_Law_law_357 : decode code 357 = .ok (.ifCond .ne 15, 3) := by decide +kernel
theorem d_Law_law_360 : decode code 360 = .ok (.aload_n 3, 1) := by decide +kernel
theorem d_Law_law_361 : decode code 361 = .ok (.iconst 0, 1) := by decide +kernel
theorem d_Law_law_362 : decode code 362 = .ok (.laload, 1) := by decide +kernel
theorem d_Law_law_363 : decode code 363 = .ok (.iload 6, 2) := by decide +kernel
theorem d_Law_law_365 : decode code 365 = .ok (.i2l, 1) := by decide +kernel
theorem d_Law_law_366 : decode code 366 = .ok (.lcmp, 1) := by decide +kernel
theorem d_Law_law_367 : decode code 367 = .ok (.ifCond .eq 5, 3) := by decide +kernel
theorem d_Law_law_370 : decode code 370 = .ok (.iconst 0, 1) := by decide +kernel
theorem d_Law_law_371 : decode code 371 = .ok (.ireturn, 1) := by decide +kernel
theorem d_Law_law_372 : decode code 372 = .ok (.goto 59, 3) := by decide +kernel
theorem d_Law_law_375 : decode code 375 = .ok (.aload_n 1, 1) := by decide +kernel
theorem d_Law_law_376 : decode code 376 = .ok (.aload_n 0, 1) := by decide +kernel
theorem d_Law_law_377 : decode code 377 = .ok (.iload 4, 2) := by decide +kernel
theorem d_Law_law_379 : decode code 379 = .ok (.iconst 1, 1) := by decide +kernel
theorem d_Law_law_380 : decode code 380 = .ok (.iadd, 1) := by decide +kernel
theorem d_Law_law_381 : decode code 381 = .ok (.iaload, 1) := by decide +kernel
theorem d_Law_law_382 : decode code 382 = .ok (.aload_n 3, 1) := by decide +kernel
theorem d_Law_law_383 : decode code 383 = .ok (.invokestatic 74, 3) := by decide +kernel
theorem d_Law_law_386 : decode code 386 = .ok (.istore 5, 2) := by decide +kernel
theorem d_Law_law_388 : decode code 388 = .ok (.aload_n 2, 1) := by decide +kernel
theorem d_Law_law_389 : decode code 389 = .ok (.aload_n 0, 1) := by decide +kernel
theorem d_Law_law_390 : decode code 390 = .ok (.iload 4, 2) := by decide +kernel
theorem d_Law_law_392 : decode code 392 = .ok (.iconst 1, 1) := by decide +kernel
theorem d_Law_law_393 : decode code 393 = .ok (.iadd, 1) := by decide +kernel
theorem d_Law_law_394 : decode code 394 = .ok (.iaload, 1) := by decide +kernel
theorem d_Law_law_395 : decode code 395 = .ok (.invokevirtual 76, 3) := by decide +kernel
theorem d_Law_law_398 : decode code 398 = .ok (.istore 6, 2) := by decide +kernel
theorem d_Law_law_400 : decode code 400 = .ok (.aload_n 2, 1) := by decide +kernel
theorem d_Law_law_401 : decode code 401 = .ok (.invokevirtual 55, 3) := by decide +kernel
theorem d_Law_law_404 : decode code 404 = .ok (.iload 5, 2) := by decide +kernel
theorem d_Law_law_406 : decode code 406 = .ok (.if_icmp .eq 5, 3) := by decide +kernel
theorem d_Law_law_409 : decode code 409 = .ok (.iconst 0, 1) := by decide +kernel
theorem d_Law_law_410 : decode code 410 = .ok (.ireturn, 1) := by decide +kernel
theorem d_Law_law_411 : decode code 411 = .ok (.iload 5, 2) := by decide +kernel
theorem d_Law_law_413 : decode code 413 = .ok (.ifCond .ne 15, 3) := by decide +kernel
theorem d_Law_law_416 : decode code 416 = .ok (.aload_n 3, 1) := by decide +kernel
theorem d_Law_law_417 : decode code 417 = .ok (.iconst 0, 1) := by decide +kernel
theorem d_Law_law_418 : decode code 418 = .ok (.laload, 1) := by decide +kernel
theorem d_Law_law_419 : decode code 419 = .ok (.iload 6, 2) := by decide +kernel
theorem d_Law_law_421 : decode code 421 = .ok (.i2l, 1) := by decide +kernel
theorem d_Law_law_422 : decode code 422 = .ok (.lcmp, 1) := by decide +kernel
theorem d_Law_law_423 : decode code 423 = .ok (.ifCond .eq 5, 3) := by decide +kernel
theorem d_Law_law_426 : decode code 426 = .ok (.iconst 0, 1) := by decide +kernel
theorem d_Law_law_427 : decode code 427 = .ok (.ireturn, 1) := by decide +kernel
theorem d_Law_law_428 : decode code 428 = .ok (.goto 3, 3) := by decide +kernel
theorem d_Law_law_431 : decode code 431 = .ok (.iinc 4 4, 3) := by decide +kernel
theorem d_Law_law_434 : decode code 434 = .ok (.goto (-411), 3) := by decide +kernel
theorem d_Law_law_437 : decode code 437 = .ok (.iconst 1, 1) := by decide +kernel
theorem d_Law_law_438 : decode code 438 = .ok (.ireturn, 1) := by decide +kernel
