/-! constructors of nest mates -/
section CN
variable {p : Program} {l : Launch} {e : Env} {R : Room} {s : State} {m : MethodId} {args : Array Value} {below : List Frame} {meth : Method} {c : Code} {H : Heap} {locs : List Loc} {cells slots : Nat} {Q : State → Prop}
variable {cc : ByteArray} {pc : Nat} {ls : Array Slot} {rest st0 : List Value} {G : Gt} {A : Nat → Prop} {ws wc w' : va_W} {mc ms : Nat} {post : Option Value → va_W → Prop}
theorem Ct.callIN {y : MethodName} {bc : ByteArray} {mL nL n index : Nat} {rm : Room} {own host : String} {b : Nat} {As : List Value} (hx : p.tables.exec = Jvm.exec) (hb : c.code = cc) (hml : c.maxLocals = nL) (hown : s.vm.findClass own = some m.cls) (hts : ∀ w ∈ wsA, w.before args s = true) (hK : KX G s) (hA : ∀ q, s.heap.size ≤ q → A q) (hsz : ls.size = nL) (hW : Wd G A s.heap ws H locs)
    (hM : Ct l G y bc mL none rm (.ref b :: As) wc mc ms post) (cw : va_CN R s args own index y host bc mL none (Cond.code y bc mL none :: wsA) rm mc ms n ∧ y.name = "<init>" ∧ (Cond.instanceMethod y).before args s = true) (is : List Nat) (hn : va_nd is = true) (hC : is.map (fun i => ws[i]?) = wc.map some)
    (hAs : As.length = n) (hst : st0 = As.reverse ++ .ref b :: rest) (hroom : (rest.map fun v => v.category).sum ≤ 8) (hdg : decode cc pc = .ok (.invokespecial index, 3)) (hf : cells + mc ≤ R.cells ∧ slots + ms ≤ R.slots) (hlen : ∀ v w', post v w' → wc.length ≤ w'.length)
    (kk : ∀ (v : Option Value) (w' : va_W) (H1 : Heap) (locs1 : List Loc), post v w' → Wd G A s.heap (wb_put ws is w') H1 locs1 → W p l e R s m args below meth c H1 locs1 (cells + mc) (slots + ms) Q (F0 m (pc + 3) ls (v.toList ++ rest))) : W p l e R s m args below meth c H locs cells slots Q (F0 m pc ls st0) :=
  Ct.cont (va_runIN ⟨hx, hb, hml, hown, hts⟩ (hM H.size) cw ⟨Pcc.blind, Ct.pre hW hK is hn hC⟩ rfl hAs hsz hst (lv_room hroom) hdg hf) hW hA is hC hlen kk
end CN

theorem d_Tokens_init_0 : decode b_Tokens_init 0 = .ok (.aload_n 0, 1) := by decide +kernel
theorem d_Tokens_init_1 : decode b_Tokens_init 1 = .ok (.invokespecial 3, 3) := by decide +kernel
theorem d_Tokens_init_4 : decode b_Tokens_init 4 = .ok (.aload_n 0, 1) := by decide +kernel
theorem d_Tokens_init_5 : decode b_Tokens_init 5 = .ok (.bipush 120, 2) := by decide +kernel
theorem d_Tokens_init_7 : decode b_Tokens_init 7 = .ok (.newarray .char, 2) := by decide +kernel
theorem d_Tokens_init_9 : decode b_Tokens_init 9 = .ok (.putfield 9, 3) := by decide +kernel
theorem d_Tokens_init_12 : decode b_Tokens_init 12 = .ok (.aload_n 0, 1) := by decide +kernel
theorem d_Tokens_init_13 : decode b_Tokens_init 13 = .ok (.bipush 121, 2) := by decide +kernel
theorem d_Tokens_init_15 : decode b_Tokens_init 15 = .ok (.newarray .int, 2) := by decide +kernel
theorem d_Tokens_init_17 : decode b_Tokens_init 17 = .ok (.putfield 15, 3) := by decide +kernel
theorem d_Tokens_init_20 : decode b_Tokens_init 20 = .ok (.aload_n 0, 1) := by decide +kernel
theorem d_Tokens_init_21 : decode b_Tokens_init 21 = .ok (.bipush 121, 2) := by decide +kernel
theorem d_Tokens_init_23 : decode b_Tokens_init 23 = .ok (.newarray .int, 2) := by decide +kernel
theorem d_Tokens_init_25 : decode b_Tokens_init 25 = .ok (.putfield 19, 3) := by decide +kernel
theorem d_Tokens_init_28 : decode b_Tokens_init 28 = .ok (.aload_n 0, 1) := by decide +kernel
theorem d_Tokens_init_29 : decode b_Tokens_init 29 = .ok (.bipush 121, 2) := by decide +kernel
theorem d_Tokens_init_31 : decode b_Tokens_init 31 = .ok (.newarray .int, 2) := by decide +kernel
theorem d_Tokens_init_33 : decode b_Tokens_init 33 = .ok (.putfield 22, 3) := by decide +kernel
theorem d_Tokens_init_36 : decode b_Tokens_init 36 = .ok (.return_, 1) := by decide +kernel
theorem d_Tokens_scan_0 : decode b_Tokens_scan 0 = .ok (.aload_n 1, 1) := by decide +kernel
theorem d_Tokens_scan_1 : decode b_Tokens_scan 1 = .ok (.iconst 0, 1) := by decide +kernel
theorem d_Tokens_scan_2 : decode b_Tokens_scan 2 = .ok (.aload_n 0, 1) := by decide +kernel
theorem d_Tokens_scan_3 : decode b_Tokens_scan 3 = .ok (.getfield 9, 3) := by decide +kernel
theorem d_Tokens_scan_6 : decode b_Tokens_scan 6 = .ok (.iconst 0, 1) := by decide +kernel
theorem d_Tokens_scan_7 : decode b_Tokens_scan 7 = .ok (.iload_n 2, 1) := by decide +kernel
theorem d_Tokens_scan_8 : decode b_Tokens_scan 8 = .ok (.invokestatic 25, 3) := by decide +kernel
theorem d_Tokens_scan_11 : decode b_Tokens_scan 11 = .ok (.aload_n 0, 1) := by decide +kernel
theorem d_Tokens_scan_12 : decode b_Tokens_scan 12 = .ok (.iconst 0, 1) := by decide +kernel
theorem d_Tokens_scan_13 : decode b_Tokens_scan 13 = .ok (.putfield 31, 3) := by decide +kernel
theorem d_Tokens_scan_16 : decode b_Tokens_scan 16 = .ok (.iconst 0, 1) := by decide +kernel
theorem d_Tokens_scan_17 : decode b_Tokens_scan 17 = .ok (.istore_n 3, 1) := by decide +kernel
theorem d_Tokens_scan_18 : decode b_Tokens_scan 18 = .ok (.iload_n 3, 1) := by decide +kernel
theorem d_Tokens_scan_19 : decode b_Tokens_scan 19 = .ok (.iload_n 2, 1) := by decide +kernel
theorem d_Tokens_scan_20 : decode b_Tokens_scan 20 = .ok (.if_icmp .ge 40, 3) := by decide +kernel
theorem d_Tokens_scan_23 : decode b_Tokens_scan 23 = .ok (.aload_n 0, 1) := by decide +kernel
theorem d_Tokens_scan_24 : decode b_Tokens_scan 24 = .ok (.getfield 9, 3) := by decide +kernel
theorem d_Tokens_scan_27 : decode b_Tokens_scan 27 = .ok (.iload_n 3, 1) := by decide +kernel
theorem d_Tokens_scan_28 : decode b_Tokens_scan 28 = .ok (.caload, 1) := by decide +kernel
theorem d_Tokens_scan_29 : decode b_Tokens_scan 29 = .ok (.bipush 32, 2) := by decide +kernel
theorem d_Tokens_scan_31 : decode b_Tokens_scan 31 = .ok (.if_icmp .ne 9, 3) := by decide +kernel
theorem d_Tokens_scan_34 : decode b_Tokens_scan 34 = .ok (.iload_n 3, 1) := by decide +kernel
theorem d_Tokens_scan_35 : decode b_Tokens_scan 35 = .ok (.iconst 1, 1) := by decide +kernel
theorem d_Tokens_scan_36 : decode b_Tokens_scan 36 = .ok (.iadd, 1) := by decide +kernel
theorem d_Tokens_scan_37 : decode b_Tokens_scan 37 = .ok (.goto 9, 3) := by decide +kernel
theorem d_Tokens_scan_40 : decode b_Tokens_scan 40 = .ok (.aload_n 0, 1) := by decide +kernel
theorem d_Tokens_scan_41 : decode b_Tokens_scan 41 = .ok (.iload_n 3, 1) := by decide +kernel
theorem d_Tokens_scan_42 : decode b_Tokens_scan 42 = .ok (.iload_n 2, 1) := by decide +kernel
theorem d_Tokens_scan_43 : decode b_Tokens_scan 43 = .ok (.invokevirtual 35, 3) := by decide +kernel
theorem d_Tokens_scan_46 : decode b_Tokens_scan 46 = .ok (.istore 4, 2) := by decide +kernel
theorem d_Tokens_scan_48 : decode b_Tokens_scan 48 = .ok (.iload_n 3, 1) := by decide +kernel
theorem d_Tokens_scan_49 : decode b_Tokens_scan 49 = .ok (.iconst 1, 1) := by decide +kernel
theorem d_Tokens_scan_50 : decode b_Tokens_scan 50 = .ok (.iadd, 1) := by decide +kernel
theorem d_Tokens_scan_51 : decode b_Tokens_scan 51 = .ok (.iload 4, 2) := by decide +kernel
theorem d_Tokens_scan_53 : decode b_Tokens_scan 53 = .ok (.invokestatic 39, 3) := by decide +kernel
theorem d_Tokens_scan_56 : decode b_Tokens_scan 56 = .ok (.istore_n 3, 1) := by decide +kernel
theorem d_Tokens_scan_57 : decode b_Tokens_scan 57 = .ok (.goto (-39), 3) := by decide +kernel
theorem d_Tokens_scan_60 : decode b_Tokens_scan 60 = .ok (.aload_n 0, 1) := by decide +kernel
theorem d_Tokens_scan_61 : decode b_Tokens_scan 61 = .ok (.iconst 0, 1) := by decide +kernel
theorem d_Tokens_scan_62 : decode b_Tokens_scan 62 = .ok (.iload_n 2, 1) := by decide +kernel
theorem d_Tokens_scan_63 : decode b_Tokens_scan 63 = .ok (.iconst 0, 1) := by decide +kernel
theorem d_Tokens_scan_64 : decode b_Tokens_scan 64 = .ok (.invokevirtual 44, 3) := by decide +kernel
theorem d_Tokens_scan_67 : decode b_Tokens_scan 67 = .ok (.return_, 1) := by decide +kernel
theorem d_Tokens_add_0 : decode b_Tokens_add 0 = .ok (.aload_n 0, 1) := by decide +kernel
theorem d_Tokens_add_1 : decode b_Tokens_add 1 = .ok (.getfield 31, 3) := by decide +kernel
theorem d_Tokens_add_4 : decode b_Tokens_add 4 = .ok (.aload_n 0, 1) := by decide +kernel
theorem d_Tokens_add_5 : decode b_Tokens_add 5 = .ok (.getfield 15, 3) := by decide +kernel
theorem d_Tokens_add_8 : decode b_Tokens_add 8 = .ok (.arraylength, 1) := by decide +kernel
theorem d_Tokens_add_9 : decode b_Tokens_add 9 = .ok (.if_icmp .ge 43, 3) := by decide +kernel
theorem d_Tokens_add_12 : decode b_Tokens_add 12 = .ok (.aload_n 0, 1) := by decide +kernel
theorem d_Tokens_add_13 : decode b_Tokens_add 13 = .ok (.getfield 15, 3) := by decide +kernel
theorem d_Tokens_add_16 : decode b_Tokens_add 16 = .ok (.aload_n 0, 1) := by decide +kernel
theorem d_Tokens_add_17 : decode b_Tokens_add 17 = .ok (.getfield 31, 3) := by decide +kernel
theorem d_Tokens_add_20 : decode b_Tokens_add 20 = .ok (.iload_n 1, 1) := by decide +kernel
theorem d_Tokens_add_21 : decode b_Tokens_add 21 = .ok (.iastore, 1) := by decide +kernel
theorem d_Tokens_add_22 : decode b_Tokens_add 22 = .ok (.aload_n 0, 1) := by decide +kernel
theorem d_Tokens_add_23 : decode b_Tokens_add 23 = .ok (.getfield 19, 3) := by decide +kernel
theorem d_Tokens_add_26 : decode b_Tokens_add 26 = .ok (.aload_n 0, 1) := by decide +kernel
theorem d_Tokens_add_27 : decode b_Tokens_add 27 = .ok (.getfield 31, 3) := by decide +kernel
theorem d_Tokens_add_30 : decode b_Tokens_add 30 = .ok (.iload_n 2, 1) := by decide +kernel
theorem d_Tokens_add_31 : decode b_Tokens_add 31 = .ok (.iastore, 1) := by decide +kernel
theorem d_Tokens_add_32 : decode b_Tokens_add 32 = .ok (.aload_n 0, 1) := by decide +kernel
theorem d_Tokens_add_33 : decode b_Tokens_add 33 = .ok (.getfield 22, 3) := by decide +kernel
theorem d_Tokens_add_36 : decode b_Tokens_add 36 = .ok (.aload_n 0, 1) := by decide +kernel
theorem d_Tokens_add_37 : decode b_Tokens_add 37 = .ok (.getfield 31, 3) := by decide +kernel
theorem d_Tokens_add_40 : decode b_Tokens_add 40 = .ok (.iload_n 3, 1) := by decide +kernel
theorem d_Tokens_add_41 : decode b_Tokens_add 41 = .ok (.iastore, 1) := by decide +kernel
theorem d_Tokens_add_42 : decode b_Tokens_add 42 = .ok (.aload_n 0, 1) := by decide +kernel
theorem d_Tokens_add_43 : decode b_Tokens_add 43 = .ok (.dup, 1) := by decide +kernel
theorem d_Tokens_add_44 : decode b_Tokens_add 44 = .ok (.getfield 31, 3) := by decide +kernel
theorem d_Tokens_add_47 : decode b_Tokens_add 47 = .ok (.iconst 1, 1) := by decide +kernel
theorem d_Tokens_add_48 : decode b_Tokens_add 48 = .ok (.iadd, 1) := by decide +kernel
theorem d_Tokens_add_49 : decode b_Tokens_add 49 = .ok (.putfield 31, 3) := by decide +kernel
theorem d_Tokens_add_52 : decode b_Tokens_add 52 = .ok (.return_, 1) := by decide +kernel
theorem d_Tokens_scanToken_0 : decode b_Tokens_scanToken 0 = .ok (.aload_n 0, 1) := by decide +kernel
theorem d_Tokens_scanToken_1 : decode b_Tokens_scanToken 1 = .ok (.getfield 9, 3) := by decide +kernel
theorem d_Tokens_scanToken_4 : decode b_Tokens_scanToken 4 = .ok (.iload_n 1, 1) := by decide +kernel
theorem d_Tokens_scanToken_5 : decode b_Tokens_scanToken 5 = .ok (.caload, 1) := by decide +kernel
theorem d_Tokens_scanToken_6 : decode b_Tokens_scanToken 6 = .ok (.istore_n 3, 1) := by decide +kernel
theorem d_Tokens_scanToken_7 : decode b_Tokens_scanToken 7 = .ok (.iload_n 3, 1) := by decide +kernel
theorem d_Tokens_scanToken_8 : decode b_Tokens_scanToken 8 = .ok (.invokestatic 48, 3) := by decide +kernel
theorem d_Tokens_scanToken_11 : decode b_Tokens_scanToken 11 = .ok (.ifCond .eq 10, 3) := by decide +kernel
theorem d_Tokens_scanToken_14 : decode b_Tokens_scanToken 14 = .ok (.aload_n 0, 1) := by decide +kernel
theorem d_Tokens_scanToken_15 : decode b_Tokens_scanToken 15 = .ok (.iload_n 1, 1) := by decide +kernel
theorem d_Tokens_scanToken_16 : decode b_Tokens_scanToken 16 = .ok (.iload_n 2, 1) := by decide +kernel
theorem d_Tokens_scanToken_17 : decode b_Tokens_scanToken 17 = .ok (.invokevirtual 52, 3) := by decide +kernel
theorem d_Tokens_scanToken_20 : decode b_Tokens_scanToken 20 = .ok (.ireturn, 1) := by decide +kernel
theorem d_Tokens_scanToken_21 : decode b_Tokens_scanToken 21 = .ok (.iload_n 3, 1) := by decide +kernel
theorem d_Tokens_scanToken_22 : decode b_Tokens_scanToken 22 = .ok (.invokestatic 55, 3) := by decide +kernel
theorem d_Tokens_scanToken_25 : decode b_Tokens_scanToken 25 = .ok (.ifCond .eq 10, 3) := by decide +kernel
theorem d_Tokens_scanToken_28 : decode b_Tokens_scanToken 28 = .ok (.aload_n 0, 1) := by decide +kernel
theorem d_Tokens_scanToken_29 : decode b_Tokens_scanToken 29 = .ok (.iload_n 1, 1) := by decide +kernel
theorem d_Tokens_scanToken_30 : decode b_Tokens_scanToken 30 = .ok (.iload_n 2, 1) := by decide +kernel
theorem d_Tokens_scanToken_31 : decode b_Tokens_scanToken 31 = .ok (.invokevirtual 58, 3) := by decide +kernel
theorem d_Tokens_scanToken_34 : decode b_Tokens_scanToken 34 = .ok (.ireturn, 1) := by decide +kernel
theorem d_Tokens_scanToken_35 : decode b_Tokens_scanToken 35 = .ok (.aload_n 0, 1) := by decide +kernel
theorem d_Tokens_scanToken_36 : decode b_Tokens_scanToken 36 = .ok (.ldc 61, 2) := by decide +kernel
theorem d_Tokens_scanToken_38 : decode b_Tokens_scanToken 38 = .ok (.iload_n 3, 1) := by decide +kernel
theorem d_Tokens_scanToken_39 : decode b_Tokens_scanToken 39 = .ok (.invokevirtual 63, 3) := by decide +kernel
theorem d_Tokens_scanToken_42 : decode b_Tokens_scanToken 42 = .ok (.ifCond .lt 7, 3) := by decide +kernel
theorem d_Tokens_scanToken_45 : decode b_Tokens_scanToken 45 = .ok (.iconst 3, 1) := by decide +kernel
theorem d_Tokens_scanToken_46 : decode b_Tokens_scanToken 46 = .ok (.goto 5, 3) := by decide +kernel
theorem d_Tokens_scanToken_49 : decode b_Tokens_scanToken 49 = .ok (.bipush 7, 2) := by decide +kernel
theorem d_Tokens_scanToken_51 : decode b_Tokens_scanToken 51 = .ok (.iload_n 1, 1) := by decide +kernel
theorem d_Tokens_scanToken_52 : decode b_Tokens_scanToken 52 = .ok (.iload_n 3, 1) := by decide +kernel
theorem d_Tokens_scanToken_53 : decode b_Tokens_scanToken 53 = .ok (.invokevirtual 44, 3) := by decide +kernel
theorem d_Tokens_scanToken_56 : decode b_Tokens_scanToken 56 = .ok (.iload_n 1, 1) := by decide +kernel
theorem d_Tokens_scanToken_57 : decode b_Tokens_scanToken 57 = .ok (.iconst 1, 1) := by decide +kernel
theorem d_Tokens_scanToken_58 : decode b_Tokens_scanToken 58 = .ok (.iadd, 1) := by decide +kernel
theorem d_Tokens_scanToken_59 : decode b_Tokens_scanToken 59 = .ok (.ireturn, 1) := by decide +kernel
theorem d_Tokens_scanWord_0 : decode b_Tokens_scanWord 0 = .ok (.iload_n 1, 1) := by decide +kernel
theorem d_Tokens_scanWord_1 : decode b_Tokens_scanWord 1 = .ok (.iconst 1, 1) := by decide +kernel
theorem d_Tokens_scanWord_2 : decode b_Tokens_scanWord 2 = .ok (.iadd, 1) := by decide +kernel
theorem d_Tokens_scanWord_3 : decode b_Tokens_scanWord 3 = .ok (.istore_n 3, 1) := by decide +kernel
theorem d_Tokens_scanWord_4 : decode b_Tokens_scanWord 4 = .ok (.iload_n 3, 1) := by decide +kernel
theorem d_Tokens_scanWord_5 : decode b_Tokens_scanWord 5 = .ok (.iload_n 2, 1) := by decide +kernel
theorem d_Tokens_scanWord_6 : decode b_Tokens_scanWord 6 = .ok (.if_icmp .ge 21, 3) := by decide +kernel
theorem d_Tokens_scanWord_9 : decode b_Tokens_scanWord 9 = .ok (.aload_n 0, 1) := by decide +kernel
theorem d_Tokens_scanWord_10 : decode b_Tokens_scanWord 10 = .ok (.getfield 9, 3) := by decide +kernel
theorem d_Tokens_scanWord_13 : decode b_Tokens_scanWord 13 = .ok (.iload_n 3, 1) := by decide +kernel
theorem d_Tokens_scanWord_14 : decode b_Tokens_scanWord 14 = .ok (.caload, 1) := by decide +kernel
theorem d_Tokens_scanWord_15 : decode b_Tokens_scanWord 15 = .ok (.invokestatic 48, 3) := by decide +kernel
theorem d_Tokens_scanWord_18 : decode b_Tokens_scanWord 18 = .ok (.ifCond .eq 9, 3) := by decide +kernel
theorem d_Tokens_scanWord_21 : decode b_Tokens_scanWord 21 = .ok (.iinc 3 1, 3) := by decide +kernel
theorem d_Tokens_scanWord_24 : decode b_Tokens_scanWord 24 = .ok (.goto (-20), 3) := by decide +kernel
theorem d_Tokens_scanWord_27 : decode b_Tokens_scanWord 27 = .ok (.bipush 7, 2) := by decide +kernel
theorem d_Tokens_scanWord_29 : decode b_Tokens_scanWord 29 = .ok (.istore 4, 2) := by decide +kernel
theorem d_Tokens_scanWord_31 : decode b_Tokens_scanWord 31 = .ok (.iload_n 3, 1) := by decide +kernel
theorem d_Tokens_scanWord_32 : decode b_Tokens_scanWord 32 = .ok (.iload_n 1, 1) := by decide +kernel
theorem d_Tokens_scanWord_33 : decode b_Tokens_scanWord 33 = .ok (.iconst 1, 1) := by decide +kernel
theorem d_Tokens_scanWord_34 : decode b_Tokens_scanWord 34 = .ok (.iadd, 1) := by decide +kernel
theorem d_Tokens_scanWord_35 : decode b_Tokens_scanWord 35 = .ok (.if_icmp .ne 9, 3) := by decide +kernel
theorem d_Tokens_scanWord_38 : decode b_Tokens_scanWord 38 = .ok (.iconst 1, 1) := by decide +kernel
theorem d_Tokens_scanWord_39 : decode b_Tokens_scanWord 39 = .ok (.istore 4, 2) := by decide +kernel
theorem d_Tokens_scanWord_41 : decode b_Tokens_scanWord 41 = .ok (.goto 52, 3) := by decide +kernel
theorem d_Tokens_scanWord_44 : decode b_Tokens_scanWord 44 = .ok (.aload_n 0, 1) := by decide +kernel
theorem d_Tokens_scanWord_45 : decode b_Tokens_scanWord 45 = .ok (.ldc 69, 2) := by decide +kernel
theorem d_Tokens_scanWord_47 : decode b_Tokens_scanWord 47 = .ok (.iload_n 1, 1) := by decide +kernel
theorem d_Tokens_scanWord_48 : decode b_Tokens_scanWord 48 = .ok (.iload_n 3, 1) := by decide +kernel
theorem d_Tokens_scanWord_49 : decode b_Tokens_scanWord 49 = .ok (.invokevirtual 71, 3) := by decide +kernel
theorem d_Tokens_scanWord_52 : decode b_Tokens_scanWord 52 = .ok (.ifCond .eq 9, 3) := by decide +kernel
theorem d_Tokens_scanWord_55 : decode b_Tokens_scanWord 55 = .ok (.iconst 4, 1) := by decide +kernel
theorem d_Tokens_scanWord_56 : decode b_Tokens_scanWord 56 = .ok (.istore 4, 2) := by decide +kernel
theorem d_Tokens_scanWord_58 : decode b_Tokens_scanWord 58 = .ok (.goto 35, 3) := by decide +kernel
theorem d_Tokens_scanWord_61 : decode b_Tokens_scanWord 61 = .ok (.aload_n 0, 1) := by decide +kernel
theorem d_Tokens_scanWord_62 : decode b_Tokens_scanWord 62 = .ok (.ldc 75, 2) := by decide +kernel
theorem d_Tokens_scanWord_64 : decode b_Tokens_scanWord 64 = .ok (.iload_n 1, 1) := by decide +kernel
theorem d_Tokens_scanWord_65 : decode b_Tokens_scanWord 65 = .ok (.iload_n 3, 1) := by decide +kernel
theorem d_Tokens_scanWord_66 : decode b_Tokens_scanWord 66 = .ok (.invokevirtual 71, 3) := by decide +kernel
theorem d_Tokens_scanWord_69 : decode b_Tokens_scanWord 69 = .ok (.ifCond .eq 9, 3) := by decide +kernel
theorem d_Tokens_scanWord_72 : decode b_Tokens_scanWord 72 = .ok (.iconst 5, 1) := by decide +kernel
theorem d_Tokens_scanWord_73 : decode b_Tokens_scanWord 73 = .ok (.istore 4, 2) := by decide +kernel
theorem d_Tokens_scanWord_75 : decode b_Tokens_scanWord 75 = .ok (.goto 18, 3) := by decide +kernel
theorem d_Tokens_scanWord_78 : decode b_Tokens_scanWord 78 = .ok (.aload_n 0, 1) := by decide +kernel
theorem d_Tokens_scanWord_79 : decode b_Tokens_scanWord 79 = .ok (.ldc 77, 2) := by decide +kernel
theorem d_Tokens_scanWord_81 : decode b_Tokens_scanWord 81 = .ok (.iload_n 1, 1) := by decide +kernel
theorem d_Tokens_scanWord_82 : decode b_Tokens_scanWord 82 = .ok (.iload_n 3, 1) := by decide +kernel
theorem d_Tokens_scanWord_83 : decode b_Tokens_scanWord 83 = .ok (.invokevirtual 71, 3) := by decide +kernel
theorem d_Tokens_scanWord_86 : decode b_Tokens_scanWord 86 = .ok (.ifCond .eq 7, 3) := by decide +kernel
theorem d_Tokens_scanWord_89 : decode b_Tokens_scanWord 89 = .ok (.bipush 6, 2) := by decide +kernel
theorem d_Tokens_scanWord_91 : decode b_Tokens_scanWord 91 = .ok (.istore 4, 2) := by decide +kernel
theorem d_Tokens_scanWord_93 : decode b_Tokens_scanWord 93 = .ok (.aload_n 0, 1) := by decide +kernel
theorem d_Tokens_scanWord_94 : decode b_Tokens_scanWord 94 = .ok (.iload 4, 2) := by decide +kernel
theorem d_Tokens_scanWord_96 : decode b_Tokens_scanWord 96 = .ok (.iload_n 1, 1) := by decide +kernel
theorem d_Tokens_scanWord_97 : decode b_Tokens_scanWord 97 = .ok (.aload_n 0, 1) := by decide +kernel
theorem d_Tokens_scanWord_98 : decode b_Tokens_scanWord 98 = .ok (.getfield 9, 3) := by decide +kernel
theorem d_Tokens_scanWord_101 : decode b_Tokens_scanWord 101 = .ok (.iload_n 1, 1) := by decide +kernel
theorem d_Tokens_scanWord_102 : decode b_Tokens_scanWord 102 = .ok (.caload, 1) := by decide +kernel
theorem d_Tokens_scanWord_103 : decode b_Tokens_scanWord 103 = .ok (.bipush 97, 2) := by decide +kernel
theorem d_Tokens_scanWord_105 : decode b_Tokens_scanWord 105 = .ok (.isub, 1) := by decide +kernel
theorem d_Tokens_scanWord_106 : decode b_Tokens_scanWord 106 = .ok (.invokevirtual 44, 3) := by decide +kernel
theorem d_Tokens_scanWord_109 : decode b_Tokens_scanWord 109 = .ok (.iload_n 3, 1) := by decide +kernel
theorem d_Tokens_scanWord_110 : decode b_Tokens_scanWord 110 = .ok (.ireturn, 1) := by decide +kernel
theorem d_Tokens_scanNumber_0 : decode b_Tokens_scanNumber 0 = .ok (.iconst 0, 1) := by decide +kernel
theorem d_Tokens_scanNumber_1 : decode b_Tokens_scanNumber 1 = .ok (.istore_n 3, 1) := by decide +kernel
theorem d_Tokens_scanNumber_2 : decode b_Tokens_scanNumber 2 = .ok (.iload_n 1, 1) := by decide +kernel
theorem d_Tokens_scanNumber_3 : decode b_Tokens_scanNumber 3 = .ok (.istore 4, 2) := by decide +kernel
theorem d_Tokens_scanNumber_5 : decode b_Tokens_scanNumber 5 = .ok (.iload 4, 2) := by decide +kernel
theorem d_Tokens_scanNumber_7 : decode b_Tokens_scanNumber 7 = .ok (.iload_n 2, 1) := by decide +kernel
theorem d_Tokens_scanNumber_8 : decode b_Tokens_scanNumber 8 = .ok (.if_icmp .ge 38, 3) := by decide +kernel
theorem d_Tokens_scanNumber_11 : decode b_Tokens_scanNumber 11 = .ok (.aload_n 0, 1) := by decide +kernel
theorem d_Tokens_scanNumber_12 : decode b_Tokens_scanNumber 12 = .ok (.getfield 9, 3) := by decide +kernel
theorem d_Tokens_scanNumber_15 : decode b_Tokens_scanNumber 15 = .ok (.iload 4, 2) := by decide +kernel
theorem d_Tokens_scanNumber_17 : decode b_Tokens_scanNumber 17 = .ok (.caload, 1) := by decide +kernel
theorem d_Tokens_scanNumber_18 : decode b_Tokens_scanNumber 18 = .ok (.invokestatic 55, 3) := by decide +kernel
theorem d_Tokens_scanNumber_21 : decode b_Tokens_scanNumber 21 = .ok (.ifCond .eq 25, 3) := by decide +kernel
theorem d_Tokens_scanNumber_24 : decode b_Tokens_scanNumber 24 = .ok (.bipush 10, 2) := by decide +kernel
theorem d_Tokens_scanNumber_26 : decode b_Tokens_scanNumber 26 = .ok (.iload_n 3, 1) := by decide +kernel
theorem d_Tokens_scanNumber_27 : decode b_Tokens_scanNumber 27 = .ok (.imul, 1) := by decide +kernel
theorem d_Tokens_scanNumber_28 : decode b_Tokens_scanNumber 28 = .ok (.aload_n 0, 1) := by decide +kernel
theorem d_Tokens_scanNumber_29 : decode b_Tokens_scanNumber 29 = .ok (.getfield 9, 3) := by decide +kernel
theorem d_Tokens_scanNumber_32 : decode b_Tokens_scanNumber 32 = .ok (.iload 4, 2) := by decide +kernel
theorem d_Tokens_scanNumber_34 : decode b_Tokens_scanNumber 34 = .ok (.caload, 1) := by decide +kernel
theorem d_Tokens_scanNumber_35 : decode b_Tokens_scanNumber 35 = .ok (.iadd, 1) := by decide +kernel
theorem d_Tokens_scanNumber_36 : decode b_Tokens_scanNumber 36 = .ok (.bipush 48, 2) := by decide +kernel
theorem d_Tokens_scanNumber_38 : decode b_Tokens_scanNumber 38 = .ok (.isub, 1) := by decide +kernel
theorem d_Tokens_scanNumber_39 : decode b_Tokens_scanNumber 39 = .ok (.istore_n 3, 1) := by decide +kernel
theorem d_Tokens_scanNumber_40 : decode b_Tokens_scanNumber 40 = .ok (.iinc 4 1, 3) := by decide +kernel
theorem d_Tokens_scanNumber_43 : decode b_Tokens_scanNumber 43 = .ok (.goto (-38), 3) := by decide +kernel
theorem d_Tokens_scanNumber_46 : decode b_Tokens_scanNumber 46 = .ok (.aload_n 0, 1) := by decide +kernel
theorem d_Tokens_scanNumber_47 : decode b_Tokens_scanNumber 47 = .ok (.iload 4, 2) := by decide +kernel
theorem d_Tokens_scanNumber_49 : decode b_Tokens_scanNumber 49 = .ok (.iload_n 1, 1) := by decide +kernel
theorem d_Tokens_scanNumber_50 : decode b_Tokens_scanNumber 50 = .ok (.isub, 1) := by decide +kernel
theorem d_Tokens_scanNumber_51 : decode b_Tokens_scanNumber 51 = .ok (.iconst 3, 1) := by decide +kernel
theorem d_Tokens_scanNumber_52 : decode b_Tokens_scanNumber 52 = .ok (.if_icmp .gt 7, 3) := by decide +kernel
theorem d_Tokens_scanNumber_55 : decode b_Tokens_scanNumber 55 = .ok (.iconst 2, 1) := by decide +kernel
theorem d_Tokens_scanNumber_56 : decode b_Tokens_scanNumber 56 = .ok (.goto 5, 3) := by decide +kernel
theorem d_Tokens_scanNumber_59 : decode b_Tokens_scanNumber 59 = .ok (.bipush 7, 2) := by decide +kernel
theorem d_Tokens_scanNumber_61 : decode b_Tokens_scanNumber 61 = .ok (.iload_n 1, 1) := by decide +kernel
theorem d_Tokens_scanNumber_62 : decode b_Tokens_scanNumber 62 = .ok (.iload_n 3, 1) := by decide +kernel
theorem d_Tokens_scanNumber_63 : decode b_Tokens_scanNumber 63 = .ok (.invokevirtual 44, 3) := by decide +kernel
theorem d_Tokens_scanNumber_66 : decode b_Tokens_scanNumber 66 = .ok (.iload 4, 2) := by decide +kernel
theorem d_Tokens_scanNumber_68 : decode b_Tokens_scanNumber 68 = .ok (.ireturn, 1) := by decide +kernel
theorem d_Tokens_isWord_0 : decode b_Tokens_isWord 0 = .ok (.iload_n 3, 1) := by decide +kernel
theorem d_Tokens_isWord_1 : decode b_Tokens_isWord 1 = .ok (.iload_n 2, 1) := by decide +kernel
theorem d_Tokens_isWord_2 : decode b_Tokens_isWord 2 = .ok (.isub, 1) := by decide +kernel
theorem d_Tokens_isWord_3 : decode b_Tokens_isWord 3 = .ok (.aload_n 1, 1) := by decide +kernel
theorem d_Tokens_isWord_4 : decode b_Tokens_isWord 4 = .ok (.invokevirtual 79, 3) := by decide +kernel
theorem d_Tokens_isWord_7 : decode b_Tokens_isWord 7 = .ok (.if_icmp .eq 5, 3) := by decide +kernel
theorem d_Tokens_isWord_10 : decode b_Tokens_isWord 10 = .ok (.iconst 0, 1) := by decide +kernel
theorem d_Tokens_isWord_11 : decode b_Tokens_isWord 11 = .ok (.ireturn, 1) := by decide +kernel
theorem d_Tokens_isWord_12 : decode b_Tokens_isWord 12 = .ok (.iconst 0, 1) := by decide +kernel
theorem d_Tokens_isWord_13 : decode b_Tokens_isWord 13 = .ok (.istore 4, 2) := by decide +kernel
theorem d_Tokens_isWord_15 : decode b_Tokens_isWord 15 = .ok (.iload 4, 2) := by decide +kernel
theorem d_Tokens_isWord_17 : decode b_Tokens_isWord 17 = .ok (.aload_n 1, 1) := by decide +kernel
theorem d_Tokens_isWord_18 : decode b_Tokens_isWord 18 = .ok (.invokevirtual 79, 3) := by decide +kernel
theorem d_Tokens_isWord_21 : decode b_Tokens_isWord 21 = .ok (.if_icmp .ge 29, 3) := by decide +kernel
theorem d_Tokens_isWord_24 : decode b_Tokens_isWord 24 = .ok (.aload_n 0, 1) := by decide +kernel
theorem d_Tokens_isWord_25 : decode b_Tokens_isWord 25 = .ok (.getfield 9, 3) := by decide +kernel
theorem d_Tokens_isWord_28 : decode b_Tokens_isWord 28 = .ok (.iload_n 2, 1) := by decide +kernel
theorem d_Tokens_isWord_29 : decode b_Tokens_isWord 29 = .ok (.iload 4, 2) := by decide +kernel
theorem d_Tokens_isWord_31 : decode b_Tokens_isWord 31 = .ok (.iadd, 1) := by decide +kernel
theorem d_Tokens_isWord_32 : decode b_Tokens_isWord 32 = .ok (.caload, 1) := by decide +kernel
theorem d_Tokens_isWord_33 : decode b_Tokens_isWord 33 = .ok (.aload_n 1, 1) := by decide +kernel
theorem d_Tokens_isWord_34 : decode b_Tokens_isWord 34 = .ok (.iload 4, 2) := by decide +kernel
theorem d_Tokens_isWord_36 : decode b_Tokens_isWord 36 = .ok (.invokevirtual 83, 3) := by decide +kernel
theorem d_Tokens_isWord_39 : decode b_Tokens_isWord 39 = .ok (.if_icmp .eq 5, 3) := by decide +kernel
theorem d_Tokens_isWord_42 : decode b_Tokens_isWord 42 = .ok (.iconst 0, 1) := by decide +kernel
theorem d_Tokens_isWord_43 : decode b_Tokens_isWord 43 = .ok (.ireturn, 1) := by decide +kernel
theorem d_Tokens_isWord_44 : decode b_Tokens_isWord 44 = .ok (.iinc 4 1, 3) := by decide +kernel
theorem d_Tokens_isWord_47 : decode b_Tokens_isWord 47 = .ok (.goto (-32), 3) := by decide +kernel
theorem d_Tokens_isWord_50 : decode b_Tokens_isWord 50 = .ok (.iconst 1, 1) := by decide +kernel
theorem d_Tokens_isWord_51 : decode b_Tokens_isWord 51 = .ok (.ireturn, 1) := by decide +kernel
theorem d_Tokens_isLetter_0 : decode b_Tokens_isLetter 0 = .ok (.iload_n 0, 1) := by decide +kernel
theorem d_Tokens_isLetter_1 : decode b_Tokens_isLetter 1 = .ok (.bipush 97, 2) := by decide +kernel
theorem d_Tokens_isLetter_3 : decode b_Tokens_isLetter 3 = .ok (.if_icmp .lt 13, 3) := by decide +kernel
theorem d_Tokens_isLetter_6 : decode b_Tokens_isLetter 6 = .ok (.iload_n 0, 1) := by decide +kernel
theorem d_Tokens_isLetter_7 : decode b_Tokens_isLetter 7 = .ok (.bipush 122, 2) := by decide +kernel
theorem d_Tokens_isLetter_9 : decode b_Tokens_isLetter 9 = .ok (.if_icmp .gt 7, 3) := by decide +kernel
theorem d_Tokens_isLetter_12 : decode b_Tokens_isLetter 12 = .ok (.iconst 1, 1) := by decide +kernel
theorem d_Tokens_isLetter_13 : decode b_Tokens_isLetter 13 = .ok (.goto 4, 3) := by decide +kernel
theorem d_Tokens_isLetter_16 : decode b_Tokens_isLetter 16 = .ok (.iconst 0, 1) := by decide +kernel
theorem d_Tokens_isLetter_17 : decode b_Tokens_isLetter 17 = .ok (.ireturn, 1) := by decide +kernel
theorem d_Tokens_isDecimal_0 : decode b_Tokens_isDecimal 0 = .ok (.iload_n 0, 1) := by decide +kernel
theorem d_Tokens_isDecimal_1 : decode b_Tokens_isDecimal 1 = .ok (.bipush 48, 2) := by decide +kernel
theorem d_Tokens_isDecimal_3 : decode b_Tokens_isDecimal 3 = .ok (.if_icmp .lt 13, 3) := by decide +kernel
theorem d_Tokens_isDecimal_6 : decode b_Tokens_isDecimal 6 = .ok (.iload_n 0, 1) := by decide +kernel
theorem d_Tokens_isDecimal_7 : decode b_Tokens_isDecimal 7 = .ok (.bipush 57, 2) := by decide +kernel
theorem d_Tokens_isDecimal_9 : decode b_Tokens_isDecimal 9 = .ok (.if_icmp .gt 7, 3) := by decide +kernel
theorem d_Tokens_isDecimal_12 : decode b_Tokens_isDecimal 12 = .ok (.iconst 1, 1) := by decide +kernel
theorem d_Tokens_isDecimal_13 : decode b_Tokens_isDecimal 13 = .ok (.goto 4, 3) := by decide +kernel
theorem d_Tokens_isDecimal_16 : decode b_Tokens_isDecimal 16 = .ok (.iconst 0, 1) := by decide +kernel
theorem d_Tokens_isDecimal_17 : decode b_Tokens_isDecimal 17 = .ok (.ireturn, 1) := by decide +kernel
theorem d_Reader_init_0 : decode b_Reader_init 0 = .ok (.aload_n 0, 1) := by decide +kernel
theorem d_Reader_init_1 : decode b_Reader_init 1 = .ok (.invokespecial 3, 3) := by decide +kernel
theorem d_Reader_init_4 : decode b_Reader_init 4 = .ok (.aload_n 0, 1) := by decide +kernel
theorem d_Reader_init_5 : decode b_Reader_init 5 = .ok (.new 9, 3) := by decide +kernel
theorem d_Reader_init_8 : decode b_Reader_init 8 = .ok (.dup, 1) := by decide +kernel
theorem d_Reader_init_9 : decode b_Reader_init 9 = .ok (.invokespecial 11, 3) := by decide +kernel
theorem d_Reader_init_12 : decode b_Reader_init 12 = .ok (.putfield 12, 3) := by decide +kernel
theorem d_Reader_init_15 : decode b_Reader_init 15 = .ok (.aload_n 0, 1) := by decide +kernel
theorem d_Reader_init_16 : decode b_Reader_init 16 = .ok (.new 18, 3) := by decide +kernel
theorem d_Reader_init_19 : decode b_Reader_init 19 = .ok (.dup, 1) := by decide +kernel
theorem d_Reader_init_20 : decode b_Reader_init 20 = .ok (.invokespecial 20, 3) := by decide +kernel
theorem d_Reader_init_23 : decode b_Reader_init 23 = .ok (.putfield 21, 3) := by decide +kernel
theorem d_Reader_init_26 : decode b_Reader_init 26 = .ok (.return_, 1) := by decide +kernel
theorem d_Reader_draft_0 : decode b_Reader_draft 0 = .ok (.aload_n 0, 1) := by decide +kernel
theorem d_Reader_draft_1 : decode b_Reader_draft 1 = .ok (.getfield 21, 3) := by decide +kernel
theorem d_Reader_draft_4 : decode b_Reader_draft 4 = .ok (.areturn, 1) := by decide +kernel
theorem d_Reader_tokenBegin_0 : decode b_Reader_tokenBegin 0 = .ok (.aload_n 0, 1) := by decide +kernel
theorem d_Reader_tokenBegin_1 : decode b_Reader_tokenBegin 1 = .ok (.getfield 12, 3) := by decide +kernel
theorem d_Reader_tokenBegin_4 : decode b_Reader_tokenBegin 4 = .ok (.getfield 25, 3) := by decide +kernel
theorem d_Reader_tokenBegin_7 : decode b_Reader_tokenBegin 7 = .ok (.aload_n 0, 1) := by decide +kernel
theorem d_Reader_tokenBegin_8 : decode b_Reader_tokenBegin 8 = .ok (.getfield 29, 3) := by decide +kernel
theorem d_Reader_tokenBegin_11 : decode b_Reader_tokenBegin 11 = .ok (.iaload, 1) := by decide +kernel
theorem d_Reader_tokenBegin_12 : decode b_Reader_tokenBegin 12 = .ok (.ireturn, 1) := by decide +kernel
theorem d_Reader_readScript_0 : decode b_Reader_readScript 0 = .ok (.aload_n 0, 1) := by decide +kernel
theorem d_Reader_readScript_1 : decode b_Reader_readScript 1 = .ok (.getfield 12, 3) := by decide +kernel
theorem d_Reader_readScript_4 : decode b_Reader_readScript 4 = .ok (.aload_n 1, 1) := by decide +kernel
theorem d_Reader_readScript_5 : decode b_Reader_readScript 5 = .ok (.iload_n 2, 1) := by decide +kernel
theorem d_Reader_readScript_6 : decode b_Reader_readScript 6 = .ok (.invokevirtual 33, 3) := by decide +kernel
theorem d_Reader_readScript_9 : decode b_Reader_readScript 9 = .ok (.aload_n 0, 1) := by decide +kernel
theorem d_Reader_readScript_10 : decode b_Reader_readScript 10 = .ok (.getfield 21, 3) := by decide +kernel
theorem d_Reader_readScript_13 : decode b_Reader_readScript 13 = .ok (.invokevirtual 37, 3) := by decide +kernel
theorem d_Reader_readScript_16 : decode b_Reader_readScript 16 = .ok (.aload_n 0, 1) := by decide +kernel
theorem d_Reader_readScript_17 : decode b_Reader_readScript 17 = .ok (.iconst 0, 1) := by decide +kernel
theorem d_Reader_readScript_18 : decode b_Reader_readScript 18 = .ok (.putfield 29, 3) := by decide +kernel
theorem d_Reader_readScript_21 : decode b_Reader_readScript 21 = .ok (.iconst 0, 1) := by decide +kernel
theorem d_Reader_readScript_22 : decode b_Reader_readScript 22 = .ok (.istore_n 3, 1) := by decide +kernel
theorem d_Reader_readScript_23 : decode b_Reader_readScript 23 = .ok (.iload_n 3, 1) := by decide +kernel
theorem d_Reader_readScript_24 : decode b_Reader_readScript 24 = .ok (.iload_n 2, 1) := by decide +kernel
theorem d_Reader_readScript_25 : decode b_Reader_readScript 25 = .ok (.if_icmp .gt 39, 3) := by decide +kernel
theorem d_Reader_readScript_28 : decode b_Reader_readScript 28 = .ok (.aload_n 0, 1) := by decide +kernel
theorem d_Reader_readScript_29 : decode b_Reader_readScript 29 = .ok (.invokevirtual 40, 3) := by decide +kernel
theorem d_Reader_readScript_32 : decode b_Reader_readScript 32 = .ok (.ifCond .ne 5, 3) := by decide +kernel
theorem d_Reader_readScript_35 : decode b_Reader_readScript 35 = .ok (.iconst 0, 1) := by decide +kernel
theorem d_Reader_readScript_36 : decode b_Reader_readScript 36 = .ok (.ireturn, 1) := by decide +kernel
theorem d_Reader_readScript_37 : decode b_Reader_readScript 37 = .ok (.aload_n 0, 1) := by decide +kernel
theorem d_Reader_readScript_38 : decode b_Reader_readScript 38 = .ok (.iconst 0, 1) := by decide +kernel
theorem d_Reader_readScript_39 : decode b_Reader_readScript 39 = .ok (.invokevirtual 44, 3) := by decide +kernel
theorem d_Reader_readScript_42 : decode b_Reader_readScript 42 = .ok (.ifCond .eq 5, 3) := by decide +kernel
theorem d_Reader_readScript_45 : decode b_Reader_readScript 45 = .ok (.iconst 1, 1) := by decide +kernel
theorem d_Reader_readScript_46 : decode b_Reader_readScript 46 = .ok (.ireturn, 1) := by decide +kernel
theorem d_Reader_readScript_47 : decode b_Reader_readScript 47 = .ok (.aload_n 0, 1) := by decide +kernel
theorem d_Reader_readScript_48 : decode b_Reader_readScript 48 = .ok (.bipush 59, 2) := by decide +kernel
theorem d_Reader_readScript_50 : decode b_Reader_readScript 50 = .ok (.invokevirtual 48, 3) := by decide +kernel
theorem d_Reader_readScript_53 : decode b_Reader_readScript 53 = .ok (.ifCond .ne 5, 3) := by decide +kernel
theorem d_Reader_readScript_56 : decode b_Reader_readScript 56 = .ok (.iconst 0, 1) := by decide +kernel
theorem d_Reader_readScript_57 : decode b_Reader_readScript 57 = .ok (.ireturn, 1) := by decide +kernel
theorem d_Reader_readScript_58 : decode b_Reader_readScript 58 = .ok (.iinc 3 1, 3) := by decide +kernel
theorem d_Reader_readScript_61 : decode b_Reader_readScript 61 = .ok (.goto (-38), 3) := by decide +kernel
theorem d_Reader_readScript_64 : decode b_Reader_readScript 64 = .ok (.iconst 0, 1) := by decide +kernel
theorem d_Reader_readScript_65 : decode b_Reader_readScript 65 = .ok (.ireturn, 1) := by decide +kernel
theorem d_Reader_readStatement_0 : decode b_Reader_readStatement 0 = .ok (.aload_n 0, 1) := by decide +kernel
theorem d_Reader_readStatement_1 : decode b_Reader_readStatement 1 = .ok (.getfield 12, 3) := by decide +kernel
theorem d_Reader_readStatement_4 : decode b_Reader_readStatement 4 = .ok (.getfield 52, 3) := by decide +kernel
theorem d_Reader_readStatement_7 : decode b_Reader_readStatement 7 = .ok (.aload_n 0, 1) := by decide +kernel
theorem d_Reader_readStatement_8 : decode b_Reader_readStatement 8 = .ok (.getfield 29, 3) := by decide +kernel
theorem d_Reader_readStatement_11 : decode b_Reader_readStatement 11 = .ok (.iaload, 1) := by decide +kernel
theorem d_Reader_readStatement_12 : decode b_Reader_readStatement 12 = .ok (.tableswitch 62 1 6 #[57, 62, 62, 40, 46, 52], 40) := by decide +kernel
theorem d_Reader_readStatement_52 : decode b_Reader_readStatement 52 = .ok (.aload_n 0, 1) := by decide +kernel
theorem d_Reader_readStatement_53 : decode b_Reader_readStatement 53 = .ok (.iconst 1, 1) := by decide +kernel
theorem d_Reader_readStatement_54 : decode b_Reader_readStatement 54 = .ok (.invokevirtual 55, 3) := by decide +kernel
theorem d_Reader_readStatement_57 : decode b_Reader_readStatement 57 = .ok (.ireturn, 1) := by decide +kernel
theorem d_Reader_readStatement_58 : decode b_Reader_readStatement 58 = .ok (.aload_n 0, 1) := by decide +kernel
theorem d_Reader_readStatement_59 : decode b_Reader_readStatement 59 = .ok (.iconst 0, 1) := by decide +kernel
theorem d_Reader_readStatement_60 : decode b_Reader_readStatement 60 = .ok (.invokevirtual 55, 3) := by decide +kernel
theorem d_Reader_readStatement_63 : decode b_Reader_readStatement 63 = .ok (.ireturn, 1) := by decide +kernel
theorem d_Reader_readStatement_64 : decode b_Reader_readStatement 64 = .ok (.aload_n 0, 1) := by decide +kernel
theorem d_Reader_readStatement_65 : decode b_Reader_readStatement 65 = .ok (.invokevirtual 59, 3) := by decide +kernel
theorem d_Reader_readStatement_68 : decode b_Reader_readStatement 68 = .ok (.ireturn, 1) := by decide +kernel
theorem d_Reader_readStatement_69 : decode b_Reader_readStatement 69 = .ok (.aload_n 0, 1) := by decide +kernel
theorem d_Reader_readStatement_70 : decode b_Reader_readStatement 70 = .ok (.invokevirtual 62, 3) := by decide +kernel
theorem d_Reader_readStatement_73 : decode b_Reader_readStatement 73 = .ok (.ireturn, 1) := by decide +kernel
theorem d_Reader_readStatement_74 : decode b_Reader_readStatement 74 = .ok (.iconst 0, 1) := by decide +kernel
theorem d_Reader_readStatement_75 : decode b_Reader_readStatement 75 = .ok (.ireturn, 1) := by decide +kernel
theorem d_Reader_readRow_0 : decode b_Reader_readRow 0 = .ok (.aload_n 0, 1) := by decide +kernel
theorem d_Reader_readRow_1 : decode b_Reader_readRow 1 = .ok (.dup, 1) := by decide +kernel
theorem d_Reader_readRow_2 : decode b_Reader_readRow 2 = .ok (.getfield 29, 3) := by decide +kernel
theorem d_Reader_readRow_5 : decode b_Reader_readRow 5 = .ok (.iconst 1, 1) := by decide +kernel
theorem d_Reader_readRow_6 : decode b_Reader_readRow 6 = .ok (.iadd, 1) := by decide +kernel
theorem d_Reader_readRow_7 : decode b_Reader_readRow 7 = .ok (.putfield 29, 3) := by decide +kernel
theorem d_Reader_readRow_10 : decode b_Reader_readRow 10 = .ok (.aload_n 0, 1) := by decide +kernel
theorem d_Reader_readRow_11 : decode b_Reader_readRow 11 = .ok (.iconst 1, 1) := by decide +kernel
theorem d_Reader_readRow_12 : decode b_Reader_readRow 12 = .ok (.invokevirtual 44, 3) := by decide +kernel
theorem d_Reader_readRow_15 : decode b_Reader_readRow 15 = .ok (.ifCond .ne 5, 3) := by decide +kernel
theorem d_Reader_readRow_18 : decode b_Reader_readRow 18 = .ok (.iconst 0, 1) := by decide +kernel
theorem d_Reader_readRow_19 : decode b_Reader_readRow 19 = .ok (.ireturn, 1) := by decide +kernel
theorem d_Reader_readRow_20 : decode b_Reader_readRow 20 = .ok (.aload_n 0, 1) := by decide +kernel
theorem d_Reader_readRow_21 : decode b_Reader_readRow 21 = .ok (.invokevirtual 65, 3) := by decide +kernel
theorem d_Reader_readRow_24 : decode b_Reader_readRow 24 = .ok (.istore_n 2, 1) := by decide +kernel
theorem d_Reader_readRow_25 : decode b_Reader_readRow 25 = .ok (.aload_n 0, 1) := by decide +kernel
theorem d_Reader_readRow_26 : decode b_Reader_readRow 26 = .ok (.iload_n 2, 1) := by decide +kernel
theorem d_Reader_readRow_27 : decode b_Reader_readRow 27 = .ok (.invokevirtual 69, 3) := by decide +kernel
theorem d_Reader_readRow_30 : decode b_Reader_readRow 30 = .ok (.ifCond .ne 5, 3) := by decide +kernel
theorem d_Reader_readRow_33 : decode b_Reader_readRow 33 = .ok (.iconst 0, 1) := by decide +kernel
theorem d_Reader_readRow_34 : decode b_Reader_readRow 34 = .ok (.ireturn, 1) := by decide +kernel
theorem d_Reader_readRow_35 : decode b_Reader_readRow 35 = .ok (.aload_n 0, 1) := by decide +kernel
theorem d_Reader_readRow_36 : decode b_Reader_readRow 36 = .ok (.getfield 12, 3) := by decide +kernel
theorem d_Reader_readRow_39 : decode b_Reader_readRow 39 = .ok (.getfield 72, 3) := by decide +kernel
theorem d_Reader_readRow_42 : decode b_Reader_readRow 42 = .ok (.aload_n 0, 1) := by decide +kernel
theorem d_Reader_readRow_43 : decode b_Reader_readRow 43 = .ok (.getfield 29, 3) := by decide +kernel
theorem d_Reader_readRow_46 : decode b_Reader_readRow 46 = .ok (.iaload, 1) := by decide +kernel
theorem d_Reader_readRow_47 : decode b_Reader_readRow 47 = .ok (.iload_n 2, 1) := by decide +kernel
theorem d_Reader_readRow_48 : decode b_Reader_readRow 48 = .ok (.isub, 1) := by decide +kernel
theorem d_Reader_readRow_49 : decode b_Reader_readRow 49 = .ok (.iconst 1, 1) := by decide +kernel
theorem d_Reader_readRow_50 : decode b_Reader_readRow 50 = .ok (.iadd, 1) := by decide +kernel
theorem d_Reader_readRow_51 : decode b_Reader_readRow 51 = .ok (.istore_n 3, 1) := by decide +kernel
theorem d_Reader_readRow_52 : decode b_Reader_readRow 52 = .ok (.iload_n 1, 1) := by decide +kernel
theorem d_Reader_readRow_53 : decode b_Reader_readRow 53 = .ok (.ifCond .eq 22, 3) := by decide +kernel
theorem d_Reader_readRow_56 : decode b_Reader_readRow 56 = .ok (.aload_n 0, 1) := by decide +kernel
theorem d_Reader_readRow_57 : decode b_Reader_readRow 57 = .ok (.getfield 21, 3) := by decide +kernel
theorem d_Reader_readRow_60 : decode b_Reader_readRow 60 = .ok (.iload_n 3, 1) := by decide +kernel
theorem d_Reader_readRow_61 : decode b_Reader_readRow 61 = .ok (.iload_n 3, 1) := by decide +kernel
theorem d_Reader_readRow_62 : decode b_Reader_readRow 62 = .ok (.iconst 1, 1) := by decide +kernel
theorem d_Reader_readRow_63 : decode b_Reader_readRow 63 = .ok (.isub, 1) := by decide +kernel
theorem d_Reader_readRow_64 : decode b_Reader_readRow 64 = .ok (.imul, 1) := by decide +kernel
theorem d_Reader_readRow_65 : decode b_Reader_readRow 65 = .ok (.iconst 2, 1) := by decide +kernel
theorem d_Reader_readRow_66 : decode b_Reader_readRow 66 = .ok (.idiv, 1) := by decide +kernel
theorem d_Reader_readRow_67 : decode b_Reader_readRow 67 = .ok (.invokevirtual 75, 3) := by decide +kernel
theorem d_Reader_readRow_70 : decode b_Reader_readRow 70 = .ok (.ifCond .ne 5, 3) := by decide +kernel
theorem d_Reader_readRow_73 : decode b_Reader_readRow 73 = .ok (.iconst 0, 1) := by decide +kernel
theorem d_Reader_readRow_74 : decode b_Reader_readRow 74 = .ok (.ireturn, 1) := by decide +kernel
theorem d_Reader_readRow_75 : decode b_Reader_readRow 75 = .ok (.aload_n 0, 1) := by decide +kernel
theorem d_Reader_readRow_76 : decode b_Reader_readRow 76 = .ok (.invokevirtual 65, 3) := by decide +kernel
theorem d_Reader_readRow_79 : decode b_Reader_readRow 79 = .ok (.istore 4, 2) := by decide +kernel
theorem d_Reader_readRow_81 : decode b_Reader_readRow 81 = .ok (.iload_n 1, 1) := by decide +kernel
theorem d_Reader_readRow_82 : decode b_Reader_readRow 82 = .ok (.ifCond .eq 16, 3) := by decide +kernel
theorem d_Reader_readRow_85 : decode b_Reader_readRow 85 = .ok (.aload_n 0, 1) := by decide +kernel
theorem d_Reader_readRow_86 : decode b_Reader_readRow 86 = .ok (.getfield 21, 3) := by decide +kernel
theorem d_Reader_readRow_89 : decode b_Reader_readRow 89 = .ok (.iload_n 2, 1) := by decide +kernel
theorem d_Reader_readRow_90 : decode b_Reader_readRow 90 = .ok (.iload 4, 2) := by decide +kernel
theorem d_Reader_readRow_92 : decode b_Reader_readRow 92 = .ok (.invokevirtual 78, 3) := by decide +kernel
theorem d_Reader_readRow_95 : decode b_Reader_readRow 95 = .ok (.goto 13, 3) := by decide +kernel
theorem d_Reader_readRow_98 : decode b_Reader_readRow 98 = .ok (.aload_n 0, 1) := by decide +kernel
theorem d_Reader_readRow_99 : decode b_Reader_readRow 99 = .ok (.getfield 21, 3) := by decide +kernel
theorem d_Reader_readRow_102 : decode b_Reader_readRow 102 = .ok (.iload_n 2, 1) := by decide +kernel
theorem d_Reader_readRow_103 : decode b_Reader_readRow 103 = .ok (.iload 4, 2) := by decide +kernel
theorem d_Reader_readRow_105 : decode b_Reader_readRow 105 = .ok (.invokevirtual 82, 3) := by decide +kernel
theorem d_Reader_readRow_108 : decode b_Reader_readRow 108 = .ok (.iconst 1, 1) := by decide +kernel
theorem d_Reader_readRow_109 : decode b_Reader_readRow 109 = .ok (.ireturn, 1) := by decide +kernel
theorem d_Reader_readOpen_0 : decode b_Reader_readOpen 0 = .ok (.aload_n 0, 1) := by decide +kernel
theorem d_Reader_readOpen_1 : decode b_Reader_readOpen 1 = .ok (.getfield 21, 3) := by decide +kernel
theorem d_Reader_readOpen_4 : decode b_Reader_readOpen 4 = .ok (.invokevirtual 85, 3) := by decide +kernel
theorem d_Reader_readOpen_7 : decode b_Reader_readOpen 7 = .ok (.ifCond .ne 5, 3) := by decide +kernel
theorem d_Reader_readOpen_10 : decode b_Reader_readOpen 10 = .ok (.iconst 0, 1) := by decide +kernel
theorem d_Reader_readOpen_11 : decode b_Reader_readOpen 11 = .ok (.ireturn, 1) := by decide +kernel
theorem d_Reader_readOpen_12 : decode b_Reader_readOpen 12 = .ok (.aload_n 0, 1) := by decide +kernel
theorem d_Reader_readOpen_13 : decode b_Reader_readOpen 13 = .ok (.dup, 1) := by decide +kernel
theorem d_Reader_readOpen_14 : decode b_Reader_readOpen 14 = .ok (.getfield 29, 3) := by decide +kernel
theorem d_Reader_readOpen_17 : decode b_Reader_readOpen 17 = .ok (.iconst 1, 1) := by decide +kernel
theorem d_Reader_readOpen_18 : decode b_Reader_readOpen 18 = .ok (.iadd, 1) := by decide +kernel
theorem d_Reader_readOpen_19 : decode b_Reader_readOpen 19 = .ok (.putfield 29, 3) := by decide +kernel
theorem d_Reader_readOpen_22 : decode b_Reader_readOpen 22 = .ok (.aload_n 0, 1) := by decide +kernel
theorem d_Reader_readOpen_23 : decode b_Reader_readOpen 23 = .ok (.iconst 1, 1) := by decide +kernel
theorem d_Reader_readOpen_24 : decode b_Reader_readOpen 24 = .ok (.invokevirtual 44, 3) := by decide +kernel
theorem d_Reader_readOpen_27 : decode b_Reader_readOpen 27 = .ok (.ifCond .ne 5, 3) := by decide +kernel
theorem d_Reader_readOpen_30 : decode b_Reader_readOpen 30 = .ok (.iconst 0, 1) := by decide +kernel
theorem d_Reader_readOpen_31 : decode b_Reader_readOpen 31 = .ok (.ireturn, 1) := by decide +kernel
theorem d_Reader_readOpen_32 : decode b_Reader_readOpen 32 = .ok (.aload_n 0, 1) := by decide +kernel
theorem d_Reader_readOpen_33 : decode b_Reader_readOpen 33 = .ok (.getfield 21, 3) := by decide +kernel
theorem d_Reader_readOpen_36 : decode b_Reader_readOpen 36 = .ok (.bipush 7, 2) := by decide +kernel
theorem d_Reader_readOpen_38 : decode b_Reader_readOpen 38 = .ok (.iconst 0, 1) := by decide +kernel
theorem d_Reader_readOpen_39 : decode b_Reader_readOpen 39 = .ok (.aload_n 0, 1) := by decide +kernel
theorem d_Reader_readOpen_40 : decode b_Reader_readOpen 40 = .ok (.invokevirtual 65, 3) := by decide +kernel
theorem d_Reader_readOpen_43 : decode b_Reader_readOpen 43 = .ok (.iconst 0, 1) := by decide +kernel
theorem d_Reader_readOpen_44 : decode b_Reader_readOpen 44 = .ok (.iconst 0, 1) := by decide +kernel
theorem d_Reader_readOpen_45 : decode b_Reader_readOpen 45 = .ok (.invokevirtual 88, 3) := by decide +kernel
theorem d_Reader_readOpen_48 : decode b_Reader_readOpen 48 = .ok (.iconst 1, 1) := by decide +kernel
theorem d_Reader_readOpen_49 : decode b_Reader_readOpen 49 = .ok (.ireturn, 1) := by decide +kernel
theorem d_Reader_readAssignment_0 : decode b_Reader_readAssignment 0 = .ok (.aload_n 0, 1) := by decide +kernel
theorem d_Reader_readAssignment_1 : decode b_Reader_readAssignment 1 = .ok (.invokevirtual 65, 3) := by decide +kernel
theorem d_Reader_readAssignment_4 : decode b_Reader_readAssignment 4 = .ok (.istore_n 1, 1) := by decide +kernel
theorem d_Reader_readAssignment_5 : decode b_Reader_readAssignment 5 = .ok (.aload_n 0, 1) := by decide +kernel
theorem d_Reader_readAssignment_6 : decode b_Reader_readAssignment 6 = .ok (.bipush 61, 2) := by decide +kernel
theorem d_Reader_readAssignment_8 : decode b_Reader_readAssignment 8 = .ok (.invokevirtual 48, 3) := by decide +kernel
theorem d_Reader_readAssignment_11 : decode b_Reader_readAssignment 11 = .ok (.ifCond .ne 5, 3) := by decide +kernel
theorem d_Reader_readAssignment_14 : decode b_Reader_readAssignment 14 = .ok (.iconst 0, 1) := by decide +kernel
theorem d_Reader_readAssignment_15 : decode b_Reader_readAssignment 15 = .ok (.ireturn, 1) := by decide +kernel
theorem d_Reader_readAssignment_16 : decode b_Reader_readAssignment 16 = .ok (.aload_n 0, 1) := by decide +kernel
theorem d_Reader_readAssignment_17 : decode b_Reader_readAssignment 17 = .ok (.invokevirtual 92, 3) := by decide +kernel
theorem d_Reader_readAssignment_20 : decode b_Reader_readAssignment 20 = .ok (.istore_n 2, 1) := by decide +kernel
theorem d_Reader_readAssignment_21 : decode b_Reader_readAssignment 21 = .ok (.iload_n 2, 1) := by decide +kernel
theorem d_Reader_readAssignment_22 : decode b_Reader_readAssignment 22 = .ok (.iconst (-1), 1) := by decide +kernel
theorem d_Reader_readAssignment_23 : decode b_Reader_readAssignment 23 = .ok (.if_icmp .ne 5, 3) := by decide +kernel
theorem d_Reader_readAssignment_26 : decode b_Reader_readAssignment 26 = .ok (.iconst 0, 1) := by decide +kernel
theorem d_Reader_readAssignment_27 : decode b_Reader_readAssignment 27 = .ok (.ireturn, 1) := by decide +kernel
theorem d_Reader_readAssignment_28 : decode b_Reader_readAssignment 28 = .ok (.aload_n 0, 1) := by decide +kernel
theorem d_Reader_readAssignment_29 : decode b_Reader_readAssignment 29 = .ok (.bipush 63, 2) := by decide +kernel
theorem d_Reader_readAssignment_31 : decode b_Reader_readAssignment 31 = .ok (.invokevirtual 95, 3) := by decide +kernel
theorem d_Reader_readAssignment_34 : decode b_Reader_readAssignment 34 = .ok (.ifCond .eq 10, 3) := by decide +kernel
theorem d_Reader_readAssignment_37 : decode b_Reader_readAssignment 37 = .ok (.aload_n 0, 1) := by decide +kernel
theorem d_Reader_readAssignment_38 : decode b_Reader_readAssignment 38 = .ok (.iload_n 1, 1) := by decide +kernel
theorem d_Reader_readAssignment_39 : decode b_Reader_readAssignment 39 = .ok (.iload_n 2, 1) := by decide +kernel
theorem d_Reader_readAssignment_40 : decode b_Reader_readAssignment 40 = .ok (.invokevirtual 98, 3) := by decide +kernel
theorem d_Reader_readAssignment_43 : decode b_Reader_readAssignment 43 = .ok (.ireturn, 1) := by decide +kernel
theorem d_Reader_readAssignment_44 : decode b_Reader_readAssignment 44 = .ok (.aload_n 0, 1) := by decide +kernel
theorem d_Reader_readAssignment_45 : decode b_Reader_readAssignment 45 = .ok (.invokevirtual 102, 3) := by decide +kernel
theorem d_Reader_readAssignment_48 : decode b_Reader_readAssignment 48 = .ok (.istore_n 3, 1) := by decide +kernel
theorem d_Reader_readAssignment_49 : decode b_Reader_readAssignment 49 = .ok (.iload_n 3, 1) := by decide +kernel
theorem d_Reader_readAssignment_50 : decode b_Reader_readAssignment 50 = .ok (.ifCond .eq 11, 3) := by decide +kernel
theorem d_Reader_readAssignment_53 : decode b_Reader_readAssignment 53 = .ok (.aload_n 0, 1) := by decide +kernel
theorem d_Reader_readAssignment_54 : decode b_Reader_readAssignment 54 = .ok (.iload_n 3, 1) := by decide +kernel
theorem d_Reader_readAssignment_55 : decode b_Reader_readAssignment 55 = .ok (.iload_n 1, 1) := by decide +kernel
theorem d_Reader_readAssignment_56 : decode b_Reader_readAssignment 56 = .ok (.iload_n 2, 1) := by decide +kernel
theorem d_Reader_readAssignment_57 : decode b_Reader_readAssignment 57 = .ok (.invokevirtual 105, 3) := by decide +kernel
theorem d_Reader_readAssignment_60 : decode b_Reader_readAssignment 60 = .ok (.ireturn, 1) := by decide +kernel
theorem d_Reader_readAssignment_61 : decode b_Reader_readAssignment 61 = .ok (.aload_n 0, 1) := by decide +kernel
theorem d_Reader_readAssignment_62 : decode b_Reader_readAssignment 62 = .ok (.getfield 21, 3) := by decide +kernel
theorem d_Reader_readAssignment_65 : decode b_Reader_readAssignment 65 = .ok (.iload_n 3, 1) := by decide +kernel
theorem d_Reader_readAssignment_66 : decode b_Reader_readAssignment 66 = .ok (.iload_n 1, 1) := by decide +kernel
theorem d_Reader_readAssignment_67 : decode b_Reader_readAssignment 67 = .ok (.iload_n 2, 1) := by decide +kernel
theorem d_Reader_readAssignment_68 : decode b_Reader_readAssignment 68 = .ok (.iconst 0, 1) := by decide +kernel
theorem d_Reader_readAssignment_69 : decode b_Reader_readAssignment 69 = .ok (.iconst 0, 1) := by decide +kernel
theorem d_Reader_readAssignment_70 : decode b_Reader_readAssignment 70 = .ok (.invokevirtual 88, 3) := by decide +kernel
theorem d_Reader_readAssignment_73 : decode b_Reader_readAssignment 73 = .ok (.iconst 1, 1) := by decide +kernel
theorem d_Reader_readAssignment_74 : decode b_Reader_readAssignment 74 = .ok (.ireturn, 1) := by decide +kernel
theorem d_Reader_readSecond_0 : decode b_Reader_readSecond 0 = .ok (.iload_n 1, 1) := by decide +kernel
theorem d_Reader_readSecond_1 : decode b_Reader_readSecond 1 = .ok (.iconst 4, 1) := by decide +kernel
theorem d_Reader_readSecond_2 : decode b_Reader_readSecond 2 = .ok (.if_icmp .ne 16, 3) := by decide +kernel
theorem d_Reader_readSecond_5 : decode b_Reader_readSecond 5 = .ok (.aload_n 0, 1) := by decide +kernel
theorem d_Reader_readSecond_6 : decode b_Reader_readSecond 6 = .ok (.getfield 21, 3) := by decide +kernel
theorem d_Reader_readSecond_9 : decode b_Reader_readSecond 9 = .ok (.iconst 1, 1) := by decide +kernel
theorem d_Reader_readSecond_10 : decode b_Reader_readSecond 10 = .ok (.invokevirtual 75, 3) := by decide +kernel
theorem d_Reader_readSecond_13 : decode b_Reader_readSecond 13 = .ok (.ifCond .ne 5, 3) := by decide +kernel
theorem d_Reader_readSecond_16 : decode b_Reader_readSecond 16 = .ok (.iconst 0, 1) := by decide +kernel
theorem d_Reader_readSecond_17 : decode b_Reader_readSecond 17 = .ok (.ireturn, 1) := by decide +kernel
theorem d_Reader_readSecond_18 : decode b_Reader_readSecond 18 = .ok (.aload_n 0, 1) := by decide +kernel
theorem d_Reader_readSecond_19 : decode b_Reader_readSecond 19 = .ok (.dup, 1) := by decide +kernel
theorem d_Reader_readSecond_20 : decode b_Reader_readSecond 20 = .ok (.getfield 29, 3) := by decide +kernel
theorem d_Reader_readSecond_23 : decode b_Reader_readSecond 23 = .ok (.iconst 1, 1) := by decide +kernel
theorem d_Reader_readSecond_24 : decode b_Reader_readSecond 24 = .ok (.iadd, 1) := by decide +kernel
theorem d_Reader_readSecond_25 : decode b_Reader_readSecond 25 = .ok (.putfield 29, 3) := by decide +kernel
theorem d_Reader_readSecond_28 : decode b_Reader_readSecond 28 = .ok (.aload_n 0, 1) := by decide +kernel
theorem d_Reader_readSecond_29 : decode b_Reader_readSecond 29 = .ok (.invokevirtual 92, 3) := by decide +kernel
theorem d_Reader_readSecond_32 : decode b_Reader_readSecond 32 = .ok (.istore 4, 2) := by decide +kernel
theorem d_Reader_readSecond_34 : decode b_Reader_readSecond 34 = .ok (.iload 4, 2) := by decide +kernel
theorem d_Reader_readSecond_36 : decode b_Reader_readSecond 36 = .ok (.iconst (-1), 1) := by decide +kernel
theorem d_Reader_readSecond_37 : decode b_Reader_readSecond 37 = .ok (.if_icmp .ne 5, 3) := by decide +kernel
theorem d_Reader_readSecond_40 : decode b_Reader_readSecond 40 = .ok (.iconst 0, 1) := by decide +kernel
theorem d_Reader_readSecond_41 : decode b_Reader_readSecond 41 = .ok (.ireturn, 1) := by decide +kernel
theorem d_Reader_readSecond_42 : decode b_Reader_readSecond 42 = .ok (.aload_n 0, 1) := by decide +kernel
theorem d_Reader_readSecond_43 : decode b_Reader_readSecond 43 = .ok (.getfield 21, 3) := by decide +kernel
theorem d_Reader_readSecond_46 : decode b_Reader_readSecond 46 = .ok (.iload_n 1, 1) := by decide +kernel
theorem d_Reader_readSecond_47 : decode b_Reader_readSecond 47 = .ok (.iload_n 2, 1) := by decide +kernel
theorem d_Reader_readSecond_48 : decode b_Reader_readSecond 48 = .ok (.iload_n 3, 1) := by decide +kernel
theorem d_Reader_readSecond_49 : decode b_Reader_readSecond 49 = .ok (.iload 4, 2) := by decide +kernel
theorem d_Reader_readSecond_51 : decode b_Reader_readSecond 51 = .ok (.iconst 0, 1) := by decide +kernel
theorem d_Reader_readSecond_52 : decode b_Reader_readSecond 52 = .ok (.invokevirtual 88, 3) := by decide +kernel
theorem d_Reader_readSecond_55 : decode b_Reader_readSecond 55 = .ok (.iconst 1, 1) := by decide +kernel
theorem d_Reader_readSecond_56 : decode b_Reader_readSecond 56 = .ok (.ireturn, 1) := by decide +kernel
theorem d_Reader_readChoice_0 : decode b_Reader_readChoice 0 = .ok (.aload_n 0, 1) := by decide +kernel
theorem d_Reader_readChoice_1 : decode b_Reader_readChoice 1 = .ok (.getfield 21, 3) := by decide +kernel
theorem d_Reader_readChoice_4 : decode b_Reader_readChoice 4 = .ok (.iconst 1, 1) := by decide +kernel
theorem d_Reader_readChoice_5 : decode b_Reader_readChoice 5 = .ok (.invokevirtual 75, 3) := by decide +kernel
theorem d_Reader_readChoice_8 : decode b_Reader_readChoice 8 = .ok (.ifCond .ne 5, 3) := by decide +kernel
theorem d_Reader_readChoice_11 : decode b_Reader_readChoice 11 = .ok (.iconst 0, 1) := by decide +kernel
theorem d_Reader_readChoice_12 : decode b_Reader_readChoice 12 = .ok (.ireturn, 1) := by decide +kernel
theorem d_Reader_readChoice_13 : decode b_Reader_readChoice 13 = .ok (.aload_n 0, 1) := by decide +kernel
theorem d_Reader_readChoice_14 : decode b_Reader_readChoice 14 = .ok (.dup, 1) := by decide +kernel
theorem d_Reader_readChoice_15 : decode b_Reader_readChoice 15 = .ok (.getfield 29, 3) := by decide +kernel
theorem d_Reader_readChoice_18 : decode b_Reader_readChoice 18 = .ok (.iconst 1, 1) := by decide +kernel
theorem d_Reader_readChoice_19 : decode b_Reader_readChoice 19 = .ok (.iadd, 1) := by decide +kernel
theorem d_Reader_readChoice_20 : decode b_Reader_readChoice 20 = .ok (.putfield 29, 3) := by decide +kernel
theorem d_Reader_readChoice_23 : decode b_Reader_readChoice 23 = .ok (.aload_n 0, 1) := by decide +kernel
theorem d_Reader_readChoice_24 : decode b_Reader_readChoice 24 = .ok (.invokevirtual 92, 3) := by decide +kernel
theorem d_Reader_readChoice_27 : decode b_Reader_readChoice 27 = .ok (.istore_n 3, 1) := by decide +kernel
theorem d_Reader_readChoice_28 : decode b_Reader_readChoice 28 = .ok (.iload_n 3, 1) := by decide +kernel
theorem d_Reader_readChoice_29 : decode b_Reader_readChoice 29 = .ok (.iconst (-1), 1) := by decide +kernel
theorem d_Reader_readChoice_30 : decode b_Reader_readChoice 30 = .ok (.if_icmp .eq 12, 3) := by decide +kernel
theorem d_Reader_readChoice_33 : decode b_Reader_readChoice 33 = .ok (.aload_n 0, 1) := by decide +kernel
theorem d_Reader_readChoice_34 : decode b_Reader_readChoice 34 = .ok (.bipush 58, 2) := by decide +kernel
theorem d_Reader_readChoice_36 : decode b_Reader_readChoice 36 = .ok (.invokevirtual 48, 3) := by decide +kernel
theorem d_Reader_readChoice_39 : decode b_Reader_readChoice 39 = .ok (.ifCond .ne 5, 3) := by decide +kernel
theorem d_Reader_readChoice_42 : decode b_Reader_readChoice 42 = .ok (.iconst 0, 1) := by decide +kernel
theorem d_Reader_readChoice_43 : decode b_Reader_readChoice 43 = .ok (.ireturn, 1) := by decide +kernel
theorem d_Reader_readChoice_44 : decode b_Reader_readChoice 44 = .ok (.aload_n 0, 1) := by decide +kernel
theorem d_Reader_readChoice_45 : decode b_Reader_readChoice 45 = .ok (.invokevirtual 92, 3) := by decide +kernel
theorem d_Reader_readChoice_48 : decode b_Reader_readChoice 48 = .ok (.istore 4, 2) := by decide +kernel
theorem d_Reader_readChoice_50 : decode b_Reader_readChoice 50 = .ok (.iload 4, 2) := by decide +kernel
theorem d_Reader_readChoice_52 : decode b_Reader_readChoice 52 = .ok (.iconst (-1), 1) := by decide +kernel
theorem d_Reader_readChoice_53 : decode b_Reader_readChoice 53 = .ok (.if_icmp .ne 5, 3) := by decide +kernel
theorem d_Reader_readChoice_56 : decode b_Reader_readChoice 56 = .ok (.iconst 0, 1) := by decide +kernel
theorem d_Reader_readChoice_57 : decode b_Reader_readChoice 57 = .ok (.ireturn, 1) := by decide +kernel
theorem d_Reader_readChoice_58 : decode b_Reader_readChoice 58 = .ok (.aload_n 0, 1) := by decide +kernel
theorem d_Reader_readChoice_59 : decode b_Reader_readChoice 59 = .ok (.getfield 21, 3) := by decide +kernel
theorem d_Reader_readChoice_62 : decode b_Reader_readChoice 62 = .ok (.iconst 5, 1) := by decide +kernel
theorem d_Reader_readChoice_63 : decode b_Reader_readChoice 63 = .ok (.iload_n 1, 1) := by decide +kernel
theorem d_Reader_readChoice_64 : decode b_Reader_readChoice 64 = .ok (.iload_n 2, 1) := by decide +kernel
theorem d_Reader_readChoice_65 : decode b_Reader_readChoice 65 = .ok (.iload_n 3, 1) := by decide +kernel
theorem d_Reader_readChoice_66 : decode b_Reader_readChoice 66 = .ok (.iload 4, 2) := by decide +kernel
theorem d_Reader_readChoice_68 : decode b_Reader_readChoice 68 = .ok (.invokevirtual 88, 3) := by decide +kernel
theorem d_Reader_readChoice_71 : decode b_Reader_readChoice 71 = .ok (.iconst 1, 1) := by decide +kernel
theorem d_Reader_readChoice_72 : decode b_Reader_readChoice 72 = .ok (.ireturn, 1) := by decide +kernel
theorem d_Reader_readValue_0 : decode b_Reader_readValue 0 = .ok (.aload_n 0, 1) := by decide +kernel
theorem d_Reader_readValue_1 : decode b_Reader_readValue 1 = .ok (.iconst 1, 1) := by decide +kernel
theorem d_Reader_readValue_2 : decode b_Reader_readValue 2 = .ok (.invokevirtual 44, 3) := by decide +kernel
theorem d_Reader_readValue_5 : decode b_Reader_readValue 5 = .ok (.ifCond .eq 8, 3) := by decide +kernel
theorem d_Reader_readValue_8 : decode b_Reader_readValue 8 = .ok (.aload_n 0, 1) := by decide +kernel
theorem d_Reader_readValue_9 : decode b_Reader_readValue 9 = .ok (.invokevirtual 65, 3) := by decide +kernel
theorem d_Reader_readValue_12 : decode b_Reader_readValue 12 = .ok (.ireturn, 1) := by decide +kernel
theorem d_Reader_readValue_13 : decode b_Reader_readValue 13 = .ok (.aload_n 0, 1) := by decide +kernel
theorem d_Reader_readValue_14 : decode b_Reader_readValue 14 = .ok (.iconst 2, 1) := by decide +kernel
theorem d_Reader_readValue_15 : decode b_Reader_readValue 15 = .ok (.invokevirtual 44, 3) := by decide +kernel
theorem d_Reader_readValue_18 : decode b_Reader_readValue 18 = .ok (.ifCond .eq 11, 3) := by decide +kernel
theorem d_Reader_readValue_21 : decode b_Reader_readValue 21 = .ok (.bipush 34, 2) := by decide +kernel
theorem d_Reader_readValue_23 : decode b_Reader_readValue 23 = .ok (.aload_n 0, 1) := by decide +kernel
theorem d_Reader_readValue_24 : decode b_Reader_readValue 24 = .ok (.invokevirtual 65, 3) := by decide +kernel
theorem d_Reader_readValue_27 : decode b_Reader_readValue 27 = .ok (.iadd, 1) := by decide +kernel
theorem d_Reader_readValue_28 : decode b_Reader_readValue 28 = .ok (.ireturn, 1) := by decide +kernel
theorem d_Reader_readValue_29 : decode b_Reader_readValue 29 = .ok (.aload_n 0, 1) := by decide +kernel
theorem d_Reader_readValue_30 : decode b_Reader_readValue 30 = .ok (.bipush 36, 2) := by decide +kernel
theorem d_Reader_readValue_32 : decode b_Reader_readValue 32 = .ok (.invokevirtual 48, 3) := by decide +kernel
theorem d_Reader_readValue_35 : decode b_Reader_readValue 35 = .ok (.ifCond .eq 28, 3) := by decide +kernel
theorem d_Reader_readValue_38 : decode b_Reader_readValue 38 = .ok (.aload_n 0, 1) := by decide +kernel
theorem d_Reader_readValue_39 : decode b_Reader_readValue 39 = .ok (.iconst 2, 1) := by decide +kernel
theorem d_Reader_readValue_40 : decode b_Reader_readValue 40 = .ok (.invokevirtual 44, 3) := by decide +kernel
theorem d_Reader_readValue_43 : decode b_Reader_readValue 43 = .ok (.ifCond .eq 20, 3) := by decide +kernel
theorem d_Reader_readValue_46 : decode b_Reader_readValue 46 = .ok (.aload_n 0, 1) := by decide +kernel
theorem d_Reader_readValue_47 : decode b_Reader_readValue 47 = .ok (.getfield 12, 3) := by decide +kernel
theorem d_Reader_readValue_50 : decode b_Reader_readValue 50 = .ok (.getfield 72, 3) := by decide +kernel
theorem d_Reader_readValue_53 : decode b_Reader_readValue 53 = .ok (.aload_n 0, 1) := by decide +kernel
theorem d_Reader_readValue_54 : decode b_Reader_readValue 54 = .ok (.getfield 29, 3) := by decide +kernel
theorem d_Reader_readValue_57 : decode b_Reader_readValue 57 = .ok (.iaload, 1) := by decide +kernel
theorem d_Reader_readValue_58 : decode b_Reader_readValue 58 = .ok (.bipush 8, 2) := by decide +kernel
theorem d_Reader_readValue_60 : decode b_Reader_readValue 60 = .ok (.if_icmp .lt 5, 3) := by decide +kernel
theorem d_Reader_readValue_63 : decode b_Reader_readValue 63 = .ok (.iconst (-1), 1) := by decide +kernel
theorem d_Reader_readValue_64 : decode b_Reader_readValue 64 = .ok (.ireturn, 1) := by decide +kernel
theorem d_Reader_readValue_65 : decode b_Reader_readValue 65 = .ok (.aload_n 0, 1) := by decide +kernel
theorem d_Reader_readValue_66 : decode b_Reader_readValue 66 = .ok (.invokevirtual 65, 3) := by decide +kernel
theorem d_Reader_readValue_69 : decode b_Reader_readValue 69 = .ok (.istore_n 1, 1) := by decide +kernel
theorem d_Reader_readValue_70 : decode b_Reader_readValue 70 = .ok (.aload_n 0, 1) := by decide +kernel
theorem d_Reader_readValue_71 : decode b_Reader_readValue 71 = .ok (.getfield 21, 3) := by decide +kernel
theorem d_Reader_readValue_74 : decode b_Reader_readValue 74 = .ok (.iload_n 1, 1) := by decide +kernel
theorem d_Reader_readValue_75 : decode b_Reader_readValue 75 = .ok (.invokevirtual 109, 3) := by decide +kernel
theorem d_Reader_readValue_78 : decode b_Reader_readValue 78 = .ok (.bipush 26, 2) := by decide +kernel
theorem d_Reader_readValue_80 : decode b_Reader_readValue 80 = .ok (.iload_n 1, 1) := by decide +kernel
theorem d_Reader_readValue_81 : decode b_Reader_readValue 81 = .ok (.iadd, 1) := by decide +kernel
theorem d_Reader_readValue_82 : decode b_Reader_readValue 82 = .ok (.ireturn, 1) := by decide +kernel
theorem d_Reader_kindOfSign_0 : decode b_Reader_kindOfSign 0 = .ok (.aload_n 0, 1) := by decide +kernel
theorem d_Reader_kindOfSign_1 : decode b_Reader_kindOfSign 1 = .ok (.bipush 43, 2) := by decide +kernel
theorem d_Reader_kindOfSign_3 : decode b_Reader_kindOfSign 3 = .ok (.invokevirtual 95, 3) := by decide +kernel
theorem d_Reader_kindOfSign_6 : decode b_Reader_kindOfSign 6 = .ok (.ifCond .eq 5, 3) := by decide +kernel
theorem d_Reader_kindOfSign_9 : decode b_Reader_kindOfSign 9 = .ok (.iconst 1, 1) := by decide +kernel
theorem d_Reader_kindOfSign_10 : decode b_Reader_kindOfSign 10 = .ok (.ireturn, 1) := by decide +kernel
theorem d_Reader_kindOfSign_11 : decode b_Reader_kindOfSign 11 = .ok (.aload_n 0, 1) := by decide +kernel
theorem d_Reader_kindOfSign_12 : decode b_Reader_kindOfSign 12 = .ok (.bipush 45, 2) := by decide +kernel
theorem d_Reader_kindOfSign_14 : decode b_Reader_kindOfSign 14 = .ok (.invokevirtual 95, 3) := by decide +kernel
theorem d_Reader_kindOfSign_17 : decode b_Reader_kindOfSign 17 = .ok (.ifCond .eq 5, 3) := by decide +kernel
theorem d_Reader_kindOfSign_20 : decode b_Reader_kindOfSign 20 = .ok (.iconst 2, 1) := by decide +kernel
theorem d_Reader_kindOfSign_21 : decode b_Reader_kindOfSign 21 = .ok (.ireturn, 1) := by decide +kernel
theorem d_Reader_kindOfSign_22 : decode b_Reader_kindOfSign 22 = .ok (.aload_n 0, 1) := by decide +kernel
theorem d_Reader_kindOfSign_23 : decode b_Reader_kindOfSign 23 = .ok (.bipush 42, 2) := by decide +kernel
theorem d_Reader_kindOfSign_25 : decode b_Reader_kindOfSign 25 = .ok (.invokevirtual 95, 3) := by decide +kernel
theorem d_Reader_kindOfSign_28 : decode b_Reader_kindOfSign 28 = .ok (.ifCond .eq 5, 3) := by decide +kernel
theorem d_Reader_kindOfSign_31 : decode b_Reader_kindOfSign 31 = .ok (.iconst 3, 1) := by decide +kernel
theorem d_Reader_kindOfSign_32 : decode b_Reader_kindOfSign 32 = .ok (.ireturn, 1) := by decide +kernel
theorem d_Reader_kindOfSign_33 : decode b_Reader_kindOfSign 33 = .ok (.aload_n 0, 1) := by decide +kernel
theorem d_Reader_kindOfSign_34 : decode b_Reader_kindOfSign 34 = .ok (.bipush 60, 2) := by decide +kernel
theorem d_Reader_kindOfSign_36 : decode b_Reader_kindOfSign 36 = .ok (.invokevirtual 95, 3) := by decide +kernel
theorem d_Reader_kindOfSign_39 : decode b_Reader_kindOfSign 39 = .ok (.ifCond .eq 7, 3) := by decide +kernel
theorem d_Reader_kindOfSign_42 : decode b_Reader_kindOfSign 42 = .ok (.iconst 4, 1) := by decide +kernel
theorem d_Reader_kindOfSign_43 : decode b_Reader_kindOfSign 43 = .ok (.goto 4, 3) := by decide +kernel
theorem d_Reader_kindOfSign_46 : decode b_Reader_kindOfSign 46 = .ok (.iconst 0, 1) := by decide +kernel
theorem d_Reader_kindOfSign_47 : decode b_Reader_kindOfSign 47 = .ok (.ireturn, 1) := by decide +kernel
theorem d_Reader_is_0 : decode b_Reader_is 0 = .ok (.aload_n 0, 1) := by decide +kernel
theorem d_Reader_is_1 : decode b_Reader_is 1 = .ok (.getfield 12, 3) := by decide +kernel
theorem d_Reader_is_4 : decode b_Reader_is 4 = .ok (.getfield 52, 3) := by decide +kernel
theorem d_Reader_is_7 : decode b_Reader_is 7 = .ok (.aload_n 0, 1) := by decide +kernel
theorem d_Reader_is_8 : decode b_Reader_is 8 = .ok (.getfield 29, 3) := by decide +kernel
theorem d_Reader_is_11 : decode b_Reader_is 11 = .ok (.iaload, 1) := by decide +kernel
theorem d_Reader_is_12 : decode b_Reader_is 12 = .ok (.iload_n 1, 1) := by decide +kernel
theorem d_Reader_is_13 : decode b_Reader_is 13 = .ok (.if_icmp .ne 7, 3) := by decide +kernel
theorem d_Reader_is_16 : decode b_Reader_is 16 = .ok (.iconst 1, 1) := by decide +kernel
theorem d_Reader_is_17 : decode b_Reader_is 17 = .ok (.goto 4, 3) := by decide +kernel
theorem d_Reader_is_20 : decode b_Reader_is 20 = .ok (.iconst 0, 1) := by decide +kernel
theorem d_Reader_is_21 : decode b_Reader_is 21 = .ok (.ireturn, 1) := by decide +kernel
theorem d_Reader_take_0 : decode b_Reader_take 0 = .ok (.aload_n 0, 1) := by decide +kernel
theorem d_Reader_take_1 : decode b_Reader_take 1 = .ok (.getfield 12, 3) := by decide +kernel
theorem d_Reader_take_4 : decode b_Reader_take 4 = .ok (.getfield 72, 3) := by decide +kernel
theorem d_Reader_take_7 : decode b_Reader_take 7 = .ok (.aload_n 0, 1) := by decide +kernel
theorem d_Reader_take_8 : decode b_Reader_take 8 = .ok (.getfield 29, 3) := by decide +kernel
theorem d_Reader_take_11 : decode b_Reader_take 11 = .ok (.iaload, 1) := by decide +kernel
theorem d_Reader_take_12 : decode b_Reader_take 12 = .ok (.istore_n 1, 1) := by decide +kernel
theorem d_Reader_take_13 : decode b_Reader_take 13 = .ok (.aload_n 0, 1) := by decide +kernel
theorem d_Reader_take_14 : decode b_Reader_take 14 = .ok (.dup, 1) := by decide +kernel
theorem d_Reader_take_15 : decode b_Reader_take 15 = .ok (.getfield 29, 3) := by decide +kernel
theorem d_Reader_take_18 : decode b_Reader_take 18 = .ok (.iconst 1, 1) := by decide +kernel
theorem d_Reader_take_19 : decode b_Reader_take 19 = .ok (.iadd, 1) := by decide +kernel
theorem d_Reader_take_20 : decode b_Reader_take 20 = .ok (.putfield 29, 3) := by decide +kernel
theorem d_Reader_take_23 : decode b_Reader_take 23 = .ok (.iload_n 1, 1) := by decide +kernel
theorem d_Reader_take_24 : decode b_Reader_take 24 = .ok (.ireturn, 1) := by decide +kernel
theorem d_Reader_isSign_0 : decode b_Reader_isSign 0 = .ok (.aload_n 0, 1) := by decide +kernel
theorem d_Reader_isSign_1 : decode b_Reader_isSign 1 = .ok (.getfield 12, 3) := by decide +kernel
theorem d_Reader_isSign_4 : decode b_Reader_isSign 4 = .ok (.getfield 52, 3) := by decide +kernel
theorem d_Reader_isSign_7 : decode b_Reader_isSign 7 = .ok (.aload_n 0, 1) := by decide +kernel
theorem d_Reader_isSign_8 : decode b_Reader_isSign 8 = .ok (.getfield 29, 3) := by decide +kernel
theorem d_Reader_isSign_11 : decode b_Reader_isSign 11 = .ok (.iaload, 1) := by decide +kernel
theorem d_Reader_isSign_12 : decode b_Reader_isSign 12 = .ok (.iconst 3, 1) := by decide +kernel
theorem d_Reader_isSign_13 : decode b_Reader_isSign 13 = .ok (.if_icmp .ne 23, 3) := by decide +kernel
theorem d_Reader_isSign_16 : decode b_Reader_isSign 16 = .ok (.aload_n 0, 1) := by decide +kernel
theorem d_Reader_isSign_17 : decode b_Reader_isSign 17 = .ok (.getfield 12, 3) := by decide +kernel
theorem d_Reader_isSign_20 : decode b_Reader_isSign 20 = .ok (.getfield 72, 3) := by decide +kernel
theorem d_Reader_isSign_23 : decode b_Reader_isSign 23 = .ok (.aload_n 0, 1) := by decide +kernel
theorem d_Reader_isSign_24 : decode b_Reader_isSign 24 = .ok (.getfield 29, 3) := by decide +kernel
theorem d_Reader_isSign_27 : decode b_Reader_isSign 27 = .ok (.iaload, 1) := by decide +kernel
theorem d_Reader_isSign_28 : decode b_Reader_isSign 28 = .ok (.iload_n 1, 1) := by decide +kernel
theorem d_Reader_isSign_29 : decode b_Reader_isSign 29 = .ok (.if_icmp .ne 7, 3) := by decide +kernel
theorem d_Reader_isSign_32 : decode b_Reader_isSign 32 = .ok (.iconst 1, 1) := by decide +kernel
theorem d_Reader_isSign_33 : decode b_Reader_isSign 33 = .ok (.goto 4, 3) := by decide +kernel
theorem d_Reader_isSign_36 : decode b_Reader_isSign 36 = .ok (.iconst 0, 1) := by decide +kernel
theorem d_Reader_isSign_37 : decode b_Reader_isSign 37 = .ok (.ireturn, 1) := by decide +kernel
theorem d_Reader_takeSign_0 : decode b_Reader_takeSign 0 = .ok (.aload_n 0, 1) := by decide +kernel
theorem d_Reader_takeSign_1 : decode b_Reader_takeSign 1 = .ok (.iload_n 1, 1) := by decide +kernel
theorem d_Reader_takeSign_2 : decode b_Reader_takeSign 2 = .ok (.invokevirtual 95, 3) := by decide +kernel
theorem d_Reader_takeSign_5 : decode b_Reader_takeSign 5 = .ok (.ifCond .ne 5, 3) := by decide +kernel
theorem d_Reader_takeSign_8 : decode b_Reader_takeSign 8 = .ok (.iconst 0, 1) := by decide +kernel
theorem d_Reader_takeSign_9 : decode b_Reader_takeSign 9 = .ok (.ireturn, 1) := by decide +kernel
theorem d_Reader_takeSign_10 : decode b_Reader_takeSign 10 = .ok (.aload_n 0, 1) := by decide +kernel
theorem d_Reader_takeSign_11 : decode b_Reader_takeSign 11 = .ok (.dup, 1) := by decide +kernel
theorem d_Reader_takeSign_12 : decode b_Reader_takeSign 12 = .ok (.getfield 29, 3) := by decide +kernel
theorem d_Reader_takeSign_15 : decode b_Reader_takeSign 15 = .ok (.iconst 1, 1) := by decide +kernel
theorem d_Reader_takeSign_16 : decode b_Reader_takeSign 16 = .ok (.iadd, 1) := by decide +kernel
theorem d_Reader_takeSign_17 : decode b_Reader_takeSign 17 = .ok (.putfield 29, 3) := by decide +kernel
theorem d_Reader_takeSign_20 : decode b_Reader_takeSign 20 = .ok (.iconst 1, 1) := by decide +kernel
theorem d_Reader_takeSign_21 : decode b_Reader_takeSign 21 = .ok (.ireturn, 1) := by decide +kernel
theorem d_Reader_endsRowFrom_0 : decode b_Reader_endsRowFrom 0 = .ok (.aload_n 0, 1) := by decide +kernel
theorem d_Reader_endsRowFrom_1 : decode b_Reader_endsRowFrom 1 = .ok (.getfield 12, 3) := by decide +kernel
theorem d_Reader_endsRowFrom_4 : decode b_Reader_endsRowFrom 4 = .ok (.getfield 72, 3) := by decide +kernel
theorem d_Reader_endsRowFrom_7 : decode b_Reader_endsRowFrom 7 = .ok (.aload_n 0, 1) := by decide +kernel
theorem d_Reader_endsRowFrom_8 : decode b_Reader_endsRowFrom 8 = .ok (.getfield 29, 3) := by decide +kernel
theorem d_Reader_endsRowFrom_11 : decode b_Reader_endsRowFrom 11 = .ok (.iaload, 1) := by decide +kernel
theorem d_Reader_endsRowFrom_12 : decode b_Reader_endsRowFrom 12 = .ok (.iload_n 1, 1) := by decide +kernel
theorem d_Reader_endsRowFrom_13 : decode b_Reader_endsRowFrom 13 = .ok (.isub, 1) := by decide +kernel
theorem d_Reader_endsRowFrom_14 : decode b_Reader_endsRowFrom 14 = .ok (.istore_n 2, 1) := by decide +kernel
theorem d_Reader_endsRowFrom_15 : decode b_Reader_endsRowFrom 15 = .ok (.aload_n 0, 1) := by decide +kernel
theorem d_Reader_endsRowFrom_16 : decode b_Reader_endsRowFrom 16 = .ok (.iconst 1, 1) := by decide +kernel
theorem d_Reader_endsRowFrom_17 : decode b_Reader_endsRowFrom 17 = .ok (.invokevirtual 44, 3) := by decide +kernel
theorem d_Reader_endsRowFrom_20 : decode b_Reader_endsRowFrom 20 = .ok (.ifCond .eq 17, 3) := by decide +kernel
theorem d_Reader_endsRowFrom_23 : decode b_Reader_endsRowFrom 23 = .ok (.iload_n 2, 1) := by decide +kernel
theorem d_Reader_endsRowFrom_24 : decode b_Reader_endsRowFrom 24 = .ok (.iconst 1, 1) := by decide +kernel
theorem d_Reader_endsRowFrom_25 : decode b_Reader_endsRowFrom 25 = .ok (.if_icmp .lt 12, 3) := by decide +kernel
theorem d_Reader_endsRowFrom_28 : decode b_Reader_endsRowFrom 28 = .ok (.iload_n 2, 1) := by decide +kernel
theorem d_Reader_endsRowFrom_29 : decode b_Reader_endsRowFrom 29 = .ok (.iconst 4, 1) := by decide +kernel
theorem d_Reader_endsRowFrom_30 : decode b_Reader_endsRowFrom 30 = .ok (.if_icmp .gt 7, 3) := by decide +kernel
theorem d_Reader_endsRowFrom_33 : decode b_Reader_endsRowFrom 33 = .ok (.iconst 1, 1) := by decide +kernel
theorem d_Reader_endsRowFrom_34 : decode b_Reader_endsRowFrom 34 = .ok (.goto 4, 3) := by decide +kernel
theorem d_Reader_endsRowFrom_37 : decode b_Reader_endsRowFrom 37 = .ok (.iconst 0, 1) := by decide +kernel
theorem d_Reader_endsRowFrom_38 : decode b_Reader_endsRowFrom 38 = .ok (.ireturn, 1) := by decide +kernel
abbrev rm_Clerk_init : Room := { frames := 3, cells := 21, slots := 800, locals := 54 }
set_option maxHeartbeats 4000000 in
set_option maxRecDepth 100000 in
theorem c_Clerk_init (l : Launch) (G : Gt) (h0 : Nat) (w : Int32) : Ct l G y_Clerk_init b_Clerk_init 2 none rm_Clerk_init [.ref h0, .int w] [(h0, .inr (3, [.int 0, .null, .null, .null, .null, .null, .null, .null, .null, .null, .null, .int 0, .int 0, .int 0, .int 0, .null, .int 0]))] 21 800 (fun v w' => ∃ q1 q2 q3 q4 q5 q6 q7 q8 q9 q10 q11 q12 q13 q14 q15 q16 q17 q18 q19 q20 q21 : Nat, v = none ∧ w' = [(h0, .inr (3, [.int w, .ref q1, .ref q7, .ref q10, .ref q11, .ref q12, .ref q14, .ref q18, .ref q19, .ref q20, .ref q21, .int 0, .int 0, .int 0, .int 0, .ref q13, .int 0])), (q1, .inr (10, [.ref q2, .ref q3, .ref q4, .ref q5, .ref q6, .int 0, .int 0, .int 0, .int 0])), (q2, .inl (G.2 0, 132, .inl (fun _ => 0))), (q3, .inl (G.2 0, 132, .inl (fun _ => 0))), (q4, .inl (G.2 0, 132, .inl (fun _ => 0))), (q5, .inl (G.2 0, 132, .inl (fun _ => 0))), (q6, .inl (G.2 0, 132, .inl (fun _ => 0))), (q7, .inr (2, [.ref q8, .ref q9])), (q8, .inl (G.2 0, 8, .inl (fun _ => 0))), (q9, .inl (G.2 1, 8, .inr (.inl (fun _ => 0)))), (q10, .inr (6, [.long 0, .long 0, .int 0])), (q11, .inl (G.2 0, 34, .inl (fun _ => 0))), (q12, .inl (G.2 0, 34, .inl (fun _ => 0))), (q13, .inl (G.2 0, 16, .inl (fun _ => 0))), (q14, .inr (4, [.ref q15, .ref q16, .ref q17, .int 6, .int 0])), (q15, .inr (7, [.int w, .long 0, .long 0])), (q16, .inr (7, [.int w, .long 0, .long 0])), (q17, .inr (7, [.int w, .long 0, .long 0])), (q18, .inr (7, [.int w, .long 0, .long 0])), (q19, .inr (7, [.int w, .long 0, .long 0])), (q20, .inr (7, [.int w, .long 0, .long 0])), (q21, .inr (7, [.int w, .long 0, .long 0]))]) := by
  refine Ct.of (by decide) (Nat.le_of_ble_eq_true rfl) (fun p e s m args below meth c A ls H locs hx hb hml hr hnl hown hts hnm hK hA hl hW => ?_)
  have hl : lv_has ls 2 [(0, .ref h0), (1, .int w)] := hl
  refine lv_aload_n hx hb d_Clerk_init_0 rfl (lv_at hl 0 rfl) ?_
  refine W.objInit hx hb hown (hts _ w_ml_Clerk_3) (hts _ w_oi_im) (hts _ w_oi_code) rfl (by rw [hml]; exact hl.1) rfl d_Clerk_init_1 (Nat.le_of_ble_eq_true rfl) (Nat.le_of_ble_eq_true rfl) ?_
  refine W.eq (g2 := F0 m 4 ls []) rfl ?_
  refine lv_aload_n hx hb d_Clerk_init_4 rfl (lv_at hl 0 rfl) ?_
  refine Wd.new (ci := 10) (fs := [.null, .null, .null, .null, .null, .int 0, .int 0, .int 0, .int 0]) (ty0 := t_Script) hx hb hts hown hK hA hW in_Script t_Script_ok w_cl_Clerk_9 w_nb_Script w_ini_Script d_Clerk_init_5 rfl z_Script (by decide) (by decide) (fun q1 H hW => ?_)
  have hW : Wd G A s.heap [(h0, .inr (3, [.int 0, .null, .null, .null, .null, .null, .null, .null, .null, .null, .null, .int 0, .int 0, .int 0, .int 0, .null, .int 0])), (q1, .inr (10, [.null, .null, .null, .null, .null, .int 0, .int 0, .int 0, .int 0]))] H locs := hW
  refine W.widen (k := 1) (n := 9) (by decide) (by decide) ?_
  refine lv_dup hx hb d_Clerk_init_8 rfl ?_
  refine Ct.callIN (As := []) (rest := [.ref q1, .ref h0]) hx hb hml hown hts hK hA hl.1 hW (c_Script_init l G q1 ) ⟨va_cnB 0 hts (good_C w_code_Script_init) rfl rfl rfl (hK.2.1 _ (List.mem_of_getElem? (i := 5) rfl)) (hts _ w_ini_Script) yd_Script_init ⟨by decide, by decide⟩, rfl, hts _ w_im_Script_init⟩ [1] (by decide) rfl rfl rfl (Nat.le_of_ble_eq_true rfl) d_Clerk_init_9 ⟨by decide, by decide⟩ (fun v w' hp => by obtain ⟨-, -, -, -, -, -, rfl⟩ := hp; exact Nat.le_of_ble_eq_true rfl) (fun v w' H locs hp hW => ?_)
  obtain ⟨q2, q3, q4, q5, q6, rfl, rfl⟩ := hp
  have hW : Wd G A s.heap [(h0, .inr (3, [.int 0, .null, .null, .null, .null, .null, .null, .null, .null, .null, .null, .int 0, .int 0, .int 0, .int 0, .null, .int 0])), (q1, .inr (10, [.ref q2, .ref q3, .ref q4, .ref q5, .ref q6, .int 0, .int 0, .int 0, .int 0])), (q2, .inl (G.2 0, 132, .inl (fun _ => 0))), (q3, .inl (G.2 0, 132, .inl (fun _ => 0))), (q4, .inl (G.2 0, 132, .inl (fun _ => 0))), (q5, .inl (G.2 0, 132, .inl (fun _ => 0))), (q6, .inl (G.2 0, 132, .inl (fun _ => 0)))] H locs := hW
  refine W.widen (k := 6) (n := 669) (by decide) (by decide) ?_
  refine W.eq (g2 := F0 m 12 ls [.ref q1, .ref h0]) rfl ?_
  refine Wd.putF hx hb hts hown hK hW 0 1 in_Clerk t_Clerk_ok n_Clerk w_fl_Clerk_12 (by decide) d_Clerk_init_12 rfl rfl rfl hnm rfl rfl rfl (Nat.le_of_ble_eq_true rfl) (fun H locs hW => ?_)
  have hW : Wd G A s.heap [(h0, .inr (3, [.int 0, .ref q1, .null, .null, .null, .null, .null, .null, .null, .null, .null, .int 0, .int 0, .int 0, .int 0, .null, .int 0])), (q1, .inr (10, [.ref q2, .ref q3, .ref q4, .ref q5, .ref q6, .int 0, .int 0, .int 0, .int 0])), (q2, .inl (G.2 0, 132, .inl (fun _ => 0))), (q3, .inl (G.2 0, 132, .inl (fun _ => 0))), (q4, .inl (G.2 0, 132, .inl (fun _ => 0))), (q5, .inl (G.2 0, 132, .inl (fun _ => 0))), (q6, .inl (G.2 0, 132, .inl (fun _ => 0)))] H locs := hW
  refine lv_aload_n hx hb d_Clerk_init_15 rfl (lv_at hl 0 rfl) ?_
  refine Wd.new (ci := 2) (fs := [.null, .null]) (ty0 := t_Box) hx hb hts hown hK hA hW in_Box t_Box_ok w_cl_Clerk_18 w_nb_Box w_ini_Box d_Clerk_init_16 rfl z_Box (by decide) (by decide) (fun q7 H hW => ?_)
  have hW : Wd G A s.heap [(h0, .inr (3, [.int 0, .ref q1, .null, .null, .null, .null, .null, .null, .null, .null, .null, .int 0, .int 0, .int 0, .int 0, .null, .int 0])), (q1, .inr (10, [.ref q2, .ref q3, .ref q4, .ref q5, .ref q6, .int 0, .int 0, .int 0, .int 0])), (q2, .inl (G.2 0, 132, .inl (fun _ => 0))), (q3, .inl (G.2 0, 132, .inl (fun _ => 0))), (q4, .inl (G.2 0, 132, .inl (fun _ => 0))), (q5, .inl (G.2 0, 132, .inl (fun _ => 0))), (q6, .inl (G.2 0, 132, .inl (fun _ => 0))), (q7, .inr (2, [.null, .null]))] H locs := hW
  refine W.widen (k := 7) (n := 671) (by decide) (by decide) ?_
  refine lv_dup hx hb d_Clerk_init_19 rfl ?_
  refine Ct.callIN (As := []) (rest := [.ref q7, .ref h0]) hx hb hml hown hts hK hA hl.1 hW (c_Box_init l G q7 ) ⟨va_cnB 0 hts (good_C w_code_Box_init) rfl rfl rfl (hK.2.1 _ (List.mem_of_getElem? (i := 6) rfl)) (hts _ w_ini_Box) yd_Box_init ⟨by decide, by decide⟩, rfl, hts _ w_im_Box_init⟩ [7] (by decide) rfl rfl rfl (Nat.le_of_ble_eq_true rfl) d_Clerk_init_20 ⟨by decide, by decide⟩ (fun v w' hp => by obtain ⟨-, -, -, rfl⟩ := hp; exact Nat.le_of_ble_eq_true rfl) (fun v w' H locs hp hW => ?_)
  obtain ⟨q8, q9, rfl, rfl⟩ := hp
  have hW : Wd G A s.heap [(h0, .inr (3, [.int 0, .ref q1, .null, .null, .null, .null, .null, .null, .null, .null, .null, .int 0, .int 0, .int 0, .int 0, .null, .int 0])), (q1, .inr (10, [.ref q2, .ref q3, .ref q4, .ref q5, .ref q6, .int 0, .int 0, .int 0, .int 0])), (q2, .inl (G.2 0, 132, .inl (fun _ => 0))), (q3, .inl (G.2 0, 132, .inl (fun _ => 0))), (q4, .inl (G.2 0, 132, .inl (fun _ => 0))), (q5, .inl (G.2 0, 132, .inl (fun _ => 0))), (q6, .inl (G.2 0, 132, .inl (fun _ => 0))), (q7, .inr (2, [.ref q8, .ref q9])), (q8, .inl (G.2 0, 8, .inl (fun _ => 0))), (q9, .inl (G.2 1, 8, .inr (.inl (fun _ => 0))))] H locs := hW
  refine W.widen (k := 9) (n := 687) (by decide) (by decide) ?_
  refine W.eq (g2 := F0 m 23 ls [.ref q7, .ref h0]) rfl ?_
  refine Wd.putF hx hb hts hown hK hW 0 2 in_Clerk t_Clerk_ok n_Clerk w_fl_Clerk_21 (by decide) d_Clerk_init_23 rfl rfl rfl hnm rfl rfl rfl (Nat.le_of_ble_eq_true rfl) (fun H locs hW => ?_)
  have hW : Wd G A s.heap [(h0, .inr (3, [.int 0, .ref q1, .ref q7, .null, .null, .null, .null, .null, .null, .null, .null, .int 0, .int 0, .int 0, .int 0, .null, .int 0])), (q1, .inr (10, [.ref q2, .ref q3, .ref q4, .ref q5, .ref q6, .int 0, .int 0, .int 0, .int 0])), (q2, .inl (G.2 0, 132, .inl (fun _ => 0))), (q3, .inl (G.2 0, 132, .inl (fun _ => 0))), (q4, .inl (G.2 0, 132, .inl (fun _ => 0))), (q5, .inl (G.2 0, 132, .inl (fun _ => 0))), (q6, .inl (G.2 0, 132, .inl (fun _ => 0))), (q7, .inr (2, [.ref q8, .ref q9])), (q8, .inl (G.2 0, 8, .inl (fun _ => 0))), (q9, .inl (G.2 1, 8, .inr (.inl (fun _ => 0))))] H locs := hW
  refine lv_aload_n hx hb d_Clerk_init_26 rfl (lv_at hl 0 rfl) ?_
  refine Wd.new (ci := 6) (fs := [.long 0, .long 0, .int 0]) (ty0 := t_Pads) hx hb hts hown hK hA hW in_Pads t_Pads_ok w_cl_Clerk_25 w_nb_Pads w_ini_Pads d_Clerk_init_27 rfl z_Pads (by decide) (by decide) (fun q10 H hW => ?_)
  have hW : Wd G A s.heap [(h0, .inr (3, [.int 0, .ref q1, .ref q7, .null, .null, .null, .null, .null, .null, .null, .null, .int 0, .int 0, .int 0, .int 0, .null, .int 0])), (q1, .inr (10, [.ref q2, .ref q3, .ref q4, .ref q5, .ref q6, .int 0, .int 0, .int 0, .int 0])), (q2, .inl (G.2 0, 132, .inl (fun _ => 0))), (q3, .inl (G.2 0, 132, .inl (fun _ => 0))), (q4, .inl (G.2 0, 132, .inl (fun _ => 0))), (q5, .inl (G.2 0, 132, .inl (fun _ => 0))), (q6, .inl (G.2 0, 132, .inl (fun _ => 0))), (q7, .inr (2, [.ref q8, .ref q9])), (q8, .inl (G.2 0, 8, .inl (fun _ => 0))), (q9, .inl (G.2 1, 8, .inr (.inl (fun _ => 0)))), (q10, .inr (6, [.long 0, .long 0, .int 0]))] H locs := hW
  refine W.widen (k := 10) (n := 690) (by decide) (by decide) ?_
  refine lv_dup hx hb d_Clerk_init_30 rfl ?_
  refine Ct.callIN (As := []) (rest := [.ref q10, .ref h0]) hx hb hml hown hts hK hA hl.1 hW (c_Pads_init l G q10 ) ⟨va_cnB 0 hts (good_C w_code_Pads_init) rfl rfl rfl (hK.2.1 _ (List.mem_of_getElem? (i := 7) rfl)) (hts _ w_ini_Pads) yd_Pads_init ⟨by decide, by decide⟩, rfl, hts _ w_im_Pads_init⟩ [10] (by decide) rfl rfl rfl (Nat.le_of_ble_eq_true rfl) d_Clerk_init_31 ⟨by decide, by decide⟩ (fun v w' hp => by obtain ⟨-, rfl⟩ := hp; exact Nat.le_of_ble_eq_true rfl) (fun v w' H locs hp hW => ?_)
  obtain ⟨rfl, rfl⟩ := hp
  have hW : Wd G A s.heap [(h0, .inr (3, [.int 0, .ref q1, .ref q7, .null, .null, .null, .null, .null, .null, .null, .null, .int 0, .int 0, .int 0, .int 0, .null, .int 0])), (q1, .inr (10, [.ref q2, .ref q3, .ref q4, .ref q5, .ref q6, .int 0, .int 0, .int 0, .int 0])), (q2, .inl (G.2 0, 132, .inl (fun _ => 0))), (q3, .inl (G.2 0, 132, .inl (fun _ => 0))), (q4, .inl (G.2 0, 132, .inl (fun _ => 0))), (q5, .inl (G.2 0, 132, .inl (fun _ => 0))), (q6, .inl (G.2 0, 132, .inl (fun _ => 0))), (q7, .inr (2, [.ref q8, .ref q9])), (q8, .inl (G.2 0, 8, .inl (fun _ => 0))), (q9, .inl (G.2 1, 8, .inr (.inl (fun _ => 0)))), (q10, .inr (6, [.long 0, .long 0, .int 0]))] H locs := hW
  refine W.eq (g2 := F0 m 34 ls [.ref q10, .ref h0]) rfl ?_
  refine Wd.putF hx hb hts hown hK hW 0 3 in_Clerk t_Clerk_ok n_Clerk w_fl_Clerk_28 (by decide) d_Clerk_init_34 rfl rfl rfl hnm rfl rfl rfl (Nat.le_of_ble_eq_true rfl) (fun H locs hW => ?_)
  have hW : Wd G A s.heap [(h0, .inr (3, [.int 0, .ref q1, .ref q7, .ref q10, .null, .null, .null, .null, .null, .null, .null, .int 0, .int 0, .int 0, .int 0, .null, .int 0])), (q1, .inr (10, [.ref q2, .ref q3, .ref q4, .ref q5, .ref q6, .int 0, .int 0, .int 0, .int 0])), (q2, .inl (G.2 0, 132, .inl (fun _ => 0))), (q3, .inl (G.2 0, 132, .inl (fun _ => 0))), (q4, .inl (G.2 0, 132, .inl (fun _ => 0))), (q5, .inl (G.2 0, 132, .inl (fun _ => 0))), (q6, .inl (G.2 0, 132, .inl (fun _ => 0))), (q7, .inr (2, [.ref q8, .ref q9])), (q8, .inl (G.2 0, 8, .inl (fun _ => 0))), (q9, .inl (G.2 1, 8, .inr (.inl (fun _ => 0)))), (q10, .inr (6, [.long 0, .long 0, .int 0]))] H locs := hW
  refine lv_aload_n hx hb d_Clerk_init_37 rfl (lv_at hl 0 rfl) ?_
  refine lv_bipush (v := 34) hx hb d_Clerk_init_38 (by decide) ?_
  refine Wd.newa (ty := .int) (N' := 34) (a0 := (34, .inl (fun _ => 0))) hx hb hts hK hA hW 0 w_arr_int d_Clerk_init_40 rfl rfl (fun _ _ h => h) (fun _ => rfl) (by decide) (by decide) (by decide) (by decide) (by decide) (fun q11 H hW => ?_)
  have hW : Wd G A s.heap [(h0, .inr (3, [.int 0, .ref q1, .ref q7, .ref q10, .null, .null, .null, .null, .null, .null, .null, .int 0, .int 0, .int 0, .int 0, .null, .int 0])), (q1, .inr (10, [.ref q2, .ref q3, .ref q4, .ref q5, .ref q6, .int 0, .int 0, .int 0, .int 0])), (q2, .inl (G.2 0, 132, .inl (fun _ => 0))), (q3, .inl (G.2 0, 132, .inl (fun _ => 0))), (q4, .inl (G.2 0, 132, .inl (fun _ => 0))), (q5, .inl (G.2 0, 132, .inl (fun _ => 0))), (q6, .inl (G.2 0, 132, .inl (fun _ => 0))), (q7, .inr (2, [.ref q8, .ref q9])), (q8, .inl (G.2 0, 8, .inl (fun _ => 0))), (q9, .inl (G.2 1, 8, .inr (.inl (fun _ => 0)))), (q10, .inr (6, [.long 0, .long 0, .int 0])), (q11, .inl (G.2 0, 34, .inl (fun _ => 0)))] H locs := hW
  refine W.widen (k := 11) (n := 724) (by decide) (by decide) ?_
  refine Wd.putF hx hb hts hown hK hW 0 4 in_Clerk t_Clerk_ok n_Clerk w_fl_Clerk_32 (by decide) d_Clerk_init_42 rfl rfl rfl hnm rfl rfl rfl (Nat.le_of_ble_eq_true rfl) (fun H locs hW => ?_)
  have hW : Wd G A s.heap [(h0, .inr (3, [.int 0, .ref q1, .ref q7, .ref q10, .ref q11, .null, .null, .null, .null, .null, .null, .int 0, .int 0, .int 0, .int 0, .null, .int 0])), (q1, .inr (10, [.ref q2, .ref q3, .ref q4, .ref q5, .ref q6, .int 0, .int 0, .int 0, .int 0])), (q2, .inl (G.2 0, 132, .inl (fun _ => 0))), (q3, .inl (G.2 0, 132, .inl (fun _ => 0))), (q4, .inl (G.2 0, 132, .inl (fun _ => 0))), (q5, .inl (G.2 0, 132, .inl (fun _ => 0))), (q6, .inl (G.2 0, 132, .inl (fun _ => 0))), (q7, .inr (2, [.ref q8, .ref q9])), (q8, .inl (G.2 0, 8, .inl (fun _ => 0))), (q9, .inl (G.2 1, 8, .inr (.inl (fun _ => 0)))), (q10, .inr (6, [.long 0, .long 0, .int 0])), (q11, .inl (G.2 0, 34, .inl (fun _ => 0)))] H locs := hW
  refine lv_aload_n hx hb d_Clerk_init_45 rfl (lv_at hl 0 rfl) ?_
  refine lv_bipush (v := 34) hx hb d_Clerk_init_46 (by decide) ?_
  refine Wd.newa (ty := .int) (N' := 34) (a0 := (34, .inl (fun _ => 0))) hx hb hts hK hA hW 0 w_arr_int d_Clerk_init_48 rfl rfl (fun _ _ h => h) (fun _ => rfl) (by decide) (by decide) (by decide) (by decide) (by decide) (fun q12 H hW => ?_)
  have hW : Wd G A s.heap [(h0, .inr (3, [.int 0, .ref q1, .ref q7, .ref q10, .ref q11, .null, .null, .null, .null, .null, .null, .int 0, .int 0, .int 0, .int 0, .null, .int 0])), (q1, .inr (10, [.ref q2, .ref q3, .ref q4, .ref q5, .ref q6, .int 0, .int 0, .int 0, .int 0])), (q2, .inl (G.2 0, 132, .inl (fun _ => 0))), (q3, .inl (G.2 0, 132, .inl (fun _ => 0))), (q4, .inl (G.2 0, 132, .inl (fun _ => 0))), (q5, .inl (G.2 0, 132, .inl (fun _ => 0))), (q6, .inl (G.2 0, 132, .inl (fun _ => 0))), (q7, .inr (2, [.ref q8, .ref q9])), (q8, .inl (G.2 0, 8, .inl (fun _ => 0))), (q9, .inl (G.2 1, 8, .inr (.inl (fun _ => 0)))), (q10, .inr (6, [.long 0, .long 0, .int 0])), (q11, .inl (G.2 0, 34, .inl (fun _ => 0))), (q12, .inl (G.2 0, 34, .inl (fun _ => 0)))] H locs := hW
  refine W.widen (k := 12) (n := 758) (by decide) (by decide) ?_
  refine Wd.putF hx hb hts hown hK hW 0 5 in_Clerk t_Clerk_ok n_Clerk w_fl_Clerk_36 (by decide) d_Clerk_init_50 rfl rfl rfl hnm rfl rfl rfl (Nat.le_of_ble_eq_true rfl) (fun H locs hW => ?_)
  have hW : Wd G A s.heap [(h0, .inr (3, [.int 0, .ref q1, .ref q7, .ref q10, .ref q11, .ref q12, .null, .null, .null, .null, .null, .int 0, .int 0, .int 0, .int 0, .null, .int 0])), (q1, .inr (10, [.ref q2, .ref q3, .ref q4, .ref q5, .ref q6, .int 0, .int 0, .int 0, .int 0])), (q2, .inl (G.2 0, 132, .inl (fun _ => 0))), (q3, .inl (G.2 0, 132, .inl (fun _ => 0))), (q4, .inl (G.2 0, 132, .inl (fun _ => 0))), (q5, .inl (G.2 0, 132, .inl (fun _ => 0))), (q6, .inl (G.2 0, 132, .inl (fun _ => 0))), (q7, .inr (2, [.ref q8, .ref q9])), (q8, .inl (G.2 0, 8, .inl (fun _ => 0))), (q9, .inl (G.2 1, 8, .inr (.inl (fun _ => 0)))), (q10, .inr (6, [.long 0, .long 0, .int 0])), (q11, .inl (G.2 0, 34, .inl (fun _ => 0))), (q12, .inl (G.2 0, 34, .inl (fun _ => 0)))] H locs := hW
  refine lv_aload_n hx hb d_Clerk_init_53 rfl (lv_at hl 0 rfl) ?_
  refine lv_bipush (v := 16) hx hb d_Clerk_init_54 (by decide) ?_
  refine Wd.newa (ty := .int) (N' := 16) (a0 := (16, .inl (fun _ => 0))) hx hb hts hK hA hW 0 w_arr_int d_Clerk_init_56 rfl rfl (fun _ _ h => h) (fun _ => rfl) (by decide) (by decide) (by decide) (by decide) (by decide) (fun q13 H hW => ?_)
  have hW : Wd G A s.heap [(h0, .inr (3, [.int 0, .ref q1, .ref q7, .ref q10, .ref q11, .ref q12, .null, .null, .null, .null, .null, .int 0, .int 0, .int 0, .int 0, .null, .int 0])), (q1, .inr (10, [.ref q2, .ref q3, .ref q4, .ref q5, .ref q6, .int 0, .int 0, .int 0, .int 0])), (q2, .inl (G.2 0, 132, .inl (fun _ => 0))), (q3, .inl (G.2 0, 132, .inl (fun _ => 0))), (q4, .inl (G.2 0, 132, .inl (fun _ => 0))), (q5, .inl (G.2 0, 132, .inl (fun _ => 0))), (q6, .inl (G.2 0, 132, .inl (fun _ => 0))), (q7, .inr (2, [.ref q8, .ref q9])), (q8, .inl (G.2 0, 8, .inl (fun _ => 0))), (q9, .inl (G.2 1, 8, .inr (.inl (fun _ => 0)))), (q10, .inr (6, [.long 0, .long 0, .int 0])), (q11, .inl (G.2 0, 34, .inl (fun _ => 0))), (q12, .inl (G.2 0, 34, .inl (fun _ => 0))), (q13, .inl (G.2 0, 16, .inl (fun _ => 0)))] H locs := hW
  refine W.widen (k := 13) (n := 774) (by decide) (by decide) ?_
  refine Wd.putF hx hb hts hown hK hW 0 15 in_Clerk t_Clerk_ok n_Clerk w_fl_Clerk_39 (by decide) d_Clerk_init_58 rfl rfl rfl hnm rfl rfl rfl (Nat.le_of_ble_eq_true rfl) (fun H locs hW => ?_)
  have hW : Wd G A s.heap [(h0, .inr (3, [.int 0, .ref q1, .ref q7, .ref q10, .ref q11, .ref q12, .null, .null, .null, .null, .null, .int 0, .int 0, .int 0, .int 0, .ref q13, .int 0])), (q1, .inr (10, [.ref q2, .ref q3, .ref q4, .ref q5, .ref q6, .int 0, .int 0, .int 0, .int 0])), (q2, .inl (G.2 0, 132, .inl (fun _ => 0))), (q3, .inl (G.2 0, 132, .inl (fun _ => 0))), (q4, .inl (G.2 0, 132, .inl (fun _ => 0))), (q5, .inl (G.2 0, 132, .inl (fun _ => 0))), (q6, .inl (G.2 0, 132, .inl (fun _ => 0))), (q7, .inr (2, [.ref q8, .ref q9])), (q8, .inl (G.2 0, 8, .inl (fun _ => 0))), (q9, .inl (G.2 1, 8, .inr (.inl (fun _ => 0)))), (q10, .inr (6, [.long 0, .long 0, .int 0])), (q11, .inl (G.2 0, 34, .inl (fun _ => 0))), (q12, .inl (G.2 0, 34, .inl (fun _ => 0))), (q13, .inl (G.2 0, 16, .inl (fun _ => 0)))] H locs := hW
  refine lv_aload_n hx hb d_Clerk_init_61 rfl (lv_at hl 0 rfl) ?_
  refine lv_iload_n hx hb d_Clerk_init_62 rfl (lv_at hl 1 rfl) ?_
  refine Wd.putF hx hb hts hown hK hW 0 0 in_Clerk t_Clerk_ok n_Clerk w_fl_Clerk_42 (by decide) d_Clerk_init_63 rfl rfl rfl hnm rfl rfl rfl (Nat.le_of_ble_eq_true rfl) (fun H locs hW => ?_)
  have hW : Wd G A s.heap [(h0, .inr (3, [.int w, .ref q1, .ref q7, .ref q10, .ref q11, .ref q12, .null, .null, .null, .null, .null, .int 0, .int 0, .int 0, .int 0, .ref q13, .int 0])), (q1, .inr (10, [.ref q2, .ref q3, .ref q4, .ref q5, .ref q6, .int 0, .int 0, .int 0, .int 0])), (q2, .inl (G.2 0, 132, .inl (fun _ => 0))), (q3, .inl (G.2 0, 132, .inl (fun _ => 0))), (q4, .inl (G.2 0, 132, .inl (fun _ => 0))), (q5, .inl (G.2 0, 132, .inl (fun _ => 0))), (q6, .inl (G.2 0, 132, .inl (fun _ => 0))), (q7, .inr (2, [.ref q8, .ref q9])), (q8, .inl (G.2 0, 8, .inl (fun _ => 0))), (q9, .inl (G.2 1, 8, .inr (.inl (fun _ => 0)))), (q10, .inr (6, [.long 0, .long 0, .int 0])), (q11, .inl (G.2 0, 34, .inl (fun _ => 0))), (q12, .inl (G.2 0, 34, .inl (fun _ => 0))), (q13, .inl (G.2 0, 16, .inl (fun _ => 0)))] H locs := hW
  refine lv_aload_n hx hb d_Clerk_init_66 rfl (lv_at hl 0 rfl) ?_
  refine Wd.new (ci := 4) (fs := [.null, .null, .null, .int 0, .int 0]) (ty0 := t_Comparison) hx hb hts hown hK hA hW in_Comparison t_Comparison_ok w_cl_Clerk_46 w_nb_Comparison w_ini_Comparison d_Clerk_init_67 rfl z_Comparison (by decide) (by decide) (fun q14 H hW => ?_)
  have hW : Wd G A s.heap [(h0, .inr (3, [.int w, .ref q1, .ref q7, .ref q10, .ref q11, .ref q12, .null, .null, .null, .null, .null, .int 0, .int 0, .int 0, .int 0, .ref q13, .int 0])), (q1, .inr (10, [.ref q2, .ref q3, .ref q4, .ref q5, .ref q6, .int 0, .int 0, .int 0, .int 0])), (q2, .inl (G.2 0, 132, .inl (fun _ => 0))), (q3, .inl (G.2 0, 132, .inl (fun _ => 0))), (q4, .inl (G.2 0, 132, .inl (fun _ => 0))), (q5, .inl (G.2 0, 132, .inl (fun _ => 0))), (q6, .inl (G.2 0, 132, .inl (fun _ => 0))), (q7, .inr (2, [.ref q8, .ref q9])), (q8, .inl (G.2 0, 8, .inl (fun _ => 0))), (q9, .inl (G.2 1, 8, .inr (.inl (fun _ => 0)))), (q10, .inr (6, [.long 0, .long 0, .int 0])), (q11, .inl (G.2 0, 34, .inl (fun _ => 0))), (q12, .inl (G.2 0, 34, .inl (fun _ => 0))), (q13, .inl (G.2 0, 16, .inl (fun _ => 0))), (q14, .inr (4, [.null, .null, .null, .int 0, .int 0]))] H locs := hW
  refine W.widen (k := 14) (n := 779) (by decide) (by decide) ?_
  refine lv_dup hx hb d_Clerk_init_70 rfl ?_
  refine lv_iload_n hx hb d_Clerk_init_71 rfl (lv_at hl 1 rfl) ?_
  refine Ct.callI (As := [.int w]) (rest := [.ref q14, .ref h0]) hx hb hml hown hts hK hA hl.1 hW (c_Comparison_init l G q14 w ) (cwI 1 hts (good_C w_code_Comparison_init) rfl rfl rfl (hts _ w_ini_Comparison) (hts _ w_ml_Clerk_48) (hts _ w_im_Comparison_init) rfl yd_Comparison_init ⟨by decide, by decide⟩) [14] (by decide) rfl rfl rfl (Nat.le_of_ble_eq_true rfl) d_Clerk_init_72 ⟨by decide, by decide⟩ (fun v w' hp => by obtain ⟨-, -, -, -, rfl⟩ := hp; exact Nat.le_of_ble_eq_true rfl) (fun v w' H locs hp hW => ?_)
  obtain ⟨q15, q16, q17, rfl, rfl⟩ := hp
  have hW : Wd G A s.heap [(h0, .inr (3, [.int w, .ref q1, .ref q7, .ref q10, .ref q11, .ref q12, .null, .null, .null, .null, .null, .int 0, .int 0, .int 0, .int 0, .ref q13, .int 0])), (q1, .inr (10, [.ref q2, .ref q3, .ref q4, .ref q5, .ref q6, .int 0, .int 0, .int 0, .int 0])), (q2, .inl (G.2 0, 132, .inl (fun _ => 0))), (q3, .inl (G.2 0, 132, .inl (fun _ => 0))), (q4, .inl (G.2 0, 132, .inl (fun _ => 0))), (q5, .inl (G.2 0, 132, .inl (fun _ => 0))), (q6, .inl (G.2 0, 132, .inl (fun _ => 0))), (q7, .inr (2, [.ref q8, .ref q9])), (q8, .inl (G.2 0, 8, .inl (fun _ => 0))), (q9, .inl (G.2 1, 8, .inr (.inl (fun _ => 0)))), (q10, .inr (6, [.long 0, .long 0, .int 0])), (q11, .inl (G.2 0, 34, .inl (fun _ => 0))), (q12, .inl (G.2 0, 34, .inl (fun _ => 0))), (q13, .inl (G.2 0, 16, .inl (fun _ => 0))), (q14, .inr (4, [.ref q15, .ref q16, .ref q17, .int 6, .int 0])), (q15, .inr (7, [.int w, .long 0, .long 0])), (q16, .inr (7, [.int w, .long 0, .long 0])), (q17, .inr (7, [.int w, .long 0, .long 0]))] H locs := hW
  refine W.widen (k := 17) (n := 788) (by decide) (by decide) ?_
  refine W.eq (g2 := F0 m 75 ls [.ref q14, .ref h0]) rfl ?_
  refine Wd.putF hx hb hts hown hK hW 0 6 in_Clerk t_Clerk_ok n_Clerk w_fl_Clerk_51 (by decide) d_Clerk_init_75 rfl rfl rfl hnm rfl rfl rfl (Nat.le_of_ble_eq_true rfl) (fun H locs hW => ?_)
  have hW : Wd G A s.heap [(h0, .inr (3, [.int w, .ref q1, .ref q7, .ref q10, .ref q11, .ref q12, .ref q14, .null, .null, .null, .null, .int 0, .int 0, .int 0, .int 0, .ref q13, .int 0])), (q1, .inr (10, [.ref q2, .ref q3, .ref q4, .ref q5, .ref q6, .int 0, .int 0, .int 0, .int 0])), (q2, .inl (G.2 0, 132, .inl (fun _ => 0))), (q3, .inl (G.2 0, 132, .inl (fun _ => 0))), (q4, .inl (G.2 0, 132, .inl (fun _ => 0))), (q5, .inl (G.2 0, 132, .inl (fun _ => 0))), (q6, .inl (G.2 0, 132, .inl (fun _ => 0))), (q7, .inr (2, [.ref q8, .ref q9])), (q8, .inl (G.2 0, 8, .inl (fun _ => 0))), (q9, .inl (G.2 1, 8, .inr (.inl (fun _ => 0)))), (q10, .inr (6, [.long 0, .long 0, .int 0])), (q11, .inl (G.2 0, 34, .inl (fun _ => 0))), (q12, .inl (G.2 0, 34, .inl (fun _ => 0))), (q13, .inl (G.2 0, 16, .inl (fun _ => 0))), (q14, .inr (4, [.ref q15, .ref q16, .ref q17, .int 6, .int 0])), (q15, .inr (7, [.int w, .long 0, .long 0])), (q16, .inr (7, [.int w, .long 0, .long 0])), (q17, .inr (7, [.int w, .long 0, .long 0]))] H locs := hW
  refine lv_aload_n hx hb d_Clerk_init_78 rfl (lv_at hl 0 rfl) ?_
  refine Wd.new (ci := 7) (fs := [.int 0, .long 0, .long 0]) (ty0 := t_Parts) hx hb hts hown hK hA hW in_Parts t_Parts_ok w_cl_Clerk_55 w_nb_Parts w_ini_Parts d_Clerk_init_79 rfl z_Parts (by decide) (by decide) (fun q18 H hW => ?_)
  have hW : Wd G A s.heap [(h0, .inr (3, [.int w, .ref q1, .ref q7, .ref q10, .ref q11, .ref q12, .ref q14, .null, .null, .null, .null, .int 0, .int 0, .int 0, .int 0, .ref q13, .int 0])), (q1, .inr (10, [.ref q2, .ref q3, .ref q4, .ref q5, .ref q6, .int 0, .int 0, .int 0, .int 0])), (q2, .inl (G.2 0, 132, .inl (fun _ => 0))), (q3, .inl (G.2 0, 132, .inl (fun _ => 0))), (q4, .inl (G.2 0, 132, .inl (fun _ => 0))), (q5, .inl (G.2 0, 132, .inl (fun _ => 0))), (q6, .inl (G.2 0, 132, .inl (fun _ => 0))), (q7, .inr (2, [.ref q8, .ref q9])), (q8, .inl (G.2 0, 8, .inl (fun _ => 0))), (q9, .inl (G.2 1, 8, .inr (.inl (fun _ => 0)))), (q10, .inr (6, [.long 0, .long 0, .int 0])), (q11, .inl (G.2 0, 34, .inl (fun _ => 0))), (q12, .inl (G.2 0, 34, .inl (fun _ => 0))), (q13, .inl (G.2 0, 16, .inl (fun _ => 0))), (q14, .inr (4, [.ref q15, .ref q16, .ref q17, .int 6, .int 0])), (q15, .inr (7, [.int w, .long 0, .long 0])), (q16, .inr (7, [.int w, .long 0, .long 0])), (q17, .inr (7, [.int w, .long 0, .long 0])), (q18, .inr (7, [.int 0, .long 0, .long 0]))] H locs := hW
  refine W.widen (k := 18) (n := 791) (by decide) (by decide) ?_
  refine lv_dup hx hb d_Clerk_init_82 rfl ?_
  refine lv_iload_n hx hb d_Clerk_init_83 rfl (lv_at hl 1 rfl) ?_
  refine Ct.callI (As := [.int w]) (rest := [.ref q18, .ref h0]) hx hb hml hown hts hK hA hl.1 hW (c_Parts_init l G q18 w ) (cwI 1 hts (good_C w_code_Parts_init) rfl rfl rfl (hts _ w_ini_Parts) (hts _ w_ml_Clerk_57) (hts _ w_im_Parts_init) rfl yd_Parts_init ⟨by decide, by decide⟩) [18] (by decide) rfl rfl rfl (Nat.le_of_ble_eq_true rfl) d_Clerk_init_84 ⟨by decide, by decide⟩ (fun v w' hp => by obtain ⟨-, rfl⟩ := hp; exact Nat.le_of_ble_eq_true rfl) (fun v w' H locs hp hW => ?_)
  obtain ⟨rfl, rfl⟩ := hp
  have hW : Wd G A s.heap [(h0, .inr (3, [.int w, .ref q1, .ref q7, .ref q10, .ref q11, .ref q12, .ref q14, .null, .null, .null, .null, .int 0, .int 0, .int 0, .int 0, .ref q13, .int 0])), (q1, .inr (10, [.ref q2, .ref q3, .ref q4, .ref q5, .ref q6, .int 0, .int 0, .int 0, .int 0])), (q2, .inl (G.2 0, 132, .inl (fun _ => 0))), (q3, .inl (G.2 0, 132, .inl (fun _ => 0))), (q4, .inl (G.2 0, 132, .inl (fun _ => 0))), (q5, .inl (G.2 0, 132, .inl (fun _ => 0))), (q6, .inl (G.2 0, 132, .inl (fun _ => 0))), (q7, .inr (2, [.ref q8, .ref q9])), (q8, .inl (G.2 0, 8, .inl (fun _ => 0))), (q9, .inl (G.2 1, 8, .inr (.inl (fun _ => 0)))), (q10, .inr (6, [.long 0, .long 0, .int 0])), (q11, .inl (G.2 0, 34, .inl (fun _ => 0))), (q12, .inl (G.2 0, 34, .inl (fun _ => 0))), (q13, .inl (G.2 0, 16, .inl (fun _ => 0))), (q14, .inr (4, [.ref q15, .ref q16, .ref q17, .int 6, .int 0])), (q15, .inr (7, [.int w, .long 0, .long 0])), (q16, .inr (7, [.int w, .long 0, .long 0])), (q17, .inr (7, [.int w, .long 0, .long 0])), (q18, .inr (7, [.int w, .long 0, .long 0]))] H locs := hW
  refine W.eq (g2 := F0 m 87 ls [.ref q18, .ref h0]) rfl ?_
  refine Wd.putF hx hb hts hown hK hW 0 7 in_Clerk t_Clerk_ok n_Clerk w_fl_Clerk_58 (by decide) d_Clerk_init_87 rfl rfl rfl hnm rfl rfl rfl (Nat.le_of_ble_eq_true rfl) (fun H locs hW => ?_)
  have hW : Wd G A s.heap [(h0, .inr (3, [.int w, .ref q1, .ref q7, .ref q10, .ref q11, .ref q12, .ref q14, .ref q18, .null, .null, .null, .int 0, .int 0, .int 0, .int 0, .ref q13, .int 0])), (q1, .inr (10, [.ref q2, .ref q3, .ref q4, .ref q5, .ref q6, .int 0, .int 0, .int 0, .int 0])), (q2, .inl (G.2 0, 132, .inl (fun _ => 0))), (q3, .inl (G.2 0, 132, .inl (fun _ => 0))), (q4, .inl (G.2 0, 132, .inl (fun _ => 0))), (q5, .inl (G.2 0, 132, .inl (fun _ => 0))), (q6, .inl (G.2 0, 132, .inl (fun _ => 0))), (q7, .inr (2, [.ref q8, .ref q9])), (q8, .inl (G.2 0, 8, .inl (fun _ => 0))), (q9, .inl (G.2 1, 8, .inr (.inl (fun _ => 0)))), (q10, .inr (6, [.long 0, .long 0, .int 0])), (q11, .inl (G.2 0, 34, .inl (fun _ => 0))), (q12, .inl (G.2 0, 34, .inl (fun _ => 0))), (q13, .inl (G.2 0, 16, .inl (fun _ => 0))), (q14, .inr (4, [.ref q15, .ref q16, .ref q17, .int 6, .int 0])), (q15, .inr (7, [.int w, .long 0, .long 0])), (q16, .inr (7, [.int w, .long 0, .long 0])), (q17, .inr (7, [.int w, .long 0, .long 0])), (q18, .inr (7, [.int w, .long 0, .long 0]))] H locs := hW
  refine lv_aload_n hx hb d_Clerk_init_90 rfl (lv_at hl 0 rfl) ?_
  refine Wd.new (ci := 7) (fs := [.int 0, .long 0, .long 0]) (ty0 := t_Parts) hx hb hts hown hK hA hW in_Parts t_Parts_ok w_cl_Clerk_55 w_nb_Parts w_ini_Parts d_Clerk_init_91 rfl z_Parts (by decide) (by decide) (fun q19 H hW => ?_)
  have hW : Wd G A s.heap [(h0, .inr (3, [.int w, .ref q1, .ref q7, .ref q10, .ref q11, .ref q12, .ref q14, .ref q18, .null, .null, .null, .int 0, .int 0, .int 0, .int 0, .ref q13, .int 0])), (q1, .inr (10, [.ref q2, .ref q3, .ref q4, .ref q5, .ref q6, .int 0, .int 0, .int 0, .int 0])), (q2, .inl (G.2 0, 132, .inl (fun _ => 0))), (q3, .inl (G.2 0, 132, .inl (fun _ => 0))), (q4, .inl (G.2 0, 132, .inl (fun _ => 0))), (q5, .inl (G.2 0, 132, .inl (fun _ => 0))), (q6, .inl (G.2 0, 132, .inl (fun _ => 0))), (q7, .inr (2, [.ref q8, .ref q9])), (q8, .inl (G.2 0, 8, .inl (fun _ => 0))), (q9, .inl (G.2 1, 8, .inr (.inl (fun _ => 0)))), (q10, .inr (6, [.long 0, .long 0, .int 0])), (q11, .inl (G.2 0, 34, .inl (fun _ => 0))), (q12, .inl (G.2 0, 34, .inl (fun _ => 0))), (q13, .inl (G.2 0, 16, .inl (fun _ => 0))), (q14, .inr (4, [.ref q15, .ref q16, .ref q17, .int 6, .int 0])), (q15, .inr (7, [.int w, .long 0, .long 0])), (q16, .inr (7, [.int w, .long 0, .long 0])), (q17, .inr (7, [.int w, .long 0, .long 0])), (q18, .inr (7, [.int w, .long 0, .long 0])), (q19, .inr (7, [.int 0, .long 0, .long 0]))] H locs := hW
  refine W.widen (k := 19) (n := 794) (by decide) (by decide) ?_
  refine lv_dup hx hb d_Clerk_init_94 rfl ?_
  refine lv_iload_n hx hb d_Clerk_init_95 rfl (lv_at hl 1 rfl) ?_
  refine Ct.callI (As := [.int w]) (rest := [.ref q19, .ref h0]) hx hb hml hown hts hK hA hl.1 hW (c_Parts_init l G q19 w ) (cwI 1 hts (good_C w_code_Parts_init) rfl rfl rfl (hts _ w_ini_Parts) (hts _ w_ml_Clerk_57) (hts _ w_im_Parts_init) rfl yd_Parts_init ⟨by decide, by decide⟩) [19] (by decide) rfl rfl rfl (Nat.le_of_ble_eq_true rfl) d_Clerk_init_96 ⟨by decide, by decide⟩ (fun v w' hp => by obtain ⟨-, rfl⟩ := hp; exact Nat.le_of_ble_eq_true rfl) (fun v w' H locs hp hW => ?_)
  obtain ⟨rfl, rfl⟩ := hp
  have hW : Wd G A s.heap [(h0, .inr (3, [.int w, .ref q1, .ref q7, .ref q10, .ref q11, .ref q12, .ref q14, .ref q18, .null, .null, .null, .int 0, .int 0, .int 0, .int 0, .ref q13, .int 0])), (q1, .inr (10, [.ref q2, .ref q3, .ref q4, .ref q5, .ref q6, .int 0, .int 0, .int 0, .int 0])), (q2, .inl (G.2 0, 132, .inl (fun _ => 0))), (q3, .inl (G.2 0, 132, .inl (fun _ => 0))), (q4, .inl (G.2 0, 132, .inl (fun _ => 0))), (q5, .inl (G.2 0, 132, .inl (fun _ => 0))), (q6, .inl (G.2 0, 132, .inl (fun _ => 0))), (q7, .inr (2, [.ref q8, .ref q9])), (q8, .inl (G.2 0, 8, .inl (fun _ => 0))), (q9, .inl (G.2 1, 8, .inr (.inl (fun _ => 0)))), (q10, .inr (6, [.long 0, .long 0, .int 0])), (q11, .inl (G.2 0, 34, .inl (fun _ => 0))), (q12, .inl (G.2 0, 34, .inl (fun _ => 0))), (q13, .inl (G.2 0, 16, .inl (fun _ => 0))), (q14, .inr (4, [.ref q15, .ref q16, .ref q17, .int 6, .int 0])), (q15, .inr (7, [.int w, .long 0, .long 0])), (q16, .inr (7, [.int w, .long 0, .long 0])), (q17, .inr (7, [.int w, .long 0, .long 0])), (q18, .inr (7, [.int w, .long 0, .long 0])), (q19, .inr (7, [.int w, .long 0, .long 0]))] H locs := hW
  refine W.eq (g2 := F0 m 99 ls [.ref q19, .ref h0]) rfl ?_
  refine Wd.putF hx hb hts hown hK hW 0 8 in_Clerk t_Clerk_ok n_Clerk w_fl_Clerk_62 (by decide) d_Clerk_init_99 rfl rfl rfl hnm rfl rfl rfl (Nat.le_of_ble_eq_true rfl) (fun H locs hW => ?_)
  have hW : Wd G A s.heap [(h0, .inr (3, [.int w, .ref q1, .ref q7, .ref q10, .ref q11, .ref q12, .ref q14, .ref q18, .ref q19, .null, .null, .int 0, .int 0, .int 0, .int 0, .ref q13, .int 0])), (q1, .inr (10, [.ref q2, .ref q3, .ref q4, .ref q5, .ref q6, .int 0, .int 0, .int 0, .int 0])), (q2, .inl (G.2 0, 132, .inl (fun _ => 0))), (q3, .inl (G.2 0, 132, .inl (fun _ => 0))), (q4, .inl (G.2 0, 132, .inl (fun _ => 0))), (q5, .inl (G.2 0, 132, .inl (fun _ => 0))), (q6, .inl (G.2 0, 132, .inl (fun _ => 0))), (q7, .inr (2, [.ref q8, .ref q9])), (q8, .inl (G.2 0, 8, .inl (fun _ => 0))), (q9, .inl (G.2 1, 8, .inr (.inl (fun _ => 0)))), (q10, .inr (6, [.long 0, .long 0, .int 0])), (q11, .inl (G.2 0, 34, .inl (fun _ => 0))), (q12, .inl (G.2 0, 34, .inl (fun _ => 0))), (q13, .inl (G.2 0, 16, .inl (fun _ => 0))), (q14, .inr (4, [.ref q15, .ref q16, .ref q17, .int 6, .int 0])), (q15, .inr (7, [.int w, .long 0, .long 0])), (q16, .inr (7, [.int w, .long 0, .long 0])), (q17, .inr (7, [.int w, .long 0, .long 0])), (q18, .inr (7, [.int w, .long 0, .long 0])), (q19, .inr (7, [.int w, .long 0, .long 0]))] H locs := hW
  refine lv_aload_n hx hb d_Clerk_init_102 rfl (lv_at hl 0 rfl) ?_
  refine Wd.new (ci := 7) (fs := [.int 0, .long 0, .long 0]) (ty0 := t_Parts) hx hb hts hown hK hA hW in_Parts t_Parts_ok w_cl_Clerk_55 w_nb_Parts w_ini_Parts d_Clerk_init_103 rfl z_Parts (by decide) (by decide) (fun q20 H hW => ?_)
  have hW : Wd G A s.heap [(h0, .inr (3, [.int w, .ref q1, .ref q7, .ref q10, .ref q11, .ref q12, .ref q14, .ref q18, .ref q19, .null, .null, .int 0, .int 0, .int 0, .int 0, .ref q13, .int 0])), (q1, .inr (10, [.ref q2, .ref q3, .ref q4, .ref q5, .ref q6, .int 0, .int 0, .int 0, .int 0])), (q2, .inl (G.2 0, 132, .inl (fun _ => 0))), (q3, .inl (G.2 0, 132, .inl (fun _ => 0))), (q4, .inl (G.2 0, 132, .inl (fun _ => 0))), (q5, .inl (G.2 0, 132, .inl (fun _ => 0))), (q6, .inl (G.2 0, 132, .inl (fun _ => 0))), (q7, .inr (2, [.ref q8, .ref q9])), (q8, .inl (G.2 0, 8, .inl (fun _ => 0))), (q9, .inl (G.2 1, 8, .inr (.inl (fun _ => 0)))), (q10, .inr (6, [.long 0, .long 0, .int 0])), (q11, .inl (G.2 0, 34, .inl (fun _ => 0))), (q12, .inl (G.2 0, 34, .inl (fun _ => 0))), (q13, .inl (G.2 0, 16, .inl (fun _ => 0))), (q14, .inr (4, [.ref q15, .ref q16, .ref q17, .int 6, .int 0])), (q15, .inr (7, [.int w, .long 0, .long 0])), (q16, .inr (7, [.int w, .long 0, .long 0])), (q17, .inr (7, [.int w, .long 0, .long 0])), (q18, .inr (7, [.int w, .long 0, .long 0])), (q19, .inr (7, [.int w, .long 0, .long 0])), (q20, .inr (7, [.int 0, .long 0, .long 0]))] H locs := hW
  refine W.widen (k := 20) (n := 797) (by decide) (by decide) ?_
  refine lv_dup hx hb d_Clerk_init_106 rfl ?_
  refine lv_iload_n hx hb d_Clerk_init_107 rfl (lv_at hl 1 rfl) ?_
  refine Ct.callI (As := [.int w]) (rest := [.ref q20, .ref h0]) hx hb hml hown hts hK hA hl.1 hW (c_Parts_init l G q20 w ) (cwI 1 hts (good_C w_code_Parts_init) rfl rfl rfl (hts _ w_ini_Parts) (hts _ w_ml_Clerk_57) (hts _ w_im_Parts_init) rfl yd_Parts_init ⟨by decide, by decide⟩) [20] (by decide) rfl rfl rfl (Nat.le_of_ble_eq_true rfl) d_Clerk_init_108 ⟨by decide, by decide⟩ (fun v w' hp => by obtain ⟨-, rfl⟩ := hp; exact Nat.le_of_ble_eq_true rfl) (fun v w' H locs hp hW => ?_)
  obtain ⟨rfl, rfl⟩ := hp
  have hW : Wd G A s.heap [(h0, .inr (3, [.int w, .ref q1, .ref q7, .ref q10, .ref q11, .ref q12, .ref q14, .ref q18, .ref q19, .null, .null, .int 0, .int 0, .int 0, .int 0, .ref q13, .int 0])), (q1, .inr (10, [.ref q2, .ref q3, .ref q4, .ref q5, .ref q6, .int 0, .int 0, .int 0, .int 0])), (q2, .inl (G.2 0, 132, .inl (fun _ => 0))), (q3, .inl (G.2 0, 132, .inl (fun _ => 0))), (q4, .inl (G.2 0, 132, .inl (fun _ => 0))), (q5, .inl (G.2 0, 132, .inl (fun _ => 0))), (q6, .inl (G.2 0, 132, .inl (fun _ => 0))), (q7, .inr (2, [.ref q8, .ref q9])), (q8, .inl (G.2 0, 8, .inl (fun _ => 0))), (q9, .inl (G.2 1, 8, .inr (.inl (fun _ => 0)))), (q10, .inr (6, [.long 0, .long 0, .int 0])), (q11, .inl (G.2 0, 34, .inl (fun _ => 0))), (q12, .inl (G.2 0, 34, .inl (fun _ => 0))), (q13, .inl (G.2 0, 16, .inl (fun _ => 0))), (q14, .inr (4, [.ref q15, .ref q16, .ref q17, .int 6, .int 0])), (q15, .inr (7, [.int w, .long 0, .long 0])), (q16, .inr (7, [.int w, .long 0, .long 0])), (q17, .inr (7, [.int w, .long 0, .long 0])), (q18, .inr (7, [.int w, .long 0, .long 0])), (q19, .inr (7, [.int w, .long 0, .long 0])), (q20, .inr (7, [.int w, .long 0, .long 0]))] H locs := hW
  refine W.eq (g2 := F0 m 111 ls [.ref q20, .ref h0]) rfl ?_
  refine Wd.putF hx hb hts hown hK hW 0 9 in_Clerk t_Clerk_ok n_Clerk w_fl_Clerk_65 (by decide) d_Clerk_init_111 rfl rfl rfl hnm rfl rfl rfl (Nat.le_of_ble_eq_true rfl) (fun H locs hW => ?_)
  have hW : Wd G A s.heap [(h0, .inr (3, [.int w, .ref q1, .ref q7, .ref q10, .ref q11, .ref q12, .ref q14, .ref q18, .ref q19, .ref q20, .null, .int 0, .int 0, .int 0, .int 0, .ref q13, .int 0])), (q1, .inr (10, [.ref q2, .ref q3, .ref q4, .ref q5, .ref q6, .int 0, .int 0, .int 0, .int 0])), (q2, .inl (G.2 0, 132, .inl (fun _ => 0))), (q3, .inl (G.2 0, 132, .inl (fun _ => 0))), (q4, .inl (G.2 0, 132, .inl (fun _ => 0))), (q5, .inl (G.2 0, 132, .inl (fun _ => 0))), (q6, .inl (G.2 0, 132, .inl (fun _ => 0))), (q7, .inr (2, [.ref q8, .ref q9])), (q8, .inl (G.2 0, 8, .inl (fun _ => 0))), (q9, .inl (G.2 1, 8, .inr (.inl (fun _ => 0)))), (q10, .inr (6, [.long 0, .long 0, .int 0])), (q11, .inl (G.2 0, 34, .inl (fun _ => 0))), (q12, .inl (G.2 0, 34, .inl (fun _ => 0))), (q13, .inl (G.2 0, 16, .inl (fun _ => 0))), (q14, .inr (4, [.ref q15, .ref q16, .ref q17, .int 6, .int 0])), (q15, .inr (7, [.int w, .long 0, .long 0])), (q16, .inr (7, [.int w, .long 0, .long 0])), (q17, .inr (7, [.int w, .long 0, .long 0])), (q18, .inr (7, [.int w, .long 0, .long 0])), (q19, .inr (7, [.int w, .long 0, .long 0])), (q20, .inr (7, [.int w, .long 0, .long 0]))] H locs := hW
  refine lv_aload_n hx hb d_Clerk_init_114 rfl (lv_at hl 0 rfl) ?_
  refine Wd.new (ci := 7) (fs := [.int 0, .long 0, .long 0]) (ty0 := t_Parts) hx hb hts hown hK hA hW in_Parts t_Parts_ok w_cl_Clerk_55 w_nb_Parts w_ini_Parts d_Clerk_init_115 rfl z_Parts (by decide) (by decide) (fun q21 H hW => ?_)
  have hW : Wd G A s.heap [(h0, .inr (3, [.int w, .ref q1, .ref q7, .ref q10, .ref q11, .ref q12, .ref q14, .ref q18, .ref q19, .ref q20, .null, .int 0, .int 0, .int 0, .int 0, .ref q13, .int 0])), (q1, .inr (10, [.ref q2, .ref q3, .ref q4, .ref q5, .ref q6, .int 0, .int 0, .int 0, .int 0])), (q2, .inl (G.2 0, 132, .inl (fun _ => 0))), (q3, .inl (G.2 0, 132, .inl (fun _ => 0))), (q4, .inl (G.2 0, 132, .inl (fun _ => 0))), (q5, .inl (G.2 0, 132, .inl (fun _ => 0))), (q6, .inl (G.2 0, 132, .inl (fun _ => 0))), (q7, .inr (2, [.ref q8, .ref q9])), (q8, .inl (G.2 0, 8, .inl (fun _ => 0))), (q9, .inl (G.2 1, 8, .inr (.inl (fun _ => 0)))), (q10, .inr (6, [.long 0, .long 0, .int 0])), (q11, .inl (G.2 0, 34, .inl (fun _ => 0))), (q12, .inl (G.2 0, 34, .inl (fun _ => 0))), (q13, .inl (G.2 0, 16, .inl (fun _ => 0))), (q14, .inr (4, [.ref q15, .ref q16, .ref q17, .int 6, .int 0])), (q15, .inr (7, [.int w, .long 0, .long 0])), (q16, .inr (7, [.int w, .long 0, .long 0])), (q17, .inr (7, [.int w, .long 0, .long 0])), (q18, .inr (7, [.int w, .long 0, .long 0])), (q19, .inr (7, [.int w, .long 0, .long 0])), (q20, .inr (7, [.int w, .long 0, .long 0])), (q21, .inr (7, [.int 0, .long 0, .long 0]))] H locs := hW
  refine W.widen (k := 21) (n := 800) (by decide) (by decide) ?_
  refine lv_dup hx hb d_Clerk_init_118 rfl ?_
  refine lv_iload_n hx hb d_Clerk_init_119 rfl (lv_at hl 1 rfl) ?_
  refine Ct.callI (As := [.int w]) (rest := [.ref q21, .ref h0]) hx hb hml hown hts hK hA hl.1 hW (c_Parts_init l G q21 w ) (cwI 1 hts (good_C w_code_Parts_init) rfl rfl rfl (hts _ w_ini_Parts) (hts _ w_ml_Clerk_57) (hts _ w_im_Parts_init) rfl yd_Parts_init ⟨by decide, by decide⟩) [21] (by decide) rfl rfl rfl (Nat.le_of_ble_eq_true rfl) d_Clerk_init_120 ⟨by decide, by decide⟩ (fun v w' hp => by obtain ⟨-, rfl⟩ := hp; exact Nat.le_of_ble_eq_true rfl) (fun v w' H locs hp hW => ?_)
  obtain ⟨rfl, rfl⟩ := hp
  have hW : Wd G A s.heap [(h0, .inr (3, [.int w, .ref q1, .ref q7, .ref q10, .ref q11, .ref q12, .ref q14, .ref q18, .ref q19, .ref q20, .null, .int 0, .int 0, .int 0, .int 0, .ref q13, .int 0])), (q1, .inr (10, [.ref q2, .ref q3, .ref q4, .ref q5, .ref q6, .int 0, .int 0, .int 0, .int 0])), (q2, .inl (G.2 0, 132, .inl (fun _ => 0))), (q3, .inl (G.2 0, 132, .inl (fun _ => 0))), (q4, .inl (G.2 0, 132, .inl (fun _ => 0))), (q5, .inl (G.2 0, 132, .inl (fun _ => 0))), (q6, .inl (G.2 0, 132, .inl (fun _ => 0))), (q7, .inr (2, [.ref q8, .ref q9])), (q8, .inl (G.2 0, 8, .inl (fun _ => 0))), (q9, .inl (G.2 1, 8, .inr (.inl (fun _ => 0)))), (q10, .inr (6, [.long 0, .long 0, .int 0])), (q11, .inl (G.2 0, 34, .inl (fun _ => 0))), (q12, .inl (G.2 0, 34, .inl (fun _ => 0))), (q13, .inl (G.2 0, 16, .inl (fun _ => 0))), (q14, .inr (4, [.ref q15, .ref q16, .ref q17, .int 6, .int 0])), (q15, .inr (7, [.int w, .long 0, .long 0])), (q16, .inr (7, [.int w, .long 0, .long 0])), (q17, .inr (7, [.int w, .long 0, .long 0])), (q18, .inr (7, [.int w, .long 0, .long 0])), (q19, .inr (7, [.int w, .long 0, .long 0])), (q20, .inr (7, [.int w, .long 0, .long 0])), (q21, .inr (7, [.int w, .long 0, .long 0]))] H locs := hW
  refine W.eq (g2 := F0 m 123 ls [.ref q21, .ref h0]) rfl ?_
  refine Wd.putF hx hb hts hown hK hW 0 10 in_Clerk t_Clerk_ok n_Clerk w_fl_Clerk_68 (by decide) d_Clerk_init_123 rfl rfl rfl hnm rfl rfl rfl (Nat.le_of_ble_eq_true rfl) (fun H locs hW => ?_)
  have hW : Wd G A s.heap [(h0, .inr (3, [.int w, .ref q1, .ref q7, .ref q10, .ref q11, .ref q12, .ref q14, .ref q18, .ref q19, .ref q20, .ref q21, .int 0, .int 0, .int 0, .int 0, .ref q13, .int 0])), (q1, .inr (10, [.ref q2, .ref q3, .ref q4, .ref q5, .ref q6, .int 0, .int 0, .int 0, .int 0])), (q2, .inl (G.2 0, 132, .inl (fun _ => 0))), (q3, .inl (G.2 0, 132, .inl (fun _ => 0))), (q4, .inl (G.2 0, 132, .inl (fun _ => 0))), (q5, .inl (G.2 0, 132, .inl (fun _ => 0))), (q6, .inl (G.2 0, 132, .inl (fun _ => 0))), (q7, .inr (2, [.ref q8, .ref q9])), (q8, .inl (G.2 0, 8, .inl (fun _ => 0))), (q9, .inl (G.2 1, 8, .inr (.inl (fun _ => 0)))), (q10, .inr (6, [.long 0, .long 0, .int 0])), (q11, .inl (G.2 0, 34, .inl (fun _ => 0))), (q12, .inl (G.2 0, 34, .inl (fun _ => 0))), (q13, .inl (G.2 0, 16, .inl (fun _ => 0))), (q14, .inr (4, [.ref q15, .ref q16, .ref q17, .int 6, .int 0])), (q15, .inr (7, [.int w, .long 0, .long 0])), (q16, .inr (7, [.int w, .long 0, .long 0])), (q17, .inr (7, [.int w, .long 0, .long 0])), (q18, .inr (7, [.int w, .long 0, .long 0])), (q19, .inr (7, [.int w, .long 0, .long 0])), (q20, .inr (7, [.int w, .long 0, .long 0])), (q21, .inr (7, [.int w, .long 0, .long 0]))] H locs := hW
  exact Ct.vret hx hb hr hnl hW (by decide) (by decide) d_Clerk_init_126 ⟨q1, q2, q3, q4, q5, q6, q7, q8, q9, q10, q11, q12, q13, q14, q15, q16, q17, q18, q19, q20, q21, rfl, rfl⟩

abbrev rm_Tokens_init : Room := { frames := 1, cells := 4, slots := 483, locals := 12 }
set_option maxHeartbeats 4000000 in
set_option maxRecDepth 100000 in
theorem c_Tokens_init (l : Launch) (G : Gt) (h0 : Nat) : Ct l G y_Tokens_init b_Tokens_init 1 none rm_Tokens_init [.ref h0] [(h0, .inr (11, [.null, .null, .null, .null, .int 0]))] 4 483 (fun v w' => ∃ q1 q2 q3 q4 : Nat, v = none ∧ w' = [(h0, .inr (11, [.ref q1, .ref q2, .ref q3, .ref q4, .int 0])), (q1, .inl (G.2 2, 120, .inl (fun _ => 0))), (q2, .inl (G.2 0, 121, .inl (fun _ => 0))), (q3, .inl (G.2 0, 121, .inl (fun _ => 0))), (q4, .inl (G.2 0, 121, .inl (fun _ => 0)))]) := by
  refine Ct.of (by decide) (Nat.le_of_ble_eq_true rfl) (fun p e s m args below meth c A ls H locs hx hb hml hr hnl hown hts hnm hK hA hl hW => ?_)
  have hl : lv_has ls 1 [(0, .ref h0)] := hl
  refine lv_aload_n hx hb d_Tokens_init_0 rfl (lv_at hl 0 rfl) ?_
  refine W.objInit hx hb hown (hts _ w_ml_Tokens_3) (hts _ w_oi_im) (hts _ w_oi_code) rfl (by rw [hml]; exact hl.1) rfl d_Tokens_init_1 (Nat.le_of_ble_eq_true rfl) (Nat.le_of_ble_eq_true rfl) ?_
  refine W.eq (g2 := F0 m 4 ls []) rfl ?_
  refine lv_aload_n hx hb d_Tokens_init_4 rfl (lv_at hl 0 rfl) ?_
  refine lv_bipush (v := 120) hx hb d_Tokens_init_5 (by decide) ?_
  refine Wd.newa (ty := .char) (N' := 120) (a0 := (120, .inl (fun _ => 0))) hx hb hts hK hA hW 2 w_arr_char d_Tokens_init_7 rfl rfl (fun _ _ h => h) (fun _ => rfl) (by decide) (by decide) (by decide) (by decide) (by decide) (fun q1 H hW => ?_)
  have hW : Wd G A s.heap [(h0, .inr (11, [.null, .null, .null, .null, .int 0])), (q1, .inl (G.2 2, 120, .inl (fun _ => 0)))] H locs := hW
  refine W.widen (k := 1) (n := 120) (by decide) (by decide) ?_
  refine Wd.putF hx hb hts hown hK hW 0 0 in_Tokens t_Tokens_ok n_Tokens w_fl_Tokens_9 (by decide) d_Tokens_init_9 rfl rfl rfl hnm rfl rfl rfl (Nat.le_of_ble_eq_true rfl) (fun H locs hW => ?_)
  have hW : Wd G A s.heap [(h0, .inr (11, [.ref q1, .null, .null, .null, .int 0])), (q1, .inl (G.2 2, 120, .inl (fun _ => 0)))] H locs := hW
  refine lv_aload_n hx hb d_Tokens_init_12 rfl (lv_at hl 0 rfl) ?_
  refine lv_bipush (v := 121) hx hb d_Tokens_init_13 (by decide) ?_
  refine Wd.newa (ty := .int) (N' := 121) (a0 := (121, .inl (fun _ => 0))) hx hb hts hK hA hW 0 w_arr_int d_Tokens_init_15 rfl rfl (fun _ _ h => h) (fun _ => rfl) (by decide) (by decide) (by decide) (by decide) (by decide) (fun q2 H hW => ?_)
  have hW : Wd G A s.heap [(h0, .inr (11, [.ref q1, .null, .null, .null, .int 0])), (q1, .inl (G.2 2, 120, .inl (fun _ => 0))), (q2, .inl (G.2 0, 121, .inl (fun _ => 0)))] H locs := hW
  refine W.widen (k := 2) (n := 241) (by decide) (by decide) ?_
  refine Wd.putF hx hb hts hown hK hW 0 1 in_Tokens t_Tokens_ok n_Tokens w_fl_Tokens_15 (by decide) d_Tokens_init_17 rfl rfl rfl hnm rfl rfl rfl (Nat.le_of_ble_eq_true rfl) (fun H locs hW => ?_)
  have hW : Wd G A s.heap [(h0, .inr (11, [.ref q1, .ref q2, .null, .null, .int 0])), (q1, .inl (G.2 2, 120, .inl (fun _ => 0))), (q2, .inl (G.2 0, 121, .inl (fun _ => 0)))] H locs := hW
  refine lv_aload_n hx hb d_Tokens_init_20 rfl (lv_at hl 0 rfl) ?_
  refine lv_bipush (v := 121) hx hb d_Tokens_init_21 (by decide) ?_
  refine Wd.newa (ty := .int) (N' := 121) (a0 := (121, .inl (fun _ => 0))) hx hb hts hK hA hW 0 w_arr_int d_Tokens_init_23 rfl rfl (fun _ _ h => h) (fun _ => rfl) (by decide) (by decide) (by decide) (by decide) (by decide) (fun q3 H hW => ?_)
  have hW : Wd G A s.heap [(h0, .inr (11, [.ref q1, .ref q2, .null, .null, .int 0])), (q1, .inl (G.2 2, 120, .inl (fun _ => 0))), (q2, .inl (G.2 0, 121, .inl (fun _ => 0))), (q3, .inl (G.2 0, 121, .inl (fun _ => 0)))] H locs := hW
  refine W.widen (k := 3) (n := 362) (by decide) (by decide) ?_
  refine Wd.putF hx hb hts hown hK hW 0 2 in_Tokens t_Tokens_ok n_Tokens w_fl_Tokens_19 (by decide) d_Tokens_init_25 rfl rfl rfl hnm rfl rfl rfl (Nat.le_of_ble_eq_true rfl) (fun H locs hW => ?_)
  have hW : Wd G A s.heap [(h0, .inr (11, [.ref q1, .ref q2, .ref q3, .null, .int 0])), (q1, .inl (G.2 2, 120, .inl (fun _ => 0))), (q2, .inl (G.2 0, 121, .inl (fun _ => 0))), (q3, .inl (G.2 0, 121, .inl (fun _ => 0)))] H locs := hW
  refine lv_aload_n hx hb d_Tokens_init_28 rfl (lv_at hl 0 rfl) ?_
  refine lv_bipush (v := 121) hx hb d_Tokens_init_29 (by decide) ?_
  refine Wd.newa (ty := .int) (N' := 121) (a0 := (121, .inl (fun _ => 0))) hx hb hts hK hA hW 0 w_arr_int d_Tokens_init_31 rfl rfl (fun _ _ h => h) (fun _ => rfl) (by decide) (by decide) (by decide) (by decide) (by decide) (fun q4 H hW => ?_)
  have hW : Wd G A s.heap [(h0, .inr (11, [.ref q1, .ref q2, .ref q3, .null, .int 0])), (q1, .inl (G.2 2, 120, .inl (fun _ => 0))), (q2, .inl (G.2 0, 121, .inl (fun _ => 0))), (q3, .inl (G.2 0, 121, .inl (fun _ => 0))), (q4, .inl (G.2 0, 121, .inl (fun _ => 0)))] H locs := hW
  refine W.widen (k := 4) (n := 483) (by decide) (by decide) ?_
  refine Wd.putF hx hb hts hown hK hW 0 3 in_Tokens t_Tokens_ok n_Tokens w_fl_Tokens_22 (by decide) d_Tokens_init_33 rfl rfl rfl hnm rfl rfl rfl (Nat.le_of_ble_eq_true rfl) (fun H locs hW => ?_)
  have hW : Wd G A s.heap [(h0, .inr (11, [.ref q1, .ref q2, .ref q3, .ref q4, .int 0])), (q1, .inl (G.2 2, 120, .inl (fun _ => 0))), (q2, .inl (G.2 0, 121, .inl (fun _ => 0))), (q3, .inl (G.2 0, 121, .inl (fun _ => 0))), (q4, .inl (G.2 0, 121, .inl (fun _ => 0)))] H locs := hW
  exact Ct.vret hx hb hr hnl hW (by decide) (by decide) d_Tokens_init_36 ⟨q1, q2, q3, q4, rfl, rfl⟩

abbrev rm_Reader_init : Room := { frames := 2, cells := 11, slots := 1157, locals := 32 }
set_option maxHeartbeats 4000000 in
set_option maxRecDepth 100000 in
theorem c_Reader_init (l : Launch) (G : Gt) (h0 : Nat) : Ct l G y_Reader_init b_Reader_init 1 none rm_Reader_init [.ref h0] [(h0, .inr (9, [.null, .null, .int 0]))] 11 1157 (fun v w' => ∃ q1 q2 q3 q4 q5 q6 q7 q8 q9 q10 q11 : Nat, v = none ∧ w' = [(h0, .inr (9, [.ref q1, .ref q6, .int 0])), (q1, .inr (11, [.ref q2, .ref q3, .ref q4, .ref q5, .int 0])), (q2, .inl (G.2 2, 120, .inl (fun _ => 0))), (q3, .inl (G.2 0, 121, .inl (fun _ => 0))), (q4, .inl (G.2 0, 121, .inl (fun _ => 0))), (q5, .inl (G.2 0, 121, .inl (fun _ => 0))), (q6, .inr (10, [.ref q7, .ref q8, .ref q9, .ref q10, .ref q11, .int 0, .int 0, .int 0, .int 0])), (q7, .inl (G.2 0, 132, .inl (fun _ => 0))), (q8, .inl (G.2 0, 132, .inl (fun _ => 0))), (q9, .inl (G.2 0, 132, .inl (fun _ => 0))), (q10, .inl (G.2 0, 132, .inl (fun _ => 0))), (q11, .inl (G.2 0, 132, .inl (fun _ => 0)))]) := by
  refine Ct.of (by decide) (Nat.le_of_ble_eq_true rfl) (fun p e s m args below meth c A ls H locs hx hb hml hr hnl hown hts hnm hK hA hl hW => ?_)
  have hl : lv_has ls 1 [(0, .ref h0)] := hl
  refine lv_aload_n hx hb d_Reader_init_0 rfl (lv_at hl 0 rfl) ?_
  refine W.objInit hx hb hown (hts _ w_ml_Reader_3) (hts _ w_oi_im) (hts _ w_oi_code) rfl (by rw [hml]; exact hl.1) rfl d_Reader_init_1 (Nat.le_of_ble_eq_true rfl) (Nat.le_of_ble_eq_true rfl) ?_
  refine W.eq (g2 := F0 m 4 ls []) rfl ?_
  refine lv_aload_n hx hb d_Reader_init_4 rfl (lv_at hl 0 rfl) ?_
  refine Wd.new (ci := 11) (fs := [.null, .null, .null, .null, .int 0]) (ty0 := t_Tokens) hx hb hts hown hK hA hW in_Tokens t_Tokens_ok w_cl_Reader_9 w_nb_Tokens w_ini_Tokens d_Reader_init_5 rfl z_Tokens (by decide) (by decide) (fun q1 H hW => ?_)
  have hW : Wd G A s.heap [(h0, .inr (9, [.null, .null, .int 0])), (q1, .inr (11, [.null, .null, .null, .null, .int 0]))] H locs := hW
  refine W.widen (k := 1) (n := 5) (by decide) (by decide) ?_
  refine lv_dup hx hb d_Reader_init_8 rfl ?_
  refine Ct.callIN (As := []) (rest := [.ref q1, .ref h0]) hx hb hml hown hts hK hA hl.1 hW (c_Tokens_init l G q1 ) ⟨va_cnB 0 hts (good_C w_code_Tokens_init) rfl rfl rfl (hK.2.1 _ (List.mem_of_getElem? (i := 1) rfl)) (hts _ w_ini_Tokens) yd_Tokens_init ⟨by decide, by decide⟩, rfl, hts _ w_im_Tokens_init⟩ [1] (by decide) rfl rfl rfl (Nat.le_of_ble_eq_true rfl) d_Reader_init_9 ⟨by decide, by decide⟩ (fun v w' hp => by obtain ⟨-, -, -, -, -, rfl⟩ := hp; exact Nat.le_of_ble_eq_true rfl) (fun v w' H locs hp hW => ?_)
  obtain ⟨q2, q3, q4, q5, rfl, rfl⟩ := hp
  have hW : Wd G A s.heap [(h0, .inr (9, [.null, .null, .int 0])), (q1, .inr (11, [.ref q2, .ref q3, .ref q4, .ref q5, .int 0])), (q2, .inl (G.2 2, 120, .inl (fun _ => 0))), (q3, .inl (G.2 0, 121, .inl (fun _ => 0))), (q4, .inl (G.2 0, 121, .inl (fun _ => 0))), (q5, .inl (G.2 0, 121, .inl (fun _ => 0)))] H locs := hW
  refine W.widen (k := 5) (n := 488) (by decide) (by decide) ?_
  refine W.eq (g2 := F0 m 12 ls [.ref q1, .ref h0]) rfl ?_
  refine Wd.putF hx hb hts hown hK hW 0 0 in_Reader t_Reader_ok n_Reader w_fl_Reader_12 (by decide) d_Reader_init_12 rfl rfl rfl hnm rfl rfl rfl (Nat.le_of_ble_eq_true rfl) (fun H locs hW => ?_)
  have hW : Wd G A s.heap [(h0, .inr (9, [.ref q1, .null, .int 0])), (q1, .inr (11, [.ref q2, .ref q3, .ref q4, .ref q5, .int 0])), (q2, .inl (G.2 2, 120, .inl (fun _ => 0))), (q3, .inl (G.2 0, 121, .inl (fun _ => 0))), (q4, .inl (G.2 0, 121, .inl (fun _ => 0))), (q5, .inl (G.2 0, 121, .inl (fun _ => 0)))] H locs := hW
  refine lv_aload_n hx hb d_Reader_init_15 rfl (lv_at hl 0 rfl) ?_
  refine Wd.new (ci := 10) (fs := [.null, .null, .null, .null, .null, .int 0, .int 0, .int 0, .int 0]) (ty0 := t_Script) hx hb hts hown hK hA hW in_Script t_Script_ok w_cl_Reader_18 w_nb_Script w_ini_Script d_Reader_init_16 rfl z_Script (by decide) (by decide) (fun q6 H hW => ?_)
  have hW : Wd G A s.heap [(h0, .inr (9, [.ref q1, .null, .int 0])), (q1, .inr (11, [.ref q2, .ref q3, .ref q4, .ref q5, .int 0])), (q2, .inl (G.2 2, 120, .inl (fun _ => 0))), (q3, .inl (G.2 0, 121, .inl (fun _ => 0))), (q4, .inl (G.2 0, 121, .inl (fun _ => 0))), (q5, .inl (G.2 0, 121, .inl (fun _ => 0))), (q6, .inr (10, [.null, .null, .null, .null, .null, .int 0, .int 0, .int 0, .int 0]))] H locs := hW
  refine W.widen (k := 6) (n := 497) (by decide) (by decide) ?_
  refine lv_dup hx hb d_Reader_init_19 rfl ?_
  refine Ct.callIN (As := []) (rest := [.ref q6, .ref h0]) hx hb hml hown hts hK hA hl.1 hW (c_Script_init l G q6 ) ⟨va_cnB 0 hts (good_C w_code_Script_init) rfl rfl rfl (hK.2.1 _ (List.mem_of_getElem? (i := 2) rfl)) (hts _ w_ini_Script) yd_Script_init ⟨by decide, by decide⟩, rfl, hts _ w_im_Script_init⟩ [6] (by decide) rfl rfl rfl (Nat.le_of_ble_eq_true rfl) d_Reader_init_20 ⟨by decide, by decide⟩ (fun v w' hp => by obtain ⟨-, -, -, -, -, -, rfl⟩ := hp; exact Nat.le_of_ble_eq_true rfl) (fun v w' H locs hp hW => ?_)
  obtain ⟨q7, q8, q9, q10, q11, rfl, rfl⟩ := hp
  have hW : Wd G A s.heap [(h0, .inr (9, [.ref q1, .null, .int 0])), (q1, .inr (11, [.ref q2, .ref q3, .ref q4, .ref q5, .int 0])), (q2, .inl (G.2 2, 120, .inl (fun _ => 0))), (q3, .inl (G.2 0, 121, .inl (fun _ => 0))), (q4, .inl (G.2 0, 121, .inl (fun _ => 0))), (q5, .inl (G.2 0, 121, .inl (fun _ => 0))), (q6, .inr (10, [.ref q7, .ref q8, .ref q9, .ref q10, .ref q11, .int 0, .int 0, .int 0, .int 0])), (q7, .inl (G.2 0, 132, .inl (fun _ => 0))), (q8, .inl (G.2 0, 132, .inl (fun _ => 0))), (q9, .inl (G.2 0, 132, .inl (fun _ => 0))), (q10, .inl (G.2 0, 132, .inl (fun _ => 0))), (q11, .inl (G.2 0, 132, .inl (fun _ => 0)))] H locs := hW
  refine W.widen (k := 11) (n := 1157) (by decide) (by decide) ?_
  refine W.eq (g2 := F0 m 23 ls [.ref q6, .ref h0]) rfl ?_
  refine Wd.putF hx hb hts hown hK hW 0 1 in_Reader t_Reader_ok n_Reader w_fl_Reader_21 (by decide) d_Reader_init_23 rfl rfl rfl hnm rfl rfl rfl (Nat.le_of_ble_eq_true rfl) (fun H locs hW => ?_)
  have hW : Wd G A s.heap [(h0, .inr (9, [.ref q1, .ref q6, .int 0])), (q1, .inr (11, [.ref q2, .ref q3, .ref q4, .ref q5, .int 0])), (q2, .inl (G.2 2, 120, .inl (fun _ => 0))), (q3, .inl (G.2 0, 121, .inl (fun _ => 0))), (q4, .inl (G.2 0, 121, .inl (fun _ => 0))), (q5, .inl (G.2 0, 121, .inl (fun _ => 0))), (q6, .inr (10, [.ref q7, .ref q8, .ref q9, .ref q10, .ref q11, .int 0, .int 0, .int 0, .int 0])), (q7, .inl (G.2 0, 132, .inl (fun _ => 0))), (q8, .inl (G.2 0, 132, .inl (fun _ => 0))), (q9, .inl (G.2 0, 132, .inl (fun _ => 0))), (q10, .inl (G.2 0, 132, .inl (fun _ => 0))), (q11, .inl (G.2 0, 132, .inl (fun _ => 0)))] H locs := hW
  exact Ct.vret hx hb hr hnl hW (by decide) (by decide) d_Reader_init_26 ⟨q1, q2, q3, q4, q5, q6, q7, q8, q9, q10, q11, rfl, rfl⟩

