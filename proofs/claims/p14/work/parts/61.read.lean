/-! part 61: the parser: isCompared, partAt, readPart, readPlain -/
section ZP61
variable {p : Program} {l : Launch} {e : Env} {R : Room} {s : State} {m : MethodId} {args : Array Value} {below : List Frame} {meth : Method} {c : Code} {Q : State → Prop}
variable {cc : ByteArray} {w : zk_W} {u : zk_M} {Ts : List Jvm.Cond} {own : String}
variable {xs : List Nat} {pc : Nat} {L : List (Nat × Nat × Int)} {S : List (Nat × Int)} {P : Nat → Option Nat} {G : Nat → Nat → Int}
theorem zp_sk {j k : Nat} {v : Int} (hl : S[j]? = some (k, v)) (kk : zk_rg k v → zp_J p l e R s m args below meth c Q w u xs pc L S P G) : zp_J p l e R s m args below meth c Q w u xs pc L S P G :=
  fun F H locs ls hF hI hL hkL hkS => kk (hkS _ (List.mem_of_getElem? hl)).2.1 F H locs ls hF hI hL hkL hkS
end ZP61
noncomputable def zK_ic : zk_K := (zt_mn 233, prog_14_method_49_code, 2, (Option.some Jvm.ClassFile.FieldType.boolean), 1, 12, [(2, 92, 0, 0)], [(some (0, 0, 0, 1), [])], [], (1, 40, 0, 0))
noncomputable def zK_pt : zk_K := (zt_mn 225, prog_14_method_50_code, 3, (Option.some Jvm.ClassFile.FieldType.int), 1, 12, [(2, 92, 0, 0)], [(some (0, 0, (-1), 9), [])], [], (1, 40, 0, 0))
noncomputable def zK_ot : zk_K := (zt_mn 224, prog_14_method_51_code, 3, (Option.some Jvm.ClassFile.FieldType.int), 1, 12, [(2, 92, 0, 0)], [(some (0, 0, (-1), 7), [])], [], (1, 40, 0, 0))
noncomputable def zK_rp : zk_K := (zt_mn 223, prog_14_method_54_code, 4, (Option.some Jvm.ClassFile.FieldType.int), 1, 12, [(2, 92, 0, 0)], [(some (0, 0, 1, 3), [])], [(92, 14, 0), (92, 15, 0), (92, 16, 0), (92, 17, 0), (92, 18, 0), (92, 19, 0), (92, 30, 0), (92, 29, 0), (70, 1001, 0), (71, 1001, 0), (92, 26, 0), (92, 23, 0), (68, 1001, 0), (69, 1001, 0)], (4, 190, 0, 0))
noncomputable def zK_rl : zk_K := (zt_mn 219, prog_14_method_55_code, 1, (Option.some Jvm.ClassFile.FieldType.int), 1, 12, [(2, 92, 0, 0)], [(some (0, 0, 0, 3), [])], [(92, 14, 0), (92, 15, 0), (92, 16, 0), (92, 17, 0), (92, 18, 0), (92, 19, 0), (92, 30, 0), (92, 29, 0), (70, 1001, 0), (71, 1001, 0), (92, 26, 0), (92, 23, 0), (68, 1001, 0), (69, 1001, 0)], (5, 230, 0, 0))