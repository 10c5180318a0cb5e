/-! part 02d, by program (wip/whole/gen/gen_dec.py): part 02's code tables hold what the Statement's bytes decode to -/
def xln (i : Instr) : Nat := match i with
  | .aconst_null | .iconst _ | .lconst _ | .iload_n _ | .lload_n _ | .aload_n _ | .istore_n _ | .astore_n _ | .iaload | .baload | .aaload | .iastore | .bastore | .aastore | .arraylength | .pop | .dup | .dup2 | .iadd | .isub | .imul | .idiv | .irem | .ineg | .iand | .ior | .ixor | .ishl | .ishr | .iushr | .ladd | .lsub | .lmul | .lcmp | .i2l | .l2i | .i2b | .i2s | .i2c | .ireturn | .areturn | .return_ => 1
  | .bipush _ | .ldc _ | .iload _ | .lload _ | .aload _ | .istore _ | .astore _ | .newarray _ => 2
  | .sipush _ | .ldc_w _ | .ldc2_w _ | .iinc _ _ | .ifCond _ _ | .if_icmp _ _ | .goto _ | .ifnull _ | .ifnonnull _ | .getstatic _ | .getfield _ | .putfield _ | .new _ | .anewarray _ | .invokestatic _ | .invokespecial _ | .invokevirtual _ => 3
  | _ => 0
def xdec (b : ByteArray) (e : Nat × Instr × Nat) : Bool := decide (decode b e.1 = .ok (e.2.1, e.2.2)) && (xln e.2.1 == 0 || xln e.2.1 == e.2.2)
theorem xlk_mem0 {α : Type} {k : Nat} {v : α} : ∀ {l : List (Nat × α)}, xlk k l = some v → (k, v) ∈ l
  | [], h => by cases h
  | (a, w) :: t, h => by
    rw [xlk] at h
    cases hb : Nat.beq a k with
    | true =>
      rw [hb] at h
      have e := Nat.eq_of_beq_eq_true hb
      cases h
      rw [e]
      exact List.mem_cons_self
    | false =>
      rw [hb] at h
      exact List.mem_cons_of_mem _ (xlk_mem0 h)
theorem x_bl {α : Type} {c : Bool} {a b : Option α} {v : α} {P : Prop} (h : (match c with | true => a | false => b) = some v) (ha : a = some v → P) (hb : b = some v → P) : P := by
  cases c
  · exact hb h
  · exact ha h
theorem x_dec {b : ByteArray} {l : List (Nat × Instr × Nat)} (h : l.all (xdec b) = true) {pc : Nat} {v : Instr × Nat} (hl : xlk pc l = some v) : decode b pc = .ok (v.1, v.2) ∧ (xln v.1 = 0 ∨ xln v.1 = v.2) := by
  have h1 := List.all_eq_true.mp h _ (xlk_mem0 hl)
  unfold xdec at h1
  rw [Bool.and_eq_true, Bool.or_eq_true] at h1
  exact ⟨of_decide_eq_true h1.1, h1.2.imp (fun q => eq_of_beq q) (fun q => eq_of_beq q)⟩
theorem xdt0_0 : (xtb0_0).all (xdec prog_2_method_1_code) = true := by decide +kernel
theorem xdt0_1 : (xtb0_1).all (xdec prog_2_method_1_code) = true := by decide +kernel
theorem xd0 {pc : Nat} {v : Instr × Nat} (h : xco0 pc = some v) : decode (xm0).2.1 pc = .ok (v.1, v.2) ∧ (xln v.1 = 0 ∨ xln v.1 = v.2) := x_bl h (fun h => x_dec xdt0_0 h) (fun h => x_dec xdt0_1 h)
theorem xdt1 : (xtb1).all (xdec prog_2_method_4_code) = true := by decide +kernel
theorem xd1 {pc : Nat} {v : Instr × Nat} (h : xco1 pc = some v) : decode (xm1).2.1 pc = .ok (v.1, v.2) ∧ (xln v.1 = 0 ∨ xln v.1 = v.2) := x_dec xdt1 h
theorem xdt2 : (xtb2).all (xdec prog_2_method_3_code) = true := by decide +kernel
theorem xd2 {pc : Nat} {v : Instr × Nat} (h : xco2 pc = some v) : decode (xm2).2.1 pc = .ok (v.1, v.2) ∧ (xln v.1 = 0 ∨ xln v.1 = v.2) := x_dec xdt2 h
theorem xdt3 : (xtb3).all (xdec prog_2_method_6_code) = true := by decide +kernel
theorem xd3 {pc : Nat} {v : Instr × Nat} (h : xco3 pc = some v) : decode (xm3).2.1 pc = .ok (v.1, v.2) ∧ (xln v.1 = 0 ∨ xln v.1 = v.2) := x_dec xdt3 h
theorem xdt4_0 : (xtb4_0).all (xdec prog_2_method_7_code) = true := by decide +kernel
theorem xdt4_1 : (xtb4_1).all (xdec prog_2_method_7_code) = true := by decide +kernel
theorem xd4 {pc : Nat} {v : Instr × Nat} (h : xco4 pc = some v) : decode (xm4).2.1 pc = .ok (v.1, v.2) ∧ (xln v.1 = 0 ∨ xln v.1 = v.2) := x_bl h (fun h => x_dec xdt4_0 h) (fun h => x_dec xdt4_1 h)
theorem xdt5 : (xtb5).all (xdec prog_2_method_5_code) = true := by decide +kernel
theorem xd5 {pc : Nat} {v : Instr × Nat} (h : xco5 pc = some v) : decode (xm5).2.1 pc = .ok (v.1, v.2) ∧ (xln v.1 = 0 ∨ xln v.1 = v.2) := x_dec xdt5 h
theorem xdt6 : (xtb6).all (xdec prog_2_method_8_code) = true := by decide +kernel
theorem xd6 {pc : Nat} {v : Instr × Nat} (h : xco6 pc = some v) : decode (xm6).2.1 pc = .ok (v.1, v.2) ∧ (xln v.1 = 0 ∨ xln v.1 = v.2) := x_dec xdt6 h
theorem xdt7 : (xtb7).all (xdec prog_2_method_17_code) = true := by decide +kernel
theorem xd7 {pc : Nat} {v : Instr × Nat} (h : xco7 pc = some v) : decode (xm7).2.1 pc = .ok (v.1, v.2) ∧ (xln v.1 = 0 ∨ xln v.1 = v.2) := x_dec xdt7 h
theorem xdt8 : (xtb8).all (xdec prog_2_method_21_code) = true := by decide +kernel
theorem xd8 {pc : Nat} {v : Instr × Nat} (h : xco8 pc = some v) : decode (xm8).2.1 pc = .ok (v.1, v.2) ∧ (xln v.1 = 0 ∨ xln v.1 = v.2) := x_dec xdt8 h
theorem xdt9 : (xtb9).all (xdec prog_2_method_19_code) = true := by decide +kernel
theorem xd9 {pc : Nat} {v : Instr × Nat} (h : xco9 pc = some v) : decode (xm9).2.1 pc = .ok (v.1, v.2) ∧ (xln v.1 = 0 ∨ xln v.1 = v.2) := x_dec xdt9 h
theorem xdt10 : (xtb10).all (xdec prog_2_method_18_code) = true := by decide +kernel
theorem xd10 {pc : Nat} {v : Instr × Nat} (h : xco10 pc = some v) : decode (xm10).2.1 pc = .ok (v.1, v.2) ∧ (xln v.1 = 0 ∨ xln v.1 = v.2) := x_dec xdt10 h
theorem xdt11 : (xtb11).all (xdec prog_2_method_20_code) = true := by decide +kernel
theorem xd11 {pc : Nat} {v : Instr × Nat} (h : xco11 pc = some v) : decode (xm11).2.1 pc = .ok (v.1, v.2) ∧ (xln v.1 = 0 ∨ xln v.1 = v.2) := x_dec xdt11 h
theorem xdt12 : (xtb12).all (xdec prog_2_method_22_code) = true := by decide +kernel
theorem xd12 {pc : Nat} {v : Instr × Nat} (h : xco12 pc = some v) : decode (xm12).2.1 pc = .ok (v.1, v.2) ∧ (xln v.1 = 0 ∨ xln v.1 = v.2) := x_dec xdt12 h
theorem xdt13 : (xtb13).all (xdec prog_2_method_23_code) = true := by decide +kernel
theorem xd13 {pc : Nat} {v : Instr × Nat} (h : xco13 pc = some v) : decode (xm13).2.1 pc = .ok (v.1, v.2) ∧ (xln v.1 = 0 ∨ xln v.1 = v.2) := x_dec xdt13 h
theorem xdt14 : (xtb14).all (xdec prog_2_method_16_code) = true := by decide +kernel
theorem xd14 {pc : Nat} {v : Instr × Nat} (h : xco14 pc = some v) : decode (xm14).2.1 pc = .ok (v.1, v.2) ∧ (xln v.1 = 0 ∨ xln v.1 = v.2) := x_dec xdt14 h
theorem xdt15 : (xtb15).all (xdec prog_2_method_9_code) = true := by decide +kernel
theorem xd15 {pc : Nat} {v : Instr × Nat} (h : xco15 pc = some v) : decode (xm15).2.1 pc = .ok (v.1, v.2) ∧ (xln v.1 = 0 ∨ xln v.1 = v.2) := x_dec xdt15 h
theorem xdt16 : (xtb16).all (xdec prog_2_method_12_code) = true := by decide +kernel
theorem xd16 {pc : Nat} {v : Instr × Nat} (h : xco16 pc = some v) : decode (xm16).2.1 pc = .ok (v.1, v.2) ∧ (xln v.1 = 0 ∨ xln v.1 = v.2) := x_dec xdt16 h
theorem xdt17 : (xtb17).all (xdec prog_2_method_13_code) = true := by decide +kernel
theorem xd17 {pc : Nat} {v : Instr × Nat} (h : xco17 pc = some v) : decode (xm17).2.1 pc = .ok (v.1, v.2) ∧ (xln v.1 = 0 ∨ xln v.1 = v.2) := x_dec xdt17 h
theorem xdt18 : (xtb18).all (xdec prog_2_method_14_code) = true := by decide +kernel
theorem xd18 {pc : Nat} {v : Instr × Nat} (h : xco18 pc = some v) : decode (xm18).2.1 pc = .ok (v.1, v.2) ∧ (xln v.1 = 0 ∨ xln v.1 = v.2) := x_dec xdt18 h
theorem xdt19 : (xtb19).all (xdec prog_2_method_15_code) = true := by decide +kernel
theorem xd19 {pc : Nat} {v : Instr × Nat} (h : xco19 pc = some v) : decode (xm19).2.1 pc = .ok (v.1, v.2) ∧ (xln v.1 = 0 ∨ xln v.1 = v.2) := x_dec xdt19 h
theorem xdt20_0 : (xtb20_0).all (xdec prog_2_method_2_code) = true := by decide +kernel
theorem xdt20_1 : (xtb20_1).all (xdec prog_2_method_2_code) = true := by decide +kernel
theorem xd20 {pc : Nat} {v : Instr × Nat} (h : xco20 pc = some v) : decode (xm20).2.1 pc = .ok (v.1, v.2) ∧ (xln v.1 = 0 ∨ xln v.1 = v.2) := x_bl h (fun h => x_dec xdt20_0 h) (fun h => x_dec xdt20_1 h)
theorem xdt21 : (xtb21).all (xdec prog_2_method_10_code) = true := by decide +kernel
theorem xd21 {pc : Nat} {v : Instr × Nat} (h : xco21 pc = some v) : decode (xm21).2.1 pc = .ok (v.1, v.2) ∧ (xln v.1 = 0 ∨ xln v.1 = v.2) := x_dec xdt21 h
theorem xdt22 : (xtb22).all (xdec prog_2_method_11_code) = true := by decide +kernel
theorem xd22 {pc : Nat} {v : Instr × Nat} (h : xco22 pc = some v) : decode (xm22).2.1 pc = .ok (v.1, v.2) ∧ (xln v.1 = 0 ∨ xln v.1 = v.2) := x_dec xdt22 h
theorem xdt23 : (xtb23).all (xdec prog_2_method_25_code) = true := by decide +kernel
theorem xd23 {pc : Nat} {v : Instr × Nat} (h : xco23 pc = some v) : decode (xm23).2.1 pc = .ok (v.1, v.2) ∧ (xln v.1 = 0 ∨ xln v.1 = v.2) := x_dec xdt23 h
theorem xdt24 : (xtb24).all (xdec prog_2_method_24_code) = true := by decide +kernel
theorem xd24 {pc : Nat} {v : Instr × Nat} (h : xco24 pc = some v) : decode (xm24).2.1 pc = .ok (v.1, v.2) ∧ (xln v.1 = 0 ∨ xln v.1 = v.2) := x_dec xdt24 h
theorem xdt25 : (xtb25).all (xdec prog_3_method_1_code) = true := by decide +kernel
theorem xd25 {pc : Nat} {v : Instr × Nat} (h : xco25 pc = some v) : decode (xm25).2.1 pc = .ok (v.1, v.2) ∧ (xln v.1 = 0 ∨ xln v.1 = v.2) := x_dec xdt25 h
theorem xdt26 : (xtb26).all (xdec prog_3_method_2_code) = true := by decide +kernel
theorem xd26 {pc : Nat} {v : Instr × Nat} (h : xco26 pc = some v) : decode (xm26).2.1 pc = .ok (v.1, v.2) ∧ (xln v.1 = 0 ∨ xln v.1 = v.2) := x_dec xdt26 h
theorem xdt27 : (xtb27).all (xdec prog_3_method_5_code) = true := by decide +kernel
theorem xd27 {pc : Nat} {v : Instr × Nat} (h : xco27 pc = some v) : decode (xm27).2.1 pc = .ok (v.1, v.2) ∧ (xln v.1 = 0 ∨ xln v.1 = v.2) := x_dec xdt27 h
theorem xdt28 : (xtb28).all (xdec prog_3_method_3_code) = true := by decide +kernel
theorem xd28 {pc : Nat} {v : Instr × Nat} (h : xco28 pc = some v) : decode (xm28).2.1 pc = .ok (v.1, v.2) ∧ (xln v.1 = 0 ∨ xln v.1 = v.2) := x_dec xdt28 h
theorem xdt29 : (xtb29).all (xdec prog_3_method_6_code) = true := by decide +kernel
theorem xd29 {pc : Nat} {v : Instr × Nat} (h : xco29 pc = some v) : decode (xm29).2.1 pc = .ok (v.1, v.2) ∧ (xln v.1 = 0 ∨ xln v.1 = v.2) := x_dec xdt29 h
theorem xdt30 : (xtb30).all (xdec prog_3_method_4_code) = true := by decide +kernel
theorem xd30 {pc : Nat} {v : Instr × Nat} (h : xco30 pc = some v) : decode (xm30).2.1 pc = .ok (v.1, v.2) ∧ (xln v.1 = 0 ∨ xln v.1 = v.2) := x_dec xdt30 h
theorem xdt31 : (xtb31).all (xdec prog_3_method_7_code) = true := by decide +kernel
theorem xd31 {pc : Nat} {v : Instr × Nat} (h : xco31 pc = some v) : decode (xm31).2.1 pc = .ok (v.1, v.2) ∧ (xln v.1 = 0 ∨ xln v.1 = v.2) := x_dec xdt31 h
theorem xdt32 : (xtb32).all (xdec prog_4_method_1_code) = true := by decide +kernel
theorem xd32 {pc : Nat} {v : Instr × Nat} (h : xco32 pc = some v) : decode (xm32).2.1 pc = .ok (v.1, v.2) ∧ (xln v.1 = 0 ∨ xln v.1 = v.2) := x_dec xdt32 h
theorem xdt33 : (xtb33).all (xdec prog_4_method_2_code) = true := by decide +kernel
theorem xd33 {pc : Nat} {v : Instr × Nat} (h : xco33 pc = some v) : decode (xm33).2.1 pc = .ok (v.1, v.2) ∧ (xln v.1 = 0 ∨ xln v.1 = v.2) := x_dec xdt33 h
theorem xdt34 : (xtb34).all (xdec prog_5_method_1_code) = true := by decide +kernel
theorem xd34 {pc : Nat} {v : Instr × Nat} (h : xco34 pc = some v) : decode (xm34).2.1 pc = .ok (v.1, v.2) ∧ (xln v.1 = 0 ∨ xln v.1 = v.2) := x_dec xdt34 h
theorem xdt35 : (xtb35).all (xdec prog_5_method_2_code) = true := by decide +kernel
theorem xd35 {pc : Nat} {v : Instr × Nat} (h : xco35 pc = some v) : decode (xm35).2.1 pc = .ok (v.1, v.2) ∧ (xln v.1 = 0 ∨ xln v.1 = v.2) := x_dec xdt35 h
theorem xdt36 : (xtb36).all (xdec prog_5_method_3_code) = true := by decide +kernel
theorem xd36 {pc : Nat} {v : Instr × Nat} (h : xco36 pc = some v) : decode (xm36).2.1 pc = .ok (v.1, v.2) ∧ (xln v.1 = 0 ∨ xln v.1 = v.2) := x_dec xdt36 h
theorem xdt37_0 : (xtb37_0).all (xdec prog_5_method_5_code) = true := by decide +kernel
theorem xdt37_1 : (xtb37_1).all (xdec prog_5_method_5_code) = true := by decide +kernel
theorem xd37 {pc : Nat} {v : Instr × Nat} (h : xco37 pc = some v) : decode (xm37).2.1 pc = .ok (v.1, v.2) ∧ (xln v.1 = 0 ∨ xln v.1 = v.2) := x_bl h (fun h => x_dec xdt37_0 h) (fun h => x_dec xdt37_1 h)
theorem xdt38 : (xtb38).all (xdec prog_5_method_6_code) = true := by decide +kernel
theorem xd38 {pc : Nat} {v : Instr × Nat} (h : xco38 pc = some v) : decode (xm38).2.1 pc = .ok (v.1, v.2) ∧ (xln v.1 = 0 ∨ xln v.1 = v.2) := x_dec xdt38 h
theorem xdt39 : (xtb39).all (xdec prog_5_method_7_code) = true := by decide +kernel
theorem xd39 {pc : Nat} {v : Instr × Nat} (h : xco39 pc = some v) : decode (xm39).2.1 pc = .ok (v.1, v.2) ∧ (xln v.1 = 0 ∨ xln v.1 = v.2) := x_dec xdt39 h
theorem xdt40 : (xtb40).all (xdec prog_5_method_9_code) = true := by decide +kernel
theorem xd40 {pc : Nat} {v : Instr × Nat} (h : xco40 pc = some v) : decode (xm40).2.1 pc = .ok (v.1, v.2) ∧ (xln v.1 = 0 ∨ xln v.1 = v.2) := x_dec xdt40 h
theorem xdt41 : (xtb41).all (xdec prog_5_method_10_code) = true := by decide +kernel
theorem xd41 {pc : Nat} {v : Instr × Nat} (h : xco41 pc = some v) : decode (xm41).2.1 pc = .ok (v.1, v.2) ∧ (xln v.1 = 0 ∨ xln v.1 = v.2) := x_dec xdt41 h
theorem xdt42 : (xtb42).all (xdec prog_5_method_11_code) = true := by decide +kernel
theorem xd42 {pc : Nat} {v : Instr × Nat} (h : xco42 pc = some v) : decode (xm42).2.1 pc = .ok (v.1, v.2) ∧ (xln v.1 = 0 ∨ xln v.1 = v.2) := x_dec xdt42 h
theorem xdt43 : (xtb43).all (xdec prog_5_method_13_code) = true := by decide +kernel
theorem xd43 {pc : Nat} {v : Instr × Nat} (h : xco43 pc = some v) : decode (xm43).2.1 pc = .ok (v.1, v.2) ∧ (xln v.1 = 0 ∨ xln v.1 = v.2) := x_dec xdt43 h
theorem xdt44 : (xtb44).all (xdec prog_5_method_14_code) = true := by decide +kernel
theorem xd44 {pc : Nat} {v : Instr × Nat} (h : xco44 pc = some v) : decode (xm44).2.1 pc = .ok (v.1, v.2) ∧ (xln v.1 = 0 ∨ xln v.1 = v.2) := x_dec xdt44 h
theorem xdt45 : (xtb45).all (xdec prog_5_method_15_code) = true := by decide +kernel
theorem xd45 {pc : Nat} {v : Instr × Nat} (h : xco45 pc = some v) : decode (xm45).2.1 pc = .ok (v.1, v.2) ∧ (xln v.1 = 0 ∨ xln v.1 = v.2) := x_dec xdt45 h
theorem xdt46 : (xtb46).all (xdec prog_5_method_16_code) = true := by decide +kernel
theorem xd46 {pc : Nat} {v : Instr × Nat} (h : xco46 pc = some v) : decode (xm46).2.1 pc = .ok (v.1, v.2) ∧ (xln v.1 = 0 ∨ xln v.1 = v.2) := x_dec xdt46 h
theorem xdt47 : (xtb47).all (xdec prog_5_method_17_code) = true := by decide +kernel
theorem xd47 {pc : Nat} {v : Instr × Nat} (h : xco47 pc = some v) : decode (xm47).2.1 pc = .ok (v.1, v.2) ∧ (xln v.1 = 0 ∨ xln v.1 = v.2) := x_dec xdt47 h
theorem xdt48 : (xtb48).all (xdec prog_5_method_8_code) = true := by decide +kernel
theorem xd48 {pc : Nat} {v : Instr × Nat} (h : xco48 pc = some v) : decode (xm48).2.1 pc = .ok (v.1, v.2) ∧ (xln v.1 = 0 ∨ xln v.1 = v.2) := x_dec xdt48 h
theorem xdt49 : (xtb49).all (xdec prog_5_method_12_code) = true := by decide +kernel
theorem xd49 {pc : Nat} {v : Instr × Nat} (h : xco49 pc = some v) : decode (xm49).2.1 pc = .ok (v.1, v.2) ∧ (xln v.1 = 0 ∨ xln v.1 = v.2) := x_dec xdt49 h
theorem xdt50 : (xtb50).all (xdec prog_5_method_4_code) = true := by decide +kernel
theorem xd50 {pc : Nat} {v : Instr × Nat} (h : xco50 pc = some v) : decode (xm50).2.1 pc = .ok (v.1, v.2) ∧ (xln v.1 = 0 ∨ xln v.1 = v.2) := x_dec xdt50 h
theorem xdt51_0 : (xtb51_0).all (xdec prog_6_method_2_code) = true := by decide +kernel
theorem xdt51_1 : (xtb51_1).all (xdec prog_6_method_2_code) = true := by decide +kernel
theorem xd51 {pc : Nat} {v : Instr × Nat} (h : xco51 pc = some v) : decode (xm51).2.1 pc = .ok (v.1, v.2) ∧ (xln v.1 = 0 ∨ xln v.1 = v.2) := x_bl h (fun h => x_dec xdt51_0 h) (fun h => x_dec xdt51_1 h)
theorem xdt52 : (xtb52).all (xdec prog_6_method_4_code) = true := by decide +kernel
theorem xd52 {pc : Nat} {v : Instr × Nat} (h : xco52 pc = some v) : decode (xm52).2.1 pc = .ok (v.1, v.2) ∧ (xln v.1 = 0 ∨ xln v.1 = v.2) := x_dec xdt52 h
theorem xdt53 : (xtb53).all (xdec prog_6_method_3_code) = true := by decide +kernel
theorem xd53 {pc : Nat} {v : Instr × Nat} (h : xco53 pc = some v) : decode (xm53).2.1 pc = .ok (v.1, v.2) ∧ (xln v.1 = 0 ∨ xln v.1 = v.2) := x_dec xdt53 h
theorem xdt54 : (xtb54).all (xdec prog_6_method_1_code) = true := by decide +kernel
theorem xd54 {pc : Nat} {v : Instr × Nat} (h : xco54 pc = some v) : decode (xm54).2.1 pc = .ok (v.1, v.2) ∧ (xln v.1 = 0 ∨ xln v.1 = v.2) := x_dec xdt54 h
theorem xdt55_0 : (xtb55_0).all (xdec prog_1_method_1_code) = true := by decide +kernel
theorem xdt55_1 : (xtb55_1).all (xdec prog_1_method_1_code) = true := by decide +kernel
theorem xd55 {pc : Nat} {v : Instr × Nat} (h : xco55 pc = some v) : decode (xm55).2.1 pc = .ok (v.1, v.2) ∧ (xln v.1 = 0 ∨ xln v.1 = v.2) := x_bl h (fun h => x_dec xdt55_0 h) (fun h => x_dec xdt55_1 h)
theorem xdt56 : (xtb56).all (xdec prog_1_method_2_code) = true := by decide +kernel
theorem xd56 {pc : Nat} {v : Instr × Nat} (h : xco56 pc = some v) : decode (xm56).2.1 pc = .ok (v.1, v.2) ∧ (xln v.1 = 0 ∨ xln v.1 = v.2) := x_dec xdt56 h
theorem xdt57 : (xtb57).all (xdec prog_1_method_44_code) = true := by decide +kernel
theorem xd57 {pc : Nat} {v : Instr × Nat} (h : xco57 pc = some v) : decode (xm57).2.1 pc = .ok (v.1, v.2) ∧ (xln v.1 = 0 ∨ xln v.1 = v.2) := x_dec xdt57 h
theorem xdt58_0 : (xtb58_0).all (xdec prog_1_method_3_code) = true := by decide +kernel
theorem xdt58_1 : (xtb58_1).all (xdec prog_1_method_3_code) = true := by decide +kernel
theorem xd58 {pc : Nat} {v : Instr × Nat} (h : xco58 pc = some v) : decode (xm58).2.1 pc = .ok (v.1, v.2) ∧ (xln v.1 = 0 ∨ xln v.1 = v.2) := x_bl h (fun h => x_dec xdt58_0 h) (fun h => x_dec xdt58_1 h)
theorem xdt59 : (xtb59).all (xdec prog_1_method_45_code) = true := by decide +kernel
theorem xd59 {pc : Nat} {v : Instr × Nat} (h : xco59 pc = some v) : decode (xm59).2.1 pc = .ok (v.1, v.2) ∧ (xln v.1 = 0 ∨ xln v.1 = v.2) := x_dec xdt59 h
theorem xdt60 : (xtb60).all (xdec prog_1_method_53_code) = true := by decide +kernel
theorem xd60 {pc : Nat} {v : Instr × Nat} (h : xco60 pc = some v) : decode (xm60).2.1 pc = .ok (v.1, v.2) ∧ (xln v.1 = 0 ∨ xln v.1 = v.2) := x_dec xdt60 h
theorem xdt61 : (xtb61).all (xdec prog_1_method_54_code) = true := by decide +kernel
theorem xd61 {pc : Nat} {v : Instr × Nat} (h : xco61 pc = some v) : decode (xm61).2.1 pc = .ok (v.1, v.2) ∧ (xln v.1 = 0 ∨ xln v.1 = v.2) := x_dec xdt61 h
theorem xdt62 : (xtb62).all (xdec prog_1_method_55_code) = true := by decide +kernel
theorem xd62 {pc : Nat} {v : Instr × Nat} (h : xco62 pc = some v) : decode (xm62).2.1 pc = .ok (v.1, v.2) ∧ (xln v.1 = 0 ∨ xln v.1 = v.2) := x_dec xdt62 h
theorem xdt63 : (xtb63).all (xdec prog_1_method_4_code) = true := by decide +kernel
theorem xd63 {pc : Nat} {v : Instr × Nat} (h : xco63 pc = some v) : decode (xm63).2.1 pc = .ok (v.1, v.2) ∧ (xln v.1 = 0 ∨ xln v.1 = v.2) := x_dec xdt63 h
theorem xdt64 : (xtb64).all (xdec prog_1_method_52_code) = true := by decide +kernel
theorem xd64 {pc : Nat} {v : Instr × Nat} (h : xco64 pc = some v) : decode (xm64).2.1 pc = .ok (v.1, v.2) ∧ (xln v.1 = 0 ∨ xln v.1 = v.2) := x_dec xdt64 h
theorem xdt65 : (xtb65).all (xdec prog_1_method_5_code) = true := by decide +kernel
theorem xd65 {pc : Nat} {v : Instr × Nat} (h : xco65 pc = some v) : decode (xm65).2.1 pc = .ok (v.1, v.2) ∧ (xln v.1 = 0 ∨ xln v.1 = v.2) := x_dec xdt65 h
theorem xdt66 : (xtb66).all (xdec prog_1_method_6_code) = true := by decide +kernel
theorem xd66 {pc : Nat} {v : Instr × Nat} (h : xco66 pc = some v) : decode (xm66).2.1 pc = .ok (v.1, v.2) ∧ (xln v.1 = 0 ∨ xln v.1 = v.2) := x_dec xdt66 h
theorem xdt67 : (xtb67).all (xdec prog_1_method_46_code) = true := by decide +kernel
theorem xd67 {pc : Nat} {v : Instr × Nat} (h : xco67 pc = some v) : decode (xm67).2.1 pc = .ok (v.1, v.2) ∧ (xln v.1 = 0 ∨ xln v.1 = v.2) := x_dec xdt67 h
theorem xdt68 : (xtb68).all (xdec prog_1_method_7_code) = true := by decide +kernel
theorem xd68 {pc : Nat} {v : Instr × Nat} (h : xco68 pc = some v) : decode (xm68).2.1 pc = .ok (v.1, v.2) ∧ (xln v.1 = 0 ∨ xln v.1 = v.2) := x_dec xdt68 h
theorem xdt69 : (xtb69).all (xdec prog_1_method_8_code) = true := by decide +kernel
theorem xd69 {pc : Nat} {v : Instr × Nat} (h : xco69 pc = some v) : decode (xm69).2.1 pc = .ok (v.1, v.2) ∧ (xln v.1 = 0 ∨ xln v.1 = v.2) := x_dec xdt69 h
theorem xdt70 : (xtb70).all (xdec prog_1_method_9_code) = true := by decide +kernel
theorem xd70 {pc : Nat} {v : Instr × Nat} (h : xco70 pc = some v) : decode (xm70).2.1 pc = .ok (v.1, v.2) ∧ (xln v.1 = 0 ∨ xln v.1 = v.2) := x_dec xdt70 h
theorem xdt71 : (xtb71).all (xdec prog_1_method_10_code) = true := by decide +kernel
theorem xd71 {pc : Nat} {v : Instr × Nat} (h : xco71 pc = some v) : decode (xm71).2.1 pc = .ok (v.1, v.2) ∧ (xln v.1 = 0 ∨ xln v.1 = v.2) := x_dec xdt71 h
theorem xdt72 : (xtb72).all (xdec prog_1_method_11_code) = true := by decide +kernel
theorem xd72 {pc : Nat} {v : Instr × Nat} (h : xco72 pc = some v) : decode (xm72).2.1 pc = .ok (v.1, v.2) ∧ (xln v.1 = 0 ∨ xln v.1 = v.2) := x_dec xdt72 h
theorem xdt73 : (xtb73).all (xdec prog_1_method_12_code) = true := by decide +kernel
theorem xd73 {pc : Nat} {v : Instr × Nat} (h : xco73 pc = some v) : decode (xm73).2.1 pc = .ok (v.1, v.2) ∧ (xln v.1 = 0 ∨ xln v.1 = v.2) := x_dec xdt73 h
theorem xdt74 : (xtb74).all (xdec prog_1_method_13_code) = true := by decide +kernel
theorem xd74 {pc : Nat} {v : Instr × Nat} (h : xco74 pc = some v) : decode (xm74).2.1 pc = .ok (v.1, v.2) ∧ (xln v.1 = 0 ∨ xln v.1 = v.2) := x_dec xdt74 h
theorem xdt75 : (xtb75).all (xdec prog_1_method_14_code) = true := by decide +kernel
theorem xd75 {pc : Nat} {v : Instr × Nat} (h : xco75 pc = some v) : decode (xm75).2.1 pc = .ok (v.1, v.2) ∧ (xln v.1 = 0 ∨ xln v.1 = v.2) := x_dec xdt75 h
theorem xdt76 : (xtb76).all (xdec prog_1_method_15_code) = true := by decide +kernel
theorem xd76 {pc : Nat} {v : Instr × Nat} (h : xco76 pc = some v) : decode (xm76).2.1 pc = .ok (v.1, v.2) ∧ (xln v.1 = 0 ∨ xln v.1 = v.2) := x_dec xdt76 h
theorem xdt77 : (xtb77).all (xdec prog_1_method_16_code) = true := by decide +kernel
theorem xd77 {pc : Nat} {v : Instr × Nat} (h : xco77 pc = some v) : decode (xm77).2.1 pc = .ok (v.1, v.2) ∧ (xln v.1 = 0 ∨ xln v.1 = v.2) := x_dec xdt77 h
theorem xdt78 : (xtb78).all (xdec prog_1_method_47_code) = true := by decide +kernel
theorem xd78 {pc : Nat} {v : Instr × Nat} (h : xco78 pc = some v) : decode (xm78).2.1 pc = .ok (v.1, v.2) ∧ (xln v.1 = 0 ∨ xln v.1 = v.2) := x_dec xdt78 h
theorem xdt79 : (xtb79).all (xdec prog_1_method_17_code) = true := by decide +kernel
theorem xd79 {pc : Nat} {v : Instr × Nat} (h : xco79 pc = some v) : decode (xm79).2.1 pc = .ok (v.1, v.2) ∧ (xln v.1 = 0 ∨ xln v.1 = v.2) := x_dec xdt79 h
theorem xdt80 : (xtb80).all (xdec prog_1_method_18_code) = true := by decide +kernel
theorem xd80 {pc : Nat} {v : Instr × Nat} (h : xco80 pc = some v) : decode (xm80).2.1 pc = .ok (v.1, v.2) ∧ (xln v.1 = 0 ∨ xln v.1 = v.2) := x_dec xdt80 h
theorem xdt81 : (xtb81).all (xdec prog_1_method_48_code) = true := by decide +kernel
theorem xd81 {pc : Nat} {v : Instr × Nat} (h : xco81 pc = some v) : decode (xm81).2.1 pc = .ok (v.1, v.2) ∧ (xln v.1 = 0 ∨ xln v.1 = v.2) := x_dec xdt81 h
theorem xdt82 : (xtb82).all (xdec prog_1_method_19_code) = true := by decide +kernel
theorem xd82 {pc : Nat} {v : Instr × Nat} (h : xco82 pc = some v) : decode (xm82).2.1 pc = .ok (v.1, v.2) ∧ (xln v.1 = 0 ∨ xln v.1 = v.2) := x_dec xdt82 h
theorem xdt83 : (xtb83).all (xdec prog_1_method_20_code) = true := by decide +kernel
theorem xd83 {pc : Nat} {v : Instr × Nat} (h : xco83 pc = some v) : decode (xm83).2.1 pc = .ok (v.1, v.2) ∧ (xln v.1 = 0 ∨ xln v.1 = v.2) := x_dec xdt83 h
theorem xdt84 : (xtb84).all (xdec prog_1_method_49_code) = true := by decide +kernel
theorem xd84 {pc : Nat} {v : Instr × Nat} (h : xco84 pc = some v) : decode (xm84).2.1 pc = .ok (v.1, v.2) ∧ (xln v.1 = 0 ∨ xln v.1 = v.2) := x_dec xdt84 h
theorem xdt85 : (xtb85).all (xdec prog_1_method_21_code) = true := by decide +kernel
theorem xd85 {pc : Nat} {v : Instr × Nat} (h : xco85 pc = some v) : decode (xm85).2.1 pc = .ok (v.1, v.2) ∧ (xln v.1 = 0 ∨ xln v.1 = v.2) := x_dec xdt85 h
theorem xdt86 : (xtb86).all (xdec prog_1_method_22_code) = true := by decide +kernel
theorem xd86 {pc : Nat} {v : Instr × Nat} (h : xco86 pc = some v) : decode (xm86).2.1 pc = .ok (v.1, v.2) ∧ (xln v.1 = 0 ∨ xln v.1 = v.2) := x_dec xdt86 h
theorem xdt87 : (xtb87).all (xdec prog_1_method_50_code) = true := by decide +kernel
theorem xd87 {pc : Nat} {v : Instr × Nat} (h : xco87 pc = some v) : decode (xm87).2.1 pc = .ok (v.1, v.2) ∧ (xln v.1 = 0 ∨ xln v.1 = v.2) := x_dec xdt87 h
theorem xdt88 : (xtb88).all (xdec prog_1_method_23_code) = true := by decide +kernel
theorem xd88 {pc : Nat} {v : Instr × Nat} (h : xco88 pc = some v) : decode (xm88).2.1 pc = .ok (v.1, v.2) ∧ (xln v.1 = 0 ∨ xln v.1 = v.2) := x_dec xdt88 h
theorem xdt89 : (xtb89).all (xdec prog_1_method_24_code) = true := by decide +kernel
theorem xd89 {pc : Nat} {v : Instr × Nat} (h : xco89 pc = some v) : decode (xm89).2.1 pc = .ok (v.1, v.2) ∧ (xln v.1 = 0 ∨ xln v.1 = v.2) := x_dec xdt89 h
theorem xdt90 : (xtb90).all (xdec prog_1_method_25_code) = true := by decide +kernel
theorem xd90 {pc : Nat} {v : Instr × Nat} (h : xco90 pc = some v) : decode (xm90).2.1 pc = .ok (v.1, v.2) ∧ (xln v.1 = 0 ∨ xln v.1 = v.2) := x_dec xdt90 h
theorem xdt91 : (xtb91).all (xdec prog_1_method_26_code) = true := by decide +kernel
theorem xd91 {pc : Nat} {v : Instr × Nat} (h : xco91 pc = some v) : decode (xm91).2.1 pc = .ok (v.1, v.2) ∧ (xln v.1 = 0 ∨ xln v.1 = v.2) := x_dec xdt91 h
theorem xdt92 : (xtb92).all (xdec prog_1_method_27_code) = true := by decide +kernel
theorem xd92 {pc : Nat} {v : Instr × Nat} (h : xco92 pc = some v) : decode (xm92).2.1 pc = .ok (v.1, v.2) ∧ (xln v.1 = 0 ∨ xln v.1 = v.2) := x_dec xdt92 h
theorem xdt93 : (xtb93).all (xdec prog_1_method_28_code) = true := by decide +kernel
theorem xd93 {pc : Nat} {v : Instr × Nat} (h : xco93 pc = some v) : decode (xm93).2.1 pc = .ok (v.1, v.2) ∧ (xln v.1 = 0 ∨ xln v.1 = v.2) := x_dec xdt93 h
theorem xdt94 : (xtb94).all (xdec prog_1_method_29_code) = true := by decide +kernel
theorem xd94 {pc : Nat} {v : Instr × Nat} (h : xco94 pc = some v) : decode (xm94).2.1 pc = .ok (v.1, v.2) ∧ (xln v.1 = 0 ∨ xln v.1 = v.2) := x_dec xdt94 h
theorem xdt95 : (xtb95).all (xdec prog_1_method_30_code) = true := by decide +kernel
theorem xd95 {pc : Nat} {v : Instr × Nat} (h : xco95 pc = some v) : decode (xm95).2.1 pc = .ok (v.1, v.2) ∧ (xln v.1 = 0 ∨ xln v.1 = v.2) := x_dec xdt95 h
theorem xdt96 : (xtb96).all (xdec prog_1_method_31_code) = true := by decide +kernel
theorem xd96 {pc : Nat} {v : Instr × Nat} (h : xco96 pc = some v) : decode (xm96).2.1 pc = .ok (v.1, v.2) ∧ (xln v.1 = 0 ∨ xln v.1 = v.2) := x_dec xdt96 h
theorem xdt97_0 : (xtb97_0).all (xdec prog_1_method_32_code) = true := by decide +kernel
theorem xdt97_1 : (xtb97_1).all (xdec prog_1_method_32_code) = true := by decide +kernel
theorem xd97 {pc : Nat} {v : Instr × Nat} (h : xco97 pc = some v) : decode (xm97).2.1 pc = .ok (v.1, v.2) ∧ (xln v.1 = 0 ∨ xln v.1 = v.2) := x_bl h (fun h => x_dec xdt97_0 h) (fun h => x_dec xdt97_1 h)
theorem xdt98 : (xtb98).all (xdec prog_1_method_33_code) = true := by decide +kernel
theorem xd98 {pc : Nat} {v : Instr × Nat} (h : xco98 pc = some v) : decode (xm98).2.1 pc = .ok (v.1, v.2) ∧ (xln v.1 = 0 ∨ xln v.1 = v.2) := x_dec xdt98 h
theorem xdt99 : (xtb99).all (xdec prog_1_method_34_code) = true := by decide +kernel
theorem xd99 {pc : Nat} {v : Instr × Nat} (h : xco99 pc = some v) : decode (xm99).2.1 pc = .ok (v.1, v.2) ∧ (xln v.1 = 0 ∨ xln v.1 = v.2) := x_dec xdt99 h
theorem xdt100_0 : (xtb100_0).all (xdec prog_1_method_35_code) = true := by decide +kernel
theorem xdt100_1 : (xtb100_1).all (xdec prog_1_method_35_code) = true := by decide +kernel
theorem xd100 {pc : Nat} {v : Instr × Nat} (h : xco100 pc = some v) : decode (xm100).2.1 pc = .ok (v.1, v.2) ∧ (xln v.1 = 0 ∨ xln v.1 = v.2) := x_bl h (fun h => x_dec xdt100_0 h) (fun h => x_dec xdt100_1 h)
theorem xdt101 : (xtb101).all (xdec prog_1_method_36_code) = true := by decide +kernel
theorem xd101 {pc : Nat} {v : Instr × Nat} (h : xco101 pc = some v) : decode (xm101).2.1 pc = .ok (v.1, v.2) ∧ (xln v.1 = 0 ∨ xln v.1 = v.2) := x_dec xdt101 h
theorem xdt102 : (xtb102).all (xdec prog_1_method_37_code) = true := by decide +kernel
theorem xd102 {pc : Nat} {v : Instr × Nat} (h : xco102 pc = some v) : decode (xm102).2.1 pc = .ok (v.1, v.2) ∧ (xln v.1 = 0 ∨ xln v.1 = v.2) := x_dec xdt102 h
theorem xdt103 : (xtb103).all (xdec prog_1_method_38_code) = true := by decide +kernel
theorem xd103 {pc : Nat} {v : Instr × Nat} (h : xco103 pc = some v) : decode (xm103).2.1 pc = .ok (v.1, v.2) ∧ (xln v.1 = 0 ∨ xln v.1 = v.2) := x_dec xdt103 h
theorem xdt104 : (xtb104).all (xdec prog_1_method_39_code) = true := by decide +kernel
theorem xd104 {pc : Nat} {v : Instr × Nat} (h : xco104 pc = some v) : decode (xm104).2.1 pc = .ok (v.1, v.2) ∧ (xln v.1 = 0 ∨ xln v.1 = v.2) := x_dec xdt104 h
theorem xdt105_0 : (xtb105_0).all (xdec prog_1_method_40_code) = true := by decide +kernel
theorem xdt105_1 : (xtb105_1).all (xdec prog_1_method_40_code) = true := by decide +kernel
theorem xd105 {pc : Nat} {v : Instr × Nat} (h : xco105 pc = some v) : decode (xm105).2.1 pc = .ok (v.1, v.2) ∧ (xln v.1 = 0 ∨ xln v.1 = v.2) := x_bl h (fun h => x_dec xdt105_0 h) (fun h => x_dec xdt105_1 h)
theorem xdt106 : (xtb106).all (xdec prog_1_method_51_code) = true := by decide +kernel
theorem xd106 {pc : Nat} {v : Instr × Nat} (h : xco106 pc = some v) : decode (xm106).2.1 pc = .ok (v.1, v.2) ∧ (xln v.1 = 0 ∨ xln v.1 = v.2) := x_dec xdt106 h
theorem xdt107 : (xtb107).all (xdec prog_1_method_41_code) = true := by decide +kernel
theorem xd107 {pc : Nat} {v : Instr × Nat} (h : xco107 pc = some v) : decode (xm107).2.1 pc = .ok (v.1, v.2) ∧ (xln v.1 = 0 ∨ xln v.1 = v.2) := x_dec xdt107 h
theorem xdt108 : (xtb108).all (xdec prog_1_method_42_code) = true := by decide +kernel
theorem xd108 {pc : Nat} {v : Instr × Nat} (h : xco108 pc = some v) : decode (xm108).2.1 pc = .ok (v.1, v.2) ∧ (xln v.1 = 0 ∨ xln v.1 = v.2) := x_dec xdt108 h
theorem xdt109 : (xtb109).all (xdec prog_1_method_43_code) = true := by decide +kernel
theorem xd109 {pc : Nat} {v : Instr × Nat} (h : xco109 pc = some v) : decode (xm109).2.1 pc = .ok (v.1, v.2) ∧ (xln v.1 = 0 ∨ xln v.1 = v.2) := x_dec xdt109 h
theorem xdt110_0 : (xtb110_0).all (xdec prog_8_method_1_code) = true := by decide +kernel
theorem xdt110_1 : (xtb110_1).all (xdec prog_8_method_1_code) = true := by decide +kernel
theorem xdt110_2 : (xtb110_2).all (xdec prog_8_method_1_code) = true := by decide +kernel
theorem xd110 {pc : Nat} {v : Instr × Nat} (h : xco110 pc = some v) : decode (xm110).2.1 pc = .ok (v.1, v.2) ∧ (xln v.1 = 0 ∨ xln v.1 = v.2) := x_bl h (fun h => x_dec xdt110_0 h) (fun h => x_bl h (fun h => x_dec xdt110_1 h) (fun h => x_dec xdt110_2 h))
theorem xdt111 : (xtb111).all (xdec prog_8_method_34_code) = true := by decide +kernel
theorem xd111 {pc : Nat} {v : Instr × Nat} (h : xco111 pc = some v) : decode (xm111).2.1 pc = .ok (v.1, v.2) ∧ (xln v.1 = 0 ∨ xln v.1 = v.2) := x_dec xdt111 h
theorem xdt112 : (xtb112).all (xdec prog_8_method_3_code) = true := by decide +kernel
theorem xd112 {pc : Nat} {v : Instr × Nat} (h : xco112 pc = some v) : decode (xm112).2.1 pc = .ok (v.1, v.2) ∧ (xln v.1 = 0 ∨ xln v.1 = v.2) := x_dec xdt112 h
theorem xdt113 : (xtb113).all (xdec prog_8_method_8_code) = true := by decide +kernel
theorem xd113 {pc : Nat} {v : Instr × Nat} (h : xco113 pc = some v) : decode (xm113).2.1 pc = .ok (v.1, v.2) ∧ (xln v.1 = 0 ∨ xln v.1 = v.2) := x_dec xdt113 h
theorem xdt114 : (xtb114).all (xdec prog_8_method_10_code) = true := by decide +kernel
theorem xd114 {pc : Nat} {v : Instr × Nat} (h : xco114 pc = some v) : decode (xm114).2.1 pc = .ok (v.1, v.2) ∧ (xln v.1 = 0 ∨ xln v.1 = v.2) := x_dec xdt114 h
theorem xdt115 : (xtb115).all (xdec prog_8_method_35_code) = true := by decide +kernel
theorem xd115 {pc : Nat} {v : Instr × Nat} (h : xco115 pc = some v) : decode (xm115).2.1 pc = .ok (v.1, v.2) ∧ (xln v.1 = 0 ∨ xln v.1 = v.2) := x_dec xdt115 h
theorem xdt116 : (xtb116).all (xdec prog_8_method_7_code) = true := by decide +kernel
theorem xd116 {pc : Nat} {v : Instr × Nat} (h : xco116 pc = some v) : decode (xm116).2.1 pc = .ok (v.1, v.2) ∧ (xln v.1 = 0 ∨ xln v.1 = v.2) := x_dec xdt116 h
theorem xdt117 : (xtb117).all (xdec prog_8_method_21_code) = true := by decide +kernel
theorem xd117 {pc : Nat} {v : Instr × Nat} (h : xco117 pc = some v) : decode (xm117).2.1 pc = .ok (v.1, v.2) ∧ (xln v.1 = 0 ∨ xln v.1 = v.2) := x_dec xdt117 h
theorem xdt118 : (xtb118).all (xdec prog_8_method_20_code) = true := by decide +kernel
theorem xd118 {pc : Nat} {v : Instr × Nat} (h : xco118 pc = some v) : decode (xm118).2.1 pc = .ok (v.1, v.2) ∧ (xln v.1 = 0 ∨ xln v.1 = v.2) := x_dec xdt118 h
theorem xdt119 : (xtb119).all (xdec prog_8_method_15_code) = true := by decide +kernel
theorem xd119 {pc : Nat} {v : Instr × Nat} (h : xco119 pc = some v) : decode (xm119).2.1 pc = .ok (v.1, v.2) ∧ (xln v.1 = 0 ∨ xln v.1 = v.2) := x_dec xdt119 h
theorem xdt120 : (xtb120).all (xdec prog_8_method_9_code) = true := by decide +kernel
theorem xd120 {pc : Nat} {v : Instr × Nat} (h : xco120 pc = some v) : decode (xm120).2.1 pc = .ok (v.1, v.2) ∧ (xln v.1 = 0 ∨ xln v.1 = v.2) := x_dec xdt120 h
theorem xdt121 : (xtb121).all (xdec prog_8_method_18_code) = true := by decide +kernel
theorem xd121 {pc : Nat} {v : Instr × Nat} (h : xco121 pc = some v) : decode (xm121).2.1 pc = .ok (v.1, v.2) ∧ (xln v.1 = 0 ∨ xln v.1 = v.2) := x_dec xdt121 h
theorem xdt122 : (xtb122).all (xdec prog_8_method_12_code) = true := by decide +kernel
theorem xd122 {pc : Nat} {v : Instr × Nat} (h : xco122 pc = some v) : decode (xm122).2.1 pc = .ok (v.1, v.2) ∧ (xln v.1 = 0 ∨ xln v.1 = v.2) := x_dec xdt122 h
theorem xdt123_0 : (xtb123_0).all (xdec prog_8_method_17_code) = true := by decide +kernel
theorem xdt123_1 : (xtb123_1).all (xdec prog_8_method_17_code) = true := by decide +kernel
theorem xd123 {pc : Nat} {v : Instr × Nat} (h : xco123 pc = some v) : decode (xm123).2.1 pc = .ok (v.1, v.2) ∧ (xln v.1 = 0 ∨ xln v.1 = v.2) := x_bl h (fun h => x_dec xdt123_0 h) (fun h => x_dec xdt123_1 h)
theorem xdt124_0 : (xtb124_0).all (xdec prog_8_method_16_code) = true := by decide +kernel
theorem xdt124_1 : (xtb124_1).all (xdec prog_8_method_16_code) = true := by decide +kernel
theorem xd124 {pc : Nat} {v : Instr × Nat} (h : xco124 pc = some v) : decode (xm124).2.1 pc = .ok (v.1, v.2) ∧ (xln v.1 = 0 ∨ xln v.1 = v.2) := x_bl h (fun h => x_dec xdt124_0 h) (fun h => x_dec xdt124_1 h)
theorem xdt125 : (xtb125).all (xdec prog_8_method_4_code) = true := by decide +kernel
theorem xd125 {pc : Nat} {v : Instr × Nat} (h : xco125 pc = some v) : decode (xm125).2.1 pc = .ok (v.1, v.2) ∧ (xln v.1 = 0 ∨ xln v.1 = v.2) := x_dec xdt125 h
theorem xdt126 : (xtb126).all (xdec prog_8_method_19_code) = true := by decide +kernel
theorem xd126 {pc : Nat} {v : Instr × Nat} (h : xco126 pc = some v) : decode (xm126).2.1 pc = .ok (v.1, v.2) ∧ (xln v.1 = 0 ∨ xln v.1 = v.2) := x_dec xdt126 h
theorem xdt127 : (xtb127).all (xdec prog_8_method_22_code) = true := by decide +kernel
theorem xd127 {pc : Nat} {v : Instr × Nat} (h : xco127 pc = some v) : decode (xm127).2.1 pc = .ok (v.1, v.2) ∧ (xln v.1 = 0 ∨ xln v.1 = v.2) := x_dec xdt127 h
theorem xdt128 : (xtb128).all (xdec prog_8_method_23_code) = true := by decide +kernel
theorem xd128 {pc : Nat} {v : Instr × Nat} (h : xco128 pc = some v) : decode (xm128).2.1 pc = .ok (v.1, v.2) ∧ (xln v.1 = 0 ∨ xln v.1 = v.2) := x_dec xdt128 h
theorem xdt129 : (xtb129).all (xdec prog_8_method_36_code) = true := by decide +kernel
theorem xd129 {pc : Nat} {v : Instr × Nat} (h : xco129 pc = some v) : decode (xm129).2.1 pc = .ok (v.1, v.2) ∧ (xln v.1 = 0 ∨ xln v.1 = v.2) := x_dec xdt129 h
theorem xdt130 : (xtb130).all (xdec prog_8_method_14_code) = true := by decide +kernel
theorem xd130 {pc : Nat} {v : Instr × Nat} (h : xco130 pc = some v) : decode (xm130).2.1 pc = .ok (v.1, v.2) ∧ (xln v.1 = 0 ∨ xln v.1 = v.2) := x_dec xdt130 h
theorem xdt131 : (xtb131).all (xdec prog_8_method_13_code) = true := by decide +kernel
theorem xd131 {pc : Nat} {v : Instr × Nat} (h : xco131 pc = some v) : decode (xm131).2.1 pc = .ok (v.1, v.2) ∧ (xln v.1 = 0 ∨ xln v.1 = v.2) := x_dec xdt131 h
theorem xdt132 : (xtb132).all (xdec prog_8_method_37_code) = true := by decide +kernel
theorem xd132 {pc : Nat} {v : Instr × Nat} (h : xco132 pc = some v) : decode (xm132).2.1 pc = .ok (v.1, v.2) ∧ (xln v.1 = 0 ∨ xln v.1 = v.2) := x_dec xdt132 h
theorem xdt133 : (xtb133).all (xdec prog_8_method_11_code) = true := by decide +kernel
theorem xd133 {pc : Nat} {v : Instr × Nat} (h : xco133 pc = some v) : decode (xm133).2.1 pc = .ok (v.1, v.2) ∧ (xln v.1 = 0 ∨ xln v.1 = v.2) := x_dec xdt133 h
theorem xdt134 : (xtb134).all (xdec prog_8_method_38_code) = true := by decide +kernel
theorem xd134 {pc : Nat} {v : Instr × Nat} (h : xco134 pc = some v) : decode (xm134).2.1 pc = .ok (v.1, v.2) ∧ (xln v.1 = 0 ∨ xln v.1 = v.2) := x_dec xdt134 h
theorem xdt135 : (xtb135).all (xdec prog_8_method_39_code) = true := by decide +kernel
theorem xd135 {pc : Nat} {v : Instr × Nat} (h : xco135 pc = some v) : decode (xm135).2.1 pc = .ok (v.1, v.2) ∧ (xln v.1 = 0 ∨ xln v.1 = v.2) := x_dec xdt135 h
theorem xdt136_0 : (xtb136_0).all (xdec prog_8_method_40_code) = true := by decide +kernel
theorem xdt136_1 : (xtb136_1).all (xdec prog_8_method_40_code) = true := by decide +kernel
theorem xd136 {pc : Nat} {v : Instr × Nat} (h : xco136 pc = some v) : decode (xm136).2.1 pc = .ok (v.1, v.2) ∧ (xln v.1 = 0 ∨ xln v.1 = v.2) := x_bl h (fun h => x_dec xdt136_0 h) (fun h => x_dec xdt136_1 h)
theorem xdt137 : (xtb137).all (xdec prog_8_method_41_code) = true := by decide +kernel
theorem xd137 {pc : Nat} {v : Instr × Nat} (h : xco137 pc = some v) : decode (xm137).2.1 pc = .ok (v.1, v.2) ∧ (xln v.1 = 0 ∨ xln v.1 = v.2) := x_dec xdt137 h
theorem xdt138 : (xtb138).all (xdec prog_8_method_42_code) = true := by decide +kernel
theorem xd138 {pc : Nat} {v : Instr × Nat} (h : xco138 pc = some v) : decode (xm138).2.1 pc = .ok (v.1, v.2) ∧ (xln v.1 = 0 ∨ xln v.1 = v.2) := x_dec xdt138 h
theorem xdt139 : (xtb139).all (xdec prog_8_method_24_code) = true := by decide +kernel
theorem xd139 {pc : Nat} {v : Instr × Nat} (h : xco139 pc = some v) : decode (xm139).2.1 pc = .ok (v.1, v.2) ∧ (xln v.1 = 0 ∨ xln v.1 = v.2) := x_dec xdt139 h
theorem xdt140 : (xtb140).all (xdec prog_8_method_43_code) = true := by decide +kernel
theorem xd140 {pc : Nat} {v : Instr × Nat} (h : xco140 pc = some v) : decode (xm140).2.1 pc = .ok (v.1, v.2) ∧ (xln v.1 = 0 ∨ xln v.1 = v.2) := x_dec xdt140 h
theorem xdt141 : (xtb141).all (xdec prog_8_method_44_code) = true := by decide +kernel
theorem xd141 {pc : Nat} {v : Instr × Nat} (h : xco141 pc = some v) : decode (xm141).2.1 pc = .ok (v.1, v.2) ∧ (xln v.1 = 0 ∨ xln v.1 = v.2) := x_dec xdt141 h
theorem xdt142 : (xtb142).all (xdec prog_8_method_26_code) = true := by decide +kernel
theorem xd142 {pc : Nat} {v : Instr × Nat} (h : xco142 pc = some v) : decode (xm142).2.1 pc = .ok (v.1, v.2) ∧ (xln v.1 = 0 ∨ xln v.1 = v.2) := x_dec xdt142 h
theorem xdt143 : (xtb143).all (xdec prog_8_method_25_code) = true := by decide +kernel
theorem xd143 {pc : Nat} {v : Instr × Nat} (h : xco143 pc = some v) : decode (xm143).2.1 pc = .ok (v.1, v.2) ∧ (xln v.1 = 0 ∨ xln v.1 = v.2) := x_dec xdt143 h
theorem xdt144 : (xtb144).all (xdec prog_8_method_45_code) = true := by decide +kernel
theorem xd144 {pc : Nat} {v : Instr × Nat} (h : xco144 pc = some v) : decode (xm144).2.1 pc = .ok (v.1, v.2) ∧ (xln v.1 = 0 ∨ xln v.1 = v.2) := x_dec xdt144 h
theorem xdt145 : (xtb145).all (xdec prog_8_method_28_code) = true := by decide +kernel
theorem xd145 {pc : Nat} {v : Instr × Nat} (h : xco145 pc = some v) : decode (xm145).2.1 pc = .ok (v.1, v.2) ∧ (xln v.1 = 0 ∨ xln v.1 = v.2) := x_dec xdt145 h
theorem xdt146_0 : (xtb146_0).all (xdec prog_8_method_27_code) = true := by decide +kernel
theorem xdt146_1 : (xtb146_1).all (xdec prog_8_method_27_code) = true := by decide +kernel
theorem xd146 {pc : Nat} {v : Instr × Nat} (h : xco146 pc = some v) : decode (xm146).2.1 pc = .ok (v.1, v.2) ∧ (xln v.1 = 0 ∨ xln v.1 = v.2) := x_bl h (fun h => x_dec xdt146_0 h) (fun h => x_dec xdt146_1 h)
theorem xdt147 : (xtb147).all (xdec prog_8_method_46_code) = true := by decide +kernel
theorem xd147 {pc : Nat} {v : Instr × Nat} (h : xco147 pc = some v) : decode (xm147).2.1 pc = .ok (v.1, v.2) ∧ (xln v.1 = 0 ∨ xln v.1 = v.2) := x_dec xdt147 h
theorem xdt148 : (xtb148).all (xdec prog_8_method_29_code) = true := by decide +kernel
theorem xd148 {pc : Nat} {v : Instr × Nat} (h : xco148 pc = some v) : decode (xm148).2.1 pc = .ok (v.1, v.2) ∧ (xln v.1 = 0 ∨ xln v.1 = v.2) := x_dec xdt148 h
theorem xdt149 : (xtb149).all (xdec prog_8_method_30_code) = true := by decide +kernel
theorem xd149 {pc : Nat} {v : Instr × Nat} (h : xco149 pc = some v) : decode (xm149).2.1 pc = .ok (v.1, v.2) ∧ (xln v.1 = 0 ∨ xln v.1 = v.2) := x_dec xdt149 h
theorem xdt150 : (xtb150).all (xdec prog_8_method_31_code) = true := by decide +kernel
theorem xd150 {pc : Nat} {v : Instr × Nat} (h : xco150 pc = some v) : decode (xm150).2.1 pc = .ok (v.1, v.2) ∧ (xln v.1 = 0 ∨ xln v.1 = v.2) := x_dec xdt150 h
theorem xdt151 : (xtb151).all (xdec prog_8_method_32_code) = true := by decide +kernel
theorem xd151 {pc : Nat} {v : Instr × Nat} (h : xco151 pc = some v) : decode (xm151).2.1 pc = .ok (v.1, v.2) ∧ (xln v.1 = 0 ∨ xln v.1 = v.2) := x_dec xdt151 h
theorem xdt152 : (xtb152).all (xdec prog_8_method_33_code) = true := by decide +kernel
theorem xd152 {pc : Nat} {v : Instr × Nat} (h : xco152 pc = some v) : decode (xm152).2.1 pc = .ok (v.1, v.2) ∧ (xln v.1 = 0 ∨ xln v.1 = v.2) := x_dec xdt152 h
theorem xdt153 : (xtb153).all (xdec prog_8_method_47_code) = true := by decide +kernel
theorem xd153 {pc : Nat} {v : Instr × Nat} (h : xco153 pc = some v) : decode (xm153).2.1 pc = .ok (v.1, v.2) ∧ (xln v.1 = 0 ∨ xln v.1 = v.2) := x_dec xdt153 h
theorem xdt154 : (xtb154).all (xdec prog_8_method_6_code) = true := by decide +kernel
theorem xd154 {pc : Nat} {v : Instr × Nat} (h : xco154 pc = some v) : decode (xm154).2.1 pc = .ok (v.1, v.2) ∧ (xln v.1 = 0 ∨ xln v.1 = v.2) := x_dec xdt154 h
theorem xdt155 : (xtb155).all (xdec prog_8_method_48_code) = true := by decide +kernel
theorem xd155 {pc : Nat} {v : Instr × Nat} (h : xco155 pc = some v) : decode (xm155).2.1 pc = .ok (v.1, v.2) ∧ (xln v.1 = 0 ∨ xln v.1 = v.2) := x_dec xdt155 h
theorem xdt156 : (xtb156).all (xdec prog_8_method_49_code) = true := by decide +kernel
theorem xd156 {pc : Nat} {v : Instr × Nat} (h : xco156 pc = some v) : decode (xm156).2.1 pc = .ok (v.1, v.2) ∧ (xln v.1 = 0 ∨ xln v.1 = v.2) := x_dec xdt156 h
theorem xdt157_0 : (xtb157_0).all (xdec prog_8_method_50_code) = true := by decide +kernel
theorem xdt157_1 : (xtb157_1).all (xdec prog_8_method_50_code) = true := by decide +kernel
theorem xd157 {pc : Nat} {v : Instr × Nat} (h : xco157 pc = some v) : decode (xm157).2.1 pc = .ok (v.1, v.2) ∧ (xln v.1 = 0 ∨ xln v.1 = v.2) := x_bl h (fun h => x_dec xdt157_0 h) (fun h => x_dec xdt157_1 h)
theorem xdt158_0 : (xtb158_0).all (xdec prog_8_method_51_code) = true := by decide +kernel
theorem xdt158_1 : (xtb158_1).all (xdec prog_8_method_51_code) = true := by decide +kernel
theorem xd158 {pc : Nat} {v : Instr × Nat} (h : xco158 pc = some v) : decode (xm158).2.1 pc = .ok (v.1, v.2) ∧ (xln v.1 = 0 ∨ xln v.1 = v.2) := x_bl h (fun h => x_dec xdt158_0 h) (fun h => x_dec xdt158_1 h)
theorem xdt159 : (xtb159).all (xdec prog_8_method_53_code) = true := by decide +kernel
theorem xd159 {pc : Nat} {v : Instr × Nat} (h : xco159 pc = some v) : decode (xm159).2.1 pc = .ok (v.1, v.2) ∧ (xln v.1 = 0 ∨ xln v.1 = v.2) := x_dec xdt159 h
theorem xdt160 : (xtb160).all (xdec prog_8_method_52_code) = true := by decide +kernel
theorem xd160 {pc : Nat} {v : Instr × Nat} (h : xco160 pc = some v) : decode (xm160).2.1 pc = .ok (v.1, v.2) ∧ (xln v.1 = 0 ∨ xln v.1 = v.2) := x_dec xdt160 h
theorem xdt161 : (xtb161).all (xdec prog_8_method_54_code) = true := by decide +kernel
theorem xd161 {pc : Nat} {v : Instr × Nat} (h : xco161 pc = some v) : decode (xm161).2.1 pc = .ok (v.1, v.2) ∧ (xln v.1 = 0 ∨ xln v.1 = v.2) := x_dec xdt161 h
theorem xdt162_0 : (xtb162_0).all (xdec prog_8_method_55_code) = true := by decide +kernel
theorem xdt162_1 : (xtb162_1).all (xdec prog_8_method_55_code) = true := by decide +kernel
theorem xdt162_2 : (xtb162_2).all (xdec prog_8_method_55_code) = true := by decide +kernel
theorem xd162 {pc : Nat} {v : Instr × Nat} (h : xco162 pc = some v) : decode (xm162).2.1 pc = .ok (v.1, v.2) ∧ (xln v.1 = 0 ∨ xln v.1 = v.2) := x_bl h (fun h => x_dec xdt162_0 h) (fun h => x_bl h (fun h => x_dec xdt162_1 h) (fun h => x_dec xdt162_2 h))
theorem xdt163 : (xtb163).all (xdec prog_8_method_75_code) = true := by decide +kernel
theorem xd163 {pc : Nat} {v : Instr × Nat} (h : xco163 pc = some v) : decode (xm163).2.1 pc = .ok (v.1, v.2) ∧ (xln v.1 = 0 ∨ xln v.1 = v.2) := x_dec xdt163 h
theorem xdt164 : (xtb164).all (xdec prog_8_method_5_code) = true := by decide +kernel
theorem xd164 {pc : Nat} {v : Instr × Nat} (h : xco164 pc = some v) : decode (xm164).2.1 pc = .ok (v.1, v.2) ∧ (xln v.1 = 0 ∨ xln v.1 = v.2) := x_dec xdt164 h
theorem xdt165 : (xtb165).all (xdec prog_8_method_56_code) = true := by decide +kernel
theorem xd165 {pc : Nat} {v : Instr × Nat} (h : xco165 pc = some v) : decode (xm165).2.1 pc = .ok (v.1, v.2) ∧ (xln v.1 = 0 ∨ xln v.1 = v.2) := x_dec xdt165 h
theorem xdt166 : (xtb166).all (xdec prog_8_method_57_code) = true := by decide +kernel
theorem xd166 {pc : Nat} {v : Instr × Nat} (h : xco166 pc = some v) : decode (xm166).2.1 pc = .ok (v.1, v.2) ∧ (xln v.1 = 0 ∨ xln v.1 = v.2) := x_dec xdt166 h
theorem xdt167 : (xtb167).all (xdec prog_8_method_58_code) = true := by decide +kernel
theorem xd167 {pc : Nat} {v : Instr × Nat} (h : xco167 pc = some v) : decode (xm167).2.1 pc = .ok (v.1, v.2) ∧ (xln v.1 = 0 ∨ xln v.1 = v.2) := x_dec xdt167 h
theorem xdt168 : (xtb168).all (xdec prog_8_method_59_code) = true := by decide +kernel
theorem xd168 {pc : Nat} {v : Instr × Nat} (h : xco168 pc = some v) : decode (xm168).2.1 pc = .ok (v.1, v.2) ∧ (xln v.1 = 0 ∨ xln v.1 = v.2) := x_dec xdt168 h
theorem xdt169_0 : (xtb169_0).all (xdec prog_8_method_72_code) = true := by decide +kernel
theorem xdt169_1 : (xtb169_1).all (xdec prog_8_method_72_code) = true := by decide +kernel
theorem xdt169_2 : (xtb169_2).all (xdec prog_8_method_72_code) = true := by decide +kernel
theorem xd169 {pc : Nat} {v : Instr × Nat} (h : xco169 pc = some v) : decode (xm169).2.1 pc = .ok (v.1, v.2) ∧ (xln v.1 = 0 ∨ xln v.1 = v.2) := x_bl h (fun h => x_dec xdt169_0 h) (fun h => x_bl h (fun h => x_dec xdt169_1 h) (fun h => x_dec xdt169_2 h))
theorem xdt170_0 : (xtb170_0).all (xdec prog_8_method_61_code) = true := by decide +kernel
theorem xdt170_1 : (xtb170_1).all (xdec prog_8_method_61_code) = true := by decide +kernel
theorem xdt170_2 : (xtb170_2).all (xdec prog_8_method_61_code) = true := by decide +kernel
theorem xdt170_3 : (xtb170_3).all (xdec prog_8_method_61_code) = true := by decide +kernel
theorem xd170 {pc : Nat} {v : Instr × Nat} (h : xco170 pc = some v) : decode (xm170).2.1 pc = .ok (v.1, v.2) ∧ (xln v.1 = 0 ∨ xln v.1 = v.2) := x_bl h (fun h => x_dec xdt170_0 h) (fun h => x_bl h (fun h => x_dec xdt170_1 h) (fun h => x_bl h (fun h => x_dec xdt170_2 h) (fun h => x_dec xdt170_3 h)))
theorem xdt171 : (xtb171).all (xdec prog_8_method_60_code) = true := by decide +kernel
theorem xd171 {pc : Nat} {v : Instr × Nat} (h : xco171 pc = some v) : decode (xm171).2.1 pc = .ok (v.1, v.2) ∧ (xln v.1 = 0 ∨ xln v.1 = v.2) := x_dec xdt171 h
theorem xdt172 : (xtb172).all (xdec prog_8_method_63_code) = true := by decide +kernel
theorem xd172 {pc : Nat} {v : Instr × Nat} (h : xco172 pc = some v) : decode (xm172).2.1 pc = .ok (v.1, v.2) ∧ (xln v.1 = 0 ∨ xln v.1 = v.2) := x_dec xdt172 h
theorem xdt173 : (xtb173).all (xdec prog_8_method_71_code) = true := by decide +kernel
theorem xd173 {pc : Nat} {v : Instr × Nat} (h : xco173 pc = some v) : decode (xm173).2.1 pc = .ok (v.1, v.2) ∧ (xln v.1 = 0 ∨ xln v.1 = v.2) := x_dec xdt173 h
theorem xdt174 : (xtb174).all (xdec prog_8_method_70_code) = true := by decide +kernel
theorem xd174 {pc : Nat} {v : Instr × Nat} (h : xco174 pc = some v) : decode (xm174).2.1 pc = .ok (v.1, v.2) ∧ (xln v.1 = 0 ∨ xln v.1 = v.2) := x_dec xdt174 h
theorem xdt175 : (xtb175).all (xdec prog_8_method_69_code) = true := by decide +kernel
theorem xd175 {pc : Nat} {v : Instr × Nat} (h : xco175 pc = some v) : decode (xm175).2.1 pc = .ok (v.1, v.2) ∧ (xln v.1 = 0 ∨ xln v.1 = v.2) := x_dec xdt175 h
theorem xdt176 : (xtb176).all (xdec prog_8_method_68_code) = true := by decide +kernel
theorem xd176 {pc : Nat} {v : Instr × Nat} (h : xco176 pc = some v) : decode (xm176).2.1 pc = .ok (v.1, v.2) ∧ (xln v.1 = 0 ∨ xln v.1 = v.2) := x_dec xdt176 h
theorem xdt177 : (xtb177).all (xdec prog_8_method_67_code) = true := by decide +kernel
theorem xd177 {pc : Nat} {v : Instr × Nat} (h : xco177 pc = some v) : decode (xm177).2.1 pc = .ok (v.1, v.2) ∧ (xln v.1 = 0 ∨ xln v.1 = v.2) := x_dec xdt177 h
theorem xdt178_0 : (xtb178_0).all (xdec prog_8_method_66_code) = true := by decide +kernel
theorem xdt178_1 : (xtb178_1).all (xdec prog_8_method_66_code) = true := by decide +kernel
theorem xd178 {pc : Nat} {v : Instr × Nat} (h : xco178 pc = some v) : decode (xm178).2.1 pc = .ok (v.1, v.2) ∧ (xln v.1 = 0 ∨ xln v.1 = v.2) := x_bl h (fun h => x_dec xdt178_0 h) (fun h => x_dec xdt178_1 h)
theorem xdt179 : (xtb179).all (xdec prog_8_method_62_code) = true := by decide +kernel
theorem xd179 {pc : Nat} {v : Instr × Nat} (h : xco179 pc = some v) : decode (xm179).2.1 pc = .ok (v.1, v.2) ∧ (xln v.1 = 0 ∨ xln v.1 = v.2) := x_dec xdt179 h
theorem xdt180 : (xtb180).all (xdec prog_8_method_64_code) = true := by decide +kernel
theorem xd180 {pc : Nat} {v : Instr × Nat} (h : xco180 pc = some v) : decode (xm180).2.1 pc = .ok (v.1, v.2) ∧ (xln v.1 = 0 ∨ xln v.1 = v.2) := x_dec xdt180 h
theorem xdt181_0 : (xtb181_0).all (xdec prog_8_method_65_code) = true := by decide +kernel
theorem xdt181_1 : (xtb181_1).all (xdec prog_8_method_65_code) = true := by decide +kernel
theorem xd181 {pc : Nat} {v : Instr × Nat} (h : xco181 pc = some v) : decode (xm181).2.1 pc = .ok (v.1, v.2) ∧ (xln v.1 = 0 ∨ xln v.1 = v.2) := x_bl h (fun h => x_dec xdt181_0 h) (fun h => x_dec xdt181_1 h)
theorem xdt182 : (xtb182).all (xdec prog_8_method_73_code) = true := by decide +kernel
theorem xd182 {pc : Nat} {v : Instr × Nat} (h : xco182 pc = some v) : decode (xm182).2.1 pc = .ok (v.1, v.2) ∧ (xln v.1 = 0 ∨ xln v.1 = v.2) := x_dec xdt182 h
theorem xdt183 : (xtb183).all (xdec prog_8_method_74_code) = true := by decide +kernel
theorem xd183 {pc : Nat} {v : Instr × Nat} (h : xco183 pc = some v) : decode (xm183).2.1 pc = .ok (v.1, v.2) ∧ (xln v.1 = 0 ∨ xln v.1 = v.2) := x_dec xdt183 h
theorem xdt184_0 : (xtb184_0).all (xdec prog_8_method_76_code) = true := by decide +kernel
theorem xdt184_1 : (xtb184_1).all (xdec prog_8_method_76_code) = true := by decide +kernel
theorem xd184 {pc : Nat} {v : Instr × Nat} (h : xco184 pc = some v) : decode (xm184).2.1 pc = .ok (v.1, v.2) ∧ (xln v.1 = 0 ∨ xln v.1 = v.2) := x_bl h (fun h => x_dec xdt184_0 h) (fun h => x_dec xdt184_1 h)
theorem xdt185_0 : (xtb185_0).all (xdec prog_8_method_77_code) = true := by decide +kernel
theorem xdt185_1 : (xtb185_1).all (xdec prog_8_method_77_code) = true := by decide +kernel
theorem xd185 {pc : Nat} {v : Instr × Nat} (h : xco185 pc = some v) : decode (xm185).2.1 pc = .ok (v.1, v.2) ∧ (xln v.1 = 0 ∨ xln v.1 = v.2) := x_bl h (fun h => x_dec xdt185_0 h) (fun h => x_dec xdt185_1 h)
theorem xdt186_0 : (xtb186_0).all (xdec prog_8_method_78_code) = true := by decide +kernel
theorem xdt186_1 : (xtb186_1).all (xdec prog_8_method_78_code) = true := by decide +kernel
theorem xd186 {pc : Nat} {v : Instr × Nat} (h : xco186 pc = some v) : decode (xm186).2.1 pc = .ok (v.1, v.2) ∧ (xln v.1 = 0 ∨ xln v.1 = v.2) := x_bl h (fun h => x_dec xdt186_0 h) (fun h => x_dec xdt186_1 h)
theorem xdt187 : (xtb187).all (xdec prog_8_method_79_code) = true := by decide +kernel
theorem xd187 {pc : Nat} {v : Instr × Nat} (h : xco187 pc = some v) : decode (xm187).2.1 pc = .ok (v.1, v.2) ∧ (xln v.1 = 0 ∨ xln v.1 = v.2) := x_dec xdt187 h
theorem xdt188_0 : (xtb188_0).all (xdec prog_8_method_80_code) = true := by decide +kernel
theorem xdt188_1 : (xtb188_1).all (xdec prog_8_method_80_code) = true := by decide +kernel
theorem xdt188_2 : (xtb188_2).all (xdec prog_8_method_80_code) = true := by decide +kernel
theorem xd188 {pc : Nat} {v : Instr × Nat} (h : xco188 pc = some v) : decode (xm188).2.1 pc = .ok (v.1, v.2) ∧ (xln v.1 = 0 ∨ xln v.1 = v.2) := x_bl h (fun h => x_dec xdt188_0 h) (fun h => x_bl h (fun h => x_dec xdt188_1 h) (fun h => x_dec xdt188_2 h))
theorem xdt189_0 : (xtb189_0).all (xdec prog_8_method_81_code) = true := by decide +kernel
theorem xdt189_1 : (xtb189_1).all (xdec prog_8_method_81_code) = true := by decide +kernel
theorem xdt189_2 : (xtb189_2).all (xdec prog_8_method_81_code) = true := by decide +kernel
theorem xd189 {pc : Nat} {v : Instr × Nat} (h : xco189 pc = some v) : decode (xm189).2.1 pc = .ok (v.1, v.2) ∧ (xln v.1 = 0 ∨ xln v.1 = v.2) := x_bl h (fun h => x_dec xdt189_0 h) (fun h => x_bl h (fun h => x_dec xdt189_1 h) (fun h => x_dec xdt189_2 h))
theorem xdt190 : (xtb190).all (xdec prog_8_method_82_code) = true := by decide +kernel
theorem xd190 {pc : Nat} {v : Instr × Nat} (h : xco190 pc = some v) : decode (xm190).2.1 pc = .ok (v.1, v.2) ∧ (xln v.1 = 0 ∨ xln v.1 = v.2) := x_dec xdt190 h
theorem xdt191 : (xtb191).all (xdec prog_8_method_83_code) = true := by decide +kernel
theorem xd191 {pc : Nat} {v : Instr × Nat} (h : xco191 pc = some v) : decode (xm191).2.1 pc = .ok (v.1, v.2) ∧ (xln v.1 = 0 ∨ xln v.1 = v.2) := x_dec xdt191 h
theorem xdt192 : (xtb192).all (xdec prog_8_method_84_code) = true := by decide +kernel
theorem xd192 {pc : Nat} {v : Instr × Nat} (h : xco192 pc = some v) : decode (xm192).2.1 pc = .ok (v.1, v.2) ∧ (xln v.1 = 0 ∨ xln v.1 = v.2) := x_dec xdt192 h
theorem xdt193 : (xtb193).all (xdec prog_8_method_85_code) = true := by decide +kernel
theorem xd193 {pc : Nat} {v : Instr × Nat} (h : xco193 pc = some v) : decode (xm193).2.1 pc = .ok (v.1, v.2) ∧ (xln v.1 = 0 ∨ xln v.1 = v.2) := x_dec xdt193 h
theorem xdt194_0 : (xtb194_0).all (xdec prog_8_method_86_code) = true := by decide +kernel
theorem xdt194_1 : (xtb194_1).all (xdec prog_8_method_86_code) = true := by decide +kernel
theorem xd194 {pc : Nat} {v : Instr × Nat} (h : xco194 pc = some v) : decode (xm194).2.1 pc = .ok (v.1, v.2) ∧ (xln v.1 = 0 ∨ xln v.1 = v.2) := x_bl h (fun h => x_dec xdt194_0 h) (fun h => x_dec xdt194_1 h)
theorem xdt195 : (xtb195).all (xdec prog_8_method_87_code) = true := by decide +kernel
theorem xd195 {pc : Nat} {v : Instr × Nat} (h : xco195 pc = some v) : decode (xm195).2.1 pc = .ok (v.1, v.2) ∧ (xln v.1 = 0 ∨ xln v.1 = v.2) := x_dec xdt195 h
theorem xdt196 : (xtb196).all (xdec prog_8_method_88_code) = true := by decide +kernel
theorem xd196 {pc : Nat} {v : Instr × Nat} (h : xco196 pc = some v) : decode (xm196).2.1 pc = .ok (v.1, v.2) ∧ (xln v.1 = 0 ∨ xln v.1 = v.2) := x_dec xdt196 h
theorem xdt197 : (xtb197).all (xdec prog_8_method_89_code) = true := by decide +kernel
theorem xd197 {pc : Nat} {v : Instr × Nat} (h : xco197 pc = some v) : decode (xm197).2.1 pc = .ok (v.1, v.2) ∧ (xln v.1 = 0 ∨ xln v.1 = v.2) := x_dec xdt197 h
theorem xdt198_0 : (xtb198_0).all (xdec code) = true := by decide +kernel
theorem xdt198_1 : (xtb198_1).all (xdec code) = true := by decide +kernel
theorem xdt198_2 : (xtb198_2).all (xdec code) = true := by decide +kernel
theorem xdt198_3 : (xtb198_3).all (xdec code) = true := by decide +kernel
theorem xdt198_4 : (xtb198_4).all (xdec code) = true := by decide +kernel
theorem xdt198_5 : (xtb198_5).all (xdec code) = true := by decide +kernel
theorem xdt198_6 : (xtb198_6).all (xdec code) = true := by decide +kernel
theorem xdt198_7 : (xtb198_7).all (xdec code) = true := by decide +kernel
theorem xdt198_8 : (xtb198_8).all (xdec code) = true := by decide +kernel
theorem xdt198_9 : (xtb198_9).all (xdec code) = true := by decide +kernel
theorem xdt198_10 : (xtb198_10).all (xdec code) = true := by decide +kernel
theorem xdt198_11 : (xtb198_11).all (xdec code) = true := by decide +kernel
theorem xdt198_12 : (xtb198_12).all (xdec code) = true := by decide +kernel
theorem xdt198_13 : (xtb198_13).all (xdec code) = true := by decide +kernel
theorem xdt198_14 : (xtb198_14).all (xdec code) = true := by decide +kernel
theorem xdt198_15 : (xtb198_15).all (xdec code) = true := by decide +kernel
theorem xdt198_16 : (xtb198_16).all (xdec code) = true := by decide +kernel
theorem xdt198_17 : (xtb198_17).all (xdec code) = true := by decide +kernel
theorem xd198 {pc : Nat} {v : Instr × Nat} (h : xco198 pc = some v) : decode (xm198).2.1 pc = .ok (v.1, v.2) ∧ (xln v.1 = 0 ∨ xln v.1 = v.2) := x_bl h (fun h => x_dec xdt198_0 h) (fun h => x_bl h (fun h => x_dec xdt198_1 h) (fun h => x_bl h (fun h => x_dec xdt198_2 h) (fun h => x_bl h (fun h => x_dec xdt198_3 h) (fun h => x_bl h (fun h => x_dec xdt198_4 h) (fun h => x_bl h (fun h => x_dec xdt198_5 h) (fun h => x_bl h (fun h => x_dec xdt198_6 h) (fun h => x_bl h (fun h => x_dec xdt198_7 h) (fun h => x_bl h (fun h => x_dec xdt198_8 h) (fun h => x_bl h (fun h => x_dec xdt198_9 h) (fun h => x_bl h (fun h => x_dec xdt198_10 h) (fun h => x_bl h (fun h => x_dec xdt198_11 h) (fun h => x_bl h (fun h => x_dec xdt198_12 h) (fun h => x_bl h (fun h => x_dec xdt198_13 h) (fun h => x_bl h (fun h => x_dec xdt198_14 h) (fun h => x_bl h (fun h => x_dec xdt198_15 h) (fun h => x_bl h (fun h => x_dec xdt198_16 h) (fun h => x_dec xdt198_17 h)))))))))))))))))
theorem xdt199 : (xtb199).all (xdec object_method_1_code) = true := by decide +kernel
theorem xd199 {pc : Nat} {v : Instr × Nat} (h : xco199 pc = some v) : decode (xm199).2.1 pc = .ok (v.1, v.2) ∧ (xln v.1 = 0 ∨ xln v.1 = v.2) := x_dec xdt199 h
theorem xdt200 : (xtb200).all (xdec prog_11_method_49_code) = true := by decide +kernel
theorem xd200 {pc : Nat} {v : Instr × Nat} (h : xco200 pc = some v) : decode (xm200).2.1 pc = .ok (v.1, v.2) ∧ (xln v.1 = 0 ∨ xln v.1 = v.2) := x_dec xdt200 h
theorem xdt201 : (xtb201).all (xdec prog_12_method_69_code) = true := by decide +kernel
theorem xd201 {pc : Nat} {v : Instr × Nat} (h : xco201 pc = some v) : decode (xm201).2.1 pc = .ok (v.1, v.2) ∧ (xln v.1 = 0 ∨ xln v.1 = v.2) := x_dec xdt201 h
theorem xdt202 : (xtb202).all (xdec prog_12_method_65_code) = true := by decide +kernel
theorem xd202 {pc : Nat} {v : Instr × Nat} (h : xco202 pc = some v) : decode (xm202).2.1 pc = .ok (v.1, v.2) ∧ (xln v.1 = 0 ∨ xln v.1 = v.2) := x_dec xdt202 h
theorem xdt203 : (xtb203).all (xdec prog_12_method_59_code) = true := by decide +kernel
theorem xd203 {pc : Nat} {v : Instr × Nat} (h : xco203 pc = some v) : decode (xm203).2.1 pc = .ok (v.1, v.2) ∧ (xln v.1 = 0 ∨ xln v.1 = v.2) := x_dec xdt203 h
theorem xdt204 : (xtb204).all (xdec prog_13_method_54_code) = true := by decide +kernel
theorem xd204 {pc : Nat} {v : Instr × Nat} (h : xco204 pc = some v) : decode (xm204).2.1 pc = .ok (v.1, v.2) ∧ (xln v.1 = 0 ∨ xln v.1 = v.2) := x_dec xdt204 h
theorem xdt205 : (xtb205).all (xdec prog_13_method_152_code) = true := by decide +kernel
theorem xd205 {pc : Nat} {v : Instr × Nat} (h : xco205 pc = some v) : decode (xm205).2.1 pc = .ok (v.1, v.2) ∧ (xln v.1 = 0 ∨ xln v.1 = v.2) := x_dec xdt205 h
theorem xdt206 : (xtb206).all (xdec prog_13_method_56_code) = true := by decide +kernel
theorem xd206 {pc : Nat} {v : Instr × Nat} (h : xco206 pc = some v) : decode (xm206).2.1 pc = .ok (v.1, v.2) ∧ (xln v.1 = 0 ∨ xln v.1 = v.2) := x_dec xdt206 h
theorem xdt207 : (xtb207).all (xdec prog_13_method_154_code) = true := by decide +kernel
theorem xd207 {pc : Nat} {v : Instr × Nat} (h : xco207 pc = some v) : decode (xm207).2.1 pc = .ok (v.1, v.2) ∧ (xln v.1 = 0 ∨ xln v.1 = v.2) := x_dec xdt207 h
theorem xdt208 : (xtb208).all (xdec prog_13_method_155_code) = true := by decide +kernel
theorem xd208 {pc : Nat} {v : Instr × Nat} (h : xco208 pc = some v) : decode (xm208).2.1 pc = .ok (v.1, v.2) ∧ (xln v.1 = 0 ∨ xln v.1 = v.2) := x_dec xdt208 h
theorem xdt209 : (xtb209).all (xdec prog_13_method_79_code) = true := by decide +kernel
theorem xd209 {pc : Nat} {v : Instr × Nat} (h : xco209 pc = some v) : decode (xm209).2.1 pc = .ok (v.1, v.2) ∧ (xln v.1 = 0 ∨ xln v.1 = v.2) := x_dec xdt209 h
theorem xdt210 : (xtb210).all (xdec prog_13_method_80_code) = true := by decide +kernel
theorem xd210 {pc : Nat} {v : Instr × Nat} (h : xco210 pc = some v) : decode (xm210).2.1 pc = .ok (v.1, v.2) ∧ (xln v.1 = 0 ∨ xln v.1 = v.2) := x_dec xdt210 h
theorem xdt211 : (xtb211).all (xdec prog_14_method_2_code) = true := by decide +kernel
theorem xd211 {pc : Nat} {v : Instr × Nat} (h : xco211 pc = some v) : decode (xm211).2.1 pc = .ok (v.1, v.2) ∧ (xln v.1 = 0 ∨ xln v.1 = v.2) := x_dec xdt211 h
theorem xdt212 : (xtb212).all (xdec prog_14_method_22_code) = true := by decide +kernel
theorem xd212 {pc : Nat} {v : Instr × Nat} (h : xco212 pc = some v) : decode (xm212).2.1 pc = .ok (v.1, v.2) ∧ (xln v.1 = 0 ∨ xln v.1 = v.2) := x_dec xdt212 h
theorem xdt213 : (xtb213).all (xdec prog_14_method_4_code) = true := by decide +kernel
theorem xd213 {pc : Nat} {v : Instr × Nat} (h : xco213 pc = some v) : decode (xm213).2.1 pc = .ok (v.1, v.2) ∧ (xln v.1 = 0 ∨ xln v.1 = v.2) := x_dec xdt213 h
theorem xdt214 : (xtb214).all (xdec prog_14_method_23_code) = true := by decide +kernel
theorem xd214 {pc : Nat} {v : Instr × Nat} (h : xco214 pc = some v) : decode (xm214).2.1 pc = .ok (v.1, v.2) ∧ (xln v.1 = 0 ∨ xln v.1 = v.2) := x_dec xdt214 h
theorem xdt215 : (xtb215).all (xdec prog_17_method_103_code) = true := by decide +kernel
theorem xd215 {pc : Nat} {v : Instr × Nat} (h : xco215 pc = some v) : decode (xm215).2.1 pc = .ok (v.1, v.2) ∧ (xln v.1 = 0 ∨ xln v.1 = v.2) := x_dec xdt215 h
theorem xdt216 : (xtb216).all (xdec prog_17_method_123_code) = true := by decide +kernel
theorem xd216 {pc : Nat} {v : Instr × Nat} (h : xco216 pc = some v) : decode (xm216).2.1 pc = .ok (v.1, v.2) ∧ (xln v.1 = 0 ∨ xln v.1 = v.2) := x_dec xdt216 h
theorem xdt217 : (xtb217).all (xdec prog_18_method_11_code) = true := by decide +kernel
theorem xd217 {pc : Nat} {v : Instr × Nat} (h : xco217 pc = some v) : decode (xm217).2.1 pc = .ok (v.1, v.2) ∧ (xln v.1 = 0 ∨ xln v.1 = v.2) := x_dec xdt217 h
theorem xd_all : ∀ y, y < 218 → ∀ {pc : Nat} {v : Instr × Nat}, xcode y pc = some v → decode (xmd y).2.1 pc = .ok (v.1, v.2) ∧ (xln v.1 = 0 ∨ xln v.1 = v.2) := by
  intro y hy pc v h
  match y, hy with
  | 0, _ => exact xd0 h
  | 1, _ => exact xd1 h
  | 2, _ => exact xd2 h
  | 3, _ => exact xd3 h
  | 4, _ => exact xd4 h
  | 5, _ => exact xd5 h
  | 6, _ => exact xd6 h
  | 7, _ => exact xd7 h
  | 8, _ => exact xd8 h
  | 9, _ => exact xd9 h
  | 10, _ => exact xd10 h
  | 11, _ => exact xd11 h
  | 12, _ => exact xd12 h
  | 13, _ => exact xd13 h
  | 14, _ => exact xd14 h
  | 15, _ => exact xd15 h
  | 16, _ => exact xd16 h
  | 17, _ => exact xd17 h
  | 18, _ => exact xd18 h
  | 19, _ => exact xd19 h
  | 20, _ => exact xd20 h
  | 21, _ => exact xd21 h
  | 22, _ => exact xd22 h
  | 23, _ => exact xd23 h
  | 24, _ => exact xd24 h
  | 25, _ => exact xd25 h
  | 26, _ => exact xd26 h
  | 27, _ => exact xd27 h
  | 28, _ => exact xd28 h
  | 29, _ => exact xd29 h
  | 30, _ => exact xd30 h
  | 31, _ => exact xd31 h
  | 32, _ => exact xd32 h
  | 33, _ => exact xd33 h
  | 34, _ => exact xd34 h
  | 35, _ => exact xd35 h
  | 36, _ => exact xd36 h
  | 37, _ => exact xd37 h
  | 38, _ => exact xd38 h
  | 39, _ => exact xd39 h
  | 40, _ => exact xd40 h
  | 41, _ => exact xd41 h
  | 42, _ => exact xd42 h
  | 43, _ => exact xd43 h
  | 44, _ => exact xd44 h
  | 45, _ => exact xd45 h
  | 46, _ => exact xd46 h
  | 47, _ => exact xd47 h
  | 48, _ => exact xd48 h
  | 49, _ => exact xd49 h
  | 50, _ => exact xd50 h
  | 51, _ => exact xd51 h
  | 52, _ => exact xd52 h
  | 53, _ => exact xd53 h
  | 54, _ => exact xd54 h
  | 55, _ => exact xd55 h
  | 56, _ => exact xd56 h
  | 57, _ => exact xd57 h
  | 58, _ => exact xd58 h
  | 59, _ => exact xd59 h
  | 60, _ => exact xd60 h
  | 61, _ => exact xd61 h
  | 62, _ => exact xd62 h
  | 63, _ => exact xd63 h
  | 64, _ => exact xd64 h
  | 65, _ => exact xd65 h
  | 66, _ => exact xd66 h
  | 67, _ => exact xd67 h
  | 68, _ => exact xd68 h
  | 69, _ => exact xd69 h
  | 70, _ => exact xd70 h
  | 71, _ => exact xd71 h
  | 72, _ => exact xd72 h
  | 73, _ => exact xd73 h
  | 74, _ => exact xd74 h
  | 75, _ => exact xd75 h
  | 76, _ => exact xd76 h
  | 77, _ => exact xd77 h
  | 78, _ => exact xd78 h
  | 79, _ => exact xd79 h
  | 80, _ => exact xd80 h
  | 81, _ => exact xd81 h
  | 82, _ => exact xd82 h
  | 83, _ => exact xd83 h
  | 84, _ => exact xd84 h
  | 85, _ => exact xd85 h
  | 86, _ => exact xd86 h
  | 87, _ => exact xd87 h
  | 88, _ => exact xd88 h
  | 89, _ => exact xd89 h
  | 90, _ => exact xd90 h
  | 91, _ => exact xd91 h
  | 92, _ => exact xd92 h
  | 93, _ => exact xd93 h
  | 94, _ => exact xd94 h
  | 95, _ => exact xd95 h
  | 96, _ => exact xd96 h
  | 97, _ => exact xd97 h
  | 98, _ => exact xd98 h
  | 99, _ => exact xd99 h
  | 100, _ => exact xd100 h
  | 101, _ => exact xd101 h
  | 102, _ => exact xd102 h
  | 103, _ => exact xd103 h
  | 104, _ => exact xd104 h
  | 105, _ => exact xd105 h
  | 106, _ => exact xd106 h
  | 107, _ => exact xd107 h
  | 108, _ => exact xd108 h
  | 109, _ => exact xd109 h
  | 110, _ => exact xd110 h
  | 111, _ => exact xd111 h
  | 112, _ => exact xd112 h
  | 113, _ => exact xd113 h
  | 114, _ => exact xd114 h
  | 115, _ => exact xd115 h
  | 116, _ => exact xd116 h
  | 117, _ => exact xd117 h
  | 118, _ => exact xd118 h
  | 119, _ => exact xd119 h
  | 120, _ => exact xd120 h
  | 121, _ => exact xd121 h
  | 122, _ => exact xd122 h
  | 123, _ => exact xd123 h
  | 124, _ => exact xd124 h
  | 125, _ => exact xd125 h
  | 126, _ => exact xd126 h
  | 127, _ => exact xd127 h
  | 128, _ => exact xd128 h
  | 129, _ => exact xd129 h
  | 130, _ => exact xd130 h
  | 131, _ => exact xd131 h
  | 132, _ => exact xd132 h
  | 133, _ => exact xd133 h
  | 134, _ => exact xd134 h
  | 135, _ => exact xd135 h
  | 136, _ => exact xd136 h
  | 137, _ => exact xd137 h
  | 138, _ => exact xd138 h
  | 139, _ => exact xd139 h
  | 140, _ => exact xd140 h
  | 141, _ => exact xd141 h
  | 142, _ => exact xd142 h
  | 143, _ => exact xd143 h
  | 144, _ => exact xd144 h
  | 145, _ => exact xd145 h
  | 146, _ => exact xd146 h
  | 147, _ => exact xd147 h
  | 148, _ => exact xd148 h
  | 149, _ => exact xd149 h
  | 150, _ => exact xd150 h
  | 151, _ => exact xd151 h
  | 152, _ => exact xd152 h
  | 153, _ => exact xd153 h
  | 154, _ => exact xd154 h
  | 155, _ => exact xd155 h
  | 156, _ => exact xd156 h
  | 157, _ => exact xd157 h
  | 158, _ => exact xd158 h
  | 159, _ => exact xd159 h
  | 160, _ => exact xd160 h
  | 161, _ => exact xd161 h
  | 162, _ => exact xd162 h
  | 163, _ => exact xd163 h
  | 164, _ => exact xd164 h
  | 165, _ => exact xd165 h
  | 166, _ => exact xd166 h
  | 167, _ => exact xd167 h
  | 168, _ => exact xd168 h
  | 169, _ => exact xd169 h
  | 170, _ => exact xd170 h
  | 171, _ => exact xd171 h
  | 172, _ => exact xd172 h
  | 173, _ => exact xd173 h
  | 174, _ => exact xd174 h
  | 175, _ => exact xd175 h
  | 176, _ => exact xd176 h
  | 177, _ => exact xd177 h
  | 178, _ => exact xd178 h
  | 179, _ => exact xd179 h
  | 180, _ => exact xd180 h
  | 181, _ => exact xd181 h
  | 182, _ => exact xd182 h
  | 183, _ => exact xd183 h
  | 184, _ => exact xd184 h
  | 185, _ => exact xd185 h
  | 186, _ => exact xd186 h
  | 187, _ => exact xd187 h
  | 188, _ => exact xd188 h
  | 189, _ => exact xd189 h
  | 190, _ => exact xd190 h
  | 191, _ => exact xd191 h
  | 192, _ => exact xd192 h
  | 193, _ => exact xd193 h
  | 194, _ => exact xd194 h
  | 195, _ => exact xd195 h
  | 196, _ => exact xd196 h
  | 197, _ => exact xd197 h
  | 198, _ => exact xd198 h
  | 199, _ => exact xd199 h
  | 200, _ => exact xd200 h
  | 201, _ => exact xd201 h
  | 202, _ => exact xd202 h
  | 203, _ => exact xd203 h
  | 204, _ => exact xd204 h
  | 205, _ => exact xd205 h
  | 206, _ => exact xd206 h
  | 207, _ => exact xd207 h
  | 208, _ => exact xd208 h
  | 209, _ => exact xd209 h
  | 210, _ => exact xd210 h
  | 211, _ => exact xd211 h
  | 212, _ => exact xd212 h
  | 213, _ => exact xd213 h
  | 214, _ => exact xd214 h
  | 215, _ => exact xd215 h
  | 216, _ => exact xd216 h
  | 217, _ => exact xd217 h
  | n + 218, hy => exact absurd hy (by omega)
