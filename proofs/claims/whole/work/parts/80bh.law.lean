section WALKS
variable {E : ENV} {p : Program} {l : Launch} {e : Env} {s : State} {m : MethodId} {args : Array Value} {below : List Frame} {meth : Method} {c : Code} {A : Nat → Prop} {bs : Nat}
theorem hd_X10_format : yX10_format.cls = RX10 ∧ yX10_format.cls ≠ "java/lang/invoke/MethodHandle" ∧ yX10_format.cls ≠ "java/lang/invoke/VarHandle" ∧ (parseMethodDescriptor yX10_format.desc).map (fun d => d.parameters.length) = some 1 := by decide +kernel
theorem g_L_206 : GoodIn GW (wsV RL 206 RX10 yX10_format (wsG yX10_format cX10_format 3 (some .int))) := gw_V wm_7_161 wm_7_162 wm_7_163 wm_1_9 wm_7_164
theorem hd_L_format : yL_format.cls = RL ∧ yL_format.cls ≠ "java/lang/invoke/MethodHandle" ∧ yL_format.cls ≠ "java/lang/invoke/VarHandle" ∧ (parseMethodDescriptor yL_format.desc).map (fun d => d.parameters.length) = some 3 := by decide +kernel
theorem gL_204 : GoodIn GW (va_wsS RL 204 yL_format (Cond.codeWith yL_format cL_format 4 (some .int) [(0, 9, 12, 18)] :: GW)) := gw_SW wm_5_62 wm_5_63 wm_1_0 wm_5_64
-- the law from 1849
theorem dL_law_1849 : decode cL_law 1849 = .ok (.aload_n 1, 1) := by decide +kernel
theorem dL_law_1850 : decode cL_law 1850 = .ok (.aload_n 0, 1) := by decide +kernel
theorem dL_law_1851 : decode cL_law 1851 = .ok (.iload 4, 2) := by decide +kernel
theorem dL_law_1853 : decode cL_law 1853 = .ok (.iconst 1, 1) := by decide +kernel
theorem dL_law_1854 : decode cL_law 1854 = .ok (.iadd, 1) := by decide +kernel
theorem dL_law_1855 : decode cL_law 1855 = .ok (.iaload, 1) := by decide +kernel
theorem dL_law_1856 : decode cL_law 1856 = .ok (.aload_n 3, 1) := by decide +kernel
theorem dL_law_1857 : decode cL_law 1857 = .ok (.invokestatic 204, 3) := by decide +kernel
theorem dL_law_1860 : decode cL_law 1860 = .ok (.istore 5, 2) := by decide +kernel
theorem dL_law_1862 : decode cL_law 1862 = .ok (.aload_n 2, 1) := by decide +kernel
theorem dL_law_1863 : decode cL_law 1863 = .ok (.aload_n 0, 1) := by decide +kernel
theorem dL_law_1864 : decode cL_law 1864 = .ok (.iload 4, 2) := by decide +kernel
theorem dL_law_1866 : decode cL_law 1866 = .ok (.iconst 1, 1) := by decide +kernel
theorem dL_law_1867 : decode cL_law 1867 = .ok (.iadd, 1) := by decide +kernel
theorem dL_law_1868 : decode cL_law 1868 = .ok (.iaload, 1) := by decide +kernel
theorem dL_law_1869 : decode cL_law 1869 = .ok (.invokevirtual 206, 3) := by decide +kernel
theorem dL_law_1872 : decode cL_law 1872 = .ok (.istore 6, 2) := by decide +kernel
theorem dL_law_1874 : decode cL_law 1874 = .ok (.aload_n 2, 1) := by decide +kernel
theorem dL_law_1875 : decode cL_law 1875 = .ok (.invokevirtual 106, 3) := by decide +kernel
theorem dL_law_1878 : decode cL_law 1878 = .ok (.iload 5, 2) := by decide +kernel
theorem dL_law_1880 : decode cL_law 1880 = .ok (.if_icmp .eq 5, 3) := by decide +kernel
theorem dL_law_1883 : decode cL_law 1883 = .ok (.iconst 0, 1) := by decide +kernel
theorem dL_law_1884 : decode cL_law 1884 = .ok (.ireturn, 1) := by decide +kernel
theorem dL_law_1885 : decode cL_law 1885 = .ok (.iload 5, 2) := by decide +kernel
theorem dL_law_1887 : decode cL_law 1887 = .ok (.ifCond .ne 15, 3) := by decide +kernel
theorem dL_law_1890 : decode cL_law 1890 = .ok (.aload_n 3, 1) := by decide +kernel
theorem dL_law_1891 : decode cL_law 1891 = .ok (.iconst 0, 1) := by decide +kernel
theorem dL_law_1892 : decode cL_law 1892 = .ok (.laload, 1) := by decide +kernel
theorem dL_law_1893 : decode cL_law 1893 = .ok (.iload 6, 2) := by decide +kernel
theorem dL_law_1895 : decode cL_law 1895 = .ok (.i2l, 1) := by decide +kernel
theorem dL_law_1896 : decode cL_law 1896 = .ok (.lcmp, 1) := by decide +kernel
theorem dL_law_1897 : decode cL_law 1897 = .ok (.ifCond .eq 5, 3) := by decide +kernel
theorem dL_law_1900 : decode cL_law 1900 = .ok (.iconst 0, 1) := by decide +kernel
theorem dL_law_1901 : decode cL_law 1901 = .ok (.ireturn, 1) := by decide +kernel
theorem dL_law_1902 : decode cL_law 1902 = .ok (.goto 134, 3) := by decide +kernel
def M_L_1849_1849 (k Ls : Nat) (xs : Nat → Int32) (x4 : Int32) (S : VV × VV × VV × VV × VV × Int32) (T : Nat → Nat → Int32) (U : Nat → Int64) (V : Nat × Int32 × Int32 × (Nat → VV)) : Option ((VV × VV × VV × VV × VV × Int32) × (Nat → Nat → Int32) × (Nat → Int64) × (Nat × Int32 × Int32 × (Nat → VV))) := (if inb (x4 + (1 : Int32)) Ls = true then (M_L_format k S U (xs (x4 + (1 : Int32)).toNatClampNeg)).bind fun q2 => (if inb (x4 + (1 : Int32)) Ls = true then (M_X10_format k T (xs (x4 + (1 : Int32)).toNatClampNeg)).bind fun q4 => (M_X10_thrown k q4.2).bind fun q5 => if q5 = q2.1 then (if q2.1 = 0 then ((if inb (0 : Int32) 1 = true then if (lg_cmp (q2.2.2 (0 : Int32).toNatClampNeg) (q4.1.toInt64)) = 0 then (some (q2.2.1, q4.2, q2.2.2, V)) else (none) else none)) else (some (q2.2.1, q4.2, q2.2.2, V))) else (none) else none) else none)
set_option maxRecDepth 100000 in
set_option maxHeartbeats 4000000 in
theorem N_L_1849_1849 (C : CX E p l s m #[Value.ref bs] meth c cL_law 9 RL ret A) (a : Nat → Nat) (b : Nat → Nat) (c0 : Nat → Nat) (k Ls : Nat) (xs : Nat → Int32) (hX : va_X bs Ls xs s s.heap) (hbl : bs < s.heap.size) (hbA : ¬ A bs) (hlt : l.stackTraces = false) (hdc : DC s) (cN sN : Nat) (hcN : cN + 20 ≤ 601024 ∧ sN + 1600 ≤ 7293034) (fa : Nat → Nat → Nat) :
    ∀ (x4 : Int32) (S : VV × VV × VV × VV × VV × Int32) (T : Nat → Nat → Int32) (U : Nat → Int64) (V : Nat × Int32 × Int32 × (Nat → VV)) (q : (VV × VV × VV × VV × VV × Int32) × (Nat → Nat → Int32) × (Nat → Int64) × (Nat × Int32 × Int32 × (Nat → VV))), M_L_1849_1849 k Ls xs x4 S T U V = some q → (∀ fa' : Nat → Nat → Nat, WW E p l e room_1 s m #[Value.ref bs] below meth c A (cN + 20) (sN + 1600) (lw_Z below #[Value.ref bs] s) (wSg E a q.1 ++ wMd E b q.2.1 ++ wLo E c0 q.2.2.1 ++ wHi E a fa' q.2.2.2) 9 [some (.ref bs), some (.ref (a 0)), some (.ref (b 0)), some (.ref (c0 0)), some (.int x4), none, none, none, none] 2036 []) →
      WW E p l e room_1 s m #[Value.ref bs] below meth c A (cN + 0) (sN + 0) (lw_Z below #[Value.ref bs] s) (wSg E a S ++ wMd E b T ++ wLo E c0 U ++ wHi E a fa V) 9 [some (.ref bs), some (.ref (a 0)), some (.ref (b 0)), some (.ref (c0 0)), some (.int x4), none, none, none, none] 1849 [] := by
  intro x4 S T U V q  h hq
  unfold M_L_1849_1849 at h
  refine r_aload_n (pc := 1849) C (i := 1) dL_law_1849 rfl rfl ?_
  refine r_aload_n (pc := 1850) C (i := 0) dL_law_1850 rfl rfl ?_
  refine r_iload (pc := 1851) C (i := 4) dL_law_1851 rfl ?_
  refine r_iconst (pc := 1853) C (v := 1) dL_law_1853 (by decide) ?_
  refine r_iadd (pc := 1854) C dL_law_1854 ?_
  obtain ⟨hi1, h⟩ := ifn h
  refine r_sld (pc := 1855) C hX hbl hbA hi1 dL_law_1855 ?_
  refine r_aload_n (pc := 1856) C (i := 3) dL_law_1856 rfl rfl ?_
  obtain ⟨q2, hq2, h⟩ := bnd h
  refine r_callSH (pc := 1857) C [.ref (a 0), .int (xs (x4 + (1 : Int32)).toNatClampNeg), .ref (c0 0)] hdc (c_L_format E l k a (c0 0) S U (xs (x4 + (1 : Int32)).toNatClampNeg) hlt hq2) [0, 1, 2, 3, 4, 5, 6, 7, 8, 9, 10, 11, 12, 13, 14, 15, 16, 17, 18, 19, 20, 21, 22, 23, 24, 25, 26, 27, 28, 29, 30, 31, 32, 33, 34, 35, 36, 37, 38, 39, 40, 41, 42, 43, 44, 45, 46, 47, 48, 49, 50, 51, 52, 53, 54, 55, 56, 57, 58, 59, 60, 74] (hps_hi (List.append_assoc _ _ _).symm (hpL1 E a b c0 fa S T U V)) (by decide) gL_204 hd_L_format.2 ⟨Nat.le_of_ble_eq_true rfl, Nat.le_of_ble_eq_true rfl⟩ ⟨by have h1 : room_1.cells = 601024 := rfl; have h2 := hcN.1; simp only [Nat.le_refl, rm_L_format]; omega, by have h1 : room_1.slots = 7293034 := rfl; have h2 := hcN.2; simp only [Nat.le_refl, rm_L_format]; omega⟩ (Nat.le_of_ble_eq_true rfl) rfl dL_law_1857 (fun r w1 hw1 => ?_)
  obtain ⟨hr1, hw1⟩ := hw1
  subst hr1 hw1
  refine ⟨(wSg E a q2.2.1 ++ wMd E b T ++ wLo E c0 q2.2.2 ++ wHi E a fa V), putW_hi (List.append_assoc _ _ _).symm (List.append_assoc _ _ _).symm (hpL1 E a b c0 fa S T U V) rfl (pwL1 E a b c0 fa S T U V q2.2.1 q2.2.2), ?_⟩
  refine r_istore (pc := 1860) C (i := 5) dL_law_1860 (by decide) rfl ?_
  refine r_aload_n (pc := 1862) C (i := 2) dL_law_1862 rfl rfl ?_
  refine r_aload_n (pc := 1863) C (i := 0) dL_law_1863 rfl rfl ?_
  refine r_iload (pc := 1864) C (i := 4) dL_law_1864 rfl ?_
  refine r_iconst (pc := 1866) C (v := 1) dL_law_1866 (by decide) ?_
  refine r_iadd (pc := 1867) C dL_law_1867 ?_
  obtain ⟨hi3, h⟩ := ifn h
  refine r_sld (pc := 1868) C hX hbl hbA hi3 dL_law_1868 ?_
  obtain ⟨q4, hq4, h⟩ := bnd h
  refine r_callV_CI (Cn := RX10) (pc := 1869) C [.int (xs (x4 + (1 : Int32)).toNatClampNeg)] (c_X10_format E l k b T (xs (x4 + (1 : Int32)).toNatClampNeg) hq4) [61, 62, 63, 64, 65, 66, 67, 68, 69, 70, 71, 72, 73] (hps_hi (List.append_assoc _ _ _).symm (hp_L_204_1 E a b c0 fa q2.2.1 T q2.2.2 V)) (by decide) 0 rfl rfl rfl g_L_206 hd_X10_format ⟨Nat.le_of_ble_eq_true rfl, Nat.le_of_ble_eq_true rfl⟩ ⟨by have h1 : room_1.cells = 601024 := rfl; have h2 := hcN.1; simp only [Nat.le_refl, rm_L_format, rm_X10_format]; omega, by have h1 : room_1.slots = 7293034 := rfl; have h2 := hcN.2; simp only [Nat.le_refl, rm_L_format, rm_X10_format]; omega⟩ (Nat.le_of_ble_eq_true rfl) rfl dL_law_1869 (fun r w1 hw1 => ?_)
  obtain ⟨hr1, hw1⟩ := hw1
  subst hr1 hw1
  refine ⟨(wSg E a q2.2.1 ++ wMd E b q4.2 ++ wLo E c0 q2.2.2 ++ wHi E a fa V), by exact putW_hi (List.append_assoc _ _ _).symm (List.append_assoc _ _ _).symm (hp_L_204_1 E a b c0 fa q2.2.1 T q2.2.2 V) rfl (pw_L_204_1 E a b c0 fa q2.2.1 T q2.2.2 V q4.2), ?_⟩
  refine r_istore (pc := 1872) C (i := 6) dL_law_1872 (by decide) rfl ?_
  refine r_aload_n (pc := 1874) C (i := 2) dL_law_1874 rfl rfl ?_
  obtain ⟨q5, hq5, h⟩ := bnd h
  refine r_callVp_CI (Cn := RX10) (pc := 1875) C [] (c_X10_thrown E l k b q4.2 hq5) [61, 62, 63, 64, 65, 66, 67, 68, 69, 70, 71, 72, 73] (hps_hi (List.append_assoc _ _ _).symm (hp_L_204_1 E a b c0 fa q2.2.1 q4.2 q2.2.2 V)) (by decide) 0 rfl rfl rfl g_L_106 hd_X10_thrown ⟨Nat.le_of_ble_eq_true rfl, Nat.le_of_ble_eq_true rfl⟩ ⟨by have h1 : room_1.cells = 601024 := rfl; have h2 := hcN.1; simp only [Nat.le_refl, rm_L_format, rm_X10_format, rm_X10_thrown]; omega, by have h1 : room_1.slots = 7293034 := rfl; have h2 := hcN.2; simp only [Nat.le_refl, rm_L_format, rm_X10_format, rm_X10_thrown]; omega⟩ (Nat.le_of_ble_eq_true rfl) rfl dL_law_1875 (fun r hr => ?_)
  have hr := hr.symm
  subst hr
  refine r_iload (pc := 1878) C (i := 5) dL_law_1878 rfl ?_
  refine r_icmp_eq (pc := 1880) C (tgt := 1885) dL_law_1880 rfl (fun c6 => ?_) (fun c6 => ?_)
  · rw [if_pos c6] at h
    refine r_iload (pc := 1885) C (i := 5) dL_law_1885 rfl ?_
    refine r_if_ne (pc := 1887) C (tgt := 1902) dL_law_1887 rfl (fun c7 => ?_) (fun c7 => ?_)
    · rw [if_neg c7] at h
      refine r_goto (pc := 1902) C (tgt := 2036) dL_law_1902 rfl ?_
      cases h
      refine r_widen (k1 := cN + 20) (n1 := sN + 1600) (by simp only [Nat.le_refl, rm_L_format, rm_X10_format, rm_X10_thrown]; omega) (by simp only [Nat.le_refl, rm_L_format, rm_X10_format, rm_X10_thrown]; omega) ?_
      refine r_weak (lSub_s (lSub_s (lSub_s (lSub_s (lSub_s (lSub_n (lSub_n (lSub_n (lSub_n lSub_e))))))))) ?_
      exact hq fa
    · rw [if_pos c7] at h
      refine r_aload_n (pc := 1890) C (i := 3) dL_law_1890 rfl rfl ?_
      refine r_iconst (pc := 1891) C (v := 0) dL_law_1891 (by decide) ?_
      obtain ⟨hi8, h⟩ := ifn h
      refine r_lald (pc := 1892) C 74 rfl hi8 dL_law_1892 ?_
      refine r_iload (pc := 1893) C (i := 6) dL_law_1893 rfl ?_
      refine r_i2l (pc := 1895) C dL_law_1895 ?_
      refine r_lcmp (pc := 1896) C dL_law_1896 ?_
      refine r_if_eq (pc := 1897) C (tgt := 1902) dL_law_1897 rfl (fun c9 => ?_) (fun c9 => ?_)
      · rw [if_pos c9] at h
        refine r_goto (pc := 1902) C (tgt := 2036) dL_law_1902 rfl ?_
        cases h
        refine r_widen (k1 := cN + 20) (n1 := sN + 1600) (by simp only [Nat.le_refl, rm_L_format, rm_X10_format, rm_X10_thrown]; omega) (by simp only [Nat.le_refl, rm_L_format, rm_X10_format, rm_X10_thrown]; omega) ?_
        refine r_weak (lSub_s (lSub_s (lSub_s (lSub_s (lSub_s (lSub_n (lSub_n (lSub_n (lSub_n lSub_e))))))))) ?_
        exact hq fa
      · rw [if_neg c9] at h
        refine r_iconst (pc := 1900) C (v := 0) dL_law_1900 (by decide) ?_
        cases h
  · rw [if_neg c6] at h
    refine r_iconst (pc := 1883) C (v := 0) dL_law_1883 (by decide) ?_
    cases h
theorem hd_X9_formattedByte : yX9_formattedByte.cls = RX9 ∧ yX9_formattedByte.cls ≠ "java/lang/invoke/MethodHandle" ∧ yX9_formattedByte.cls ≠ "java/lang/invoke/VarHandle" ∧ (parseMethodDescriptor yX9_formattedByte.desc).map (fun d => d.parameters.length) = some 1 := by decide +kernel
theorem g_L_207 : GoodIn GW (wsV RL 207 RX9 yX9_formattedByte (wsG yX9_formattedByte cX9_formattedByte 2 (some .int))) := gw_V wm_2_145 wm_2_146 wm_2_147 wm_1_1 wm_2_148
theorem hd_X10_formattedByte : yX10_formattedByte.cls = RX10 ∧ yX10_formattedByte.cls ≠ "java/lang/invoke/MethodHandle" ∧ yX10_formattedByte.cls ≠ "java/lang/invoke/VarHandle" ∧ (parseMethodDescriptor yX10_formattedByte.desc).map (fun d => d.parameters.length) = some 1 := by decide +kernel
theorem g_L_210 : GoodIn GW (wsV RL 210 RX10 yX10_formattedByte (wsG yX10_formattedByte cX10_formattedByte 2 (some .int))) := gw_V wm_7_187 wm_7_188 wm_7_189 wm_1_9 wm_7_190
-- the law from 1905
theorem dL_law_1905 : decode cL_law 1905 = .ok (.aload_n 1, 1) := by decide +kernel
theorem dL_law_1906 : decode cL_law 1906 = .ok (.aload_n 0, 1) := by decide +kernel
theorem dL_law_1907 : decode cL_law 1907 = .ok (.iload 4, 2) := by decide +kernel
theorem dL_law_1909 : decode cL_law 1909 = .ok (.iconst 1, 1) := by decide +kernel
theorem dL_law_1910 : decode cL_law 1910 = .ok (.iadd, 1) := by decide +kernel
theorem dL_law_1911 : decode cL_law 1911 = .ok (.iaload, 1) := by decide +kernel
theorem dL_law_1912 : decode cL_law 1912 = .ok (.invokevirtual 207, 3) := by decide +kernel
theorem dL_law_1915 : decode cL_law 1915 = .ok (.aload_n 2, 1) := by decide +kernel
theorem dL_law_1916 : decode cL_law 1916 = .ok (.aload_n 0, 1) := by decide +kernel
theorem dL_law_1917 : decode cL_law 1917 = .ok (.iload 4, 2) := by decide +kernel
theorem dL_law_1919 : decode cL_law 1919 = .ok (.iconst 1, 1) := by decide +kernel
theorem dL_law_1920 : decode cL_law 1920 = .ok (.iadd, 1) := by decide +kernel
theorem dL_law_1921 : decode cL_law 1921 = .ok (.iaload, 1) := by decide +kernel
theorem dL_law_1922 : decode cL_law 1922 = .ok (.invokevirtual 210, 3) := by decide +kernel
theorem dL_law_1925 : decode cL_law 1925 = .ok (.if_icmp .eq 111, 3) := by decide +kernel
theorem dL_law_1928 : decode cL_law 1928 = .ok (.iconst 0, 1) := by decide +kernel
theorem dL_law_1929 : decode cL_law 1929 = .ok (.ireturn, 1) := by decide +kernel
def M_L_1905_1905 (k Ls : Nat) (xs : Nat → Int32) (x4 : Int32) (S : VV × VV × VV × VV × VV × Int32) (T : Nat → Nat → Int32) (U : Nat → Int64) (V : Nat × Int32 × Int32 × (Nat → VV)) : Option ((VV × VV × VV × VV × VV × Int32) × (Nat → Nat → Int32) × (Nat → Int64) × (Nat × Int32 × Int32 × (Nat → VV))) := (if inb (x4 + (1 : Int32)) Ls = true then (M_X9_formattedByte k S (xs (x4 + (1 : Int32)).toNatClampNeg)).bind fun q2 => (if inb (x4 + (1 : Int32)) Ls = true then (M_X10_formattedByte k T (xs (x4 + (1 : Int32)).toNatClampNeg)).bind fun q4 => if q2 = q4.1 then (some (S, q4.2, U, V)) else (none) else none) else none)
set_option maxRecDepth 100000 in
set_option maxHeartbeats 4000000 in
theorem N_L_1905_1905 (C : CX E p l s m #[Value.ref bs] meth c cL_law 9 RL ret A) (a : Nat → Nat) (b : Nat → Nat) (c0 : Nat → Nat) (k Ls : Nat) (xs : Nat → Int32) (hX : va_X bs Ls xs s s.heap) (hbl : bs < s.heap.size) (hbA : ¬ A bs) (hlt : l.stackTraces = false) (hdc : DC s) (cN sN : Nat) (hcN : cN + 20 ≤ 601024 ∧ sN + 1600 ≤ 7293034) (fa : Nat → Nat → Nat) :
    ∀ (x4 : Int32) (S : VV × VV × VV × VV × VV × Int32) (T : Nat → Nat → Int32) (U : Nat → Int64) (V : Nat × Int32 × Int32 × (Nat → VV)) (q : (VV × VV × VV × VV × VV × Int32) × (Nat → Nat → Int32) × (Nat → Int64) × (Nat × Int32 × Int32 × (Nat → VV))), M_L_1905_1905 k Ls xs x4 S T U V = some q → (∀ fa' : Nat → Nat → Nat, WW E p l e room_1 s m #[Value.ref bs] below meth c A (cN + 20) (sN + 1600) (lw_Z below #[Value.ref bs] s) (wSg E a q.1 ++ wMd E b q.2.1 ++ wLo E c0 q.2.2.1 ++ wHi E a fa' q.2.2.2) 9 [some (.ref bs), some (.ref (a 0)), some (.ref (b 0)), some (.ref (c0 0)), some (.int x4), none, none, none, none] 2036 []) →
      WW E p l e room_1 s m #[Value.ref bs] below meth c A (cN + 0) (sN + 0) (lw_Z below #[Value.ref bs] s) (wSg E a S ++ wMd E b T ++ wLo E c0 U ++ wHi E a fa V) 9 [some (.ref bs), some (.ref (a 0)), some (.ref (b 0)), some (.ref (c0 0)), some (.int x4), none, none, none, none] 1905 [] := by
  intro x4 S T U V q  h hq
  unfold M_L_1905_1905 at h
  refine r_aload_n (pc := 1905) C (i := 1) dL_law_1905 rfl rfl ?_
  refine r_aload_n (pc := 1906) C (i := 0) dL_law_1906 rfl rfl ?_
  refine r_iload (pc := 1907) C (i := 4) dL_law_1907 rfl ?_
  refine r_iconst (pc := 1909) C (v := 1) dL_law_1909 (by decide) ?_
  refine r_iadd (pc := 1910) C dL_law_1910 ?_
  obtain ⟨hi1, h⟩ := ifn h
  refine r_sld (pc := 1911) C hX hbl hbA hi1 dL_law_1911 ?_
  obtain ⟨q2, hq2, h⟩ := bnd h
  refine r_callVp_CI (Cn := RX9) (pc := 1912) C [.int (xs (x4 + (1 : Int32)).toNatClampNeg)] (c_X9_formattedByte E l k a S (xs (x4 + (1 : Int32)).toNatClampNeg) hq2) [0, 1, 2, 3, 4, 5, 6, 7, 8, 9, 10, 11, 12, 13, 14, 15, 16, 17, 18, 19, 20, 21, 22, 23, 24, 25, 26, 27, 28, 29, 30, 31, 32, 33, 34, 35, 36, 37, 38, 39, 40, 41, 42, 43, 44, 45, 46, 47, 48, 49, 50, 51, 52, 53, 54, 55, 56, 57, 58, 59, 60] (hps_hi (List.append_assoc _ _ _).symm (hp_L_204_0 E a b c0 fa S T U V)) (by decide) 0 rfl rfl rfl g_L_207 hd_X9_formattedByte ⟨Nat.le_of_ble_eq_true rfl, Nat.le_of_ble_eq_true rfl⟩ ⟨by have h1 : room_1.cells = 601024 := rfl; have h2 := hcN.1; simp only [Nat.le_refl, rm_X9_formattedByte]; omega, by have h1 : room_1.slots = 7293034 := rfl; have h2 := hcN.2; simp only [Nat.le_refl, rm_X9_formattedByte]; omega⟩ (Nat.le_of_ble_eq_true rfl) rfl dL_law_1912 (fun r hr => ?_)
  have hr := hr.symm
  subst hr
  refine r_aload_n (pc := 1915) C (i := 2) dL_law_1915 rfl rfl ?_
  refine r_aload_n (pc := 1916) C (i := 0) dL_law_1916 rfl rfl ?_
  refine r_iload (pc := 1917) C (i := 4) dL_law_1917 rfl ?_
  refine r_iconst (pc := 1919) C (v := 1) dL_law_1919 (by decide) ?_
  refine r_iadd (pc := 1920) C dL_law_1920 ?_
  obtain ⟨hi3, h⟩ := ifn h
  refine r_sld (pc := 1921) C hX hbl hbA hi3 dL_law_1921 ?_
  obtain ⟨q4, hq4, h⟩ := bnd h
  refine r_callV_CI (Cn := RX10) (pc := 1922) C [.int (xs (x4 + (1 : Int32)).toNatClampNeg)] (c_X10_formattedByte E l k b T (xs (x4 + (1 : Int32)).toNatClampNeg) hq4) [61, 62, 63, 64, 65, 66, 67, 68, 69, 70, 71, 72, 73] (hps_hi (List.append_assoc _ _ _).symm (hp_L_204_1 E a b c0 fa S T U V)) (by decide) 0 rfl rfl rfl g_L_210 hd_X10_formattedByte ⟨Nat.le_of_ble_eq_true rfl, Nat.le_of_ble_eq_true rfl⟩ ⟨by have h1 : room_1.cells = 601024 := rfl; have h2 := hcN.1; simp only [Nat.le_refl, rm_X9_formattedByte, rm_X10_formattedByte]; omega, by have h1 : room_1.slots = 7293034 := rfl; have h2 := hcN.2; simp only [Nat.le_refl, rm_X9_formattedByte, rm_X10_formattedByte]; omega⟩ (Nat.le_of_ble_eq_true rfl) rfl dL_law_1922 (fun r w1 hw1 => ?_)
  obtain ⟨hr1, hw1⟩ := hw1
  subst hr1 hw1
  refine ⟨(wSg E a S ++ wMd E b q4.2 ++ wLo E c0 U ++ wHi E a fa V), by exact putW_hi (List.append_assoc _ _ _).symm (List.append_assoc _ _ _).symm (hp_L_204_1 E a b c0 fa S T U V) rfl (pw_L_204_1 E a b c0 fa S T U V q4.2), ?_⟩
  refine r_icmp_eq (pc := 1925) C (tgt := 2036) dL_law_1925 rfl (fun c5 => ?_) (fun c5 => ?_)
  · rw [if_pos c5] at h
    cases h
    refine r_widen (k1 := cN + 20) (n1 := sN + 1600) (by simp only [Nat.le_refl, rm_X9_formattedByte, rm_X10_formattedByte]; omega) (by simp only [Nat.le_refl, rm_X9_formattedByte, rm_X10_formattedByte]; omega) ?_
    refine r_weak (lSub_s (lSub_s (lSub_s (lSub_s (lSub_s (lSub_n (lSub_n (lSub_n (lSub_n lSub_e))))))))) ?_
    exact hq fa
  · rw [if_neg c5] at h
    refine r_iconst (pc := 1928) C (v := 0) dL_law_1928 (by decide) ?_
    cases h
theorem hd_X9_undoCount : yX9_undoCount.cls = RX9 ∧ yX9_undoCount.cls ≠ "java/lang/invoke/MethodHandle" ∧ yX9_undoCount.cls ≠ "java/lang/invoke/VarHandle" ∧ (parseMethodDescriptor yX9_undoCount.desc).map (fun d => d.parameters.length) = some 0 := by decide +kernel
theorem g_L_211 : GoodIn GW (wsV RL 211 RX9 yX9_undoCount (wsG yX9_undoCount cX9_undoCount 1 (some .int))) := gw_V wm_2_153 wm_2_154 wm_2_155 wm_1_1 wm_2_156
theorem hd_X10_undoCount : yX10_undoCount.cls = RX10 ∧ yX10_undoCount.cls ≠ "java/lang/invoke/MethodHandle" ∧ yX10_undoCount.cls ≠ "java/lang/invoke/VarHandle" ∧ (parseMethodDescriptor yX10_undoCount.desc).map (fun d => d.parameters.length) = some 0 := by decide +kernel
theorem g_L_214 : GoodIn GW (wsV RL 214 RX10 yX10_undoCount (wsG yX10_undoCount cX10_undoCount 1 (some .int))) := gw_V wm_7_191 wm_7_192 wm_7_193 wm_1_9 wm_7_194
-- the law from 1930
theorem dL_law_1930 : decode cL_law 1930 = .ok (.aload_n 1, 1) := by decide +kernel
theorem dL_law_1931 : decode cL_law 1931 = .ok (.invokevirtual 211, 3) := by decide +kernel
theorem dL_law_1934 : decode cL_law 1934 = .ok (.aload_n 2, 1) := by decide +kernel
theorem dL_law_1935 : decode cL_law 1935 = .ok (.invokevirtual 214, 3) := by decide +kernel
theorem dL_law_1938 : decode cL_law 1938 = .ok (.if_icmp .eq 98, 3) := by decide +kernel
theorem dL_law_1941 : decode cL_law 1941 = .ok (.iconst 0, 1) := by decide +kernel
theorem dL_law_1942 : decode cL_law 1942 = .ok (.ireturn, 1) := by decide +kernel
def M_L_1930_1930 (k Ls : Nat) (xs : Nat → Int32) (x4 : Int32) (S : VV × VV × VV × VV × VV × Int32) (T : Nat → Nat → Int32) (U : Nat → Int64) (V : Nat × Int32 × Int32 × (Nat → VV)) : Option ((VV × VV × VV × VV × VV × Int32) × (Nat → Nat → Int32) × (Nat → Int64) × (Nat × Int32 × Int32 × (Nat → VV))) := (M_X9_undoCount k S V).bind fun q1 => (M_X10_undoCount k T).bind fun q3 => if q1 = q3.1 then (some (S, q3.2, U, V)) else (none)
set_option maxRecDepth 100000 in
set_option maxHeartbeats 4000000 in
theorem N_L_1930_1930 (C : CX E p l s m #[Value.ref bs] meth c cL_law 9 RL ret A) (a : Nat → Nat) (b : Nat → Nat) (c0 : Nat → Nat) (k Ls : Nat) (xs : Nat → Int32) (hX : va_X bs Ls xs s s.heap) (hbl : bs < s.heap.size) (hbA : ¬ A bs) (hlt : l.stackTraces = false) (hdc : DC s) (cN sN : Nat) (hcN : cN + 20 ≤ 601024 ∧ sN + 1600 ≤ 7293034) (fa : Nat → Nat → Nat) :
    ∀ (x4 : Int32) (S : VV × VV × VV × VV × VV × Int32) (T : Nat → Nat → Int32) (U : Nat → Int64) (V : Nat × Int32 × Int32 × (Nat → VV)) (q : (VV × VV × VV × VV × VV × Int32) × (Nat → Nat → Int32) × (Nat → Int64) × (Nat × Int32 × Int32 × (Nat → VV))), M_L_1930_1930 k Ls xs x4 S T U V = some q → (∀ fa' : Nat → Nat → Nat, WW E p l e room_1 s m #[Value.ref bs] below meth c A (cN + 20) (sN + 1600) (lw_Z below #[Value.ref bs] s) (wSg E a q.1 ++ wMd E b q.2.1 ++ wLo E c0 q.2.2.1 ++ wHi E a fa' q.2.2.2) 9 [some (.ref bs), some (.ref (a 0)), some (.ref (b 0)), some (.ref (c0 0)), some (.int x4), none, none, none, none] 2036 []) →
      WW E p l e room_1 s m #[Value.ref bs] below meth c A (cN + 0) (sN + 0) (lw_Z below #[Value.ref bs] s) (wSg E a S ++ wMd E b T ++ wLo E c0 U ++ wHi E a fa V) 9 [some (.ref bs), some (.ref (a 0)), some (.ref (b 0)), some (.ref (c0 0)), some (.int x4), none, none, none, none] 1930 [] := by
  intro x4 S T U V q  h hq
  unfold M_L_1930_1930 at h
  refine r_aload_n (pc := 1930) C (i := 1) dL_law_1930 rfl rfl ?_
  obtain ⟨q1, hq1, h⟩ := bnd h
  refine r_callT_CI (Cn := RX9) (c0 := (wSg E a S ++ hiC E a fa V)) (w0 := (wSg E a S ++ wMd E b T ++ wLo E c0 U ++ hiC E a fa V)) (t := hiT E fa V) (pc := 1931) C [] (c2_X9_undoCount E l k a fa S V hq1) [0, 1, 2, 3, 4, 5, 6, 7, 8, 9, 10, 11, 12, 13, 14, 15, 16, 17, 18, 19, 20, 21, 22, 23, 24, 25, 26, 27, 28, 29, 30, 31, 32, 33, 34, 35, 36, 37, 38, 39, 40, 41, 42, 43, 44, 45, 46, 47, 48, 49, 50, 51, 52, 53, 54, 55, 56, 57, 58, 59, 60, 75, 76] (hpL3 E a b c0 fa S T U V) (by decide) 0 rfl rfl rfl g_L_211 hd_X9_undoCount ⟨Nat.le_of_ble_eq_true rfl, Nat.le_of_ble_eq_true rfl⟩ ⟨by have h1 : room_1.cells = 601024 := rfl; have h2 := hcN.1; simp only [Nat.le_refl, rm_X9_undoCount]; omega, by have h1 : room_1.slots = 7293034 := rfl; have h2 := hcN.2; simp only [Nat.le_refl, rm_X9_undoCount]; omega⟩ (Nat.le_of_ble_eq_true rfl) rfl dL_law_1931 (List.append_assoc _ _ _).symm (fun r w1 hw1 => ?_)
  obtain ⟨hr1, fa2, hw1⟩ := hw1
  subst hr1 hw1
  refine ⟨wSg E a S ++ hiC E a fa2 V, hiT E fa2 V, _, (List.append_assoc _ _ _).symm, (by simp only [List.length_append, wSg_len]; rfl), hiT_le (Nat.le_refl _), pwL3 E a b c0 fa fa2 S T U V S V, ?_⟩
  refine r_world (w' := (wSg E a S ++ wMd E b T ++ wLo E c0 U ++ wHi E a fa2 V)) (List.append_assoc _ _ _) ?_
  refine r_aload_n (pc := 1934) C (i := 2) dL_law_1934 rfl rfl ?_
  obtain ⟨q3, hq3, h⟩ := bnd h
  refine r_callV_CI (Cn := RX10) (pc := 1935) C [] (c_X10_undoCount E l k b T hq3) [61, 62, 63, 64, 65, 66, 67, 68, 69, 70, 71, 72, 73] (hps_hi (List.append_assoc _ _ _).symm (hp_L_204_1 E a b c0 fa2 S T U V)) (by decide) 0 rfl rfl rfl g_L_214 hd_X10_undoCount ⟨Nat.le_of_ble_eq_true rfl, Nat.le_of_ble_eq_true rfl⟩ ⟨by have h1 : room_1.cells = 601024 := rfl; have h2 := hcN.1; simp only [Nat.le_refl, rm_X9_undoCount, rm_X10_undoCount]; omega, by have h1 : room_1.slots = 7293034 := rfl; have h2 := hcN.2; simp only [Nat.le_refl, rm_X9_undoCount, rm_X10_undoCount]; omega⟩ (Nat.le_of_ble_eq_true rfl) rfl dL_law_1935 (fun r w1 hw1 => ?_)
  obtain ⟨hr1, hw1⟩ := hw1
  subst hr1 hw1
  refine ⟨(wSg E a S ++ wMd E b q3.2 ++ wLo E c0 U ++ wHi E a fa2 V), by exact putW_hi (List.append_assoc _ _ _).symm (List.append_assoc _ _ _).symm (hp_L_204_1 E a b c0 fa2 S T U V) rfl (pw_L_204_1 E a b c0 fa2 S T U V q3.2), ?_⟩
  refine r_icmp_eq (pc := 1938) C (tgt := 2036) dL_law_1938 rfl (fun c4 => ?_) (fun c4 => ?_)
  · rw [if_pos c4] at h
    cases h
    refine r_widen (k1 := cN + 20) (n1 := sN + 1600) (by simp only [Nat.le_refl, rm_X9_undoCount, rm_X10_undoCount]; omega) (by simp only [Nat.le_refl, rm_X9_undoCount, rm_X10_undoCount]; omega) ?_
    refine r_weak (lSub_s (lSub_s (lSub_s (lSub_s (lSub_s (lSub_n (lSub_n (lSub_n (lSub_n lSub_e))))))))) ?_
    exact hq fa2
  · rw [if_neg c4] at h
    refine r_iconst (pc := 1941) C (v := 0) dL_law_1941 (by decide) ?_
    cases h
theorem hd_X9_undo : yX9_undo.cls = RX9 ∧ yX9_undo.cls ≠ "java/lang/invoke/MethodHandle" ∧ yX9_undo.cls ≠ "java/lang/invoke/VarHandle" ∧ (parseMethodDescriptor yX9_undo.desc).map (fun d => d.parameters.length) = some 0 := by decide +kernel
theorem g_L_215 : GoodIn GW (wsV RL 215 RX9 yX9_undo (wsG yX9_undo cX9_undo 1 (some .int))) := gw_V wm_2_157 wm_2_158 wm_2_159 wm_1_1 wm_2_160
theorem hd_X10_undo : yX10_undo.cls = RX10 ∧ yX10_undo.cls ≠ "java/lang/invoke/MethodHandle" ∧ yX10_undo.cls ≠ "java/lang/invoke/VarHandle" ∧ (parseMethodDescriptor yX10_undo.desc).map (fun d => d.parameters.length) = some 0 := by decide +kernel
theorem g_L_218 : GoodIn GW (wsV RL 218 RX10 yX10_undo (wsG yX10_undo cX10_undo 1 (some .int))) := gw_V wm_7_195 wm_7_196 wm_7_197 wm_1_9 wm_7_198
-- the law from 1943
theorem dL_law_1943 : decode cL_law 1943 = .ok (.aload_n 1, 1) := by decide +kernel
theorem dL_law_1944 : decode cL_law 1944 = .ok (.invokevirtual 215, 3) := by decide +kernel
theorem dL_law_1947 : decode cL_law 1947 = .ok (.aload_n 2, 1) := by decide +kernel
theorem dL_law_1948 : decode cL_law 1948 = .ok (.invokevirtual 218, 3) := by decide +kernel
theorem dL_law_1951 : decode cL_law 1951 = .ok (.if_icmp .eq 85, 3) := by decide +kernel
theorem dL_law_1954 : decode cL_law 1954 = .ok (.iconst 0, 1) := by decide +kernel
theorem dL_law_1955 : decode cL_law 1955 = .ok (.ireturn, 1) := by decide +kernel
def M_L_1943_1943 (k Ls : Nat) (xs : Nat → Int32) (x4 : Int32) (S : VV × VV × VV × VV × VV × Int32) (T : Nat → Nat → Int32) (U : Nat → Int64) (V : Nat × Int32 × Int32 × (Nat → VV)) : Option ((VV × VV × VV × VV × VV × Int32) × (Nat → Nat → Int32) × (Nat → Int64) × (Nat × Int32 × Int32 × (Nat → VV))) := (M_X9_undo k S V).bind fun q1 => (M_X10_undo k T).bind fun q3 => if q1.1 = q3.1 then (some (q1.2.1, q3.2, U, q1.2.2)) else (none)
set_option maxRecDepth 100000 in
set_option maxHeartbeats 4000000 in
theorem N_L_1943_1943 (C : CX E p l s m #[Value.ref bs] meth c cL_law 9 RL ret A) (a : Nat → Nat) (b : Nat → Nat) (c0 : Nat → Nat) (k Ls : Nat) (xs : Nat → Int32) (hX : va_X bs Ls xs s s.heap) (hbl : bs < s.heap.size) (hbA : ¬ A bs) (hlt : l.stackTraces = false) (hdc : DC s) (cN sN : Nat) (hcN : cN + 20 ≤ 601024 ∧ sN + 1600 ≤ 7293034) (fa : Nat → Nat → Nat) :
    ∀ (x4 : Int32) (S : VV × VV × VV × VV × VV × Int32) (T : Nat → Nat → Int32) (U : Nat → Int64) (V : Nat × Int32 × Int32 × (Nat → VV)) (q : (VV × VV × VV × VV × VV × Int32) × (Nat → Nat → Int32) × (Nat → Int64) × (Nat × Int32 × Int32 × (Nat → VV))), M_L_1943_1943 k Ls xs x4 S T U V = some q → (∀ fa' : Nat → Nat → Nat, WW E p l e room_1 s m #[Value.ref bs] below meth c A (cN + 20) (sN + 1600) (lw_Z below #[Value.ref bs] s) (wSg E a q.1 ++ wMd E b q.2.1 ++ wLo E c0 q.2.2.1 ++ wHi E a fa' q.2.2.2) 9 [some (.ref bs), some (.ref (a 0)), some (.ref (b 0)), some (.ref (c0 0)), some (.int x4), none, none, none, none] 2036 []) →
      WW E p l e room_1 s m #[Value.ref bs] below meth c A (cN + 0) (sN + 0) (lw_Z below #[Value.ref bs] s) (wSg E a S ++ wMd E b T ++ wLo E c0 U ++ wHi E a fa V) 9 [some (.ref bs), some (.ref (a 0)), some (.ref (b 0)), some (.ref (c0 0)), some (.int x4), none, none, none, none] 1943 [] := by
  intro x4 S T U V q  h hq
  unfold M_L_1943_1943 at h
  refine r_aload_n (pc := 1943) C (i := 1) dL_law_1943 rfl rfl ?_
  obtain ⟨q1, hq1, h⟩ := bnd h
  refine r_callT_CI (Cn := RX9) (c0 := (wSg E a S ++ hiC E a fa V)) (w0 := (wSg E a S ++ wMd E b T ++ wLo E c0 U ++ hiC E a fa V)) (t := hiT E fa V) (pc := 1944) C [] (c2_X9_undo E l k a fa S V hq1) [0, 1, 2, 3, 4, 5, 6, 7, 8, 9, 10, 11, 12, 13, 14, 15, 16, 17, 18, 19, 20, 21, 22, 23, 24, 25, 26, 27, 28, 29, 30, 31, 32, 33, 34, 35, 36, 37, 38, 39, 40, 41, 42, 43, 44, 45, 46, 47, 48, 49, 50, 51, 52, 53, 54, 55, 56, 57, 58, 59, 60, 75, 76] (hpL3 E a b c0 fa S T U V) (by decide) 0 rfl rfl rfl g_L_215 hd_X9_undo ⟨Nat.le_of_ble_eq_true rfl, Nat.le_of_ble_eq_true rfl⟩ ⟨by have h1 : room_1.cells = 601024 := rfl; have h2 := hcN.1; simp only [Nat.le_refl, rm_X9_undo]; omega, by have h1 : room_1.slots = 7293034 := rfl; have h2 := hcN.2; simp only [Nat.le_refl, rm_X9_undo]; omega⟩ (Nat.le_of_ble_eq_true rfl) rfl dL_law_1944 (List.append_assoc _ _ _).symm (fun r w1 hw1 => ?_)
  obtain ⟨hr1, fa2, hw1, hmo⟩ := hw1
  subst hr1 hw1
  refine ⟨wSg E a q1.2.1 ++ hiC E a fa2 q1.2.2, hiT E fa2 q1.2.2, _, (List.append_assoc _ _ _).symm, (by simp only [List.length_append, wSg_len]; rfl), hiT_le hmo, pwL3 E a b c0 fa fa2 S T U V q1.2.1 q1.2.2, ?_⟩
  refine r_world (w' := (wSg E a q1.2.1 ++ wMd E b T ++ wLo E c0 U ++ wHi E a fa2 q1.2.2)) (List.append_assoc _ _ _) ?_
  refine r_aload_n (pc := 1947) C (i := 2) dL_law_1947 rfl rfl ?_
  obtain ⟨q3, hq3, h⟩ := bnd h
  refine r_callV_CI (Cn := RX10) (pc := 1948) C [] (c_X10_undo E l k b T hq3) [61, 62, 63, 64, 65, 66, 67, 68, 69, 70, 71, 72, 73] (hps_hi (List.append_assoc _ _ _).symm (hp_L_204_1 E a b c0 fa2 q1.2.1 T U q1.2.2)) (by decide) 0 rfl rfl rfl g_L_218 hd_X10_undo ⟨Nat.le_of_ble_eq_true rfl, Nat.le_of_ble_eq_true rfl⟩ ⟨by have h1 : room_1.cells = 601024 := rfl; have h2 := hcN.1; simp only [Nat.le_refl, rm_X9_undo, rm_X10_undo]; omega, by have h1 : room_1.slots = 7293034 := rfl; have h2 := hcN.2; simp only [Nat.le_refl, rm_X9_undo, rm_X10_undo]; omega⟩ (Nat.le_of_ble_eq_true rfl) rfl dL_law_1948 (fun r w1 hw1 => ?_)
  obtain ⟨hr1, hw1⟩ := hw1
  subst hr1 hw1
  refine ⟨(wSg E a q1.2.1 ++ wMd E b q3.2 ++ wLo E c0 U ++ wHi E a fa2 q1.2.2), by exact putW_hi (List.append_assoc _ _ _).symm (List.append_assoc _ _ _).symm (hp_L_204_1 E a b c0 fa2 q1.2.1 T U q1.2.2) rfl (pw_L_204_1 E a b c0 fa2 q1.2.1 T U q1.2.2 q3.2), ?_⟩
  refine r_icmp_eq (pc := 1951) C (tgt := 2036) dL_law_1951 rfl (fun c4 => ?_) (fun c4 => ?_)
  · rw [if_pos c4] at h
    cases h
    refine r_widen (k1 := cN + 20) (n1 := sN + 1600) (by simp only [Nat.le_refl, rm_X9_undo, rm_X10_undo]; omega) (by simp only [Nat.le_refl, rm_X9_undo, rm_X10_undo]; omega) ?_
    refine r_weak (lSub_s (lSub_s (lSub_s (lSub_s (lSub_s (lSub_n (lSub_n (lSub_n (lSub_n lSub_e))))))))) ?_
    exact hq fa2
  · rw [if_neg c4] at h
    refine r_iconst (pc := 1954) C (v := 0) dL_law_1954 (by decide) ?_
    cases h
theorem hd_X9_saveSnapshot : yX9_saveSnapshot.cls = RX9 ∧ yX9_saveSnapshot.cls ≠ "java/lang/invoke/MethodHandle" ∧ yX9_saveSnapshot.cls ≠ "java/lang/invoke/VarHandle" ∧ (parseMethodDescriptor yX9_saveSnapshot.desc).map (fun d => d.parameters.length) = some 0 := by decide +kernel
theorem g_L_219 : GoodIn GW (wsV RL 219 RX9 yX9_saveSnapshot (wsG yX9_saveSnapshot cX9_saveSnapshot 1 none)) := gw_V wm_2_166 wm_2_167 wm_2_168 wm_1_1 wm_2_169
theorem hd_X10_saveSnapshot : yX10_saveSnapshot.cls = RX10 ∧ yX10_saveSnapshot.cls ≠ "java/lang/invoke/MethodHandle" ∧ yX10_saveSnapshot.cls ≠ "java/lang/invoke/VarHandle" ∧ (parseMethodDescriptor yX10_saveSnapshot.desc).map (fun d => d.parameters.length) = some 0 := by decide +kernel
theorem g_L_222 : GoodIn GW (wsV RL 222 RX10 yX10_saveSnapshot (wsG yX10_saveSnapshot cX10_saveSnapshot 1 none)) := gw_V wm_7_199 wm_7_200 wm_7_201 wm_1_9 wm_7_202
-- the law from 1956
theorem dL_law_1956 : decode cL_law 1956 = .ok (.aload_n 1, 1) := by decide +kernel
theorem dL_law_1957 : decode cL_law 1957 = .ok (.invokevirtual 219, 3) := by decide +kernel
theorem dL_law_1960 : decode cL_law 1960 = .ok (.aload_n 2, 1) := by decide +kernel
theorem dL_law_1961 : decode cL_law 1961 = .ok (.invokevirtual 222, 3) := by decide +kernel
theorem dL_law_1964 : decode cL_law 1964 = .ok (.goto 72, 3) := by decide +kernel
def M_L_1956_1956 (k Ls : Nat) (xs : Nat → Int32) (x4 : Int32) (S : VV × VV × VV × VV × VV × Int32) (T : Nat → Nat → Int32) (U : Nat → Int64) (V : Nat × Int32 × Int32 × (Nat → VV)) : Option ((VV × VV × VV × VV × VV × Int32) × (Nat → Nat → Int32) × (Nat → Int64) × (Nat × Int32 × Int32 × (Nat → VV))) := (M_X9_saveSnapshot k S).bind fun q1 => (M_X10_saveSnapshot k T).bind fun q2 => some (q1, q2, U, V)
set_option maxRecDepth 100000 in
set_option maxHeartbeats 4000000 in
theorem N_L_1956_1956 (C : CX E p l s m #[Value.ref bs] meth c cL_law 9 RL ret A) (a : Nat → Nat) (b : Nat → Nat) (c0 : Nat → Nat) (k Ls : Nat) (xs : Nat → Int32) (hX : va_X bs Ls xs s s.heap) (hbl : bs < s.heap.size) (hbA : ¬ A bs) (hlt : l.stackTraces = false) (hdc : DC s) (cN sN : Nat) (hcN : cN + 20 ≤ 601024 ∧ sN + 1600 ≤ 7293034) (fa : Nat → Nat → Nat) :
    ∀ (x4 : Int32) (S : VV × VV × VV × VV × VV × Int32) (T : Nat → Nat → Int32) (U : Nat → Int64) (V : Nat × Int32 × Int32 × (Nat → VV)) (q : (VV × VV × VV × VV × VV × Int32) × (Nat → Nat → Int32) × (Nat → Int64) × (Nat × Int32 × Int32 × (Nat → VV))), M_L_1956_1956 k Ls xs x4 S T U V = some q → (∀ fa' : Nat → Nat → Nat, WW E p l e room_1 s m #[Value.ref bs] below meth c A (cN + 20) (sN + 1600) (lw_Z below #[Value.ref bs] s) (wSg E a q.1 ++ wMd E b q.2.1 ++ wLo E c0 q.2.2.1 ++ wHi E a fa' q.2.2.2) 9 [some (.ref bs), some (.ref (a 0)), some (.ref (b 0)), some (.ref (c0 0)), some (.int x4), none, none, none, none] 2036 []) →
      WW E p l e room_1 s m #[Value.ref bs] below meth c A (cN + 0) (sN + 0) (lw_Z below #[Value.ref bs] s) (wSg E a S ++ wMd E b T ++ wLo E c0 U ++ wHi E a fa V) 9 [some (.ref bs), some (.ref (a 0)), some (.ref (b 0)), some (.ref (c0 0)), some (.int x4), none, none, none, none] 1956 [] := by
  intro x4 S T U V q  h hq
  unfold M_L_1956_1956 at h
  refine r_aload_n (pc := 1956) C (i := 1) dL_law_1956 rfl rfl ?_
  obtain ⟨q1, hq1, h⟩ := bnd h
  refine r_callV_CV (Cn := RX9) (pc := 1957) C [] (c_X9_saveSnapshot E l k a S hq1) [0, 1, 2, 3, 4, 5, 6, 7, 8, 9, 10, 11, 12, 13, 14, 15, 16, 17, 18, 19, 20, 21, 22, 23, 24, 25, 26, 27, 28, 29, 30, 31, 32, 33, 34, 35, 36, 37, 38, 39, 40, 41, 42, 43, 44, 45, 46, 47, 48, 49, 50, 51, 52, 53, 54, 55, 56, 57, 58, 59, 60] (hps_hi (List.append_assoc _ _ _).symm (hp_L_204_0 E a b c0 fa S T U V)) (by decide) 0 rfl rfl rfl g_L_219 hd_X9_saveSnapshot ⟨Nat.le_of_ble_eq_true rfl, Nat.le_of_ble_eq_true rfl⟩ ⟨by have h1 : room_1.cells = 601024 := rfl; have h2 := hcN.1; simp only [Nat.le_refl, rm_X9_saveSnapshot]; omega, by have h1 : room_1.slots = 7293034 := rfl; have h2 := hcN.2; simp only [Nat.le_refl, rm_X9_saveSnapshot]; omega⟩ (Nat.le_of_ble_eq_true rfl) rfl dL_law_1957 (fun w1 hw1 => ?_)
  subst hw1
  refine ⟨(wSg E a q1 ++ wMd E b T ++ wLo E c0 U ++ wHi E a fa V), by exact putW_hi (List.append_assoc _ _ _).symm (List.append_assoc _ _ _).symm (hp_L_204_0 E a b c0 fa S T U V) rfl (pw_L_204_0 E a b c0 fa S T U V q1), ?_⟩
  refine r_aload_n (pc := 1960) C (i := 2) dL_law_1960 rfl rfl ?_
  obtain ⟨q2, hq2, h⟩ := bnd h
  refine r_callV_CV (Cn := RX10) (pc := 1961) C [] (c_X10_saveSnapshot E l k b T hq2) [61, 62, 63, 64, 65, 66, 67, 68, 69, 70, 71, 72, 73] (hps_hi (List.append_assoc _ _ _).symm (hp_L_204_1 E a b c0 fa q1 T U V)) (by decide) 0 rfl rfl rfl g_L_222 hd_X10_saveSnapshot ⟨Nat.le_of_ble_eq_true rfl, Nat.le_of_ble_eq_true rfl⟩ ⟨by have h1 : room_1.cells = 601024 := rfl; have h2 := hcN.1; simp only [Nat.le_refl, rm_X9_saveSnapshot, rm_X10_saveSnapshot]; omega, by have h1 : room_1.slots = 7293034 := rfl; have h2 := hcN.2; simp only [Nat.le_refl, rm_X9_saveSnapshot, rm_X10_saveSnapshot]; omega⟩ (Nat.le_of_ble_eq_true rfl) rfl dL_law_1961 (fun w1 hw1 => ?_)
  subst hw1
  refine ⟨(wSg E a q1 ++ wMd E b q2 ++ wLo E c0 U ++ wHi E a fa V), by exact putW_hi (List.append_assoc _ _ _).symm (List.append_assoc _ _ _).symm (hp_L_204_1 E a b c0 fa q1 T U V) rfl (pw_L_204_1 E a b c0 fa q1 T U V q2), ?_⟩
  refine r_goto (pc := 1964) C (tgt := 2036) dL_law_1964 rfl ?_
  cases h
  refine r_widen (k1 := cN + 20) (n1 := sN + 1600) (by simp only [Nat.le_refl, rm_X9_saveSnapshot, rm_X10_saveSnapshot]; omega) (by simp only [Nat.le_refl, rm_X9_saveSnapshot, rm_X10_saveSnapshot]; omega) ?_
  refine r_weak (lSub_s (lSub_s (lSub_s (lSub_s (lSub_s (lSub_n (lSub_n (lSub_n (lSub_n lSub_e))))))))) ?_
  exact hq fa
theorem hd_X9_restoreSnapshot : yX9_restoreSnapshot.cls = RX9 ∧ yX9_restoreSnapshot.cls ≠ "java/lang/invoke/MethodHandle" ∧ yX9_restoreSnapshot.cls ≠ "java/lang/invoke/VarHandle" ∧ (parseMethodDescriptor yX9_restoreSnapshot.desc).map (fun d => d.parameters.length) = some 0 := by decide +kernel
theorem g_L_223 : GoodIn GW (wsV RL 223 RX9 yX9_restoreSnapshot (wsG yX9_restoreSnapshot cX9_restoreSnapshot 1 (some .boolean))) := gw_V wm_2_170 wm_2_171 wm_2_172 wm_1_1 wm_2_173
theorem hd_X10_restoreSnapshot : yX10_restoreSnapshot.cls = RX10 ∧ yX10_restoreSnapshot.cls ≠ "java/lang/invoke/MethodHandle" ∧ yX10_restoreSnapshot.cls ≠ "java/lang/invoke/VarHandle" ∧ (parseMethodDescriptor yX10_restoreSnapshot.desc).map (fun d => d.parameters.length) = some 0 := by decide +kernel
theorem g_L_227 : GoodIn GW (wsV RL 227 RX10 yX10_restoreSnapshot (wsG yX10_restoreSnapshot cX10_restoreSnapshot 1 (some .boolean))) := gw_V wm_7_203 wm_7_204 wm_7_205 wm_1_9 wm_7_206
-- the law from 1967
theorem dL_law_1967 : decode cL_law 1967 = .ok (.aload_n 1, 1) := by decide +kernel
theorem dL_law_1968 : decode cL_law 1968 = .ok (.invokevirtual 223, 3) := by decide +kernel
theorem dL_law_1971 : decode cL_law 1971 = .ok (.aload_n 2, 1) := by decide +kernel
theorem dL_law_1972 : decode cL_law 1972 = .ok (.invokevirtual 227, 3) := by decide +kernel
theorem dL_law_1975 : decode cL_law 1975 = .ok (.if_icmp .eq 61, 3) := by decide +kernel
theorem dL_law_1978 : decode cL_law 1978 = .ok (.iconst 0, 1) := by decide +kernel
theorem dL_law_1979 : decode cL_law 1979 = .ok (.ireturn, 1) := by decide +kernel
def M_L_1967_1967 (k Ls : Nat) (xs : Nat → Int32) (x4 : Int32) (S : VV × VV × VV × VV × VV × Int32) (T : Nat → Nat → Int32) (U : Nat → Int64) (V : Nat × Int32 × Int32 × (Nat → VV)) : Option ((VV × VV × VV × VV × VV × Int32) × (Nat → Nat → Int32) × (Nat → Int64) × (Nat × Int32 × Int32 × (Nat → VV))) := (M_X9_restoreSnapshot k S V).bind fun q1 => (M_X10_restoreSnapshot k T).bind fun q3 => if q1.1 = q3.1 then (some (q1.2.1, q3.2, U, q1.2.2)) else (none)
set_option maxRecDepth 100000 in
set_option maxHeartbeats 4000000 in
theorem N_L_1967_1967 (C : CX E p l s m #[Value.ref bs] meth c cL_law 9 RL ret A) (a : Nat → Nat) (b : Nat → Nat) (c0 : Nat → Nat) (k Ls : Nat) (xs : Nat → Int32) (hX : va_X bs Ls xs s s.heap) (hbl : bs < s.heap.size) (hbA : ¬ A bs) (hlt : l.stackTraces = false) (hdc : DC s) (cN sN : Nat) (hcN : cN + 20 ≤ 601024 ∧ sN + 1600 ≤ 7293034) (fa : Nat → Nat → Nat) :
    ∀ (x4 : Int32) (S : VV × VV × VV × VV × VV × Int32) (T : Nat → Nat → Int32) (U : Nat → Int64) (V : Nat × Int32 × Int32 × (Nat → VV)) (q : (VV × VV × VV × VV × VV × Int32) × (Nat → Nat → Int32) × (Nat → Int64) × (Nat × Int32 × Int32 × (Nat → VV))), M_L_1967_1967 k Ls xs x4 S T U V = some q → (∀ fa' : Nat → Nat → Nat, WW E p l e room_1 s m #[Value.ref bs] below meth c A (cN + 20) (sN + 1600) (lw_Z below #[Value.ref bs] s) (wSg E a q.1 ++ wMd E b q.2.1 ++ wLo E c0 q.2.2.1 ++ wHi E a fa' q.2.2.2) 9 [some (.ref bs), some (.ref (a 0)), some (.ref (b 0)), some (.ref (c0 0)), some (.int x4), none, none, none, none] 2036 []) →
      WW E p l e room_1 s m #[Value.ref bs] below meth c A (cN + 0) (sN + 0) (lw_Z below #[Value.ref bs] s) (wSg E a S ++ wMd E b T ++ wLo E c0 U ++ wHi E a fa V) 9 [some (.ref bs), some (.ref (a 0)), some (.ref (b 0)), some (.ref (c0 0)), some (.int x4), none, none, none, none] 1967 [] := by
  intro x4 S T U V q  h hq
  unfold M_L_1967_1967 at h
  refine r_aload_n (pc := 1967) C (i := 1) dL_law_1967 rfl rfl ?_
  obtain ⟨q1, hq1, h⟩ := bnd h
  refine r_callT_CI (Cn := RX9) (c0 := (wSg E a S ++ hiC E a fa V)) (w0 := (wSg E a S ++ wMd E b T ++ wLo E c0 U ++ hiC E a fa V)) (t := hiT E fa V) (pc := 1968) C [] (c2_X9_restoreSnapshot E l k a fa S V hq1) [0, 1, 2, 3, 4, 5, 6, 7, 8, 9, 10, 11, 12, 13, 14, 15, 16, 17, 18, 19, 20, 21, 22, 23, 24, 25, 26, 27, 28, 29, 30, 31, 32, 33, 34, 35, 36, 37, 38, 39, 40, 41, 42, 43, 44, 45, 46, 47, 48, 49, 50, 51, 52, 53, 54, 55, 56, 57, 58, 59, 60, 75, 76] (hpL3 E a b c0 fa S T U V) (by decide) 0 rfl rfl rfl g_L_223 hd_X9_restoreSnapshot ⟨Nat.le_of_ble_eq_true rfl, Nat.le_of_ble_eq_true rfl⟩ ⟨by have h1 : room_1.cells = 601024 := rfl; have h2 := hcN.1; simp only [Nat.le_refl, rm_X9_restoreSnapshot]; omega, by have h1 : room_1.slots = 7293034 := rfl; have h2 := hcN.2; simp only [Nat.le_refl, rm_X9_restoreSnapshot]; omega⟩ (Nat.le_of_ble_eq_true rfl) rfl dL_law_1968 (List.append_assoc _ _ _).symm (fun r w1 hw1 => ?_)
  obtain ⟨hr1, fa2, hw1, hmo⟩ := hw1
  subst hr1 hw1
  refine ⟨wSg E a q1.2.1 ++ hiC E a fa2 q1.2.2, hiT E fa2 q1.2.2, _, (List.append_assoc _ _ _).symm, (by simp only [List.length_append, wSg_len]; rfl), hiT_le hmo, pwL3 E a b c0 fa fa2 S T U V q1.2.1 q1.2.2, ?_⟩
  refine r_world (w' := (wSg E a q1.2.1 ++ wMd E b T ++ wLo E c0 U ++ wHi E a fa2 q1.2.2)) (List.append_assoc _ _ _) ?_
  refine r_aload_n (pc := 1971) C (i := 2) dL_law_1971 rfl rfl ?_
  obtain ⟨q3, hq3, h⟩ := bnd h
  refine r_callV_CI (Cn := RX10) (pc := 1972) C [] (c_X10_restoreSnapshot E l k b T hq3) [61, 62, 63, 64, 65, 66, 67, 68, 69, 70, 71, 72, 73] (hps_hi (List.append_assoc _ _ _).symm (hp_L_204_1 E a b c0 fa2 q1.2.1 T U q1.2.2)) (by decide) 0 rfl rfl rfl g_L_227 hd_X10_restoreSnapshot ⟨Nat.le_of_ble_eq_true rfl, Nat.le_of_ble_eq_true rfl⟩ ⟨by have h1 : room_1.cells = 601024 := rfl; have h2 := hcN.1; simp only [Nat.le_refl, rm_X9_restoreSnapshot, rm_X10_restoreSnapshot]; omega, by have h1 : room_1.slots = 7293034 := rfl; have h2 := hcN.2; simp only [Nat.le_refl, rm_X9_restoreSnapshot, rm_X10_restoreSnapshot]; omega⟩ (Nat.le_of_ble_eq_true rfl) rfl dL_law_1972 (fun r w1 hw1 => ?_)
  obtain ⟨hr1, hw1⟩ := hw1
  subst hr1 hw1
  refine ⟨(wSg E a q1.2.1 ++ wMd E b q3.2 ++ wLo E c0 U ++ wHi E a fa2 q1.2.2), by exact putW_hi (List.append_assoc _ _ _).symm (List.append_assoc _ _ _).symm (hp_L_204_1 E a b c0 fa2 q1.2.1 T U q1.2.2) rfl (pw_L_204_1 E a b c0 fa2 q1.2.1 T U q1.2.2 q3.2), ?_⟩
  refine r_icmp_eq (pc := 1975) C (tgt := 2036) dL_law_1975 rfl (fun c4 => ?_) (fun c4 => ?_)
  · rw [if_pos c4] at h
    cases h
    refine r_widen (k1 := cN + 20) (n1 := sN + 1600) (by simp only [Nat.le_refl, rm_X9_restoreSnapshot, rm_X10_restoreSnapshot]; omega) (by simp only [Nat.le_refl, rm_X9_restoreSnapshot, rm_X10_restoreSnapshot]; omega) ?_
    refine r_weak (lSub_s (lSub_s (lSub_s (lSub_s (lSub_s (lSub_n (lSub_n (lSub_n (lSub_n lSub_e))))))))) ?_
    exact hq fa2
  · rw [if_neg c4] at h
    refine r_iconst (pc := 1978) C (v := 0) dL_law_1978 (by decide) ?_
    cases h
theorem hd_X10_query : yX10_query.cls = RX10 ∧ yX10_query.cls ≠ "java/lang/invoke/MethodHandle" ∧ yX10_query.cls ≠ "java/lang/invoke/VarHandle" ∧ (parseMethodDescriptor yX10_query.desc).map (fun d => d.parameters.length) = some 1 := by decide +kernel
theorem g_L_230 : GoodIn GW (wsV RL 230 RX10 yX10_query (wsG yX10_query cX10_query 5 (some .int))) := gw_V wm_8_71 wm_8_72 wm_8_73 wm_1_9 wm_8_74
theorem hd_L_query : yL_query.cls = RL ∧ yL_query.cls ≠ "java/lang/invoke/MethodHandle" ∧ yL_query.cls ≠ "java/lang/invoke/VarHandle" ∧ (parseMethodDescriptor yL_query.desc).map (fun d => d.parameters.length) = some 3 := by decide +kernel
theorem gL_228 : GoodIn GW (va_wsS RL 228 yL_query (Cond.codeWith yL_query cL_query 4 (some .int) [(0, 9, 12, 13)] :: GW)) := gw_SW wm_5_94 wm_5_95 wm_1_0 wm_5_96
-- the law from 1980
theorem dL_law_1980 : decode cL_law 1980 = .ok (.aload_n 1, 1) := by decide +kernel
theorem dL_law_1981 : decode cL_law 1981 = .ok (.aload_n 0, 1) := by decide +kernel
theorem dL_law_1982 : decode cL_law 1982 = .ok (.iload 4, 2) := by decide +kernel
theorem dL_law_1984 : decode cL_law 1984 = .ok (.iconst 1, 1) := by decide +kernel
theorem dL_law_1985 : decode cL_law 1985 = .ok (.iadd, 1) := by decide +kernel
theorem dL_law_1986 : decode cL_law 1986 = .ok (.iaload, 1) := by decide +kernel
theorem dL_law_1987 : decode cL_law 1987 = .ok (.aload_n 3, 1) := by decide +kernel
theorem dL_law_1988 : decode cL_law 1988 = .ok (.invokestatic 228, 3) := by decide +kernel
theorem dL_law_1991 : decode cL_law 1991 = .ok (.istore 5, 2) := by decide +kernel
theorem dL_law_1993 : decode cL_law 1993 = .ok (.aload_n 2, 1) := by decide +kernel
theorem dL_law_1994 : decode cL_law 1994 = .ok (.aload_n 0, 1) := by decide +kernel
theorem dL_law_1995 : decode cL_law 1995 = .ok (.iload 4, 2) := by decide +kernel
theorem dL_law_1997 : decode cL_law 1997 = .ok (.iconst 1, 1) := by decide +kernel
theorem dL_law_1998 : decode cL_law 1998 = .ok (.iadd, 1) := by decide +kernel
theorem dL_law_1999 : decode cL_law 1999 = .ok (.iaload, 1) := by decide +kernel
theorem dL_law_2000 : decode cL_law 2000 = .ok (.invokevirtual 230, 3) := by decide +kernel
theorem dL_law_2003 : decode cL_law 2003 = .ok (.istore 6, 2) := by decide +kernel
theorem dL_law_2005 : decode cL_law 2005 = .ok (.aload_n 2, 1) := by decide +kernel
theorem dL_law_2006 : decode cL_law 2006 = .ok (.invokevirtual 106, 3) := by decide +kernel
theorem dL_law_2009 : decode cL_law 2009 = .ok (.iload 5, 2) := by decide +kernel
theorem dL_law_2011 : decode cL_law 2011 = .ok (.if_icmp .eq 5, 3) := by decide +kernel
theorem dL_law_2014 : decode cL_law 2014 = .ok (.iconst 0, 1) := by decide +kernel
theorem dL_law_2015 : decode cL_law 2015 = .ok (.ireturn, 1) := by decide +kernel
theorem dL_law_2016 : decode cL_law 2016 = .ok (.iload 5, 2) := by decide +kernel
theorem dL_law_2018 : decode cL_law 2018 = .ok (.ifCond .ne 15, 3) := by decide +kernel
theorem dL_law_2021 : decode cL_law 2021 = .ok (.aload_n 3, 1) := by decide +kernel
theorem dL_law_2022 : decode cL_law 2022 = .ok (.iconst 0, 1) := by decide +kernel
theorem dL_law_2023 : decode cL_law 2023 = .ok (.laload, 1) := by decide +kernel
theorem dL_law_2024 : decode cL_law 2024 = .ok (.iload 6, 2) := by decide +kernel
theorem dL_law_2026 : decode cL_law 2026 = .ok (.i2l, 1) := by decide +kernel
theorem dL_law_2027 : decode cL_law 2027 = .ok (.lcmp, 1) := by decide +kernel
theorem dL_law_2028 : decode cL_law 2028 = .ok (.ifCond .eq 5, 3) := by decide +kernel
theorem dL_law_2031 : decode cL_law 2031 = .ok (.iconst 0, 1) := by decide +kernel
theorem dL_law_2032 : decode cL_law 2032 = .ok (.ireturn, 1) := by decide +kernel
theorem dL_law_2033 : decode cL_law 2033 = .ok (.goto 3, 3) := by decide +kernel
def M_L_1980_1980 (k Ls : Nat) (xs : Nat → Int32) (x4 : Int32) (S : VV × VV × VV × VV × VV × Int32) (T : Nat → Nat → Int32) (U : Nat → Int64) (V : Nat × Int32 × Int32 × (Nat → VV)) : Option ((VV × VV × VV × VV × VV × Int32) × (Nat → Nat → Int32) × (Nat → Int64) × (Nat × Int32 × Int32 × (Nat → VV))) := (if inb (x4 + (1 : Int32)) Ls = true then (M_L_query k S U (xs (x4 + (1 : Int32)).toNatClampNeg)).bind fun q2 => (if inb (x4 + (1 : Int32)) Ls = true then (M_X10_query k T (xs (x4 + (1 : Int32)).toNatClampNeg)).bind fun q4 => (M_X10_thrown k q4.2).bind fun q5 => if q5 = q2.1 then (if q2.1 = 0 then ((if inb (0 : Int32) 1 = true then if (lg_cmp (q2.2.2 (0 : Int32).toNatClampNeg) (q4.1.toInt64)) = 0 then (some (q2.2.1, q4.2, q2.2.2, V)) else (none) else none)) else (some (q2.2.1, q4.2, q2.2.2, V))) else (none) else none) else none)
set_option maxRecDepth 100000 in
set_option maxHeartbeats 4000000 in
theorem N_L_1980_1980 (C : CX E p l s m #[Value.ref bs] meth c cL_law 9 RL ret A) (a : Nat → Nat) (b : Nat → Nat) (c0 : Nat → Nat) (k Ls : Nat) (xs : Nat → Int32) (hX : va_X bs Ls xs s s.heap) (hbl : bs < s.heap.size) (hbA : ¬ A bs) (hlt : l.stackTraces = false) (hdc : DC s) (cN sN : Nat) (hcN : cN + 20 ≤ 601024 ∧ sN + 1600 ≤ 7293034) (fa : Nat → Nat → Nat) :
    ∀ (x4 : Int32) (S : VV × VV × VV × VV × VV × Int32) (T : Nat → Nat → Int32) (U : Nat → Int64) (V : Nat × Int32 × Int32 × (Nat → VV)) (q : (VV × VV × VV × VV × VV × Int32) × (Nat → Nat → Int32) × (Nat → Int64) × (Nat × Int32 × Int32 × (Nat → VV))), M_L_1980_1980 k Ls xs x4 S T U V = some q → (∀ fa' : Nat → Nat → Nat, WW E p l e room_1 s m #[Value.ref bs] below meth c A (cN + 20) (sN + 1600) (lw_Z below #[Value.ref bs] s) (wSg E a q.1 ++ wMd E b q.2.1 ++ wLo E c0 q.2.2.1 ++ wHi E a fa' q.2.2.2) 9 [some (.ref bs), some (.ref (a 0)), some (.ref (b 0)), some (.ref (c0 0)), some (.int x4), none, none, none, none] 2036 []) →
      WW E p l e room_1 s m #[Value.ref bs] below meth c A (cN + 0) (sN + 0) (lw_Z below #[Value.ref bs] s) (wSg E a S ++ wMd E b T ++ wLo E c0 U ++ wHi E a fa V) 9 [some (.ref bs), some (.ref (a 0)), some (.ref (b 0)), some (.ref (c0 0)), some (.int x4), none, none, none, none] 1980 [] := by
  intro x4 S T U V q  h hq
  unfold M_L_1980_1980 at h
  refine r_aload_n (pc := 1980) C (i := 1) dL_law_1980 rfl rfl ?_
  refine r_aload_n (pc := 1981) C (i := 0) dL_law_1981 rfl rfl ?_
  refine r_iload (pc := 1982) C (i := 4) dL_law_1982 rfl ?_
  refine r_iconst (pc := 1984) C (v := 1) dL_law_1984 (by decide) ?_
  refine r_iadd (pc := 1985) C dL_law_1985 ?_
  obtain ⟨hi1, h⟩ := ifn h
  refine r_sld (pc := 1986) C hX hbl hbA hi1 dL_law_1986 ?_
  refine r_aload_n (pc := 1987) C (i := 3) dL_law_1987 rfl rfl ?_
  obtain ⟨q2, hq2, h⟩ := bnd h
  refine r_callSH (pc := 1988) C [.ref (a 0), .int (xs (x4 + (1 : Int32)).toNatClampNeg), .ref (c0 0)] hdc (c_L_query E l k a (c0 0) S U (xs (x4 + (1 : Int32)).toNatClampNeg) hlt hq2) [0, 1, 2, 3, 4, 5, 6, 7, 8, 9, 10, 11, 12, 13, 14, 15, 16, 17, 18, 19, 20, 21, 22, 23, 24, 25, 26, 27, 28, 29, 30, 31, 32, 33, 34, 35, 36, 37, 38, 39, 40, 41, 42, 43, 44, 45, 46, 47, 48, 49, 50, 51, 52, 53, 54, 55, 56, 57, 58, 59, 60, 74] (hps_hi (List.append_assoc _ _ _).symm (hpL1 E a b c0 fa S T U V)) (by decide) gL_228 hd_L_query.2 ⟨Nat.le_of_ble_eq_true rfl, Nat.le_of_ble_eq_true rfl⟩ ⟨by have h1 : room_1.cells = 601024 := rfl; have h2 := hcN.1; simp only [Nat.le_refl, rm_L_query]; omega, by have h1 : room_1.slots = 7293034 := rfl; have h2 := hcN.2; simp only [Nat.le_refl, rm_L_query]; omega⟩ (Nat.le_of_ble_eq_true rfl) rfl dL_law_1988 (fun r w1 hw1 => ?_)
  obtain ⟨hr1, hw1⟩ := hw1
  subst hr1 hw1
  refine ⟨(wSg E a q2.2.1 ++ wMd E b T ++ wLo E c0 q2.2.2 ++ wHi E a fa V), putW_hi (List.append_assoc _ _ _).symm (List.append_assoc _ _ _).symm (hpL1 E a b c0 fa S T U V) rfl (pwL1 E a b c0 fa S T U V q2.2.1 q2.2.2), ?_⟩
  refine r_istore (pc := 1991) C (i := 5) dL_law_1991 (by decide) rfl ?_
  refine r_aload_n (pc := 1993) C (i := 2) dL_law_1993 rfl rfl ?_
  refine r_aload_n (pc := 1994) C (i := 0) dL_law_1994 rfl rfl ?_
  refine r_iload (pc := 1995) C (i := 4) dL_law_1995 rfl ?_
  refine r_iconst (pc := 1997) C (v := 1) dL_law_1997 (by decide) ?_
  refine r_iadd (pc := 1998) C dL_law_1998 ?_
  obtain ⟨hi3, h⟩ := ifn h
  refine r_sld (pc := 1999) C hX hbl hbA hi3 dL_law_1999 ?_
  obtain ⟨q4, hq4, h⟩ := bnd h
  refine r_callV_CI (Cn := RX10) (pc := 2000) C [.int (xs (x4 + (1 : Int32)).toNatClampNeg)] (c_X10_query E l k b T (xs (x4 + (1 : Int32)).toNatClampNeg) hq4) [61, 62, 63, 64, 65, 66, 67, 68, 69, 70, 71, 72, 73] (hps_hi (List.append_assoc _ _ _).symm (hp_L_204_1 E a b c0 fa q2.2.1 T q2.2.2 V)) (by decide) 0 rfl rfl rfl g_L_230 hd_X10_query ⟨Nat.le_of_ble_eq_true rfl, Nat.le_of_ble_eq_true rfl⟩ ⟨by have h1 : room_1.cells = 601024 := rfl; have h2 := hcN.1; simp only [Nat.le_refl, rm_L_query, rm_X10_query]; omega, by have h1 : room_1.slots = 7293034 := rfl; have h2 := hcN.2; simp only [Nat.le_refl, rm_L_query, rm_X10_query]; omega⟩ (Nat.le_of_ble_eq_true rfl) rfl dL_law_2000 (fun r w1 hw1 => ?_)
  obtain ⟨hr1, hw1⟩ := hw1
  subst hr1 hw1
  refine ⟨(wSg E a q2.2.1 ++ wMd E b q4.2 ++ wLo E c0 q2.2.2 ++ wHi E a fa V), by exact putW_hi (List.append_assoc _ _ _).symm (List.append_assoc _ _ _).symm (hp_L_204_1 E a b c0 fa q2.2.1 T q2.2.2 V) rfl (pw_L_204_1 E a b c0 fa q2.2.1 T q2.2.2 V q4.2), ?_⟩
  refine r_istore (pc := 2003) C (i := 6) dL_law_2003 (by decide) rfl ?_
  refine r_aload_n (pc := 2005) C (i := 2) dL_law_2005 rfl rfl ?_
  obtain ⟨q5, hq5, h⟩ := bnd h
  refine r_callVp_CI (Cn := RX10) (pc := 2006) C [] (c_X10_thrown E l k b q4.2 hq5) [61, 62, 63, 64, 65, 66, 67, 68, 69, 70, 71, 72, 73] (hps_hi (List.append_assoc _ _ _).symm (hp_L_204_1 E a b c0 fa q2.2.1 q4.2 q2.2.2 V)) (by decide) 0 rfl rfl rfl g_L_106 hd_X10_thrown ⟨Nat.le_of_ble_eq_true rfl, Nat.le_of_ble_eq_true rfl⟩ ⟨by have h1 : room_1.cells = 601024 := rfl; have h2 := hcN.1; simp only [Nat.le_refl, rm_L_query, rm_X10_query, rm_X10_thrown]; omega, by have h1 : room_1.slots = 7293034 := rfl; have h2 := hcN.2; simp only [Nat.le_refl, rm_L_query, rm_X10_query, rm_X10_thrown]; omega⟩ (Nat.le_of_ble_eq_true rfl) rfl dL_law_2006 (fun r hr => ?_)
  have hr := hr.symm
  subst hr
  refine r_iload (pc := 2009) C (i := 5) dL_law_2009 rfl ?_
  refine r_icmp_eq (pc := 2011) C (tgt := 2016) dL_law_2011 rfl (fun c6 => ?_) (fun c6 => ?_)
  · rw [if_pos c6] at h
    refine r_iload (pc := 2016) C (i := 5) dL_law_2016 rfl ?_
    refine r_if_ne (pc := 2018) C (tgt := 2033) dL_law_2018 rfl (fun c7 => ?_) (fun c7 => ?_)
    · rw [if_neg c7] at h
      refine r_goto (pc := 2033) C (tgt := 2036) dL_law_2033 rfl ?_
      cases h
      refine r_widen (k1 := cN + 20) (n1 := sN + 1600) (by simp only [Nat.le_refl, rm_L_query, rm_X10_query, rm_X10_thrown]; omega) (by simp only [Nat.le_refl, rm_L_query, rm_X10_query, rm_X10_thrown]; omega) ?_
      refine r_weak (lSub_s (lSub_s (lSub_s (lSub_s (lSub_s (lSub_n (lSub_n (lSub_n (lSub_n lSub_e))))))))) ?_
      exact hq fa
    · rw [if_pos c7] at h
      refine r_aload_n (pc := 2021) C (i := 3) dL_law_2021 rfl rfl ?_
      refine r_iconst (pc := 2022) C (v := 0) dL_law_2022 (by decide) ?_
      obtain ⟨hi8, h⟩ := ifn h
      refine r_lald (pc := 2023) C 74 rfl hi8 dL_law_2023 ?_
      refine r_iload (pc := 2024) C (i := 6) dL_law_2024 rfl ?_
      refine r_i2l (pc := 2026) C dL_law_2026 ?_
      refine r_lcmp (pc := 2027) C dL_law_2027 ?_
      refine r_if_eq (pc := 2028) C (tgt := 2033) dL_law_2028 rfl (fun c9 => ?_) (fun c9 => ?_)
      · rw [if_pos c9] at h
        refine r_goto (pc := 2033) C (tgt := 2036) dL_law_2033 rfl ?_
        cases h
        refine r_widen (k1 := cN + 20) (n1 := sN + 1600) (by simp only [Nat.le_refl, rm_L_query, rm_X10_query, rm_X10_thrown]; omega) (by simp only [Nat.le_refl, rm_L_query, rm_X10_query, rm_X10_thrown]; omega) ?_
        refine r_weak (lSub_s (lSub_s (lSub_s (lSub_s (lSub_s (lSub_n (lSub_n (lSub_n (lSub_n lSub_e))))))))) ?_
        exact hq fa
      · rw [if_neg c9] at h
        refine r_iconst (pc := 2031) C (v := 0) dL_law_2031 (by decide) ?_
        cases h
  · rw [if_neg c6] at h
    refine r_iconst (pc := 2014) C (v := 0) dL_law_2014 (by decide) ?_
    cases h
end WALKS
