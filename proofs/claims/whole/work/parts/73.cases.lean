section LAWX
variable {p : Program} {l : Launch} {e : Env} {R : Room} {s : State} {m : MethodId} {args : Array Value} {below : List Frame} {meth : Method} {c : Code} {cells slots : Nat} {Q : State → Prop}
variable {cc : ByteArray} {nL pc pc' : Nat} {own : String} {Ts : List Cond} {D : va_G} {cl : List vw_C} {tys : List (ClassId × FieldType)} {A : Nat → Prop} {H0 : Heap} {ws : va_W} {lv : List (Nat × Value)} {rest st : List Value}
theorem xw_sld (C : xw_C p s m args c cc nL own Ts D cl tys A H0) {b L : Nat} {xs : Nat → Int32} (hX : va_X b L xs s H0) (hbl : b < H0.size) (hbA : ¬ A b) {i : Int32} (j : Nat) (hi : i = nI j) (hj : j < L) (hL : L < 2 ^ 31) (hdg : decode cc pc = .ok (.iaload, 1)) (hp : pc + 1 = pc')
    (kk : XW p l e R s m args below meth c D cl A H0 nL ws cells slots Q pc' lv (.int (xs j) :: rest)) : XW p l e R s m args below meth c D cl A H0 nL ws cells slots Q pc lv (.int i :: .ref b :: rest) := by
  subst hp; subst hi
  refine fun H locs ls hP hD hS hl => va_sld C.1 C.2.1 hX hbl hbA hS (vp_in_nI hj hL) hdg ?_
  rw [nI_clamp (by omega)]
  exact kk H locs ls hP hD hS hl
theorem xw_slen (C : xw_C p s m args c cc nL own Ts D cl tys A H0) {b L : Nat} {xs : Nat → Int32} (hX : va_X b L xs s H0) (hbl : b < H0.size) (hbA : ¬ A b) (hdg : decode cc pc = .ok (.arraylength, 1)) (hp : pc + 1 = pc')
    (kk : XW p l e R s m args below meth c D cl A H0 nL ws cells slots Q pc' lv (.int (nI L) :: rest)) : XW p l e R s m args below meth c D cl A H0 nL ws cells slots Q pc lv (.ref b :: rest) := by
  subst hp
  exact fun H locs ls hP hD hS hl => va_slen C.1 C.2.1 hX hbl hbA hS hdg (kk H locs ls hP hD hS hl)
theorem lg_cmp_self (x : Int64) : lg_cmp x x = nI 0 := by
  have h : ¬ x > x := by
    intro q
    rw [gt_iff_lt, Int64.lt_iff_toInt_lt] at q
    omega
  unfold lg_cmp
  rw [if_neg h, if_pos rfl]
  rfl
theorem xw_lcmpE (C : xw_C p s m args c cc nL own Ts D cl tys A H0) {x y : Int64} (h : x = y) (hdg : decode cc pc = .ok (.lcmp, 1)) (hp : pc + 1 = pc')
    (kk : XW p l e R s m args below meth c D cl A H0 nL ws cells slots Q pc' lv (.int (nI 0) :: rest)) : XW p l e R s m args below meth c D cl A H0 nL ws cells slots Q pc lv (.long y :: .long x :: rest) := by
  subst hp; subst h
  exact fun H locs ls hP hD hS hl => W.lcmp C.1 C.2.1 hdg (by rw [lg_cmp_self]; exact kk H locs ls hP hD hS hl)
end LAWX
/-- what the law's walk has -/
def LwC (p : Program) (l : Launch) (s : State) (m : MethodId) (c : Code) (D : va_G) (ca : Nat → ClassId) (sa : Nat → Nat) (b L : Nat) (xs : Nat → Int32) : Prop := xw_C p s m #[Value.ref b] c b_Lw_law 7 "TabledExecutiveLaw" zG D zCl (zT ca) (fun q => s.heap.size ≤ q) s.heap ∧ zKL sa (fun q => s.heap.size ≤ q) s s.heap ∧ va_X b L xs s s.heap ∧ b < s.heap.size ∧ l.stackTraces = false ∧ L ≤ 2560

set_option maxHeartbeats 4000000 in
set_option maxRecDepth 100000 in
theorem lw_c_load {p : Program} {l : Launch} {e : Env} {s : State} {m : MethodId} {below : List Frame} {meth : Method} {c : Code} {Q : State → Prop} {D : va_G} {ca : Nat → ClassId} {ad : Nat → Nat} {sa : Nat → Nat} {b L : Nat} {xs : Nat → Int32} (H : LwC p l s m c D ca sa b L xs) {i N : Nat} {M : Nat → Nat → Int32} (hi : i + 5 ≤ L) (hN : N ≤ 512) (hE : LwE M N)
    (kk : ∀ M', LwE M' (N + 1) → XW p l e room_1 s m #[Value.ref b] below meth c D zCl (fun q => s.heap.size ≤ q) s.heap 7 (zW ca ad M') (57 + 4 * (N + 1)) (1281 + 24 * (N + 1)) Q 878 [(0, .ref b), (1, .ref (ad 0)), (2, .ref (ad 38)), (3, .ref (ad 56)), (4, .int (nI i))] []) : XW p l e room_1 s m #[Value.ref b] below meth c D zCl (fun q => s.heap.size ≤ q) s.heap 7 (zW ca ad M) (57 + 4 * N) (1281 + 24 * N) Q 120 [(0, .ref b), (1, .ref (ad 0)), (2, .ref (ad 38)), (3, .ref (ad 56)), (4, .int (nI i))] [] := by
  obtain ⟨C, hKL, hX, hbl, hl0, hL⟩ := H
  obtain ⟨n, per, wk, dl, of, k, st, ln, tk, md, tm, hR, htm⟩ := hE
  have hbA : ¬ s.heap.size ≤ b := by omega
  obtain ⟨hmd, -, hmb⟩ := hR.2.2.2.2.2.2.2.1
  have hn6 := hR.1.1
  have hz := hR.1.2.1
  have hk60 := hR.2.2.1.2.1
  have hz3 := hR.2.2.1.1
  refine xw_aload_n C 1 d_Lw_law_120 rfl rfl (pc' := 121) rfl ?_
  refine xw_aload_n C 0 d_Lw_law_121 rfl rfl (pc' := 122) rfl ?_
  refine xw_iload C 4 d_Lw_law_122 rfl (pc' := 124) rfl ?_
  refine xw_iconst C (v := nI 1) d_Lw_law_124 (by decide) (pc' := 125) rfl ?_
  refine xw_iadd C d_Lw_law_125 (pc' := 126) rfl ?_
  refine xw_topi (y := nI (i + 1)) (nI_add _ _) ?_
  refine xw_sld C hX hbl hbA (i + 1) rfl (by omega) (by omega) d_Lw_law_126 (pc' := 127) rfl ?_
  refine xw_aload_n C 0 d_Lw_law_127 rfl rfl (pc' := 128) rfl ?_
  refine xw_iload C 4 d_Lw_law_128 rfl (pc' := 130) rfl ?_
  refine xw_iconst C (v := nI 2) d_Lw_law_130 (by decide) (pc' := 131) rfl ?_
  refine xw_iadd C d_Lw_law_131 (pc' := 132) rfl ?_
  refine xw_topi (y := nI (i + 2)) (nI_add _ _) ?_
  refine xw_sld C hX hbl hbA (i + 2) rfl (by omega) (by omega) d_Lw_law_132 (pc' := 133) rfl ?_
  refine xw_callSWi C (c_Lw_load l hl0 D ca ad M sa md (xs (i + 1)) (xs (i + 2)) hmd hmb) (zg_SW C 3 k_227 k_228 k_23 k_229 q_Lw_load ⟨by decide, by decide⟩) (fun _ _ _ _ h => h.call) (fun _ _ _ hD hS hU hW => hKL.at C.2.2.2.2.2.2 hD hS hU hW) rfl rfl (Nat.le_of_ble_eq_true rfl) d_Lw_law_133 ⟨by show _ ≤ 605353; omega, by show _ ≤ 7280045; omega⟩ (pc' := 136) rfl (fun r1 M1 hp1 => ?_)
  have hRm := fr_load hR hp1
  obtain ⟨-, hmm, -⟩ := hRm.2.2.2.2.2.2.2.1
  have hzm := hRm.2.1.2.1
  have hz3m := hRm.2.2.2.1.1
  refine xw_istore C d_Lw_law_136 (by decide) rfl (pc' := 138) rfl ?_
  refine xw_aload_n C 3 d_Lw_law_138 rfl rfl (pc' := 139) rfl ?_
  refine xw_aload_n C 1 d_Lw_law_139 rfl rfl (pc' := 140) rfl ?_
  refine xw_iload C 5 d_Lw_law_140 rfl (pc' := 142) rfl ?_
  refine xw_iconst C (v := nI 1) d_Lw_law_142 (by decide) (pc' := 143) rfl ?_
  refine xw_iadd C d_Lw_law_143 (pc' := 144) rfl ?_
  refine xw_topi (y := nI (i + 1)) (nI_add _ _) ?_
  refine xw_sld C hX hbl hbA (i + 1) rfl (by omega) (by omega) d_Lw_law_144 (pc' := 145) rfl ?_
  refine xw_aload_n C 1 d_Lw_law_145 rfl rfl (pc' := 146) rfl ?_
  refine xw_iload C 5 d_Lw_law_146 rfl (pc' := 148) rfl ?_
  refine xw_iconst C (v := nI 2) d_Lw_law_148 (by decide) (pc' := 149) rfl ?_
  refine xw_iadd C d_Lw_law_149 (pc' := 150) rfl ?_
  refine xw_topi (y := nI (i + 2)) (nI_add _ _) ?_
  refine xw_sld C hX hbl hbA (i + 2) rfl (by omega) (by omega) d_Lw_law_150 (pc' := 151) rfl ?_
  refine xw_callVv C (c_Md_load l D ca ad M1 md (xs (i + 1)) (xs (i + 2)) hmm hmb) ⟨zg_B C 2 k_642 k_31 k_645 q_Md_load ⟨by decide, by decide⟩, C.2.2.2.2.1 _ k_643, C.2.2.2.2.1 _ k_644⟩ 38 zr_38 rfl rfl (fun _ _ _ _ h => h) (fun _ _ _ _ _ _ _ => trivial) rfl rfl (Nat.le_of_ble_eq_true rfl) d_Lw_law_151 ⟨by show _ ≤ 605353; omega, by show _ ≤ 7280045; omega⟩ (pc' := 154) rfl (fun M2 hp2 => ?_)
  obtain ⟨hf, hE2⟩ := op_load (b0 := 0) hR htm hp1 hp2
  refine xw_aload_n C 3 d_Lw_law_154 rfl rfl (pc' := 155) rfl ?_
  refine xw_callVi C (c_Md_thrown l D ca ad M2) ⟨zg_B C 0 k_638 k_31 k_641 q_Md_thrown ⟨by decide, by decide⟩, C.2.2.2.2.1 _ k_639, C.2.2.2.2.1 _ k_640⟩ 38 zr_38 rfl rfl (fun _ _ _ _ h => h) (fun _ _ _ _ _ _ _ => trivial) rfl rfl (Nat.le_of_ble_eq_true rfl) d_Lw_law_155 ⟨by show _ ≤ 605353; omega, by show _ ≤ 7280045; omega⟩ (pc' := 158) rfl (fun r3 M3 hp3 => ?_)
  obtain ⟨e3, er⟩ := hp3
  rw [e3]
  refine xw_topi (y := r1) (er.trans hf) ?_
  refine xw_iload C 0 d_Lw_law_158 rfl (pc' := 160) rfl ?_
  refine xw_icmp_eq C (tgt := 165) d_Lw_law_160 (by decide) (pc' := 163) rfl (fun h160 => ?_) (fun h160 => ?_)
  ·
    refine xw_goto C (tgt := 878) d_Lw_law_165 (by decide) ?_
    refine xw_lv [1, 2, 3, 4, 5] rfl ?_
    refine xw_widen (k := 57 + 4 * (N + 1)) (n := 1281 + 24 * (N + 1)) (by omega) (by omega) ?_
    exact kk _ hE2
  ·
    exact absurd rfl h160

set_option maxHeartbeats 4000000 in
set_option maxRecDepth 100000 in
theorem lw_c_task {p : Program} {l : Launch} {e : Env} {s : State} {m : MethodId} {below : List Frame} {meth : Method} {c : Code} {Q : State → Prop} {D : va_G} {ca : Nat → ClassId} {ad : Nat → Nat} {sa : Nat → Nat} {b L : Nat} {xs : Nat → Int32} (H : LwC p l s m c D ca sa b L xs) {i N : Nat} {M : Nat → Nat → Int32} (hi : i + 5 ≤ L) (hN : N ≤ 512) (hE : LwE M N)
    (kk : ∀ M', LwE M' (N + 1) → XW p l e room_1 s m #[Value.ref b] below meth c D zCl (fun q => s.heap.size ≤ q) s.heap 7 (zW ca ad M') (57 + 4 * (N + 1)) (1281 + 24 * (N + 1)) Q 878 [(0, .ref b), (1, .ref (ad 0)), (2, .ref (ad 38)), (3, .ref (ad 56)), (4, .int (nI i))] []) : XW p l e room_1 s m #[Value.ref b] below meth c D zCl (fun q => s.heap.size ≤ q) s.heap 7 (zW ca ad M) (57 + 4 * N) (1281 + 24 * N) Q 168 [(0, .ref b), (1, .ref (ad 0)), (2, .ref (ad 38)), (3, .ref (ad 56)), (4, .int (nI i))] [] := by
  obtain ⟨C, hKL, hX, hbl, hl0, hL⟩ := H
  obtain ⟨n, per, wk, dl, of, k, st, ln, tk, md, tm, hR, htm⟩ := hE
  have hbA : ¬ s.heap.size ≤ b := by omega
  obtain ⟨hmd, -, hmb⟩ := hR.2.2.2.2.2.2.2.1
  have hn6 := hR.1.1
  have hz := hR.1.2.1
  have hk60 := hR.2.2.1.2.1
  have hz3 := hR.2.2.1.1
  refine xw_aload_n C 1 d_Lw_law_168 rfl rfl (pc' := 169) rfl ?_
  refine xw_aload_n C 0 d_Lw_law_169 rfl rfl (pc' := 170) rfl ?_
  refine xw_iload C 4 d_Lw_law_170 rfl (pc' := 172) rfl ?_
  refine xw_iconst C (v := nI 1) d_Lw_law_172 (by decide) (pc' := 173) rfl ?_
  refine xw_iadd C d_Lw_law_173 (pc' := 174) rfl ?_
  refine xw_topi (y := nI (i + 1)) (nI_add _ _) ?_
  refine xw_sld C hX hbl hbA (i + 1) rfl (by omega) (by omega) d_Lw_law_174 (pc' := 175) rfl ?_
  refine xw_aload_n C 0 d_Lw_law_175 rfl rfl (pc' := 176) rfl ?_
  refine xw_iload C 4 d_Lw_law_176 rfl (pc' := 178) rfl ?_
  refine xw_iconst C (v := nI 2) d_Lw_law_178 (by decide) (pc' := 179) rfl ?_
  refine xw_iadd C d_Lw_law_179 (pc' := 180) rfl ?_
  refine xw_topi (y := nI (i + 2)) (nI_add _ _) ?_
  refine xw_sld C hX hbl hbA (i + 2) rfl (by omega) (by omega) d_Lw_law_180 (pc' := 181) rfl ?_
  refine xw_aload_n C 0 d_Lw_law_181 rfl rfl (pc' := 182) rfl ?_
  refine xw_iload C 4 d_Lw_law_182 rfl (pc' := 184) rfl ?_
  refine xw_iconst C (v := nI 3) d_Lw_law_184 (by decide) (pc' := 185) rfl ?_
  refine xw_iadd C d_Lw_law_185 (pc' := 186) rfl ?_
  refine xw_topi (y := nI (i + 3)) (nI_add _ _) ?_
  refine xw_sld C hX hbl hbA (i + 3) rfl (by omega) (by omega) d_Lw_law_186 (pc' := 187) rfl ?_
  refine xw_aload_n C 0 d_Lw_law_187 rfl rfl (pc' := 188) rfl ?_
  refine xw_iload C 4 d_Lw_law_188 rfl (pc' := 190) rfl ?_
  refine xw_iconst C (v := nI 4) d_Lw_law_190 (by decide) (pc' := 191) rfl ?_
  refine xw_iadd C d_Lw_law_191 (pc' := 192) rfl ?_
  refine xw_topi (y := nI (i + 4)) (nI_add _ _) ?_
  refine xw_sld C hX hbl hbA (i + 4) rfl (by omega) (by omega) d_Lw_law_192 (pc' := 193) rfl ?_
  refine xw_aload_n C 3 d_Lw_law_193 rfl rfl (pc' := 194) rfl ?_
  refine xw_callSWi C (c_Lw_task l hl0 D ca ad M sa md n (xs (i + 1)) (xs (i + 2)) (xs (i + 3)) (xs (i + 4)) hmd hmb hn6 hz) (zg_SW C 6 k_327 k_328 k_23 k_329 q_Lw_task ⟨by decide, by decide⟩) (fun _ _ _ _ h => h.call) (fun _ _ _ hD hS hU hW => hKL.at C.2.2.2.2.2.2 hD hS hU hW) rfl rfl (Nat.le_of_ble_eq_true rfl) d_Lw_law_194 ⟨by show _ ≤ 605353; omega, by show _ ≤ 7280045; omega⟩ (pc' := 197) rfl (fun r1 M1 hp1 => ?_)
  have hRm := fr_task hR hp1
  obtain ⟨-, hmm, -⟩ := hRm.2.2.2.2.2.2.2.1
  have hzm := hRm.2.1.2.1
  have hz3m := hRm.2.2.2.1.1
  refine xw_istore C d_Lw_law_197 (by decide) rfl (pc' := 199) rfl ?_
  refine xw_aload_n C 3 d_Lw_law_199 rfl rfl (pc' := 200) rfl ?_
  refine xw_aload_n C 1 d_Lw_law_200 rfl rfl (pc' := 201) rfl ?_
  refine xw_iload C 5 d_Lw_law_201 rfl (pc' := 203) rfl ?_
  refine xw_iconst C (v := nI 1) d_Lw_law_203 (by decide) (pc' := 204) rfl ?_
  refine xw_iadd C d_Lw_law_204 (pc' := 205) rfl ?_
  refine xw_topi (y := nI (i + 1)) (nI_add _ _) ?_
  refine xw_sld C hX hbl hbA (i + 1) rfl (by omega) (by omega) d_Lw_law_205 (pc' := 206) rfl ?_
  refine xw_aload_n C 1 d_Lw_law_206 rfl rfl (pc' := 207) rfl ?_
  refine xw_iload C 5 d_Lw_law_207 rfl (pc' := 209) rfl ?_
  refine xw_iconst C (v := nI 2) d_Lw_law_209 (by decide) (pc' := 210) rfl ?_
  refine xw_iadd C d_Lw_law_210 (pc' := 211) rfl ?_
  refine xw_topi (y := nI (i + 2)) (nI_add _ _) ?_
  refine xw_sld C hX hbl hbA (i + 2) rfl (by omega) (by omega) d_Lw_law_211 (pc' := 212) rfl ?_
  refine xw_aload_n C 1 d_Lw_law_212 rfl rfl (pc' := 213) rfl ?_
  refine xw_iload C 5 d_Lw_law_213 rfl (pc' := 215) rfl ?_
  refine xw_iconst C (v := nI 3) d_Lw_law_215 (by decide) (pc' := 216) rfl ?_
  refine xw_iadd C d_Lw_law_216 (pc' := 217) rfl ?_
  refine xw_topi (y := nI (i + 3)) (nI_add _ _) ?_
  refine xw_sld C hX hbl hbA (i + 3) rfl (by omega) (by omega) d_Lw_law_217 (pc' := 218) rfl ?_
  refine xw_aload_n C 1 d_Lw_law_218 rfl rfl (pc' := 219) rfl ?_
  refine xw_iload C 5 d_Lw_law_219 rfl (pc' := 221) rfl ?_
  refine xw_iconst C (v := nI 4) d_Lw_law_221 (by decide) (pc' := 222) rfl ?_
  refine xw_iadd C d_Lw_law_222 (pc' := 223) rfl ?_
  refine xw_topi (y := nI (i + 4)) (nI_add _ _) ?_
  refine xw_sld C hX hbl hbA (i + 4) rfl (by omega) (by omega) d_Lw_law_223 (pc' := 224) rfl ?_
  refine xw_callVi C (c_Md_task l D ca ad M1 md n (xs (i + 1)) (xs (i + 2)) (xs (i + 3)) (xs (i + 4)) hmm hmb hn6 hzm) ⟨zg_B C 4 k_650 k_31 k_653 q_Md_task ⟨by decide, by decide⟩, C.2.2.2.2.1 _ k_651, C.2.2.2.2.1 _ k_652⟩ 38 zr_38 rfl rfl (fun _ _ _ _ h => h) (fun _ _ _ _ _ _ _ => trivial) rfl rfl (Nat.le_of_ble_eq_true rfl) d_Lw_law_224 ⟨by show _ ≤ 605353; omega, by show _ ≤ 7280045; omega⟩ (pc' := 227) rfl (fun b0 M2 hp2 => ?_)
  obtain ⟨hf, hv, hE2⟩ := op_task hR htm hp1 hp2
  refine xw_istore C d_Lw_law_227 (by decide) rfl (pc' := 229) rfl ?_
  refine xw_aload_n C 4 d_Lw_law_229 rfl rfl (pc' := 230) rfl ?_
  refine xw_callVi C (c_Md_thrown l D ca ad M2) ⟨zg_B C 0 k_638 k_31 k_641 q_Md_thrown ⟨by decide, by decide⟩, C.2.2.2.2.1 _ k_639, C.2.2.2.2.1 _ k_640⟩ 38 zr_38 rfl rfl (fun _ _ _ _ h => h) (fun _ _ _ _ _ _ _ => trivial) rfl rfl (Nat.le_of_ble_eq_true rfl) d_Lw_law_230 ⟨by show _ ≤ 605353; omega, by show _ ≤ 7280045; omega⟩ (pc' := 233) rfl (fun r3 M3 hp3 => ?_)
  obtain ⟨e3, er⟩ := hp3
  rw [e3]
  refine xw_topi (y := r1) (er.trans hf) ?_
  refine xw_iload C 1 d_Lw_law_233 rfl (pc' := 235) rfl ?_
  refine xw_icmp_eq C (tgt := 240) d_Lw_law_235 (by decide) (pc' := 238) rfl (fun h235 => ?_) (fun h235 => ?_)
  ·
    refine xw_iload C 1 d_Lw_law_240 rfl (pc' := 242) rfl ?_
    refine xw_if_ne C (tgt := 257) d_Lw_law_242 (by decide) (pc' := 245) rfl (fun hr0 => ?_) (fun hr0 => ?_)
    ·
      refine xw_goto C (tgt := 878) d_Lw_law_257 (by decide) ?_
      refine xw_lv [2, 3, 4, 5, 6] rfl ?_
      refine xw_widen (k := 57 + 4 * (N + 1)) (n := 1281 + 24 * (N + 1)) (by omega) (by omega) ?_
      exact kk _ hE2
    ·
      refine xw_aload_n C 5 d_Lw_law_245 rfl rfl (pc' := 246) rfl ?_
      refine xw_iconst C (v := nI 0) d_Lw_law_246 (by decide) (pc' := 247) rfl ?_
      refine xw_lald C 56 3 zr_56 rfl 0 rfl (by omega) (by decide) d_Lw_law_247 (pc' := 248) rfl ?_
      refine xw_iload C 0 d_Lw_law_248 rfl (pc' := 250) rfl ?_
      refine xw_i2l C d_Lw_law_250 rfl (pc' := 251) rfl ?_
      refine xw_lcmpE C (by rw [hv hr0]) d_Lw_law_251 (pc' := 252) rfl ?_
      refine xw_if_eq C (tgt := 257) d_Lw_law_252 (by decide) (pc' := 255) rfl (fun h252 => ?_) (fun h252 => ?_)
      ·
        replace h252 : 0 = 0 := (xp_eq0 (by omega)).mp h252
        refine xw_goto C (tgt := 878) d_Lw_law_257 (by decide) ?_
        refine xw_lv [2, 3, 4, 5, 6] rfl ?_
        refine xw_widen (k := 57 + 4 * (N + 1)) (n := 1281 + 24 * (N + 1)) (by omega) (by omega) ?_
        exact kk _ hE2
      ·
        replace h252 : ¬ (0 = 0) := fun hneg => h252 ((xp_eq0 (by omega)).mpr hneg)
        omega
  ·
    exact absurd rfl h235

set_option maxHeartbeats 4000000 in
set_option maxRecDepth 100000 in
theorem lw_c_entry {p : Program} {l : Launch} {e : Env} {s : State} {m : MethodId} {below : List Frame} {meth : Method} {c : Code} {Q : State → Prop} {D : va_G} {ca : Nat → ClassId} {ad : Nat → Nat} {sa : Nat → Nat} {b L : Nat} {xs : Nat → Int32} (H : LwC p l s m c D ca sa b L xs) {i N : Nat} {M : Nat → Nat → Int32} (hi : i + 5 ≤ L) (hN : N ≤ 512) (hE : LwE M N)
    (kk : ∀ M', LwE M' (N + 1) → XW p l e room_1 s m #[Value.ref b] below meth c D zCl (fun q => s.heap.size ≤ q) s.heap 7 (zW ca ad M') (57 + 4 * (N + 1)) (1281 + 24 * (N + 1)) Q 878 [(0, .ref b), (1, .ref (ad 0)), (2, .ref (ad 38)), (3, .ref (ad 56)), (4, .int (nI i))] []) : XW p l e room_1 s m #[Value.ref b] below meth c D zCl (fun q => s.heap.size ≤ q) s.heap 7 (zW ca ad M) (57 + 4 * N) (1281 + 24 * N) Q 260 [(0, .ref b), (1, .ref (ad 0)), (2, .ref (ad 38)), (3, .ref (ad 56)), (4, .int (nI i))] [] := by
  obtain ⟨C, hKL, hX, hbl, hl0, hL⟩ := H
  obtain ⟨n, per, wk, dl, of, k, st, ln, tk, md, tm, hR, htm⟩ := hE
  have hbA : ¬ s.heap.size ≤ b := by omega
  obtain ⟨hmd, -, hmb⟩ := hR.2.2.2.2.2.2.2.1
  have hn6 := hR.1.1
  have hz := hR.1.2.1
  have hk60 := hR.2.2.1.2.1
  have hz3 := hR.2.2.1.1
  refine xw_aload_n C 1 d_Lw_law_260 rfl rfl (pc' := 261) rfl ?_
  refine xw_aload_n C 0 d_Lw_law_261 rfl rfl (pc' := 262) rfl ?_
  refine xw_iload C 4 d_Lw_law_262 rfl (pc' := 264) rfl ?_
  refine xw_iconst C (v := nI 1) d_Lw_law_264 (by decide) (pc' := 265) rfl ?_
  refine xw_iadd C d_Lw_law_265 (pc' := 266) rfl ?_
  refine xw_topi (y := nI (i + 1)) (nI_add _ _) ?_
  refine xw_sld C hX hbl hbA (i + 1) rfl (by omega) (by omega) d_Lw_law_266 (pc' := 267) rfl ?_
  refine xw_aload_n C 0 d_Lw_law_267 rfl rfl (pc' := 268) rfl ?_
  refine xw_iload C 4 d_Lw_law_268 rfl (pc' := 270) rfl ?_
  refine xw_iconst C (v := nI 2) d_Lw_law_270 (by decide) (pc' := 271) rfl ?_
  refine xw_iadd C d_Lw_law_271 (pc' := 272) rfl ?_
  refine xw_topi (y := nI (i + 2)) (nI_add _ _) ?_
  refine xw_sld C hX hbl hbA (i + 2) rfl (by omega) (by omega) d_Lw_law_272 (pc' := 273) rfl ?_
  refine xw_callSWi C (c_Lw_entry l hl0 D ca ad M sa md n (xs (i + 1)) (xs (i + 2)) hmd hmb hn6 hz) (zg_SW C 3 k_366 k_367 k_23 k_368 q_Lw_entry ⟨by decide, by decide⟩) (fun _ _ _ _ h => h.call) (fun _ _ _ hD hS hU hW => hKL.at C.2.2.2.2.2.2 hD hS hU hW) rfl rfl (Nat.le_of_ble_eq_true rfl) d_Lw_law_273 ⟨by show _ ≤ 605353; omega, by show _ ≤ 7280045; omega⟩ (pc' := 276) rfl (fun r1 M1 hp1 => ?_)
  have hRm := fr_entry hR hp1
  obtain ⟨-, hmm, -⟩ := hRm.2.2.2.2.2.2.2.1
  have hzm := hRm.2.1.2.1
  have hz3m := hRm.2.2.2.1.1
  refine xw_istore C d_Lw_law_276 (by decide) rfl (pc' := 278) rfl ?_
  refine xw_aload_n C 3 d_Lw_law_278 rfl rfl (pc' := 279) rfl ?_
  refine xw_aload_n C 1 d_Lw_law_279 rfl rfl (pc' := 280) rfl ?_
  refine xw_iload C 5 d_Lw_law_280 rfl (pc' := 282) rfl ?_
  refine xw_iconst C (v := nI 1) d_Lw_law_282 (by decide) (pc' := 283) rfl ?_
  refine xw_iadd C d_Lw_law_283 (pc' := 284) rfl ?_
  refine xw_topi (y := nI (i + 1)) (nI_add _ _) ?_
  refine xw_sld C hX hbl hbA (i + 1) rfl (by omega) (by omega) d_Lw_law_284 (pc' := 285) rfl ?_
  refine xw_aload_n C 1 d_Lw_law_285 rfl rfl (pc' := 286) rfl ?_
  refine xw_iload C 5 d_Lw_law_286 rfl (pc' := 288) rfl ?_
  refine xw_iconst C (v := nI 2) d_Lw_law_288 (by decide) (pc' := 289) rfl ?_
  refine xw_iadd C d_Lw_law_289 (pc' := 290) rfl ?_
  refine xw_topi (y := nI (i + 2)) (nI_add _ _) ?_
  refine xw_sld C hX hbl hbA (i + 2) rfl (by omega) (by omega) d_Lw_law_290 (pc' := 291) rfl ?_
  refine xw_callVv C (c_Md_entry l D ca ad M1 md n (xs (i + 1)) (xs (i + 2)) hmm hmb hn6 hzm) ⟨zg_B C 2 k_654 k_31 k_657 q_Md_entry ⟨by decide, by decide⟩, C.2.2.2.2.1 _ k_655, C.2.2.2.2.1 _ k_656⟩ 38 zr_38 rfl rfl (fun _ _ _ _ h => h) (fun _ _ _ _ _ _ _ => trivial) rfl rfl (Nat.le_of_ble_eq_true rfl) d_Lw_law_291 ⟨by show _ ≤ 605353; omega, by show _ ≤ 7280045; omega⟩ (pc' := 294) rfl (fun M2 hp2 => ?_)
  obtain ⟨hf, hE2⟩ := op_entry (b0 := 0) hR htm hp1 hp2
  refine xw_aload_n C 3 d_Lw_law_294 rfl rfl (pc' := 295) rfl ?_
  refine xw_callVi C (c_Md_thrown l D ca ad M2) ⟨zg_B C 0 k_638 k_31 k_641 q_Md_thrown ⟨by decide, by decide⟩, C.2.2.2.2.1 _ k_639, C.2.2.2.2.1 _ k_640⟩ 38 zr_38 rfl rfl (fun _ _ _ _ h => h) (fun _ _ _ _ _ _ _ => trivial) rfl rfl (Nat.le_of_ble_eq_true rfl) d_Lw_law_295 ⟨by show _ ≤ 605353; omega, by show _ ≤ 7280045; omega⟩ (pc' := 298) rfl (fun r3 M3 hp3 => ?_)
  obtain ⟨e3, er⟩ := hp3
  rw [e3]
  refine xw_topi (y := r1) (er.trans hf) ?_
  refine xw_iload C 0 d_Lw_law_298 rfl (pc' := 300) rfl ?_
  refine xw_icmp_eq C (tgt := 305) d_Lw_law_300 (by decide) (pc' := 303) rfl (fun h300 => ?_) (fun h300 => ?_)
  ·
    refine xw_goto C (tgt := 878) d_Lw_law_305 (by decide) ?_
    refine xw_lv [1, 2, 3, 4, 5] rfl ?_
    refine xw_widen (k := 57 + 4 * (N + 1)) (n := 1281 + 24 * (N + 1)) (by omega) (by omega) ?_
    exact kk _ hE2
  ·
    exact absurd rfl h300

set_option maxHeartbeats 4000000 in
set_option maxRecDepth 100000 in
theorem lw_c_clear {p : Program} {l : Launch} {e : Env} {s : State} {m : MethodId} {below : List Frame} {meth : Method} {c : Code} {Q : State → Prop} {D : va_G} {ca : Nat → ClassId} {ad : Nat → Nat} {sa : Nat → Nat} {b L : Nat} {xs : Nat → Int32} (H : LwC p l s m c D ca sa b L xs) {i N : Nat} {M : Nat → Nat → Int32} (hi : i + 5 ≤ L) (hN : N ≤ 512) (hE : LwE M N)
    (kk : ∀ M', LwE M' (N + 1) → XW p l e room_1 s m #[Value.ref b] below meth c D zCl (fun q => s.heap.size ≤ q) s.heap 7 (zW ca ad M') (57 + 4 * (N + 1)) (1281 + 24 * (N + 1)) Q 878 [(0, .ref b), (1, .ref (ad 0)), (2, .ref (ad 38)), (3, .ref (ad 56)), (4, .int (nI i))] []) : XW p l e room_1 s m #[Value.ref b] below meth c D zCl (fun q => s.heap.size ≤ q) s.heap 7 (zW ca ad M) (57 + 4 * N) (1281 + 24 * N) Q 308 [(0, .ref b), (1, .ref (ad 0)), (2, .ref (ad 38)), (3, .ref (ad 56)), (4, .int (nI i))] [] := by
  obtain ⟨C, hKL, hX, hbl, hl0, hL⟩ := H
  obtain ⟨n, per, wk, dl, of, k, st, ln, tk, md, tm, hR, htm⟩ := hE
  have hbA : ¬ s.heap.size ≤ b := by omega
  obtain ⟨hmd, -, hmb⟩ := hR.2.2.2.2.2.2.2.1
  have hn6 := hR.1.1
  have hz := hR.1.2.1
  have hk60 := hR.2.2.1.2.1
  have hz3 := hR.2.2.1.1
  refine xw_aload_n C 1 d_Lw_law_308 rfl rfl (pc' := 309) rfl ?_
  refine xw_callSWi C (c_Lw_clear l hl0 D ca ad M sa md hmd hmb) (zg_SW C 1 k_373 k_374 k_23 k_375 q_Lw_clear ⟨by decide, by decide⟩) (fun _ _ _ _ h => h.call) (fun _ _ _ hD hS hU hW => hKL.at C.2.2.2.2.2.2 hD hS hU hW) rfl rfl (Nat.le_of_ble_eq_true rfl) d_Lw_law_309 ⟨by show _ ≤ 605353; omega, by show _ ≤ 7280045; omega⟩ (pc' := 312) rfl (fun r1 M1 hp1 => ?_)
  have hRm := fr_clear hR hp1
  obtain ⟨-, hmm, -⟩ := hRm.2.2.2.2.2.2.2.1
  have hzm := hRm.2.1.2.1
  have hz3m := hRm.2.2.2.1.1
  refine xw_istore C d_Lw_law_312 (by decide) rfl (pc' := 314) rfl ?_
  refine xw_aload_n C 3 d_Lw_law_314 rfl rfl (pc' := 315) rfl ?_
  refine xw_callVv C (c_Md_clear l D ca ad M1 md hmm hmb) ⟨zg_B C 0 k_658 k_31 k_661 q_Md_clear ⟨by decide, by decide⟩, C.2.2.2.2.1 _ k_659, C.2.2.2.2.1 _ k_660⟩ 38 zr_38 rfl rfl (fun _ _ _ _ h => h) (fun _ _ _ _ _ _ _ => trivial) rfl rfl (Nat.le_of_ble_eq_true rfl) d_Lw_law_315 ⟨by show _ ≤ 605353; omega, by show _ ≤ 7280045; omega⟩ (pc' := 318) rfl (fun M2 hp2 => ?_)
  obtain ⟨hf, hE2⟩ := op_clear (b0 := 0) hR htm hp1 hp2
  refine xw_aload_n C 3 d_Lw_law_318 rfl rfl (pc' := 319) rfl ?_
  refine xw_callVi C (c_Md_thrown l D ca ad M2) ⟨zg_B C 0 k_638 k_31 k_641 q_Md_thrown ⟨by decide, by decide⟩, C.2.2.2.2.1 _ k_639, C.2.2.2.2.1 _ k_640⟩ 38 zr_38 rfl rfl (fun _ _ _ _ h => h) (fun _ _ _ _ _ _ _ => trivial) rfl rfl (Nat.le_of_ble_eq_true rfl) d_Lw_law_319 ⟨by show _ ≤ 605353; omega, by show _ ≤ 7280045; omega⟩ (pc' := 322) rfl (fun r3 M3 hp3 => ?_)
  obtain ⟨e3, er⟩ := hp3
  rw [e3]
  refine xw_topi (y := r1) (er.trans hf) ?_
  refine xw_iload C 0 d_Lw_law_322 rfl (pc' := 324) rfl ?_
  refine xw_icmp_eq C (tgt := 329) d_Lw_law_324 (by decide) (pc' := 327) rfl (fun h324 => ?_) (fun h324 => ?_)
  ·
    refine xw_goto C (tgt := 878) d_Lw_law_329 (by decide) ?_
    refine xw_lv [1, 2, 3, 4, 5] rfl ?_
    refine xw_widen (k := 57 + 4 * (N + 1)) (n := 1281 + 24 * (N + 1)) (by omega) (by omega) ?_
    exact kk _ hE2
  ·
    exact absurd rfl h324

set_option maxHeartbeats 4000000 in
set_option maxRecDepth 100000 in
theorem lw_c_synthesize {p : Program} {l : Launch} {e : Env} {s : State} {m : MethodId} {below : List Frame} {meth : Method} {c : Code} {Q : State → Prop} {D : va_G} {ca : Nat → ClassId} {ad : Nat → Nat} {sa : Nat → Nat} {b L : Nat} {xs : Nat → Int32} (H : LwC p l s m c D ca sa b L xs) {i N : Nat} {M : Nat → Nat → Int32} (hi : i + 5 ≤ L) (hN : N ≤ 512) (hE : LwE M N)
    (kk : ∀ M', LwE M' (N + 1) → XW p l e room_1 s m #[Value.ref b] below meth c D zCl (fun q => s.heap.size ≤ q) s.heap 7 (zW ca ad M') (57 + 4 * (N + 1)) (1281 + 24 * (N + 1)) Q 878 [(0, .ref b), (1, .ref (ad 0)), (2, .ref (ad 38)), (3, .ref (ad 56)), (4, .int (nI i))] []) : XW p l e room_1 s m #[Value.ref b] below meth c D zCl (fun q => s.heap.size ≤ q) s.heap 7 (zW ca ad M) (57 + 4 * N) (1281 + 24 * N) Q 345 [(0, .ref b), (1, .ref (ad 0)), (2, .ref (ad 38)), (3, .ref (ad 56)), (4, .int (nI i))] [] := by
  obtain ⟨C, hKL, hX, hbl, hl0, hL⟩ := H
  obtain ⟨n, per, wk, dl, of, k, st, ln, tk, md, tm, hR, htm⟩ := hE
  have hbA : ¬ s.heap.size ≤ b := by omega
  obtain ⟨hmd, -, hmb⟩ := hR.2.2.2.2.2.2.2.1
  have hn6 := hR.1.1
  have hz := hR.1.2.1
  have hk60 := hR.2.2.1.2.1
  have hz3 := hR.2.2.1.1
  refine xw_aload_n C 1 d_Lw_law_345 rfl rfl (pc' := 346) rfl ?_
  refine xw_aload_n C 3 d_Lw_law_346 rfl rfl (pc' := 347) rfl ?_
  refine xw_callSWi C (c_Lw_synthesize l hl0 D ca ad M sa md n per wk dl of hmd hmb hR.1) (zg_SW C 2 k_380 k_381 k_23 k_382 q_Lw_synthesize ⟨by decide, by decide⟩) (fun _ _ _ _ h => h.call) (fun _ _ _ hD hS hU hW => hKL.at C.2.2.2.2.2.2 hD hS hU hW) rfl rfl (Nat.le_of_ble_eq_true rfl) d_Lw_law_347 ⟨by show _ ≤ 605353; omega, by show _ ≤ 7280045; omega⟩ (pc' := 350) rfl (fun r1 M1 hp1 => ?_)
  have hRm := fr_synthesize hR hp1
  obtain ⟨-, hmm, -⟩ := hRm.2.2.2.2.2.2.2.1
  have hzm := hRm.2.1.2.1
  have hz3m := hRm.2.2.2.1.1
  refine xw_istore C d_Lw_law_350 (by decide) rfl (pc' := 352) rfl ?_
  refine xw_aload_n C 3 d_Lw_law_352 rfl rfl (pc' := 353) rfl ?_
  refine xw_callVi C (c_Md_synthesize l D ca ad M1 md n per wk dl of hmm hmb hRm.2.1) ⟨zg_B C 0 k_670 k_31 k_673 q_Md_synthesize ⟨by decide, by decide⟩, C.2.2.2.2.1 _ k_671, C.2.2.2.2.1 _ k_672⟩ 38 zr_38 rfl rfl (fun _ _ _ _ h => h) (fun _ _ _ _ _ _ _ => trivial) rfl rfl (Nat.le_of_ble_eq_true rfl) d_Lw_law_353 ⟨by show _ ≤ 605353; omega, by show _ ≤ 7280045; omega⟩ (pc' := 356) rfl (fun b0 M2 hp2 => ?_)
  obtain ⟨hf, hv, hE2⟩ := op_synthesize hR htm hp1 hp2
  refine xw_istore C d_Lw_law_356 (by decide) rfl (pc' := 358) rfl ?_
  refine xw_aload_n C 4 d_Lw_law_358 rfl rfl (pc' := 359) rfl ?_
  refine xw_callVi C (c_Md_thrown l D ca ad M2) ⟨zg_B C 0 k_638 k_31 k_641 q_Md_thrown ⟨by decide, by decide⟩, C.2.2.2.2.1 _ k_639, C.2.2.2.2.1 _ k_640⟩ 38 zr_38 rfl rfl (fun _ _ _ _ h => h) (fun _ _ _ _ _ _ _ => trivial) rfl rfl (Nat.le_of_ble_eq_true rfl) d_Lw_law_359 ⟨by show _ ≤ 605353; omega, by show _ ≤ 7280045; omega⟩ (pc' := 362) rfl (fun r3 M3 hp3 => ?_)
  obtain ⟨e3, er⟩ := hp3
  rw [e3]
  refine xw_topi (y := r1) (er.trans hf) ?_
  refine xw_iload C 1 d_Lw_law_362 rfl (pc' := 364) rfl ?_
  refine xw_icmp_eq C (tgt := 369) d_Lw_law_364 (by decide) (pc' := 367) rfl (fun h364 => ?_) (fun h364 => ?_)
  ·
    refine xw_iload C 1 d_Lw_law_369 rfl (pc' := 371) rfl ?_
    refine xw_if_ne C (tgt := 386) d_Lw_law_371 (by decide) (pc' := 374) rfl (fun hr0 => ?_) (fun hr0 => ?_)
    ·
      refine xw_goto C (tgt := 878) d_Lw_law_386 (by decide) ?_
      refine xw_lv [2, 3, 4, 5, 6] rfl ?_
      refine xw_widen (k := 57 + 4 * (N + 1)) (n := 1281 + 24 * (N + 1)) (by omega) (by omega) ?_
      exact kk _ hE2
    ·
      refine xw_aload_n C 5 d_Lw_law_374 rfl rfl (pc' := 375) rfl ?_
      refine xw_iconst C (v := nI 0) d_Lw_law_375 (by decide) (pc' := 376) rfl ?_
      refine xw_lald C 56 3 zr_56 rfl 0 rfl (by omega) (by decide) d_Lw_law_376 (pc' := 377) rfl ?_
      refine xw_iload C 0 d_Lw_law_377 rfl (pc' := 379) rfl ?_
      refine xw_i2l C d_Lw_law_379 rfl (pc' := 380) rfl ?_
      refine xw_lcmpE C (by rw [hv hr0]) d_Lw_law_380 (pc' := 381) rfl ?_
      refine xw_if_eq C (tgt := 386) d_Lw_law_381 (by decide) (pc' := 384) rfl (fun h381 => ?_) (fun h381 => ?_)
      ·
        replace h381 : 0 = 0 := (xp_eq0 (by omega)).mp h381
        refine xw_goto C (tgt := 878) d_Lw_law_386 (by decide) ?_
        refine xw_lv [2, 3, 4, 5, 6] rfl ?_
        refine xw_widen (k := 57 + 4 * (N + 1)) (n := 1281 + 24 * (N + 1)) (by omega) (by omega) ?_
        exact kk _ hE2
      ·
        replace h381 : ¬ (0 = 0) := fun hneg => h381 ((xp_eq0 (by omega)).mpr hneg)
        omega
  ·
    exact absurd rfl h364

set_option maxHeartbeats 4000000 in
set_option maxRecDepth 100000 in
theorem lw_c_slot {p : Program} {l : Launch} {e : Env} {s : State} {m : MethodId} {below : List Frame} {meth : Method} {c : Code} {Q : State → Prop} {D : va_G} {ca : Nat → ClassId} {ad : Nat → Nat} {sa : Nat → Nat} {b L : Nat} {xs : Nat → Int32} (H : LwC p l s m c D ca sa b L xs) {i N : Nat} {M : Nat → Nat → Int32} (hi : i + 5 ≤ L) (hN : N ≤ 512) (hE : LwE M N)
    (kk : ∀ M', LwE M' (N + 1) → XW p l e room_1 s m #[Value.ref b] below meth c D zCl (fun q => s.heap.size ≤ q) s.heap 7 (zW ca ad M') (57 + 4 * (N + 1)) (1281 + 24 * (N + 1)) Q 878 [(0, .ref b), (1, .ref (ad 0)), (2, .ref (ad 38)), (3, .ref (ad 56)), (4, .int (nI i))] []) : XW p l e room_1 s m #[Value.ref b] below meth c D zCl (fun q => s.heap.size ≤ q) s.heap 7 (zW ca ad M) (57 + 4 * N) (1281 + 24 * N) Q 389 [(0, .ref b), (1, .ref (ad 0)), (2, .ref (ad 38)), (3, .ref (ad 56)), (4, .int (nI i))] [] := by
  obtain ⟨C, hKL, hX, hbl, hl0, hL⟩ := H
  obtain ⟨n, per, wk, dl, of, k, st, ln, tk, md, tm, hR, htm⟩ := hE
  have hbA : ¬ s.heap.size ≤ b := by omega
  obtain ⟨hmd, -, hmb⟩ := hR.2.2.2.2.2.2.2.1
  have hn6 := hR.1.1
  have hz := hR.1.2.1
  have hk60 := hR.2.2.1.2.1
  have hz3 := hR.2.2.1.1
  refine xw_aload_n C 1 d_Lw_law_389 rfl rfl (pc' := 390) rfl ?_
  refine xw_aload_n C 0 d_Lw_law_390 rfl rfl (pc' := 391) rfl ?_
  refine xw_iload C 4 d_Lw_law_391 rfl (pc' := 393) rfl ?_
  refine xw_iconst C (v := nI 1) d_Lw_law_393 (by decide) (pc' := 394) rfl ?_
  refine xw_iadd C d_Lw_law_394 (pc' := 395) rfl ?_
  refine xw_topi (y := nI (i + 1)) (nI_add _ _) ?_
  refine xw_sld C hX hbl hbA (i + 1) rfl (by omega) (by omega) d_Lw_law_395 (pc' := 396) rfl ?_
  refine xw_aload_n C 0 d_Lw_law_396 rfl rfl (pc' := 397) rfl ?_
  refine xw_iload C 4 d_Lw_law_397 rfl (pc' := 399) rfl ?_
  refine xw_iconst C (v := nI 2) d_Lw_law_399 (by decide) (pc' := 400) rfl ?_
  refine xw_iadd C d_Lw_law_400 (pc' := 401) rfl ?_
  refine xw_topi (y := nI (i + 2)) (nI_add _ _) ?_
  refine xw_sld C hX hbl hbA (i + 2) rfl (by omega) (by omega) d_Lw_law_401 (pc' := 402) rfl ?_
  refine xw_aload_n C 0 d_Lw_law_402 rfl rfl (pc' := 403) rfl ?_
  refine xw_iload C 4 d_Lw_law_403 rfl (pc' := 405) rfl ?_
  refine xw_iconst C (v := nI 3) d_Lw_law_405 (by decide) (pc' := 406) rfl ?_
  refine xw_iadd C d_Lw_law_406 (pc' := 407) rfl ?_
  refine xw_topi (y := nI (i + 3)) (nI_add _ _) ?_
  refine xw_sld C hX hbl hbA (i + 3) rfl (by omega) (by omega) d_Lw_law_407 (pc' := 408) rfl ?_
  refine xw_aload_n C 0 d_Lw_law_408 rfl rfl (pc' := 409) rfl ?_
  refine xw_iload C 4 d_Lw_law_409 rfl (pc' := 411) rfl ?_
  refine xw_iconst C (v := nI 4) d_Lw_law_411 (by decide) (pc' := 412) rfl ?_
  refine xw_iadd C d_Lw_law_412 (pc' := 413) rfl ?_
  refine xw_topi (y := nI (i + 4)) (nI_add _ _) ?_
  refine xw_sld C hX hbl hbA (i + 4) rfl (by omega) (by omega) d_Lw_law_413 (pc' := 414) rfl ?_
  refine xw_callSWi C (c_Lw_slot l hl0 D ca ad M sa md n k (xs (i + 1)) (xs (i + 2)) (xs (i + 3)) (xs (i + 4)) hmd hmb hn6 hz hk60 hz3) (zg_SW C 5 k_427 k_428 k_23 k_429 q_Lw_slot ⟨by decide, by decide⟩) (fun _ _ _ _ h => h.call) (fun _ _ _ hD hS hU hW => hKL.at C.2.2.2.2.2.2 hD hS hU hW) rfl rfl (Nat.le_of_ble_eq_true rfl) d_Lw_law_414 ⟨by show _ ≤ 605353; omega, by show _ ≤ 7280045; omega⟩ (pc' := 417) rfl (fun r1 M1 hp1 => ?_)
  have hRm := fr_slot hR hp1
  obtain ⟨-, hmm, -⟩ := hRm.2.2.2.2.2.2.2.1
  have hzm := hRm.2.1.2.1
  have hz3m := hRm.2.2.2.1.1
  refine xw_istore C d_Lw_law_417 (by decide) rfl (pc' := 419) rfl ?_
  refine xw_aload_n C 3 d_Lw_law_419 rfl rfl (pc' := 420) rfl ?_
  refine xw_aload_n C 1 d_Lw_law_420 rfl rfl (pc' := 421) rfl ?_
  refine xw_iload C 5 d_Lw_law_421 rfl (pc' := 423) rfl ?_
  refine xw_iconst C (v := nI 1) d_Lw_law_423 (by decide) (pc' := 424) rfl ?_
  refine xw_iadd C d_Lw_law_424 (pc' := 425) rfl ?_
  refine xw_topi (y := nI (i + 1)) (nI_add _ _) ?_
  refine xw_sld C hX hbl hbA (i + 1) rfl (by omega) (by omega) d_Lw_law_425 (pc' := 426) rfl ?_
  refine xw_aload_n C 1 d_Lw_law_426 rfl rfl (pc' := 427) rfl ?_
  refine xw_iload C 5 d_Lw_law_427 rfl (pc' := 429) rfl ?_
  refine xw_iconst C (v := nI 2) d_Lw_law_429 (by decide) (pc' := 430) rfl ?_
  refine xw_iadd C d_Lw_law_430 (pc' := 431) rfl ?_
  refine xw_topi (y := nI (i + 2)) (nI_add _ _) ?_
  refine xw_sld C hX hbl hbA (i + 2) rfl (by omega) (by omega) d_Lw_law_431 (pc' := 432) rfl ?_
  refine xw_aload_n C 1 d_Lw_law_432 rfl rfl (pc' := 433) rfl ?_
  refine xw_iload C 5 d_Lw_law_433 rfl (pc' := 435) rfl ?_
  refine xw_iconst C (v := nI 3) d_Lw_law_435 (by decide) (pc' := 436) rfl ?_
  refine xw_iadd C d_Lw_law_436 (pc' := 437) rfl ?_
  refine xw_topi (y := nI (i + 3)) (nI_add _ _) ?_
  refine xw_sld C hX hbl hbA (i + 3) rfl (by omega) (by omega) d_Lw_law_437 (pc' := 438) rfl ?_
  refine xw_aload_n C 1 d_Lw_law_438 rfl rfl (pc' := 439) rfl ?_
  refine xw_iload C 5 d_Lw_law_439 rfl (pc' := 441) rfl ?_
  refine xw_iconst C (v := nI 4) d_Lw_law_441 (by decide) (pc' := 442) rfl ?_
  refine xw_iadd C d_Lw_law_442 (pc' := 443) rfl ?_
  refine xw_topi (y := nI (i + 4)) (nI_add _ _) ?_
  refine xw_sld C hX hbl hbA (i + 4) rfl (by omega) (by omega) d_Lw_law_443 (pc' := 444) rfl ?_
  refine xw_callVv C (c_Md_slot l D ca ad M1 md n k (xs (i + 1)) (xs (i + 2)) (xs (i + 3)) (xs (i + 4)) hmm hmb hn6 hzm hk60 hz3m) ⟨zg_B C 4 k_690 k_31 k_693 q_Md_slot ⟨by decide, by decide⟩, C.2.2.2.2.1 _ k_691, C.2.2.2.2.1 _ k_692⟩ 38 zr_38 rfl rfl (fun _ _ _ _ h => h) (fun _ _ _ _ _ _ _ => trivial) rfl rfl (Nat.le_of_ble_eq_true rfl) d_Lw_law_444 ⟨by show _ ≤ 605353; omega, by show _ ≤ 7280045; omega⟩ (pc' := 447) rfl (fun M2 hp2 => ?_)
  obtain ⟨hf, hE2⟩ := op_slot (b0 := 0) hR htm hp1 hp2
  refine xw_aload_n C 3 d_Lw_law_447 rfl rfl (pc' := 448) rfl ?_
  refine xw_callVi C (c_Md_thrown l D ca ad M2) ⟨zg_B C 0 k_638 k_31 k_641 q_Md_thrown ⟨by decide, by decide⟩, C.2.2.2.2.1 _ k_639, C.2.2.2.2.1 _ k_640⟩ 38 zr_38 rfl rfl (fun _ _ _ _ h => h) (fun _ _ _ _ _ _ _ => trivial) rfl rfl (Nat.le_of_ble_eq_true rfl) d_Lw_law_448 ⟨by show _ ≤ 605353; omega, by show _ ≤ 7280045; omega⟩ (pc' := 451) rfl (fun r3 M3 hp3 => ?_)
  obtain ⟨e3, er⟩ := hp3
  rw [e3]
  refine xw_topi (y := r1) (er.trans hf) ?_
  refine xw_iload C 0 d_Lw_law_451 rfl (pc' := 453) rfl ?_
  refine xw_icmp_eq C (tgt := 458) d_Lw_law_453 (by decide) (pc' := 456) rfl (fun h453 => ?_) (fun h453 => ?_)
  ·
    refine xw_goto C (tgt := 878) d_Lw_law_458 (by decide) ?_
    refine xw_lv [1, 2, 3, 4, 5] rfl ?_
    refine xw_widen (k := 57 + 4 * (N + 1)) (n := 1281 + 24 * (N + 1)) (by omega) (by omega) ?_
    exact kk _ hE2
  ·
    exact absurd rfl h453

set_option maxHeartbeats 4000000 in
set_option maxRecDepth 100000 in
theorem lw_c_drop {p : Program} {l : Launch} {e : Env} {s : State} {m : MethodId} {below : List Frame} {meth : Method} {c : Code} {Q : State → Prop} {D : va_G} {ca : Nat → ClassId} {ad : Nat → Nat} {sa : Nat → Nat} {b L : Nat} {xs : Nat → Int32} (H : LwC p l s m c D ca sa b L xs) {i N : Nat} {M : Nat → Nat → Int32} (hi : i + 5 ≤ L) (hN : N ≤ 512) (hE : LwE M N)
    (kk : ∀ M', LwE M' (N + 1) → XW p l e room_1 s m #[Value.ref b] below meth c D zCl (fun q => s.heap.size ≤ q) s.heap 7 (zW ca ad M') (57 + 4 * (N + 1)) (1281 + 24 * (N + 1)) Q 878 [(0, .ref b), (1, .ref (ad 0)), (2, .ref (ad 38)), (3, .ref (ad 56)), (4, .int (nI i))] []) : XW p l e room_1 s m #[Value.ref b] below meth c D zCl (fun q => s.heap.size ≤ q) s.heap 7 (zW ca ad M) (57 + 4 * N) (1281 + 24 * N) Q 461 [(0, .ref b), (1, .ref (ad 0)), (2, .ref (ad 38)), (3, .ref (ad 56)), (4, .int (nI i))] [] := by
  obtain ⟨C, hKL, hX, hbl, hl0, hL⟩ := H
  obtain ⟨n, per, wk, dl, of, k, st, ln, tk, md, tm, hR, htm⟩ := hE
  have hbA : ¬ s.heap.size ≤ b := by omega
  obtain ⟨hmd, -, hmb⟩ := hR.2.2.2.2.2.2.2.1
  have hn6 := hR.1.1
  have hz := hR.1.2.1
  have hk60 := hR.2.2.1.2.1
  have hz3 := hR.2.2.1.1
  refine xw_aload_n C 1 d_Lw_law_461 rfl rfl (pc' := 462) rfl ?_
  refine xw_callSWi C (c_Lw_drop l hl0 D ca ad M sa md k hmd hmb hk60 hz3) (zg_SW C 1 k_439 k_440 k_23 k_441 q_Lw_drop ⟨by decide, by decide⟩) (fun _ _ _ _ h => h.call) (fun _ _ _ hD hS hU hW => hKL.at C.2.2.2.2.2.2 hD hS hU hW) rfl rfl (Nat.le_of_ble_eq_true rfl) d_Lw_law_462 ⟨by show _ ≤ 605353; omega, by show _ ≤ 7280045; omega⟩ (pc' := 465) rfl (fun r1 M1 hp1 => ?_)
  have hRm := fr_drop hR hp1
  obtain ⟨-, hmm, -⟩ := hRm.2.2.2.2.2.2.2.1
  have hzm := hRm.2.1.2.1
  have hz3m := hRm.2.2.2.1.1
  refine xw_istore C d_Lw_law_465 (by decide) rfl (pc' := 467) rfl ?_
  refine xw_aload_n C 3 d_Lw_law_467 rfl rfl (pc' := 468) rfl ?_
  refine xw_callVv C (c_Md_drop l D ca ad M1 md k hmm hmb hk60 hz3m) ⟨zg_B C 0 k_694 k_31 k_697 q_Md_drop ⟨by decide, by decide⟩, C.2.2.2.2.1 _ k_695, C.2.2.2.2.1 _ k_696⟩ 38 zr_38 rfl rfl (fun _ _ _ _ h => h) (fun _ _ _ _ _ _ _ => trivial) rfl rfl (Nat.le_of_ble_eq_true rfl) d_Lw_law_468 ⟨by show _ ≤ 605353; omega, by show _ ≤ 7280045; omega⟩ (pc' := 471) rfl (fun M2 hp2 => ?_)
  obtain ⟨hf, hE2⟩ := op_drop (b0 := 0) hR htm hp1 hp2
  refine xw_aload_n C 3 d_Lw_law_471 rfl rfl (pc' := 472) rfl ?_
  refine xw_callVi C (c_Md_thrown l D ca ad M2) ⟨zg_B C 0 k_638 k_31 k_641 q_Md_thrown ⟨by decide, by decide⟩, C.2.2.2.2.1 _ k_639, C.2.2.2.2.1 _ k_640⟩ 38 zr_38 rfl rfl (fun _ _ _ _ h => h) (fun _ _ _ _ _ _ _ => trivial) rfl rfl (Nat.le_of_ble_eq_true rfl) d_Lw_law_472 ⟨by show _ ≤ 605353; omega, by show _ ≤ 7280045; omega⟩ (pc' := 475) rfl (fun r3 M3 hp3 => ?_)
  obtain ⟨e3, er⟩ := hp3
  rw [e3]
  refine xw_topi (y := r1) (er.trans hf) ?_
  refine xw_iload C 0 d_Lw_law_475 rfl (pc' := 477) rfl ?_
  refine xw_icmp_eq C (tgt := 482) d_Lw_law_477 (by decide) (pc' := 480) rfl (fun h477 => ?_) (fun h477 => ?_)
  ·
    refine xw_goto C (tgt := 878) d_Lw_law_482 (by decide) ?_
    refine xw_lv [1, 2, 3, 4, 5] rfl ?_
    refine xw_widen (k := 57 + 4 * (N + 1)) (n := 1281 + 24 * (N + 1)) (by omega) (by omega) ?_
    exact kk _ hE2
  ·
    exact absurd rfl h477

set_option maxHeartbeats 4000000 in
set_option maxRecDepth 100000 in
theorem lw_c_slotOf {p : Program} {l : Launch} {e : Env} {s : State} {m : MethodId} {below : List Frame} {meth : Method} {c : Code} {Q : State → Prop} {D : va_G} {ca : Nat → ClassId} {ad : Nat → Nat} {sa : Nat → Nat} {b L : Nat} {xs : Nat → Int32} (H : LwC p l s m c D ca sa b L xs) {i N : Nat} {M : Nat → Nat → Int32} (hi : i + 5 ≤ L) (hN : N ≤ 512) (hE : LwE M N)
    (kk : ∀ M', LwE M' (N + 1) → XW p l e room_1 s m #[Value.ref b] below meth c D zCl (fun q => s.heap.size ≤ q) s.heap 7 (zW ca ad M') (57 + 4 * (N + 1)) (1281 + 24 * (N + 1)) Q 878 [(0, .ref b), (1, .ref (ad 0)), (2, .ref (ad 38)), (3, .ref (ad 56)), (4, .int (nI i))] []) : XW p l e room_1 s m #[Value.ref b] below meth c D zCl (fun q => s.heap.size ≤ q) s.heap 7 (zW ca ad M) (57 + 4 * N) (1281 + 24 * N) Q 498 [(0, .ref b), (1, .ref (ad 0)), (2, .ref (ad 38)), (3, .ref (ad 56)), (4, .int (nI i))] [] := by
  obtain ⟨C, hKL, hX, hbl, hl0, hL⟩ := H
  obtain ⟨n, per, wk, dl, of, k, st, ln, tk, md, tm, hR, htm⟩ := hE
  have hbA : ¬ s.heap.size ≤ b := by omega
  obtain ⟨hmd, -, hmb⟩ := hR.2.2.2.2.2.2.2.1
  have hn6 := hR.1.1
  have hz := hR.1.2.1
  have hk60 := hR.2.2.1.2.1
  have hz3 := hR.2.2.1.1
  refine xw_aload_n C 1 d_Lw_law_498 rfl rfl (pc' := 499) rfl ?_
  refine xw_aload_n C 0 d_Lw_law_499 rfl rfl (pc' := 500) rfl ?_
  refine xw_iload C 4 d_Lw_law_500 rfl (pc' := 502) rfl ?_
  refine xw_iconst C (v := nI 1) d_Lw_law_502 (by decide) (pc' := 503) rfl ?_
  refine xw_iadd C d_Lw_law_503 (pc' := 504) rfl ?_
  refine xw_topi (y := nI (i + 1)) (nI_add _ _) ?_
  refine xw_sld C hX hbl hbA (i + 1) rfl (by omega) (by omega) d_Lw_law_504 (pc' := 505) rfl ?_
  refine xw_aload_n C 0 d_Lw_law_505 rfl rfl (pc' := 506) rfl ?_
  refine xw_iload C 4 d_Lw_law_506 rfl (pc' := 508) rfl ?_
  refine xw_iconst C (v := nI 2) d_Lw_law_508 (by decide) (pc' := 509) rfl ?_
  refine xw_iadd C d_Lw_law_509 (pc' := 510) rfl ?_
  refine xw_topi (y := nI (i + 2)) (nI_add _ _) ?_
  refine xw_sld C hX hbl hbA (i + 2) rfl (by omega) (by omega) d_Lw_law_510 (pc' := 511) rfl ?_
  refine xw_aload_n C 3 d_Lw_law_511 rfl rfl (pc' := 512) rfl ?_
  refine xw_callSWi C (c_Lw_slotOf l hl0 D ca ad M sa k (xs (i + 1)) (xs (i + 2)) hk60 hz3) (zg_SW C 4 k_447 k_448 k_23 k_449 q_Lw_slotOf ⟨by decide, by decide⟩) (fun _ _ _ _ h => h.call) (fun _ _ _ hD hS hU hW => hKL.at C.2.2.2.2.2.2 hD hS hU hW) rfl rfl (Nat.le_of_ble_eq_true rfl) d_Lw_law_512 ⟨by show _ ≤ 605353; omega, by show _ ≤ 7280045; omega⟩ (pc' := 515) rfl (fun r1 M1 hp1 => ?_)
  have hRm := fr_slotOf hR hp1
  obtain ⟨-, hmm, -⟩ := hRm.2.2.2.2.2.2.2.1
  have hzm := hRm.2.1.2.1
  have hz3m := hRm.2.2.2.1.1
  refine xw_istore C d_Lw_law_515 (by decide) rfl (pc' := 517) rfl ?_
  refine xw_aload_n C 3 d_Lw_law_517 rfl rfl (pc' := 518) rfl ?_
  refine xw_aload_n C 1 d_Lw_law_518 rfl rfl (pc' := 519) rfl ?_
  refine xw_iload C 5 d_Lw_law_519 rfl (pc' := 521) rfl ?_
  refine xw_iconst C (v := nI 1) d_Lw_law_521 (by decide) (pc' := 522) rfl ?_
  refine xw_iadd C d_Lw_law_522 (pc' := 523) rfl ?_
  refine xw_topi (y := nI (i + 1)) (nI_add _ _) ?_
  refine xw_sld C hX hbl hbA (i + 1) rfl (by omega) (by omega) d_Lw_law_523 (pc' := 524) rfl ?_
  refine xw_aload_n C 1 d_Lw_law_524 rfl rfl (pc' := 525) rfl ?_
  refine xw_iload C 5 d_Lw_law_525 rfl (pc' := 527) rfl ?_
  refine xw_iconst C (v := nI 2) d_Lw_law_527 (by decide) (pc' := 528) rfl ?_
  refine xw_iadd C d_Lw_law_528 (pc' := 529) rfl ?_
  refine xw_topi (y := nI (i + 2)) (nI_add _ _) ?_
  refine xw_sld C hX hbl hbA (i + 2) rfl (by omega) (by omega) d_Lw_law_529 (pc' := 530) rfl ?_
  refine xw_callVi C (c_Md_slotOf l D ca ad M1 k (xs (i + 1)) (xs (i + 2)) hk60 hz3m) ⟨zg_B C 2 k_702 k_31 k_705 q_Md_slotOf ⟨by decide, by decide⟩, C.2.2.2.2.1 _ k_703, C.2.2.2.2.1 _ k_704⟩ 38 zr_38 rfl rfl (fun _ _ _ _ h => h) (fun _ _ _ _ _ _ _ => trivial) rfl rfl (Nat.le_of_ble_eq_true rfl) d_Lw_law_530 ⟨by show _ ≤ 605353; omega, by show _ ≤ 7280045; omega⟩ (pc' := 533) rfl (fun b0 M2 hp2 => ?_)
  obtain ⟨hf, hv, hE2⟩ := op_slotOf hR htm hp1 hp2
  refine xw_istore C d_Lw_law_533 (by decide) rfl (pc' := 535) rfl ?_
  refine xw_aload_n C 4 d_Lw_law_535 rfl rfl (pc' := 536) rfl ?_
  refine xw_callVi C (c_Md_thrown l D ca ad M2) ⟨zg_B C 0 k_638 k_31 k_641 q_Md_thrown ⟨by decide, by decide⟩, C.2.2.2.2.1 _ k_639, C.2.2.2.2.1 _ k_640⟩ 38 zr_38 rfl rfl (fun _ _ _ _ h => h) (fun _ _ _ _ _ _ _ => trivial) rfl rfl (Nat.le_of_ble_eq_true rfl) d_Lw_law_536 ⟨by show _ ≤ 605353; omega, by show _ ≤ 7280045; omega⟩ (pc' := 539) rfl (fun r3 M3 hp3 => ?_)
  obtain ⟨e3, er⟩ := hp3
  rw [e3]
  refine xw_topi (y := r1) (er.trans hf) ?_
  refine xw_iload C 1 d_Lw_law_539 rfl (pc' := 541) rfl ?_
  refine xw_icmp_eq C (tgt := 546) d_Lw_law_541 (by decide) (pc' := 544) rfl (fun h541 => ?_) (fun h541 => ?_)
  ·
    refine xw_iload C 1 d_Lw_law_546 rfl (pc' := 548) rfl ?_
    refine xw_if_ne C (tgt := 563) d_Lw_law_548 (by decide) (pc' := 551) rfl (fun hr0 => ?_) (fun hr0 => ?_)
    ·
      refine xw_goto C (tgt := 878) d_Lw_law_563 (by decide) ?_
      refine xw_lv [2, 3, 4, 5, 6] rfl ?_
      refine xw_widen (k := 57 + 4 * (N + 1)) (n := 1281 + 24 * (N + 1)) (by omega) (by omega) ?_
      exact kk _ hE2
    ·
      refine xw_aload_n C 5 d_Lw_law_551 rfl rfl (pc' := 552) rfl ?_
      refine xw_iconst C (v := nI 0) d_Lw_law_552 (by decide) (pc' := 553) rfl ?_
      refine xw_lald C 56 3 zr_56 rfl 0 rfl (by omega) (by decide) d_Lw_law_553 (pc' := 554) rfl ?_
      refine xw_iload C 0 d_Lw_law_554 rfl (pc' := 556) rfl ?_
      refine xw_i2l C d_Lw_law_556 rfl (pc' := 557) rfl ?_
      refine xw_lcmpE C (by rw [hv hr0]) d_Lw_law_557 (pc' := 558) rfl ?_
      refine xw_if_eq C (tgt := 563) d_Lw_law_558 (by decide) (pc' := 561) rfl (fun h558 => ?_) (fun h558 => ?_)
      ·
        replace h558 : 0 = 0 := (xp_eq0 (by omega)).mp h558
        refine xw_goto C (tgt := 878) d_Lw_law_563 (by decide) ?_
        refine xw_lv [2, 3, 4, 5, 6] rfl ?_
        refine xw_widen (k := 57 + 4 * (N + 1)) (n := 1281 + 24 * (N + 1)) (by omega) (by omega) ?_
        exact kk _ hE2
      ·
        replace h558 : ¬ (0 = 0) := fun hneg => h558 ((xp_eq0 (by omega)).mpr hneg)
        omega
  ·
    exact absurd rfl h541

set_option maxHeartbeats 4000000 in
set_option maxRecDepth 100000 in
theorem lw_c_check {p : Program} {l : Launch} {e : Env} {s : State} {m : MethodId} {below : List Frame} {meth : Method} {c : Code} {Q : State → Prop} {D : va_G} {ca : Nat → ClassId} {ad : Nat → Nat} {sa : Nat → Nat} {b L : Nat} {xs : Nat → Int32} (H : LwC p l s m c D ca sa b L xs) {i N : Nat} {M : Nat → Nat → Int32} (hi : i + 5 ≤ L) (hN : N ≤ 512) (hE : LwE M N)
    (kk : ∀ M', LwE M' (N + 1) → XW p l e room_1 s m #[Value.ref b] below meth c D zCl (fun q => s.heap.size ≤ q) s.heap 7 (zW ca ad M') (57 + 4 * (N + 1)) (1281 + 24 * (N + 1)) Q 878 [(0, .ref b), (1, .ref (ad 0)), (2, .ref (ad 38)), (3, .ref (ad 56)), (4, .int (nI i))] []) : XW p l e room_1 s m #[Value.ref b] below meth c D zCl (fun q => s.heap.size ≤ q) s.heap 7 (zW ca ad M) (57 + 4 * N) (1281 + 24 * N) Q 566 [(0, .ref b), (1, .ref (ad 0)), (2, .ref (ad 38)), (3, .ref (ad 56)), (4, .int (nI i))] [] := by
  obtain ⟨C, hKL, hX, hbl, hl0, hL⟩ := H
  obtain ⟨n, per, wk, dl, of, k, st, ln, tk, md, tm, hR, htm⟩ := hE
  have hbA : ¬ s.heap.size ≤ b := by omega
  obtain ⟨hmd, -, hmb⟩ := hR.2.2.2.2.2.2.2.1
  have hn6 := hR.1.1
  have hz := hR.1.2.1
  have hk60 := hR.2.2.1.2.1
  have hz3 := hR.2.2.1.1
  refine xw_aload_n C 1 d_Lw_law_566 rfl rfl (pc' := 567) rfl ?_
  refine xw_aload_n C 3 d_Lw_law_567 rfl rfl (pc' := 568) rfl ?_
  refine xw_callSWi C (c_Lw_check l hl0 D ca ad M sa md n per wk dl of k st ln tk hmd hmb hR.1 hR.2.2.1) (zg_SW C 2 k_458 k_459 k_23 k_460 q_Lw_check ⟨by decide, by decide⟩) (fun _ _ _ _ h => h.call) (fun _ _ _ hD hS hU hW => hKL.at C.2.2.2.2.2.2 hD hS hU hW) rfl rfl (Nat.le_of_ble_eq_true rfl) d_Lw_law_568 ⟨by show _ ≤ 605353; omega, by show _ ≤ 7280045; omega⟩ (pc' := 571) rfl (fun r1 M1 hp1 => ?_)
  have hRm := fr_check hR hp1
  obtain ⟨-, hmm, -⟩ := hRm.2.2.2.2.2.2.2.1
  have hzm := hRm.2.1.2.1
  have hz3m := hRm.2.2.2.1.1
  refine xw_istore C d_Lw_law_571 (by decide) rfl (pc' := 573) rfl ?_
  refine xw_aload_n C 3 d_Lw_law_573 rfl rfl (pc' := 574) rfl ?_
  refine xw_callVi C (c_Md_check l D ca ad M1 md n per wk dl of k st ln tk hmm hmb hRm.2.1 hRm.2.2.2.1) ⟨zg_B C 0 k_706 k_31 k_709 q_Md_check ⟨by decide, by decide⟩, C.2.2.2.2.1 _ k_707, C.2.2.2.2.1 _ k_708⟩ 38 zr_38 rfl rfl (fun _ _ _ _ h => h) (fun _ _ _ _ _ _ _ => trivial) rfl rfl (Nat.le_of_ble_eq_true rfl) d_Lw_law_574 ⟨by show _ ≤ 605353; omega, by show _ ≤ 7280045; omega⟩ (pc' := 577) rfl (fun b0 M2 hp2 => ?_)
  obtain ⟨hf, hv, hE2⟩ := op_check hR htm hp1 hp2
  refine xw_istore C d_Lw_law_577 (by decide) rfl (pc' := 579) rfl ?_
  refine xw_aload_n C 4 d_Lw_law_579 rfl rfl (pc' := 580) rfl ?_
  refine xw_callVi C (c_Md_thrown l D ca ad M2) ⟨zg_B C 0 k_638 k_31 k_641 q_Md_thrown ⟨by decide, by decide⟩, C.2.2.2.2.1 _ k_639, C.2.2.2.2.1 _ k_640⟩ 38 zr_38 rfl rfl (fun _ _ _ _ h => h) (fun _ _ _ _ _ _ _ => trivial) rfl rfl (Nat.le_of_ble_eq_true rfl) d_Lw_law_580 ⟨by show _ ≤ 605353; omega, by show _ ≤ 7280045; omega⟩ (pc' := 583) rfl (fun r3 M3 hp3 => ?_)
  obtain ⟨e3, er⟩ := hp3
  rw [e3]
  refine xw_topi (y := r1) (er.trans hf) ?_
  refine xw_iload C 1 d_Lw_law_583 rfl (pc' := 585) rfl ?_
  refine xw_icmp_eq C (tgt := 590) d_Lw_law_585 (by decide) (pc' := 588) rfl (fun h585 => ?_) (fun h585 => ?_)
  ·
    refine xw_iload C 1 d_Lw_law_590 rfl (pc' := 592) rfl ?_
    refine xw_if_ne C (tgt := 614) d_Lw_law_592 (by decide) (pc' := 595) rfl (fun hr0 => ?_) (fun hr0 => ?_)
    ·
      refine xw_goto C (tgt := 878) d_Lw_law_614 (by decide) ?_
      refine xw_lv [2, 3, 4, 5, 6] rfl ?_
      refine xw_widen (k := 57 + 4 * (N + 1)) (n := 1281 + 24 * (N + 1)) (by omega) (by omega) ?_
      exact kk _ hE2
    ·
      refine xw_aload_n C 5 d_Lw_law_595 rfl rfl (pc' := 596) rfl ?_
      refine xw_iconst C (v := nI 0) d_Lw_law_596 (by decide) (pc' := 597) rfl ?_
      refine xw_lald C 56 3 zr_56 rfl 0 rfl (by omega) (by decide) d_Lw_law_597 (pc' := 598) rfl ?_
      have hb : b0 = nI 1 ∨ b0 = nI 0 := by
        rcases hp2 with ⟨g1, -⟩ | ⟨-, ⟨-, g2, -⟩ | ⟨-, g2, -⟩⟩
        · exfalso
          rcases hp1 with ⟨-, v, Mx, ⟨g2, -⟩, -⟩ | ⟨g2, -⟩
          · omega
          · rw [hr0] at g2; exact absurd g2 (by decide)
        · exact Or.inr g2
        · exact Or.inl g2
      have hv0 := hv hr0
      rcases hb with hb | hb
      ·
        rw [hb] at hv0 ⊢
        refine xw_iload C 0 d_Lw_law_598 rfl (pc' := 600) rfl ?_
        refine xw_if_eq C (tgt := 607) d_Lw_law_600 (by decide) (pc' := 603) rfl (fun h600 => ?_) (fun h600 => ?_)
        ·
          replace h600 : 1 = 0 := (xp_eq0 (by omega)).mp h600
          omega
        ·
          replace h600 : ¬ (1 = 0) := fun hneg => h600 ((xp_eq0 (by omega)).mpr hneg)
          refine xw_lconst C (v := 1) d_Lw_law_603 (by decide) (pc' := 604) rfl ?_
          refine xw_topl (y := (nI 1).toInt64) (by decide) ?_
          refine xw_goto C (tgt := 608) d_Lw_law_604 (by decide) ?_
          refine xw_lcmpE C (by rw [hv0]) d_Lw_law_608 (pc' := 609) rfl ?_
          refine xw_if_eq C (tgt := 614) d_Lw_law_609 (by decide) (pc' := 612) rfl (fun h609 => ?_) (fun h609 => ?_)
          ·
            replace h609 : 0 = 0 := (xp_eq0 (by omega)).mp h609
            refine xw_goto C (tgt := 878) d_Lw_law_614 (by decide) ?_
            refine xw_lv [2, 3, 4, 5, 6] rfl ?_
            refine xw_widen (k := 57 + 4 * (N + 1)) (n := 1281 + 24 * (N + 1)) (by omega) (by omega) ?_
            exact kk _ hE2
          ·
            replace h609 : ¬ (0 = 0) := fun hneg => h609 ((xp_eq0 (by omega)).mpr hneg)
            omega
      ·
        rw [hb] at hv0 ⊢
        refine xw_iload C 0 d_Lw_law_598 rfl (pc' := 600) rfl ?_
        refine xw_if_eq C (tgt := 607) d_Lw_law_600 (by decide) (pc' := 603) rfl (fun h600 => ?_) (fun h600 => ?_)
        ·
          replace h600 : 0 = 0 := (xp_eq0 (by omega)).mp h600
          refine xw_lconst C (v := 0) d_Lw_law_607 (by decide) (pc' := 608) rfl ?_
          refine xw_topl (y := (nI 0).toInt64) (by decide) ?_
          refine xw_lcmpE C (by rw [hv0]) d_Lw_law_608 (pc' := 609) rfl ?_
          refine xw_if_eq C (tgt := 614) d_Lw_law_609 (by decide) (pc' := 612) rfl (fun h609 => ?_) (fun h609 => ?_)
          ·
            replace h609 : 0 = 0 := (xp_eq0 (by omega)).mp h609
            refine xw_goto C (tgt := 878) d_Lw_law_614 (by decide) ?_
            refine xw_lv [2, 3, 4, 5, 6] rfl ?_
            refine xw_widen (k := 57 + 4 * (N + 1)) (n := 1281 + 24 * (N + 1)) (by omega) (by omega) ?_
            exact kk _ hE2
          ·
            replace h609 : ¬ (0 = 0) := fun hneg => h609 ((xp_eq0 (by omega)).mpr hneg)
            omega
        ·
          replace h600 : ¬ (0 = 0) := fun hneg => h600 ((xp_eq0 (by omega)).mpr hneg)
          omega
  ·
    exact absurd rfl h585

set_option maxHeartbeats 4000000 in
set_option maxRecDepth 100000 in
theorem lw_c_stop {p : Program} {l : Launch} {e : Env} {s : State} {m : MethodId} {below : List Frame} {meth : Method} {c : Code} {Q : State → Prop} {D : va_G} {ca : Nat → ClassId} {ad : Nat → Nat} {sa : Nat → Nat} {b L : Nat} {xs : Nat → Int32} (H : LwC p l s m c D ca sa b L xs) {i N : Nat} {M : Nat → Nat → Int32} (hi : i + 5 ≤ L) (hN : N ≤ 512) (hE : LwE M N)
    (kk : ∀ M', LwE M' (N + 1) → XW p l e room_1 s m #[Value.ref b] below meth c D zCl (fun q => s.heap.size ≤ q) s.heap 7 (zW ca ad M') (57 + 4 * (N + 1)) (1281 + 24 * (N + 1)) Q 878 [(0, .ref b), (1, .ref (ad 0)), (2, .ref (ad 38)), (3, .ref (ad 56)), (4, .int (nI i))] []) : XW p l e room_1 s m #[Value.ref b] below meth c D zCl (fun q => s.heap.size ≤ q) s.heap 7 (zW ca ad M) (57 + 4 * N) (1281 + 24 * N) Q 617 [(0, .ref b), (1, .ref (ad 0)), (2, .ref (ad 38)), (3, .ref (ad 56)), (4, .int (nI i))] [] := by
  obtain ⟨C, hKL, hX, hbl, hl0, hL⟩ := H
  obtain ⟨n, per, wk, dl, of, k, st, ln, tk, md, tm, hR, htm⟩ := hE
  have hbA : ¬ s.heap.size ≤ b := by omega
  obtain ⟨hmd, -, hmb⟩ := hR.2.2.2.2.2.2.2.1
  have hn6 := hR.1.1
  have hz := hR.1.2.1
  have hk60 := hR.2.2.1.2.1
  have hz3 := hR.2.2.1.1
  refine xw_aload_n C 1 d_Lw_law_617 rfl rfl (pc' := 618) rfl ?_
  refine xw_callSWi C (c_Lw_stop l hl0 D ca ad M sa md hmd hmb) (zg_SW C 1 k_487 k_488 k_23 k_489 q_Lw_stop ⟨by decide, by decide⟩) (fun _ _ _ _ h => h.call) (fun _ _ _ hD hS hU hW => hKL.at C.2.2.2.2.2.2 hD hS hU hW) rfl rfl (Nat.le_of_ble_eq_true rfl) d_Lw_law_618 ⟨by show _ ≤ 605353; omega, by show _ ≤ 7280045; omega⟩ (pc' := 621) rfl (fun r1 M1 hp1 => ?_)
  have hRm := fr_stop hR hp1
  obtain ⟨-, hmm, -⟩ := hRm.2.2.2.2.2.2.2.1
  have hzm := hRm.2.1.2.1
  have hz3m := hRm.2.2.2.1.1
  refine xw_istore C d_Lw_law_621 (by decide) rfl (pc' := 623) rfl ?_
  refine xw_aload_n C 3 d_Lw_law_623 rfl rfl (pc' := 624) rfl ?_
  refine xw_callVv C (c_Md_stop l D ca ad M1 md hmm hmb) ⟨zg_B C 0 k_726 k_31 k_729 q_Md_stop ⟨by decide, by decide⟩, C.2.2.2.2.1 _ k_727, C.2.2.2.2.1 _ k_728⟩ 38 zr_38 rfl rfl (fun _ _ _ _ h => h) (fun _ _ _ _ _ _ _ => trivial) rfl rfl (Nat.le_of_ble_eq_true rfl) d_Lw_law_624 ⟨by show _ ≤ 605353; omega, by show _ ≤ 7280045; omega⟩ (pc' := 627) rfl (fun M2 hp2 => ?_)
  obtain ⟨hf, hE2⟩ := op_stop (b0 := 0) hR htm hp1 hp2
  refine xw_aload_n C 3 d_Lw_law_627 rfl rfl (pc' := 628) rfl ?_
  refine xw_callVi C (c_Md_thrown l D ca ad M2) ⟨zg_B C 0 k_638 k_31 k_641 q_Md_thrown ⟨by decide, by decide⟩, C.2.2.2.2.1 _ k_639, C.2.2.2.2.1 _ k_640⟩ 38 zr_38 rfl rfl (fun _ _ _ _ h => h) (fun _ _ _ _ _ _ _ => trivial) rfl rfl (Nat.le_of_ble_eq_true rfl) d_Lw_law_628 ⟨by show _ ≤ 605353; omega, by show _ ≤ 7280045; omega⟩ (pc' := 631) rfl (fun r3 M3 hp3 => ?_)
  obtain ⟨e3, er⟩ := hp3
  rw [e3]
  refine xw_topi (y := r1) (er.trans hf) ?_
  refine xw_iload C 0 d_Lw_law_631 rfl (pc' := 633) rfl ?_
  refine xw_icmp_eq C (tgt := 638) d_Lw_law_633 (by decide) (pc' := 636) rfl (fun h633 => ?_) (fun h633 => ?_)
  ·
    refine xw_goto C (tgt := 878) d_Lw_law_638 (by decide) ?_
    refine xw_lv [1, 2, 3, 4, 5] rfl ?_
    refine xw_widen (k := 57 + 4 * (N + 1)) (n := 1281 + 24 * (N + 1)) (by omega) (by omega) ?_
    exact kk _ hE2
  ·
    exact absurd rfl h633

set_option maxHeartbeats 4000000 in
set_option maxRecDepth 100000 in
theorem lw_c_tick {p : Program} {l : Launch} {e : Env} {s : State} {m : MethodId} {below : List Frame} {meth : Method} {c : Code} {Q : State → Prop} {D : va_G} {ca : Nat → ClassId} {ad : Nat → Nat} {sa : Nat → Nat} {b L : Nat} {xs : Nat → Int32} (H : LwC p l s m c D ca sa b L xs) {i N : Nat} {M : Nat → Nat → Int32} (hi : i + 5 ≤ L) (hN : N ≤ 512) (hE : LwE M N)
    (kk : ∀ M', LwE M' (N + 1) → XW p l e room_1 s m #[Value.ref b] below meth c D zCl (fun q => s.heap.size ≤ q) s.heap 7 (zW ca ad M') (57 + 4 * (N + 1)) (1281 + 24 * (N + 1)) Q 878 [(0, .ref b), (1, .ref (ad 0)), (2, .ref (ad 38)), (3, .ref (ad 56)), (4, .int (nI i))] []) : XW p l e room_1 s m #[Value.ref b] below meth c D zCl (fun q => s.heap.size ≤ q) s.heap 7 (zW ca ad M) (57 + 4 * N) (1281 + 24 * N) Q 641 [(0, .ref b), (1, .ref (ad 0)), (2, .ref (ad 38)), (3, .ref (ad 56)), (4, .int (nI i))] [] := by
  obtain ⟨C, hKL, hX, hbl, hl0, hL⟩ := H
  obtain ⟨n, per, wk, dl, of, k, st, ln, tk, md, tm, hR, htm⟩ := hE
  have hbA : ¬ s.heap.size ≤ b := by omega
  obtain ⟨hmd, -, hmb⟩ := hR.2.2.2.2.2.2.2.1
  have hn6 := hR.1.1
  have hz := hR.1.2.1
  have hk60 := hR.2.2.1.2.1
  have hz3 := hR.2.2.1.1
  refine xw_aload_n C 1 d_Lw_law_641 rfl rfl (pc' := 642) rfl ?_
  refine xw_aload_n C 3 d_Lw_law_642 rfl rfl (pc' := 643) rfl ?_
  obtain ⟨hh, hrd⟩ := hR.rnE
  refine xw_callSWi C (c_Lw_tick l hl0 D ca ad M sa md n per wk dl of (fun x => sp_at st ln tk k x) hh tm hmd hmb (fun q => (hrd q).2) (by omega)) (zg_SW C 2 k_499 k_500 k_23 k_501 q_Lw_tick ⟨by decide, by decide⟩) (fun _ _ _ _ h => h.call) (fun _ _ _ hD hS hU hW => hKL.at C.2.2.2.2.2.2 hD hS hU hW) rfl rfl (Nat.le_of_ble_eq_true rfl) d_Lw_law_643 ⟨by show _ ≤ 605353; omega, by show _ ≤ 7280045; omega⟩ (pc' := 646) rfl (fun r1 M1 hp1 => ?_)
  have hRm := fr_tick hR hp1
  obtain ⟨-, hmm, -⟩ := hRm.2.2.2.2.2.2.2.1
  have hzm := hRm.2.1.2.1
  have hz3m := hRm.2.2.2.1.1
  refine xw_istore C d_Lw_law_646 (by decide) rfl (pc' := 648) rfl ?_
  refine xw_aload_n C 3 d_Lw_law_648 rfl rfl (pc' := 649) rfl ?_
  refine xw_callVi C (c_Md_tick l D ca ad M1 md n per wk dl of k st ln tk hh tm hmm hmb (hRm.rm (fun q => (hrd q).1)) (by omega)) ⟨zg_B C 0 k_730 k_31 k_733 q_Md_tick ⟨by decide, by decide⟩, C.2.2.2.2.1 _ k_731, C.2.2.2.2.1 _ k_732⟩ 38 zr_38 rfl rfl (fun _ _ _ _ h => h) (fun _ _ _ _ _ _ _ => trivial) rfl rfl (Nat.le_of_ble_eq_true rfl) d_Lw_law_649 ⟨by show _ ≤ 605353; omega, by show _ ≤ 7280045; omega⟩ (pc' := 652) rfl (fun b0 M2 hp2 => ?_)
  obtain ⟨hf, hv, hE2⟩ := op_tick hR htm (fun q => (hrd q).1) hp1 hp2
  refine xw_istore C d_Lw_law_652 (by decide) rfl (pc' := 654) rfl ?_
  refine xw_aload_n C 4 d_Lw_law_654 rfl rfl (pc' := 655) rfl ?_
  refine xw_callVi C (c_Md_thrown l D ca ad M2) ⟨zg_B C 0 k_638 k_31 k_641 q_Md_thrown ⟨by decide, by decide⟩, C.2.2.2.2.1 _ k_639, C.2.2.2.2.1 _ k_640⟩ 38 zr_38 rfl rfl (fun _ _ _ _ h => h) (fun _ _ _ _ _ _ _ => trivial) rfl rfl (Nat.le_of_ble_eq_true rfl) d_Lw_law_655 ⟨by show _ ≤ 605353; omega, by show _ ≤ 7280045; omega⟩ (pc' := 658) rfl (fun r3 M3 hp3 => ?_)
  obtain ⟨e3, er⟩ := hp3
  rw [e3]
  refine xw_topi (y := r1) (er.trans hf) ?_
  refine xw_iload C 1 d_Lw_law_658 rfl (pc' := 660) rfl ?_
  refine xw_icmp_eq C (tgt := 665) d_Lw_law_660 (by decide) (pc' := 663) rfl (fun h660 => ?_) (fun h660 => ?_)
  ·
    refine xw_iload C 1 d_Lw_law_665 rfl (pc' := 667) rfl ?_
    refine xw_if_ne C (tgt := 682) d_Lw_law_667 (by decide) (pc' := 670) rfl (fun hr0 => ?_) (fun hr0 => ?_)
    ·
      refine xw_goto C (tgt := 878) d_Lw_law_682 (by decide) ?_
      refine xw_lv [2, 3, 4, 5, 6] rfl ?_
      refine xw_widen (k := 57 + 4 * (N + 1)) (n := 1281 + 24 * (N + 1)) (by omega) (by omega) ?_
      exact kk _ hE2
    ·
      refine xw_aload_n C 5 d_Lw_law_670 rfl rfl (pc' := 671) rfl ?_
      refine xw_iconst C (v := nI 0) d_Lw_law_671 (by decide) (pc' := 672) rfl ?_
      refine xw_lald C 56 3 zr_56 rfl 0 rfl (by omega) (by decide) d_Lw_law_672 (pc' := 673) rfl ?_
      refine xw_iload C 0 d_Lw_law_673 rfl (pc' := 675) rfl ?_
      refine xw_i2l C d_Lw_law_675 rfl (pc' := 676) rfl ?_
      refine xw_lcmpE C (by rw [hv hr0]) d_Lw_law_676 (pc' := 677) rfl ?_
      refine xw_if_eq C (tgt := 682) d_Lw_law_677 (by decide) (pc' := 680) rfl (fun h677 => ?_) (fun h677 => ?_)
      ·
        replace h677 : 0 = 0 := (xp_eq0 (by omega)).mp h677
        refine xw_goto C (tgt := 878) d_Lw_law_682 (by decide) ?_
        refine xw_lv [2, 3, 4, 5, 6] rfl ?_
        refine xw_widen (k := 57 + 4 * (N + 1)) (n := 1281 + 24 * (N + 1)) (by omega) (by omega) ?_
        exact kk _ hE2
      ·
        replace h677 : ¬ (0 = 0) := fun hneg => h677 ((xp_eq0 (by omega)).mpr hneg)
        omega
  ·
    exact absurd rfl h660

set_option maxHeartbeats 4000000 in
set_option maxRecDepth 100000 in
theorem lw_c_ticks {p : Program} {l : Launch} {e : Env} {s : State} {m : MethodId} {below : List Frame} {meth : Method} {c : Code} {Q : State → Prop} {D : va_G} {ca : Nat → ClassId} {ad : Nat → Nat} {sa : Nat → Nat} {b L : Nat} {xs : Nat → Int32} (H : LwC p l s m c D ca sa b L xs) {i N : Nat} {M : Nat → Nat → Int32} (hi : i + 5 ≤ L) (hN : N ≤ 512) (hE : LwE M N)
    (kk : ∀ M', LwE M' (N + 1) → XW p l e room_1 s m #[Value.ref b] below meth c D zCl (fun q => s.heap.size ≤ q) s.heap 7 (zW ca ad M') (57 + 4 * (N + 1)) (1281 + 24 * (N + 1)) Q 878 [(0, .ref b), (1, .ref (ad 0)), (2, .ref (ad 38)), (3, .ref (ad 56)), (4, .int (nI i))] []) : XW p l e room_1 s m #[Value.ref b] below meth c D zCl (fun q => s.heap.size ≤ q) s.heap 7 (zW ca ad M) (57 + 4 * N) (1281 + 24 * N) Q 685 [(0, .ref b), (1, .ref (ad 0)), (2, .ref (ad 38)), (3, .ref (ad 56)), (4, .int (nI i))] [] := by
  obtain ⟨C, hKL, hX, hbl, hl0, hL⟩ := H
  obtain ⟨n, per, wk, dl, of, k, st, ln, tk, md, tm, hR, htm⟩ := hE
  have hbA : ¬ s.heap.size ≤ b := by omega
  obtain ⟨hmd, -, hmb⟩ := hR.2.2.2.2.2.2.2.1
  have hn6 := hR.1.1
  have hz := hR.1.2.1
  have hk60 := hR.2.2.1.2.1
  have hz3 := hR.2.2.1.1
  refine xw_aload_n C 1 d_Lw_law_685 rfl rfl (pc' := 686) rfl ?_
  refine xw_aload_n C 0 d_Lw_law_686 rfl rfl (pc' := 687) rfl ?_
  refine xw_iload C 4 d_Lw_law_687 rfl (pc' := 689) rfl ?_
  refine xw_iconst C (v := nI 1) d_Lw_law_689 (by decide) (pc' := 690) rfl ?_
  refine xw_iadd C d_Lw_law_690 (pc' := 691) rfl ?_
  refine xw_topi (y := nI (i + 1)) (nI_add _ _) ?_
  refine xw_sld C hX hbl hbA (i + 1) rfl (by omega) (by omega) d_Lw_law_691 (pc' := 692) rfl ?_
  refine xw_aload_n C 3 d_Lw_law_692 rfl rfl (pc' := 693) rfl ?_
  obtain ⟨hh, hrd⟩ := hR.rnE
  refine xw_callSWi C (c_Lw_ticks l hl0 D ca ad M sa md n per wk dl of (fun x => sp_at st ln tk k x) hh tm (xs (i + 1)) hmd hmb (fun q => (hrd q).2) (by omega)) (zg_SW C 3 k_542 k_543 k_23 k_544 q_Lw_ticks ⟨by decide, by decide⟩) (fun _ _ _ _ h => h.call) (fun _ _ _ hD hS hU hW => hKL.at C.2.2.2.2.2.2 hD hS hU hW) rfl rfl (Nat.le_of_ble_eq_true rfl) d_Lw_law_693 ⟨by show _ ≤ 605353; omega, by show _ ≤ 7280045; omega⟩ (pc' := 696) rfl (fun r1 M1 hp1 => ?_)
  have hRm := fr_ticks hR hp1
  obtain ⟨-, hmm, -⟩ := hRm.2.2.2.2.2.2.2.1
  have hzm := hRm.2.1.2.1
  have hz3m := hRm.2.2.2.1.1
  refine xw_istore C d_Lw_law_696 (by decide) rfl (pc' := 698) rfl ?_
  refine xw_aload_n C 3 d_Lw_law_698 rfl rfl (pc' := 699) rfl ?_
  refine xw_aload_n C 1 d_Lw_law_699 rfl rfl (pc' := 700) rfl ?_
  refine xw_iload C 5 d_Lw_law_700 rfl (pc' := 702) rfl ?_
  refine xw_iconst C (v := nI 1) d_Lw_law_702 (by decide) (pc' := 703) rfl ?_
  refine xw_iadd C d_Lw_law_703 (pc' := 704) rfl ?_
  refine xw_topi (y := nI (i + 1)) (nI_add _ _) ?_
  refine xw_sld C hX hbl hbA (i + 1) rfl (by omega) (by omega) d_Lw_law_704 (pc' := 705) rfl ?_
  refine xw_callVi C (c_Md_ticks l D ca ad M1 md n per wk dl of k st ln tk hh tm (xs (i + 1)) hmm hmb (hRm.rm (fun q => (hrd q).1)) (by omega)) ⟨zg_B C 1 k_746 k_31 k_749 q_Md_ticks ⟨by decide, by decide⟩, C.2.2.2.2.1 _ k_747, C.2.2.2.2.1 _ k_748⟩ 38 zr_38 rfl rfl (fun _ _ _ _ h => h) (fun _ _ _ _ _ _ _ => trivial) rfl rfl (Nat.le_of_ble_eq_true rfl) d_Lw_law_705 ⟨by show _ ≤ 605353; omega, by show _ ≤ 7280045; omega⟩ (pc' := 708) rfl (fun b0 M2 hp2 => ?_)
  obtain ⟨hf, hv, hE2⟩ := op_ticks hR htm (fun q => (hrd q).1) hp1 hp2
  refine xw_istore C d_Lw_law_708 (by decide) rfl (pc' := 710) rfl ?_
  refine xw_aload_n C 4 d_Lw_law_710 rfl rfl (pc' := 711) rfl ?_
  refine xw_callVi C (c_Md_thrown l D ca ad M2) ⟨zg_B C 0 k_638 k_31 k_641 q_Md_thrown ⟨by decide, by decide⟩, C.2.2.2.2.1 _ k_639, C.2.2.2.2.1 _ k_640⟩ 38 zr_38 rfl rfl (fun _ _ _ _ h => h) (fun _ _ _ _ _ _ _ => trivial) rfl rfl (Nat.le_of_ble_eq_true rfl) d_Lw_law_711 ⟨by show _ ≤ 605353; omega, by show _ ≤ 7280045; omega⟩ (pc' := 714) rfl (fun r3 M3 hp3 => ?_)
  obtain ⟨e3, er⟩ := hp3
  rw [e3]
  refine xw_topi (y := r1) (er.trans hf) ?_
  refine xw_iload C 1 d_Lw_law_714 rfl (pc' := 716) rfl ?_
  refine xw_icmp_eq C (tgt := 721) d_Lw_law_716 (by decide) (pc' := 719) rfl (fun h716 => ?_) (fun h716 => ?_)
  ·
    refine xw_iload C 1 d_Lw_law_721 rfl (pc' := 723) rfl ?_
    refine xw_if_ne C (tgt := 738) d_Lw_law_723 (by decide) (pc' := 726) rfl (fun hr0 => ?_) (fun hr0 => ?_)
    ·
      refine xw_goto C (tgt := 878) d_Lw_law_738 (by decide) ?_
      refine xw_lv [2, 3, 4, 5, 6] rfl ?_
      refine xw_widen (k := 57 + 4 * (N + 1)) (n := 1281 + 24 * (N + 1)) (by omega) (by omega) ?_
      exact kk _ hE2
    ·
      refine xw_aload_n C 5 d_Lw_law_726 rfl rfl (pc' := 727) rfl ?_
      refine xw_iconst C (v := nI 0) d_Lw_law_727 (by decide) (pc' := 728) rfl ?_
      refine xw_lald C 56 3 zr_56 rfl 0 rfl (by omega) (by decide) d_Lw_law_728 (pc' := 729) rfl ?_
      refine xw_iload C 0 d_Lw_law_729 rfl (pc' := 731) rfl ?_
      refine xw_i2l C d_Lw_law_731 rfl (pc' := 732) rfl ?_
      refine xw_lcmpE C (by rw [hv hr0]) d_Lw_law_732 (pc' := 733) rfl ?_
      refine xw_if_eq C (tgt := 738) d_Lw_law_733 (by decide) (pc' := 736) rfl (fun h733 => ?_) (fun h733 => ?_)
      ·
        replace h733 : 0 = 0 := (xp_eq0 (by omega)).mp h733
        refine xw_goto C (tgt := 878) d_Lw_law_738 (by decide) ?_
        refine xw_lv [2, 3, 4, 5, 6] rfl ?_
        refine xw_widen (k := 57 + 4 * (N + 1)) (n := 1281 + 24 * (N + 1)) (by omega) (by omega) ?_
        exact kk _ hE2
      ·
        replace h733 : ¬ (0 = 0) := fun hneg => h733 ((xp_eq0 (by omega)).mpr hneg)
        omega
  ·
    exact absurd rfl h716

set_option maxHeartbeats 4000000 in
set_option maxRecDepth 100000 in
theorem lw_c_count {p : Program} {l : Launch} {e : Env} {s : State} {m : MethodId} {below : List Frame} {meth : Method} {c : Code} {Q : State → Prop} {D : va_G} {ca : Nat → ClassId} {ad : Nat → Nat} {sa : Nat → Nat} {b L : Nat} {xs : Nat → Int32} (H : LwC p l s m c D ca sa b L xs) {i N : Nat} {M : Nat → Nat → Int32} (hi : i + 5 ≤ L) (hN : N ≤ 512) (hE : LwE M N)
    (kk : ∀ M', LwE M' (N + 1) → XW p l e room_1 s m #[Value.ref b] below meth c D zCl (fun q => s.heap.size ≤ q) s.heap 7 (zW ca ad M') (57 + 4 * (N + 1)) (1281 + 24 * (N + 1)) Q 878 [(0, .ref b), (1, .ref (ad 0)), (2, .ref (ad 38)), (3, .ref (ad 56)), (4, .int (nI i))] []) : XW p l e room_1 s m #[Value.ref b] below meth c D zCl (fun q => s.heap.size ≤ q) s.heap 7 (zW ca ad M) (57 + 4 * N) (1281 + 24 * N) Q 754 [(0, .ref b), (1, .ref (ad 0)), (2, .ref (ad 38)), (3, .ref (ad 56)), (4, .int (nI i))] [] := by
  obtain ⟨C, hKL, hX, hbl, hl0, hL⟩ := H
  obtain ⟨n, per, wk, dl, of, k, st, ln, tk, md, tm, hR, htm⟩ := hE
  have hbA : ¬ s.heap.size ≤ b := by omega
  obtain ⟨hmd, -, hmb⟩ := hR.2.2.2.2.2.2.2.1
  have hn6 := hR.1.1
  have hz := hR.1.2.1
  have hk60 := hR.2.2.1.2.1
  have hz3 := hR.2.2.1.1
  refine xw_aload_n C 1 d_Lw_law_754 rfl rfl (pc' := 755) rfl ?_
  refine xw_aload_n C 0 d_Lw_law_755 rfl rfl (pc' := 756) rfl ?_
  refine xw_iload C 4 d_Lw_law_756 rfl (pc' := 758) rfl ?_
  refine xw_iconst C (v := nI 1) d_Lw_law_758 (by decide) (pc' := 759) rfl ?_
  refine xw_iadd C d_Lw_law_759 (pc' := 760) rfl ?_
  refine xw_topi (y := nI (i + 1)) (nI_add _ _) ?_
  refine xw_sld C hX hbl hbA (i + 1) rfl (by omega) (by omega) d_Lw_law_760 (pc' := 761) rfl ?_
  refine xw_aload_n C 0 d_Lw_law_761 rfl rfl (pc' := 762) rfl ?_
  refine xw_iload C 4 d_Lw_law_762 rfl (pc' := 764) rfl ?_
  refine xw_iconst C (v := nI 2) d_Lw_law_764 (by decide) (pc' := 765) rfl ?_
  refine xw_iadd C d_Lw_law_765 (pc' := 766) rfl ?_
  refine xw_topi (y := nI (i + 2)) (nI_add _ _) ?_
  refine xw_sld C hX hbl hbA (i + 2) rfl (by omega) (by omega) d_Lw_law_766 (pc' := 767) rfl ?_
  refine xw_aload_n C 3 d_Lw_law_767 rfl rfl (pc' := 768) rfl ?_
  refine xw_callSWi C (c_Lw_count l hl0 D ca ad M sa n (xs (i + 1)) (xs (i + 2)) hn6 hz) (zg_SW C 4 k_550 k_551 k_23 k_552 q_Lw_count ⟨by decide, by decide⟩) (fun _ _ _ _ h => h.call) (fun _ _ _ hD hS hU hW => hKL.at C.2.2.2.2.2.2 hD hS hU hW) rfl rfl (Nat.le_of_ble_eq_true rfl) d_Lw_law_768 ⟨by show _ ≤ 605353; omega, by show _ ≤ 7280045; omega⟩ (pc' := 771) rfl (fun r1 M1 hp1 => ?_)
  have hRm := fr_count hR hp1
  obtain ⟨-, hmm, -⟩ := hRm.2.2.2.2.2.2.2.1
  have hzm := hRm.2.1.2.1
  have hz3m := hRm.2.2.2.1.1
  refine xw_istore C d_Lw_law_771 (by decide) rfl (pc' := 773) rfl ?_
  refine xw_aload_n C 3 d_Lw_law_773 rfl rfl (pc' := 774) rfl ?_
  refine xw_aload_n C 1 d_Lw_law_774 rfl rfl (pc' := 775) rfl ?_
  refine xw_iload C 5 d_Lw_law_775 rfl (pc' := 777) rfl ?_
  refine xw_iconst C (v := nI 1) d_Lw_law_777 (by decide) (pc' := 778) rfl ?_
  refine xw_iadd C d_Lw_law_778 (pc' := 779) rfl ?_
  refine xw_topi (y := nI (i + 1)) (nI_add _ _) ?_
  refine xw_sld C hX hbl hbA (i + 1) rfl (by omega) (by omega) d_Lw_law_779 (pc' := 780) rfl ?_
  refine xw_aload_n C 1 d_Lw_law_780 rfl rfl (pc' := 781) rfl ?_
  refine xw_iload C 5 d_Lw_law_781 rfl (pc' := 783) rfl ?_
  refine xw_iconst C (v := nI 2) d_Lw_law_783 (by decide) (pc' := 784) rfl ?_
  refine xw_iadd C d_Lw_law_784 (pc' := 785) rfl ?_
  refine xw_topi (y := nI (i + 2)) (nI_add _ _) ?_
  refine xw_sld C hX hbl hbA (i + 2) rfl (by omega) (by omega) d_Lw_law_785 (pc' := 786) rfl ?_
  refine xw_callVi C (c_Md_count l D ca ad M1 n (xs (i + 1)) (xs (i + 2)) hn6 hzm) ⟨zg_B C 2 k_754 k_31 k_757 q_Md_count ⟨by decide, by decide⟩, C.2.2.2.2.1 _ k_755, C.2.2.2.2.1 _ k_756⟩ 38 zr_38 rfl rfl (fun _ _ _ _ h => h) (fun _ _ _ _ _ _ _ => trivial) rfl rfl (Nat.le_of_ble_eq_true rfl) d_Lw_law_786 ⟨by show _ ≤ 605353; omega, by show _ ≤ 7280045; omega⟩ (pc' := 789) rfl (fun b0 M2 hp2 => ?_)
  obtain ⟨hf, hv, hE2⟩ := op_count hR htm hp1 hp2
  refine xw_istore C d_Lw_law_789 (by decide) rfl (pc' := 791) rfl ?_
  refine xw_aload_n C 4 d_Lw_law_791 rfl rfl (pc' := 792) rfl ?_
  refine xw_callVi C (c_Md_thrown l D ca ad M2) ⟨zg_B C 0 k_638 k_31 k_641 q_Md_thrown ⟨by decide, by decide⟩, C.2.2.2.2.1 _ k_639, C.2.2.2.2.1 _ k_640⟩ 38 zr_38 rfl rfl (fun _ _ _ _ h => h) (fun _ _ _ _ _ _ _ => trivial) rfl rfl (Nat.le_of_ble_eq_true rfl) d_Lw_law_792 ⟨by show _ ≤ 605353; omega, by show _ ≤ 7280045; omega⟩ (pc' := 795) rfl (fun r3 M3 hp3 => ?_)
  obtain ⟨e3, er⟩ := hp3
  rw [e3]
  refine xw_topi (y := r1) (er.trans hf) ?_
  refine xw_iload C 1 d_Lw_law_795 rfl (pc' := 797) rfl ?_
  refine xw_icmp_eq C (tgt := 802) d_Lw_law_797 (by decide) (pc' := 800) rfl (fun h797 => ?_) (fun h797 => ?_)
  ·
    refine xw_iload C 1 d_Lw_law_802 rfl (pc' := 804) rfl ?_
    refine xw_if_ne C (tgt := 819) d_Lw_law_804 (by decide) (pc' := 807) rfl (fun hr0 => ?_) (fun hr0 => ?_)
    ·
      refine xw_goto C (tgt := 878) d_Lw_law_819 (by decide) ?_
      refine xw_lv [2, 3, 4, 5, 6] rfl ?_
      refine xw_widen (k := 57 + 4 * (N + 1)) (n := 1281 + 24 * (N + 1)) (by omega) (by omega) ?_
      exact kk _ hE2
    ·
      refine xw_aload_n C 5 d_Lw_law_807 rfl rfl (pc' := 808) rfl ?_
      refine xw_iconst C (v := nI 0) d_Lw_law_808 (by decide) (pc' := 809) rfl ?_
      refine xw_lald C 56 3 zr_56 rfl 0 rfl (by omega) (by decide) d_Lw_law_809 (pc' := 810) rfl ?_
      refine xw_iload C 0 d_Lw_law_810 rfl (pc' := 812) rfl ?_
      refine xw_i2l C d_Lw_law_812 rfl (pc' := 813) rfl ?_
      refine xw_lcmpE C (by rw [hv hr0]) d_Lw_law_813 (pc' := 814) rfl ?_
      refine xw_if_eq C (tgt := 819) d_Lw_law_814 (by decide) (pc' := 817) rfl (fun h814 => ?_) (fun h814 => ?_)
      ·
        replace h814 : 0 = 0 := (xp_eq0 (by omega)).mp h814
        refine xw_goto C (tgt := 878) d_Lw_law_819 (by decide) ?_
        refine xw_lv [2, 3, 4, 5, 6] rfl ?_
        refine xw_widen (k := 57 + 4 * (N + 1)) (n := 1281 + 24 * (N + 1)) (by omega) (by omega) ?_
        exact kk _ hE2
      ·
        replace h814 : ¬ (0 = 0) := fun hneg => h814 ((xp_eq0 (by omega)).mpr hneg)
        omega
  ·
    exact absurd rfl h797

set_option maxHeartbeats 4000000 in
set_option maxRecDepth 100000 in
theorem lw_c_shared {p : Program} {l : Launch} {e : Env} {s : State} {m : MethodId} {below : List Frame} {meth : Method} {c : Code} {Q : State → Prop} {D : va_G} {ca : Nat → ClassId} {ad : Nat → Nat} {sa : Nat → Nat} {b L : Nat} {xs : Nat → Int32} (H : LwC p l s m c D ca sa b L xs) {i N : Nat} {M : Nat → Nat → Int32} (hi : i + 5 ≤ L) (hN : N ≤ 512) (hE : LwE M N)
    (kk : ∀ M', LwE M' (N + 1) → XW p l e room_1 s m #[Value.ref b] below meth c D zCl (fun q => s.heap.size ≤ q) s.heap 7 (zW ca ad M') (57 + 4 * (N + 1)) (1281 + 24 * (N + 1)) Q 878 [(0, .ref b), (1, .ref (ad 0)), (2, .ref (ad 38)), (3, .ref (ad 56)), (4, .int (nI i))] []) : XW p l e room_1 s m #[Value.ref b] below meth c D zCl (fun q => s.heap.size ≤ q) s.heap 7 (zW ca ad M) (57 + 4 * N) (1281 + 24 * N) Q 822 [(0, .ref b), (1, .ref (ad 0)), (2, .ref (ad 38)), (3, .ref (ad 56)), (4, .int (nI i))] [] := by
  obtain ⟨C, hKL, hX, hbl, hl0, hL⟩ := H
  obtain ⟨n, per, wk, dl, of, k, st, ln, tk, md, tm, hR, htm⟩ := hE
  have hbA : ¬ s.heap.size ≤ b := by omega
  obtain ⟨hmd, -, hmb⟩ := hR.2.2.2.2.2.2.2.1
  have hn6 := hR.1.1
  have hz := hR.1.2.1
  have hk60 := hR.2.2.1.2.1
  have hz3 := hR.2.2.1.1
  refine xw_aload_n C 1 d_Lw_law_822 rfl rfl (pc' := 823) rfl ?_
  refine xw_aload_n C 0 d_Lw_law_823 rfl rfl (pc' := 824) rfl ?_
  refine xw_iload C 4 d_Lw_law_824 rfl (pc' := 826) rfl ?_
  refine xw_iconst C (v := nI 1) d_Lw_law_826 (by decide) (pc' := 827) rfl ?_
  refine xw_iadd C d_Lw_law_827 (pc' := 828) rfl ?_
  refine xw_topi (y := nI (i + 1)) (nI_add _ _) ?_
  refine xw_sld C hX hbl hbA (i + 1) rfl (by omega) (by omega) d_Lw_law_828 (pc' := 829) rfl ?_
  refine xw_aload_n C 3 d_Lw_law_829 rfl rfl (pc' := 830) rfl ?_
  refine xw_callSWi C (c_Lw_shared l hl0 D ca ad M sa (xs (i + 1))) (zg_SW C 3 k_557 k_558 k_23 k_559 q_Lw_shared ⟨by decide, by decide⟩) (fun _ _ _ _ h => h.call) (fun _ _ _ hD hS hU hW => hKL.at C.2.2.2.2.2.2 hD hS hU hW) rfl rfl (Nat.le_of_ble_eq_true rfl) d_Lw_law_830 ⟨by show _ ≤ 605353; omega, by show _ ≤ 7280045; omega⟩ (pc' := 833) rfl (fun r1 M1 hp1 => ?_)
  have hRm := fr_shared hR hp1
  obtain ⟨-, hmm, -⟩ := hRm.2.2.2.2.2.2.2.1
  have hzm := hRm.2.1.2.1
  have hz3m := hRm.2.2.2.1.1
  refine xw_istore C d_Lw_law_833 (by decide) rfl (pc' := 835) rfl ?_
  refine xw_aload_n C 3 d_Lw_law_835 rfl rfl (pc' := 836) rfl ?_
  refine xw_aload_n C 1 d_Lw_law_836 rfl rfl (pc' := 837) rfl ?_
  refine xw_iload C 5 d_Lw_law_837 rfl (pc' := 839) rfl ?_
  refine xw_iconst C (v := nI 1) d_Lw_law_839 (by decide) (pc' := 840) rfl ?_
  refine xw_iadd C d_Lw_law_840 (pc' := 841) rfl ?_
  refine xw_topi (y := nI (i + 1)) (nI_add _ _) ?_
  refine xw_sld C hX hbl hbA (i + 1) rfl (by omega) (by omega) d_Lw_law_841 (pc' := 842) rfl ?_
  refine xw_callVi C (c_Md_shared l D ca ad M1 (xs (i + 1))) ⟨zg_B C 1 k_758 k_31 k_761 q_Md_shared ⟨by decide, by decide⟩, C.2.2.2.2.1 _ k_759, C.2.2.2.2.1 _ k_760⟩ 38 zr_38 rfl rfl (fun _ _ _ _ h => h) (fun _ _ _ _ _ _ _ => trivial) rfl rfl (Nat.le_of_ble_eq_true rfl) d_Lw_law_842 ⟨by show _ ≤ 605353; omega, by show _ ≤ 7280045; omega⟩ (pc' := 845) rfl (fun b0 M2 hp2 => ?_)
  obtain ⟨hf, hv, hE2⟩ := op_shared hR htm hp1 hp2
  refine xw_istore C d_Lw_law_845 (by decide) rfl (pc' := 847) rfl ?_
  refine xw_aload_n C 4 d_Lw_law_847 rfl rfl (pc' := 848) rfl ?_
  refine xw_callVi C (c_Md_thrown l D ca ad M2) ⟨zg_B C 0 k_638 k_31 k_641 q_Md_thrown ⟨by decide, by decide⟩, C.2.2.2.2.1 _ k_639, C.2.2.2.2.1 _ k_640⟩ 38 zr_38 rfl rfl (fun _ _ _ _ h => h) (fun _ _ _ _ _ _ _ => trivial) rfl rfl (Nat.le_of_ble_eq_true rfl) d_Lw_law_848 ⟨by show _ ≤ 605353; omega, by show _ ≤ 7280045; omega⟩ (pc' := 851) rfl (fun r3 M3 hp3 => ?_)
  obtain ⟨e3, er⟩ := hp3
  rw [e3]
  refine xw_topi (y := r1) (er.trans hf) ?_
  refine xw_iload C 1 d_Lw_law_851 rfl (pc' := 853) rfl ?_
  refine xw_icmp_eq C (tgt := 858) d_Lw_law_853 (by decide) (pc' := 856) rfl (fun h853 => ?_) (fun h853 => ?_)
  ·
    refine xw_iload C 1 d_Lw_law_858 rfl (pc' := 860) rfl ?_
    refine xw_if_ne C (tgt := 875) d_Lw_law_860 (by decide) (pc' := 863) rfl (fun hr0 => ?_) (fun hr0 => ?_)
    ·
      refine xw_goto C (tgt := 878) d_Lw_law_875 (by decide) ?_
      refine xw_lv [2, 3, 4, 5, 6] rfl ?_
      refine xw_widen (k := 57 + 4 * (N + 1)) (n := 1281 + 24 * (N + 1)) (by omega) (by omega) ?_
      exact kk _ hE2
    ·
      refine xw_aload_n C 5 d_Lw_law_863 rfl rfl (pc' := 864) rfl ?_
      refine xw_iconst C (v := nI 0) d_Lw_law_864 (by decide) (pc' := 865) rfl ?_
      refine xw_lald C 56 3 zr_56 rfl 0 rfl (by omega) (by decide) d_Lw_law_865 (pc' := 866) rfl ?_
      refine xw_iload C 0 d_Lw_law_866 rfl (pc' := 868) rfl ?_
      refine xw_i2l C d_Lw_law_868 rfl (pc' := 869) rfl ?_
      refine xw_lcmpE C (by rw [hv hr0]) d_Lw_law_869 (pc' := 870) rfl ?_
      refine xw_if_eq C (tgt := 875) d_Lw_law_870 (by decide) (pc' := 873) rfl (fun h870 => ?_) (fun h870 => ?_)
      ·
        replace h870 : 0 = 0 := (xp_eq0 (by omega)).mp h870
        refine xw_goto C (tgt := 878) d_Lw_law_875 (by decide) ?_
        refine xw_lv [2, 3, 4, 5, 6] rfl ?_
        refine xw_widen (k := 57 + 4 * (N + 1)) (n := 1281 + 24 * (N + 1)) (by omega) (by omega) ?_
        exact kk _ hE2
      ·
        replace h870 : ¬ (0 = 0) := fun hneg => h870 ((xp_eq0 (by omega)).mpr hneg)
        omega
  ·
    exact absurd rfl h853

set_option maxHeartbeats 4000000 in
set_option maxRecDepth 100000 in
theorem lw_c_round {p : Program} {l : Launch} {e : Env} {s : State} {m : MethodId} {below : List Frame} {meth : Method} {c : Code} {Q : State → Prop} {D : va_G} {ca : Nat → ClassId} {ad : Nat → Nat} {sa : Nat → Nat} {b L : Nat} {xs : Nat → Int32} (H : LwC p l s m c D ca sa b L xs) {i N : Nat} {M : Nat → Nat → Int32} (hi : i + 5 ≤ L) (hN : N ≤ 512) (hE : LwE M N)
    (kk : ∀ M', LwE M' (N + 1) → XW p l e room_1 s m #[Value.ref b] below meth c D zCl (fun q => s.heap.size ≤ q) s.heap 7 (zW ca ad M') (57 + 4 * (N + 1)) (1281 + 24 * (N + 1)) Q 878 [(0, .ref b), (1, .ref (ad 0)), (2, .ref (ad 38)), (3, .ref (ad 56)), (4, .int (nI i))] []) : XW p l e room_1 s m #[Value.ref b] below meth c D zCl (fun q => s.heap.size ≤ q) s.heap 7 (zW ca ad M) (57 + 4 * N) (1281 + 24 * N) Q 332 [(0, .ref b), (1, .ref (ad 0)), (2, .ref (ad 38)), (3, .ref (ad 56)), (4, .int (nI i))] [] := by
  obtain ⟨C, hKL, hX, hbl, hl0, hL⟩ := H
  obtain ⟨n, per, wk, dl, of, k, st, ln, tk, md, tm, hR, htm⟩ := hE
  have hbA : ¬ s.heap.size ≤ b := by omega
  obtain ⟨hmd, -, hmb⟩ := hR.2.2.2.2.2.2.2.1
  have hn6 := hR.1.1
  have hz := hR.1.2.1
  have hk60 := hR.2.2.1.2.1
  have hz3 := hR.2.2.1.1
  refine xw_aload_n C 1 d_Lw_law_332 rfl rfl (pc' := 333) rfl ?_
  refine xw_callVi C (c_Ex_round l D ca ad M n per hn6 hz hR.1.per) ⟨zg_B C 0 k_207 k_24 k_210 q_Ex_round ⟨by decide, by decide⟩, C.2.2.2.2.1 _ k_208, C.2.2.2.2.1 _ k_209⟩ 0 zr_0 rfl rfl (fun _ _ _ _ h => h) (fun _ _ _ _ _ _ _ => trivial) rfl rfl (Nat.le_of_ble_eq_true rfl) d_Lw_law_333 ⟨by show _ ≤ 605353; omega, by show _ ≤ 7280045; omega⟩ (pc' := 336) rfl (fun r1 M1 hp1 => ?_)
  obtain ⟨e1, hp1⟩ := hp1
  rw [e1]
  clear e1
  refine xw_aload_n C 2 d_Lw_law_336 rfl rfl (pc' := 337) rfl ?_
  refine xw_callVi C (c_Md_round l D ca ad M n per wk dl of hR.2.1) ⟨zg_B C 0 k_662 k_31 k_665 q_Md_round ⟨by decide, by decide⟩, C.2.2.2.2.1 _ k_663, C.2.2.2.2.1 _ k_664⟩ 38 zr_38 rfl rfl (fun _ _ _ _ h => h) (fun _ _ _ _ _ _ _ => trivial) rfl rfl (Nat.le_of_ble_eq_true rfl) d_Lw_law_337 ⟨by show _ ≤ 605353; omega, by show _ ≤ 7280045; omega⟩ (pc' := 340) rfl (fun b0 M2 hp2 => ?_)
  obtain ⟨e2, hp2⟩ := hp2
  have hE2 : LwE M2 (N + 1) := by
    rw [e2]; exact LwE.refuse hR htm
  refine xw_topi (y := r1) (by
    rcases hp1 with ⟨h1, g1, g2⟩ | ⟨g1, g2⟩
    · rcases hp2 with ⟨h3, g3, g4⟩ | ⟨g3, g4⟩
      · rw [g4, g2, sp_rd_uq g3 g1]
      · exact (sp_rd_no g1 g3).elim
    · rcases hp2 with ⟨h3, g3, g4⟩ | ⟨g3, g4⟩
      · exact (sp_rd_no g3 g1).elim
      · rw [g4, g2]) ?_
  refine xw_icmp_eq C (tgt := 878) d_Lw_law_340 (by decide) (pc' := 343) rfl (fun h340 => ?_) (fun h340 => ?_)
  ·
    refine xw_widen (k := 57 + 4 * (N + 1)) (n := 1281 + 24 * (N + 1)) (by omega) (by omega) ?_
    exact kk _ hE2
  ·
    exact absurd rfl h340

set_option maxHeartbeats 4000000 in
set_option maxRecDepth 100000 in
theorem lw_c_slots {p : Program} {l : Launch} {e : Env} {s : State} {m : MethodId} {below : List Frame} {meth : Method} {c : Code} {Q : State → Prop} {D : va_G} {ca : Nat → ClassId} {ad : Nat → Nat} {sa : Nat → Nat} {b L : Nat} {xs : Nat → Int32} (H : LwC p l s m c D ca sa b L xs) {i N : Nat} {M : Nat → Nat → Int32} (hi : i + 5 ≤ L) (hN : N ≤ 512) (hE : LwE M N)
    (kk : ∀ M', LwE M' (N + 1) → XW p l e room_1 s m #[Value.ref b] below meth c D zCl (fun q => s.heap.size ≤ q) s.heap 7 (zW ca ad M') (57 + 4 * (N + 1)) (1281 + 24 * (N + 1)) Q 878 [(0, .ref b), (1, .ref (ad 0)), (2, .ref (ad 38)), (3, .ref (ad 56)), (4, .int (nI i))] []) : XW p l e room_1 s m #[Value.ref b] below meth c D zCl (fun q => s.heap.size ≤ q) s.heap 7 (zW ca ad M) (57 + 4 * N) (1281 + 24 * N) Q 485 [(0, .ref b), (1, .ref (ad 0)), (2, .ref (ad 38)), (3, .ref (ad 56)), (4, .int (nI i))] [] := by
  obtain ⟨C, hKL, hX, hbl, hl0, hL⟩ := H
  obtain ⟨n, per, wk, dl, of, k, st, ln, tk, md, tm, hR, htm⟩ := hE
  have hbA : ¬ s.heap.size ≤ b := by omega
  obtain ⟨hmd, -, hmb⟩ := hR.2.2.2.2.2.2.2.1
  have hn6 := hR.1.1
  have hz := hR.1.2.1
  have hk60 := hR.2.2.1.2.1
  have hz3 := hR.2.2.1.1
  refine xw_aload_n C 1 d_Lw_law_485 rfl rfl (pc' := 486) rfl ?_
  refine xw_callVi C (c_Ex_slots l D ca ad M) ⟨zg_B C 0 k_219 k_24 k_222 q_Ex_slots ⟨by decide, by decide⟩, C.2.2.2.2.1 _ k_220, C.2.2.2.2.1 _ k_221⟩ 0 zr_0 rfl rfl (fun _ _ _ _ h => h) (fun _ _ _ _ _ _ _ => trivial) rfl rfl (Nat.le_of_ble_eq_true rfl) d_Lw_law_486 ⟨by show _ ≤ 605353; omega, by show _ ≤ 7280045; omega⟩ (pc' := 489) rfl (fun r1 M1 hp1 => ?_)
  obtain ⟨e1, hp1⟩ := hp1
  rw [e1]
  clear e1
  refine xw_aload_n C 2 d_Lw_law_489 rfl rfl (pc' := 490) rfl ?_
  refine xw_callVi C (c_Md_slots l D ca ad M) ⟨zg_B C 0 k_698 k_31 k_701 q_Md_slots ⟨by decide, by decide⟩, C.2.2.2.2.1 _ k_699, C.2.2.2.2.1 _ k_700⟩ 38 zr_38 rfl rfl (fun _ _ _ _ h => h) (fun _ _ _ _ _ _ _ => trivial) rfl rfl (Nat.le_of_ble_eq_true rfl) d_Lw_law_490 ⟨by show _ ≤ 605353; omega, by show _ ≤ 7280045; omega⟩ (pc' := 493) rfl (fun b0 M2 hp2 => ?_)
  obtain ⟨e2, hp2⟩ := hp2
  have hE2 : LwE M2 (N + 1) := by
    rw [e2]; exact LwE.refuse hR htm
  refine xw_topi (y := r1) (by rw [hp1, hp2, hz3, hR.2.2.2.1.1]) ?_
  refine xw_icmp_eq C (tgt := 878) d_Lw_law_493 (by decide) (pc' := 496) rfl (fun h493 => ?_) (fun h493 => ?_)
  ·
    refine xw_widen (k := 57 + 4 * (N + 1)) (n := 1281 + 24 * (N + 1)) (by omega) (by omega) ?_
    exact kk _ hE2
  ·
    exact absurd rfl h493

set_option maxHeartbeats 4000000 in
set_option maxRecDepth 100000 in
theorem lw_c_time {p : Program} {l : Launch} {e : Env} {s : State} {m : MethodId} {below : List Frame} {meth : Method} {c : Code} {Q : State → Prop} {D : va_G} {ca : Nat → ClassId} {ad : Nat → Nat} {sa : Nat → Nat} {b L : Nat} {xs : Nat → Int32} (H : LwC p l s m c D ca sa b L xs) {i N : Nat} {M : Nat → Nat → Int32} (hi : i + 5 ≤ L) (hN : N ≤ 512) (hE : LwE M N)
    (kk : ∀ M', LwE M' (N + 1) → XW p l e room_1 s m #[Value.ref b] below meth c D zCl (fun q => s.heap.size ≤ q) s.heap 7 (zW ca ad M') (57 + 4 * (N + 1)) (1281 + 24 * (N + 1)) Q 878 [(0, .ref b), (1, .ref (ad 0)), (2, .ref (ad 38)), (3, .ref (ad 56)), (4, .int (nI i))] []) : XW p l e room_1 s m #[Value.ref b] below meth c D zCl (fun q => s.heap.size ≤ q) s.heap 7 (zW ca ad M) (57 + 4 * N) (1281 + 24 * N) Q 741 [(0, .ref b), (1, .ref (ad 0)), (2, .ref (ad 38)), (3, .ref (ad 56)), (4, .int (nI i))] [] := by
  obtain ⟨C, hKL, hX, hbl, hl0, hL⟩ := H
  obtain ⟨n, per, wk, dl, of, k, st, ln, tk, md, tm, hR, htm⟩ := hE
  have hbA : ¬ s.heap.size ≤ b := by omega
  obtain ⟨hmd, -, hmb⟩ := hR.2.2.2.2.2.2.2.1
  have hn6 := hR.1.1
  have hz := hR.1.2.1
  have hk60 := hR.2.2.1.2.1
  have hz3 := hR.2.2.1.1
  refine xw_aload_n C 1 d_Lw_law_741 rfl rfl (pc' := 742) rfl ?_
  refine xw_callVi C (c_Ex_time l D ca ad M) ⟨zg_B C 0 k_223 k_24 k_226 q_Ex_time ⟨by decide, by decide⟩, C.2.2.2.2.1 _ k_224, C.2.2.2.2.1 _ k_225⟩ 0 zr_0 rfl rfl (fun _ _ _ _ h => h) (fun _ _ _ _ _ _ _ => trivial) rfl rfl (Nat.le_of_ble_eq_true rfl) d_Lw_law_742 ⟨by show _ ≤ 605353; omega, by show _ ≤ 7280045; omega⟩ (pc' := 745) rfl (fun r1 M1 hp1 => ?_)
  obtain ⟨e1, hp1⟩ := hp1
  rw [e1]
  clear e1
  refine xw_aload_n C 2 d_Lw_law_745 rfl rfl (pc' := 746) rfl ?_
  refine xw_callVi C (c_Md_time l D ca ad M) ⟨zg_B C 0 k_750 k_31 k_753 q_Md_time ⟨by decide, by decide⟩, C.2.2.2.2.1 _ k_751, C.2.2.2.2.1 _ k_752⟩ 38 zr_38 rfl rfl (fun _ _ _ _ h => h) (fun _ _ _ _ _ _ _ => trivial) rfl rfl (Nat.le_of_ble_eq_true rfl) d_Lw_law_746 ⟨by show _ ≤ 605353; omega, by show _ ≤ 7280045; omega⟩ (pc' := 749) rfl (fun b0 M2 hp2 => ?_)
  obtain ⟨e2, hp2⟩ := hp2
  have hE2 : LwE M2 (N + 1) := by
    rw [e2]; exact LwE.refuse hR htm
  refine xw_topi (y := r1) (by rw [hp1, hp2, hR.2.2.2.2.2.2.2.2.1.1, hR.2.2.2.2.2.2.2.2.1.2]) ?_
  refine xw_icmp_eq C (tgt := 878) d_Lw_law_749 (by decide) (pc' := 752) rfl (fun h749 => ?_) (fun h749 => ?_)
  ·
    refine xw_widen (k := 57 + 4 * (N + 1)) (n := 1281 + 24 * (N + 1)) (by omega) (by omega) ?_
    exact kk _ hE2
  ·
    exact absurd rfl h749

