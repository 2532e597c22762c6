set_option maxRecDepth 100000 in
set_option maxHeartbeats 4000000 in
theorem law_versions {p : Program} {l : Launch} {e : Env} {s : State} {m : MethodId} {below : List Frame} {meth : Method} {c : Code} {D : va_G} {a a2 : Nat → Nat} {cI cJ cC cZ : ClassId} {b L i : Nat} {xs : Nat → Int32} {Rel : US → MS → Prop} {u : US} {v : MS} (K : Cx p s m #[Value.ref b] c code 4 "DemandTermsLaw" AW D vwCl (CT cI cJ cC cZ) (fun q : Nat => s.heap.size ≤ q)) (X : va_X b L xs s s.heap ∧ b < s.heap.size ∧ ¬ (fun q : Nat => s.heap.size ≤ q) b) (hL : L ≤ 3584) (hi : i + 7 ≤ L) (hR : Rel u v) (Ho : H_ok Rel) (Hc : H_versions Rel) (kk : ∀ (u' : US) (v' : MS), Rel u' v' → zW p l e room_1 s m #[Value.ref b] below meth c D vwCl (fun q : Nat => s.heap.size ≤ q) 4 37 293742 (lw_Z below #[Value.ref b] s) (CW a cI cJ cC u' ++ MW a2 cI cJ cZ v') 970 [(3, .int (nI i)), (0, .ref b), (1, .ref (a 0)), (2, .ref (a2 0))] []) : zW p l e room_1 s m #[Value.ref b] below meth c D vwCl (fun q : Nat => s.heap.size ≤ q) 4 37 293742 (lw_Z below #[Value.ref b] s) (CW a cI cJ cC u ++ MW a2 cI cJ cZ v) 140 [(3, .int (nI i)), (0, .ref b), (1, .ref (a 0)), (2, .ref (a2 0))] [] := by
  obtain ⟨hu, hm, hrv, ho⟩ := Ho u v hR
  refine z_aload_n (pc := 140) K d_L_law_140 rfl ?_
  refine z_aload_n (pc := 141) K d_L_law_141 rfl ?_
  refine z_iload_n (pc := 142) K d_L_law_142 rfl ?_
  refine z_iconst (pc := 143) K (v := 1) d_L_law_143 (by decide) ?_
  refine z_iadd (pc := 144) K d_L_law_144 ?_
  refine z_sld (pc := 145) K X d_L_law_145 (in_k (k := 1) hL (by omega)) ?_
  refine z_gVi (pc := 146) K 0 (c_D_versions u (xs (nI i + 1).toNatClampNeg) hu) (cwA K 1 k129 k130 k131 k1 k132 q_D_versions ⟨Nat.le_of_ble_eq_true rfl, Nat.le_of_ble_eq_true rfl⟩) d_L_law_146 rfl rfl rfl rfl rfl (Nat.le_of_ble_eq_true rfl) ⟨Nat.le_of_ble_eq_true rfl, Nat.le_of_ble_eq_true rfl⟩ ?_
  refine z_aload_n (pc := 149) K d_L_law_149 rfl ?_
  refine z_aload_n (pc := 150) K d_L_law_150 rfl ?_
  refine z_iload_n (pc := 151) K d_L_law_151 rfl ?_
  refine z_iconst (pc := 152) K (v := 1) d_L_law_152 (by decide) ?_
  refine z_iadd (pc := 153) K d_L_law_153 ?_
  refine z_sld (pc := 154) K X d_L_law_154 (in_k (k := 1) hL (by omega)) ?_
  refine z_fVi (pc := 155) K 0 (m_versions_c v (xs (nI i + 1).toNatClampNeg) hm) (cwA K 1 k540 k541 k542 k7 k543 q_M_versions ⟨Nat.le_of_ble_eq_true rfl, Nat.le_of_ble_eq_true rfl⟩) d_L_law_155 rfl rfl rfl rfl rfl (Nat.le_of_ble_eq_true rfl) ⟨Nat.le_of_ble_eq_true rfl, Nat.le_of_ble_eq_true rfl⟩ ?_
  refine z_icmp_eq (pc := 158) K (tgt := 970) d_L_law_158 (by decide) (fun c158 => ?_) (fun c158 => ?_)
  · exact kk _ _ (Hc u v (xs (nI i + 1).toNatClampNeg) hR).2
  · exact absurd (Hc u v (xs (nI i + 1).toNatClampNeg) hR).1 c158
set_option maxRecDepth 100000 in
set_option maxHeartbeats 4000000 in
theorem law_term {p : Program} {l : Launch} {e : Env} {s : State} {m : MethodId} {below : List Frame} {meth : Method} {c : Code} {D : va_G} {a a2 : Nat → Nat} {cI cJ cC cZ : ClassId} {b L i : Nat} {xs : Nat → Int32} {Rel : US → MS → Prop} {u : US} {v : MS} (K : Cx p s m #[Value.ref b] c code 4 "DemandTermsLaw" AW D vwCl (CT cI cJ cC cZ) (fun q : Nat => s.heap.size ≤ q)) (X : va_X b L xs s s.heap ∧ b < s.heap.size ∧ ¬ (fun q : Nat => s.heap.size ≤ q) b) (hL : L ≤ 3584) (hi : i + 7 ≤ L) (hR : Rel u v) (Ho : H_ok Rel) (Hc : H_term Rel) (kk : ∀ (u' : US) (v' : MS), Rel u' v' → zW p l e room_1 s m #[Value.ref b] below meth c D vwCl (fun q : Nat => s.heap.size ≤ q) 4 37 293742 (lw_Z below #[Value.ref b] s) (CW a cI cJ cC u' ++ MW a2 cI cJ cZ v') 970 [(3, .int (nI i)), (0, .ref b), (1, .ref (a 0)), (2, .ref (a2 0))] []) : zW p l e room_1 s m #[Value.ref b] below meth c D vwCl (fun q : Nat => s.heap.size ≤ q) 4 37 293742 (lw_Z below #[Value.ref b] s) (CW a cI cJ cC u ++ MW a2 cI cJ cZ v) 163 [(3, .int (nI i)), (0, .ref b), (1, .ref (a 0)), (2, .ref (a2 0))] [] := by
  obtain ⟨hu, hm, hrv, ho⟩ := Ho u v hR
  refine z_aload_n (pc := 163) K d_L_law_163 rfl ?_
  refine z_aload_n (pc := 164) K d_L_law_164 rfl ?_
  refine z_iload_n (pc := 165) K d_L_law_165 rfl ?_
  refine z_iconst (pc := 166) K (v := 1) d_L_law_166 (by decide) ?_
  refine z_iadd (pc := 167) K d_L_law_167 ?_
  refine z_sld (pc := 168) K X d_L_law_168 (in_k (k := 1) hL (by omega)) ?_
  refine z_aload_n (pc := 169) K d_L_law_169 rfl ?_
  refine z_iload_n (pc := 170) K d_L_law_170 rfl ?_
  refine z_iconst (pc := 171) K (v := 2) d_L_law_171 (by decide) ?_
  refine z_iadd (pc := 172) K d_L_law_172 ?_
  refine z_sld (pc := 173) K X d_L_law_173 (in_k (k := 2) hL (by omega)) ?_
  refine z_i2l (pc := 174) K d_L_law_174 ?_
  refine z_bipush (pc := 175) K (v := 32) d_L_law_175 (by decide) ?_
  refine z_lshl (pc := 177) K d_L_law_177 ?_
  refine z_aload_n (pc := 178) K d_L_law_178 rfl ?_
  refine z_iload_n (pc := 179) K d_L_law_179 rfl ?_
  refine z_iconst (pc := 180) K (v := 3) d_L_law_180 (by decide) ?_
  refine z_iadd (pc := 181) K d_L_law_181 ?_
  refine z_sld (pc := 182) K X d_L_law_182 (in_k (k := 3) hL (by omega)) ?_
  refine z_i2l (pc := 183) K d_L_law_183 ?_
  refine z_ldc2 (pc := 184) K (v := 4294967295) k760 d_L_law_184 ?_
  refine z_land (pc := 187) K d_L_law_187 ?_
  refine z_lor (pc := 188) K d_L_law_188 ?_
  refine z_aload_n (pc := 189) K d_L_law_189 rfl ?_
  refine z_iload_n (pc := 190) K d_L_law_190 rfl ?_
  refine z_iconst (pc := 191) K (v := 4) d_L_law_191 (by decide) ?_
  refine z_iadd (pc := 192) K d_L_law_192 ?_
  refine z_sld (pc := 193) K X d_L_law_193 (in_k (k := 4) hL (by omega)) ?_
  refine z_if_eq (pc := 194) K (tgt := 201) d_L_law_194 (by decide) (fun c194 => ?_) (fun c194 => ?_)
  · refine z_iconst (pc := 201) K (v := 0) d_L_law_201 (by decide) ?_
    refine z_gVi (pc := 202) K 0 (c_D_term u (xs (nI i + 1).toNatClampNeg) (((xs (nI i + 2).toNatClampNeg).toInt64 <<< ((32 : Int32).toInt64 &&& 63)) ||| ((xs (nI i + 3).toNatClampNeg).toInt64 &&& 4294967295)) 0 hu) (cwA K 3 k146 k147 k148 k1 k149 q_D_term ⟨Nat.le_of_ble_eq_true rfl, Nat.le_of_ble_eq_true rfl⟩) d_L_law_202 rfl rfl rfl rfl rfl (Nat.le_of_ble_eq_true rfl) ⟨Nat.le_of_ble_eq_true rfl, Nat.le_of_ble_eq_true rfl⟩ ?_
    refine z_aload_n (pc := 205) K d_L_law_205 rfl ?_
    refine z_aload_n (pc := 206) K d_L_law_206 rfl ?_
    refine z_iload_n (pc := 207) K d_L_law_207 rfl ?_
    refine z_iconst (pc := 208) K (v := 1) d_L_law_208 (by decide) ?_
    refine z_iadd (pc := 209) K d_L_law_209 ?_
    refine z_sld (pc := 210) K X d_L_law_210 (in_k (k := 1) hL (by omega)) ?_
    refine z_aload_n (pc := 211) K d_L_law_211 rfl ?_
    refine z_iload_n (pc := 212) K d_L_law_212 rfl ?_
    refine z_iconst (pc := 213) K (v := 2) d_L_law_213 (by decide) ?_
    refine z_iadd (pc := 214) K d_L_law_214 ?_
    refine z_sld (pc := 215) K X d_L_law_215 (in_k (k := 2) hL (by omega)) ?_
    refine z_i2l (pc := 216) K d_L_law_216 ?_
    refine z_bipush (pc := 217) K (v := 32) d_L_law_217 (by decide) ?_
    refine z_lshl (pc := 219) K d_L_law_219 ?_
    refine z_aload_n (pc := 220) K d_L_law_220 rfl ?_
    refine z_iload_n (pc := 221) K d_L_law_221 rfl ?_
    refine z_iconst (pc := 222) K (v := 3) d_L_law_222 (by decide) ?_
    refine z_iadd (pc := 223) K d_L_law_223 ?_
    refine z_sld (pc := 224) K X d_L_law_224 (in_k (k := 3) hL (by omega)) ?_
    refine z_i2l (pc := 225) K d_L_law_225 ?_
    refine z_ldc2 (pc := 226) K (v := 4294967295) k760 d_L_law_226 ?_
    refine z_land (pc := 229) K d_L_law_229 ?_
    refine z_lor (pc := 230) K d_L_law_230 ?_
    refine z_aload_n (pc := 231) K d_L_law_231 rfl ?_
    refine z_iload_n (pc := 232) K d_L_law_232 rfl ?_
    refine z_iconst (pc := 233) K (v := 4) d_L_law_233 (by decide) ?_
    refine z_iadd (pc := 234) K d_L_law_234 ?_
    refine z_sld (pc := 235) K X d_L_law_235 (in_k (k := 4) hL (by omega)) ?_
    refine z_if_eq (pc := 236) K (tgt := 243) d_L_law_236 (by decide) (fun c236 => ?_) (fun c236 => ?_)
    · refine z_iconst (pc := 243) K (v := 0) d_L_law_243 (by decide) ?_
      refine z_eqi (y := bI false) rfl ?_
      refine z_fVi (pc := 244) K 0 (m_term_c v (xs (nI i + 1).toNatClampNeg) (((xs (nI i + 2).toNatClampNeg).toInt64 <<< ((32 : Int32).toInt64 &&& 63)) ||| ((xs (nI i + 3).toNatClampNeg).toInt64 &&& 4294967295)) false hm) (cwA K 3 k552 k553 k554 k7 k555 q_M_term ⟨Nat.le_of_ble_eq_true rfl, Nat.le_of_ble_eq_true rfl⟩) d_L_law_244 rfl rfl rfl rfl rfl (Nat.le_of_ble_eq_true rfl) ⟨Nat.le_of_ble_eq_true rfl, Nat.le_of_ble_eq_true rfl⟩ ?_
      refine z_icmp_eq (pc := 247) K (tgt := 970) d_L_law_247 (by decide) (fun c247 => ?_) (fun c247 => ?_)
      · exact kk _ _ (Hc u v (xs (nI i + 1).toNatClampNeg) (((xs (nI i + 2).toNatClampNeg).toInt64 <<< ((32 : Int32).toInt64 &&& 63)) ||| ((xs (nI i + 3).toNatClampNeg).toInt64 &&& 4294967295)) false hR).2
      · exact absurd (Hc u v (xs (nI i + 1).toNatClampNeg) (((xs (nI i + 2).toNatClampNeg).toInt64 <<< ((32 : Int32).toInt64 &&& 63)) ||| ((xs (nI i + 3).toNatClampNeg).toInt64 &&& 4294967295)) false hR).1 c247
    · exact absurd c194 c236
  · refine z_iconst (pc := 197) K (v := 1) d_L_law_197 (by decide) ?_
    refine z_goto (pc := 198) K (tgt := 202) d_L_law_198 (by decide) ?_
    refine z_gVi (pc := 202) K 0 (c_D_term u (xs (nI i + 1).toNatClampNeg) (((xs (nI i + 2).toNatClampNeg).toInt64 <<< ((32 : Int32).toInt64 &&& 63)) ||| ((xs (nI i + 3).toNatClampNeg).toInt64 &&& 4294967295)) 1 hu) (cwA K 3 k146 k147 k148 k1 k149 q_D_term ⟨Nat.le_of_ble_eq_true rfl, Nat.le_of_ble_eq_true rfl⟩) d_L_law_202 rfl rfl rfl rfl rfl (Nat.le_of_ble_eq_true rfl) ⟨Nat.le_of_ble_eq_true rfl, Nat.le_of_ble_eq_true rfl⟩ ?_
    refine z_aload_n (pc := 205) K d_L_law_205 rfl ?_
    refine z_aload_n (pc := 206) K d_L_law_206 rfl ?_
    refine z_iload_n (pc := 207) K d_L_law_207 rfl ?_
    refine z_iconst (pc := 208) K (v := 1) d_L_law_208 (by decide) ?_
    refine z_iadd (pc := 209) K d_L_law_209 ?_
    refine z_sld (pc := 210) K X d_L_law_210 (in_k (k := 1) hL (by omega)) ?_
    refine z_aload_n (pc := 211) K d_L_law_211 rfl ?_
    refine z_iload_n (pc := 212) K d_L_law_212 rfl ?_
    refine z_iconst (pc := 213) K (v := 2) d_L_law_213 (by decide) ?_
    refine z_iadd (pc := 214) K d_L_law_214 ?_
    refine z_sld (pc := 215) K X d_L_law_215 (in_k (k := 2) hL (by omega)) ?_
    refine z_i2l (pc := 216) K d_L_law_216 ?_
    refine z_bipush (pc := 217) K (v := 32) d_L_law_217 (by decide) ?_
    refine z_lshl (pc := 219) K d_L_law_219 ?_
    refine z_aload_n (pc := 220) K d_L_law_220 rfl ?_
    refine z_iload_n (pc := 221) K d_L_law_221 rfl ?_
    refine z_iconst (pc := 222) K (v := 3) d_L_law_222 (by decide) ?_
    refine z_iadd (pc := 223) K d_L_law_223 ?_
    refine z_sld (pc := 224) K X d_L_law_224 (in_k (k := 3) hL (by omega)) ?_
    refine z_i2l (pc := 225) K d_L_law_225 ?_
    refine z_ldc2 (pc := 226) K (v := 4294967295) k760 d_L_law_226 ?_
    refine z_land (pc := 229) K d_L_law_229 ?_
    refine z_lor (pc := 230) K d_L_law_230 ?_
    refine z_aload_n (pc := 231) K d_L_law_231 rfl ?_
    refine z_iload_n (pc := 232) K d_L_law_232 rfl ?_
    refine z_iconst (pc := 233) K (v := 4) d_L_law_233 (by decide) ?_
    refine z_iadd (pc := 234) K d_L_law_234 ?_
    refine z_sld (pc := 235) K X d_L_law_235 (in_k (k := 4) hL (by omega)) ?_
    refine z_if_eq (pc := 236) K (tgt := 243) d_L_law_236 (by decide) (fun c236 => ?_) (fun c236 => ?_)
    · exact absurd c236 c194
    · refine z_iconst (pc := 239) K (v := 1) d_L_law_239 (by decide) ?_
      refine z_goto (pc := 240) K (tgt := 244) d_L_law_240 (by decide) ?_
      refine z_eqi (y := bI true) rfl ?_
      refine z_fVi (pc := 244) K 0 (m_term_c v (xs (nI i + 1).toNatClampNeg) (((xs (nI i + 2).toNatClampNeg).toInt64 <<< ((32 : Int32).toInt64 &&& 63)) ||| ((xs (nI i + 3).toNatClampNeg).toInt64 &&& 4294967295)) true hm) (cwA K 3 k552 k553 k554 k7 k555 q_M_term ⟨Nat.le_of_ble_eq_true rfl, Nat.le_of_ble_eq_true rfl⟩) d_L_law_244 rfl rfl rfl rfl rfl (Nat.le_of_ble_eq_true rfl) ⟨Nat.le_of_ble_eq_true rfl, Nat.le_of_ble_eq_true rfl⟩ ?_
      refine z_icmp_eq (pc := 247) K (tgt := 970) d_L_law_247 (by decide) (fun c247 => ?_) (fun c247 => ?_)
      · exact kk _ _ (Hc u v (xs (nI i + 1).toNatClampNeg) (((xs (nI i + 2).toNatClampNeg).toInt64 <<< ((32 : Int32).toInt64 &&& 63)) ||| ((xs (nI i + 3).toNatClampNeg).toInt64 &&& 4294967295)) true hR).2
      · exact absurd (Hc u v (xs (nI i + 1).toNatClampNeg) (((xs (nI i + 2).toNatClampNeg).toInt64 <<< ((32 : Int32).toInt64 &&& 63)) ||| ((xs (nI i + 3).toNatClampNeg).toInt64 &&& 4294967295)) true hR).1 c247
set_option maxRecDepth 100000 in
set_option maxHeartbeats 4000000 in
theorem law_both {p : Program} {l : Launch} {e : Env} {s : State} {m : MethodId} {below : List Frame} {meth : Method} {c : Code} {D : va_G} {a a2 : Nat → Nat} {cI cJ cC cZ : ClassId} {b L i : Nat} {xs : Nat → Int32} {Rel : US → MS → Prop} {u : US} {v : MS} (K : Cx p s m #[Value.ref b] c code 4 "DemandTermsLaw" AW D vwCl (CT cI cJ cC cZ) (fun q : Nat => s.heap.size ≤ q)) (X : va_X b L xs s s.heap ∧ b < s.heap.size ∧ ¬ (fun q : Nat => s.heap.size ≤ q) b) (hL : L ≤ 3584) (hi : i + 7 ≤ L) (hR : Rel u v) (Ho : H_ok Rel) (Hc : H_both Rel) (kk : ∀ (u' : US) (v' : MS), Rel u' v' → zW p l e room_1 s m #[Value.ref b] below meth c D vwCl (fun q : Nat => s.heap.size ≤ q) 4 37 293742 (lw_Z below #[Value.ref b] s) (CW a cI cJ cC u' ++ MW a2 cI cJ cZ v') 970 [(3, .int (nI i)), (0, .ref b), (1, .ref (a 0)), (2, .ref (a2 0))] []) : zW p l e room_1 s m #[Value.ref b] below meth c D vwCl (fun q : Nat => s.heap.size ≤ q) 4 37 293742 (lw_Z below #[Value.ref b] s) (CW a cI cJ cC u ++ MW a2 cI cJ cZ v) 252 [(3, .int (nI i)), (0, .ref b), (1, .ref (a 0)), (2, .ref (a2 0))] [] := by
  obtain ⟨hu, hm, hrv, ho⟩ := Ho u v hR
  refine z_aload_n (pc := 252) K d_L_law_252 rfl ?_
  refine z_aload_n (pc := 253) K d_L_law_253 rfl ?_
  refine z_iload_n (pc := 254) K d_L_law_254 rfl ?_
  refine z_iconst (pc := 255) K (v := 1) d_L_law_255 (by decide) ?_
  refine z_iadd (pc := 256) K d_L_law_256 ?_
  refine z_sld (pc := 257) K X d_L_law_257 (in_k (k := 1) hL (by omega)) ?_
  refine z_aload_n (pc := 258) K d_L_law_258 rfl ?_
  refine z_iload_n (pc := 259) K d_L_law_259 rfl ?_
  refine z_iconst (pc := 260) K (v := 2) d_L_law_260 (by decide) ?_
  refine z_iadd (pc := 261) K d_L_law_261 ?_
  refine z_sld (pc := 262) K X d_L_law_262 (in_k (k := 2) hL (by omega)) ?_
  refine z_aload_n (pc := 263) K d_L_law_263 rfl ?_
  refine z_iload_n (pc := 264) K d_L_law_264 rfl ?_
  refine z_iconst (pc := 265) K (v := 3) d_L_law_265 (by decide) ?_
  refine z_iadd (pc := 266) K d_L_law_266 ?_
  refine z_sld (pc := 267) K X d_L_law_267 (in_k (k := 3) hL (by omega)) ?_
  refine z_if_eq (pc := 268) K (tgt := 275) d_L_law_268 (by decide) (fun c268 => ?_) (fun c268 => ?_)
  · refine z_iconst (pc := 275) K (v := 0) d_L_law_275 (by decide) ?_
    refine z_gVi (pc := 276) K 0 (c_D_both u (xs (nI i + 1).toNatClampNeg) (xs (nI i + 2).toNatClampNeg) 0 hu) (cwA K 3 k161 k162 k163 k1 k164 q_D_both ⟨Nat.le_of_ble_eq_true rfl, Nat.le_of_ble_eq_true rfl⟩) d_L_law_276 rfl rfl rfl rfl rfl (Nat.le_of_ble_eq_true rfl) ⟨Nat.le_of_ble_eq_true rfl, Nat.le_of_ble_eq_true rfl⟩ ?_
    refine z_aload_n (pc := 279) K d_L_law_279 rfl ?_
    refine z_aload_n (pc := 280) K d_L_law_280 rfl ?_
    refine z_iload_n (pc := 281) K d_L_law_281 rfl ?_
    refine z_iconst (pc := 282) K (v := 1) d_L_law_282 (by decide) ?_
    refine z_iadd (pc := 283) K d_L_law_283 ?_
    refine z_sld (pc := 284) K X d_L_law_284 (in_k (k := 1) hL (by omega)) ?_
    refine z_aload_n (pc := 285) K d_L_law_285 rfl ?_
    refine z_iload_n (pc := 286) K d_L_law_286 rfl ?_
    refine z_iconst (pc := 287) K (v := 2) d_L_law_287 (by decide) ?_
    refine z_iadd (pc := 288) K d_L_law_288 ?_
    refine z_sld (pc := 289) K X d_L_law_289 (in_k (k := 2) hL (by omega)) ?_
    refine z_aload_n (pc := 290) K d_L_law_290 rfl ?_
    refine z_iload_n (pc := 291) K d_L_law_291 rfl ?_
    refine z_iconst (pc := 292) K (v := 3) d_L_law_292 (by decide) ?_
    refine z_iadd (pc := 293) K d_L_law_293 ?_
    refine z_sld (pc := 294) K X d_L_law_294 (in_k (k := 3) hL (by omega)) ?_
    refine z_if_eq (pc := 295) K (tgt := 302) d_L_law_295 (by decide) (fun c295 => ?_) (fun c295 => ?_)
    · refine z_iconst (pc := 302) K (v := 0) d_L_law_302 (by decide) ?_
      refine z_eqi (y := bI false) rfl ?_
      refine z_fVi (pc := 303) K 0 (m_both_c v (xs (nI i + 1).toNatClampNeg) (xs (nI i + 2).toNatClampNeg) false hm) (cwA K 3 k564 k565 k566 k7 k567 q_M_both ⟨Nat.le_of_ble_eq_true rfl, Nat.le_of_ble_eq_true rfl⟩) d_L_law_303 rfl rfl rfl rfl rfl (Nat.le_of_ble_eq_true rfl) ⟨Nat.le_of_ble_eq_true rfl, Nat.le_of_ble_eq_true rfl⟩ ?_
      refine z_icmp_eq (pc := 306) K (tgt := 970) d_L_law_306 (by decide) (fun c306 => ?_) (fun c306 => ?_)
      · exact kk _ _ (Hc u v (xs (nI i + 1).toNatClampNeg) (xs (nI i + 2).toNatClampNeg) false hR).2
      · exact absurd (Hc u v (xs (nI i + 1).toNatClampNeg) (xs (nI i + 2).toNatClampNeg) false hR).1 c306
    · exact absurd c268 c295
  · refine z_iconst (pc := 271) K (v := 1) d_L_law_271 (by decide) ?_
    refine z_goto (pc := 272) K (tgt := 276) d_L_law_272 (by decide) ?_
    refine z_gVi (pc := 276) K 0 (c_D_both u (xs (nI i + 1).toNatClampNeg) (xs (nI i + 2).toNatClampNeg) 1 hu) (cwA K 3 k161 k162 k163 k1 k164 q_D_both ⟨Nat.le_of_ble_eq_true rfl, Nat.le_of_ble_eq_true rfl⟩) d_L_law_276 rfl rfl rfl rfl rfl (Nat.le_of_ble_eq_true rfl) ⟨Nat.le_of_ble_eq_true rfl, Nat.le_of_ble_eq_true rfl⟩ ?_
    refine z_aload_n (pc := 279) K d_L_law_279 rfl ?_
    refine z_aload_n (pc := 280) K d_L_law_280 rfl ?_
    refine z_iload_n (pc := 281) K d_L_law_281 rfl ?_
    refine z_iconst (pc := 282) K (v := 1) d_L_law_282 (by decide) ?_
    refine z_iadd (pc := 283) K d_L_law_283 ?_
    refine z_sld (pc := 284) K X d_L_law_284 (in_k (k := 1) hL (by omega)) ?_
    refine z_aload_n (pc := 285) K d_L_law_285 rfl ?_
    refine z_iload_n (pc := 286) K d_L_law_286 rfl ?_
    refine z_iconst (pc := 287) K (v := 2) d_L_law_287 (by decide) ?_
    refine z_iadd (pc := 288) K d_L_law_288 ?_
    refine z_sld (pc := 289) K X d_L_law_289 (in_k (k := 2) hL (by omega)) ?_
    refine z_aload_n (pc := 290) K d_L_law_290 rfl ?_
    refine z_iload_n (pc := 291) K d_L_law_291 rfl ?_
    refine z_iconst (pc := 292) K (v := 3) d_L_law_292 (by decide) ?_
    refine z_iadd (pc := 293) K d_L_law_293 ?_
    refine z_sld (pc := 294) K X d_L_law_294 (in_k (k := 3) hL (by omega)) ?_
    refine z_if_eq (pc := 295) K (tgt := 302) d_L_law_295 (by decide) (fun c295 => ?_) (fun c295 => ?_)
    · exact absurd c295 c268
    · refine z_iconst (pc := 298) K (v := 1) d_L_law_298 (by decide) ?_
      refine z_goto (pc := 299) K (tgt := 303) d_L_law_299 (by decide) ?_
      refine z_eqi (y := bI true) rfl ?_
      refine z_fVi (pc := 303) K 0 (m_both_c v (xs (nI i + 1).toNatClampNeg) (xs (nI i + 2).toNatClampNeg) true hm) (cwA K 3 k564 k565 k566 k7 k567 q_M_both ⟨Nat.le_of_ble_eq_true rfl, Nat.le_of_ble_eq_true rfl⟩) d_L_law_303 rfl rfl rfl rfl rfl (Nat.le_of_ble_eq_true rfl) ⟨Nat.le_of_ble_eq_true rfl, Nat.le_of_ble_eq_true rfl⟩ ?_
      refine z_icmp_eq (pc := 306) K (tgt := 970) d_L_law_306 (by decide) (fun c306 => ?_) (fun c306 => ?_)
      · exact kk _ _ (Hc u v (xs (nI i + 1).toNatClampNeg) (xs (nI i + 2).toNatClampNeg) true hR).2
      · exact absurd (Hc u v (xs (nI i + 1).toNatClampNeg) (xs (nI i + 2).toNatClampNeg) true hR).1 c306
set_option maxRecDepth 100000 in
set_option maxHeartbeats 4000000 in
theorem law_relate {p : Program} {l : Launch} {e : Env} {s : State} {m : MethodId} {below : List Frame} {meth : Method} {c : Code} {D : va_G} {a a2 : Nat → Nat} {cI cJ cC cZ : ClassId} {b L i : Nat} {xs : Nat → Int32} {Rel : US → MS → Prop} {u : US} {v : MS} (K : Cx p s m #[Value.ref b] c code 4 "DemandTermsLaw" AW D vwCl (CT cI cJ cC cZ) (fun q : Nat => s.heap.size ≤ q)) (X : va_X b L xs s s.heap ∧ b < s.heap.size ∧ ¬ (fun q : Nat => s.heap.size ≤ q) b) (hL : L ≤ 3584) (hi : i + 7 ≤ L) (hR : Rel u v) (Ho : H_ok Rel) (Hc : H_relate Rel) (kk : ∀ (u' : US) (v' : MS), Rel u' v' → zW p l e room_1 s m #[Value.ref b] below meth c D vwCl (fun q : Nat => s.heap.size ≤ q) 4 37 293742 (lw_Z below #[Value.ref b] s) (CW a cI cJ cC u' ++ MW a2 cI cJ cZ v') 970 [(3, .int (nI i)), (0, .ref b), (1, .ref (a 0)), (2, .ref (a2 0))] []) : zW p l e room_1 s m #[Value.ref b] below meth c D vwCl (fun q : Nat => s.heap.size ≤ q) 4 37 293742 (lw_Z below #[Value.ref b] s) (CW a cI cJ cC u ++ MW a2 cI cJ cZ v) 311 [(3, .int (nI i)), (0, .ref b), (1, .ref (a 0)), (2, .ref (a2 0))] [] := by
  obtain ⟨hu, hm, hrv, ho⟩ := Ho u v hR
  refine z_aload_n (pc := 311) K d_L_law_311 rfl ?_
  refine z_aload_n (pc := 312) K d_L_law_312 rfl ?_
  refine z_iload_n (pc := 313) K d_L_law_313 rfl ?_
  refine z_iconst (pc := 314) K (v := 1) d_L_law_314 (by decide) ?_
  refine z_iadd (pc := 315) K d_L_law_315 ?_
  refine z_sld (pc := 316) K X d_L_law_316 (in_k (k := 1) hL (by omega)) ?_
  refine z_aload_n (pc := 317) K d_L_law_317 rfl ?_
  refine z_iload_n (pc := 318) K d_L_law_318 rfl ?_
  refine z_iconst (pc := 319) K (v := 2) d_L_law_319 (by decide) ?_
  refine z_iadd (pc := 320) K d_L_law_320 ?_
  refine z_sld (pc := 321) K X d_L_law_321 (in_k (k := 2) hL (by omega)) ?_
  refine z_gVi (pc := 322) K 0 (c_D_relate u (xs (nI i + 1).toNatClampNeg) (xs (nI i + 2).toNatClampNeg) hu) (cwA K 2 k178 k179 k180 k1 k181 q_D_relate ⟨Nat.le_of_ble_eq_true rfl, Nat.le_of_ble_eq_true rfl⟩) d_L_law_322 rfl rfl rfl rfl rfl (Nat.le_of_ble_eq_true rfl) ⟨Nat.le_of_ble_eq_true rfl, Nat.le_of_ble_eq_true rfl⟩ ?_
  refine z_aload_n (pc := 325) K d_L_law_325 rfl ?_
  refine z_aload_n (pc := 326) K d_L_law_326 rfl ?_
  refine z_iload_n (pc := 327) K d_L_law_327 rfl ?_
  refine z_iconst (pc := 328) K (v := 1) d_L_law_328 (by decide) ?_
  refine z_iadd (pc := 329) K d_L_law_329 ?_
  refine z_sld (pc := 330) K X d_L_law_330 (in_k (k := 1) hL (by omega)) ?_
  refine z_aload_n (pc := 331) K d_L_law_331 rfl ?_
  refine z_iload_n (pc := 332) K d_L_law_332 rfl ?_
  refine z_iconst (pc := 333) K (v := 2) d_L_law_333 (by decide) ?_
  refine z_iadd (pc := 334) K d_L_law_334 ?_
  refine z_sld (pc := 335) K X d_L_law_335 (in_k (k := 2) hL (by omega)) ?_
  refine z_fVi (pc := 336) K 0 (m_relate_c v (xs (nI i + 1).toNatClampNeg) (xs (nI i + 2).toNatClampNeg) hm) (cwA K 2 k580 k581 k582 k7 k583 q_M_relate ⟨Nat.le_of_ble_eq_true rfl, Nat.le_of_ble_eq_true rfl⟩) d_L_law_336 rfl rfl rfl rfl rfl (Nat.le_of_ble_eq_true rfl) ⟨Nat.le_of_ble_eq_true rfl, Nat.le_of_ble_eq_true rfl⟩ ?_
  refine z_icmp_eq (pc := 339) K (tgt := 970) d_L_law_339 (by decide) (fun c339 => ?_) (fun c339 => ?_)
  · exact kk u v hR
  · exact absurd (Hc u v (xs (nI i + 1).toNatClampNeg) (xs (nI i + 2).toNatClampNeg) hR) c339
set_option maxRecDepth 100000 in
set_option maxHeartbeats 4000000 in
theorem law_about {p : Program} {l : Launch} {e : Env} {s : State} {m : MethodId} {below : List Frame} {meth : Method} {c : Code} {D : va_G} {a a2 : Nat → Nat} {cI cJ cC cZ : ClassId} {b L i : Nat} {xs : Nat → Int32} {Rel : US → MS → Prop} {u : US} {v : MS} (K : Cx p s m #[Value.ref b] c code 4 "DemandTermsLaw" AW D vwCl (CT cI cJ cC cZ) (fun q : Nat => s.heap.size ≤ q)) (X : va_X b L xs s s.heap ∧ b < s.heap.size ∧ ¬ (fun q : Nat => s.heap.size ≤ q) b) (hL : L ≤ 3584) (hi : i + 7 ≤ L) (hR : Rel u v) (Ho : H_ok Rel) (Hc : H_about Rel) (kk : ∀ (u' : US) (v' : MS), Rel u' v' → zW p l e room_1 s m #[Value.ref b] below meth c D vwCl (fun q : Nat => s.heap.size ≤ q) 4 37 293742 (lw_Z below #[Value.ref b] s) (CW a cI cJ cC u' ++ MW a2 cI cJ cZ v') 970 [(3, .int (nI i)), (0, .ref b), (1, .ref (a 0)), (2, .ref (a2 0))] []) : zW p l e room_1 s m #[Value.ref b] below meth c D vwCl (fun q : Nat => s.heap.size ≤ q) 4 37 293742 (lw_Z below #[Value.ref b] s) (CW a cI cJ cC u ++ MW a2 cI cJ cZ v) 344 [(3, .int (nI i)), (0, .ref b), (1, .ref (a 0)), (2, .ref (a2 0))] [] := by
  obtain ⟨hu, hm, hrv, ho⟩ := Ho u v hR
  refine z_aload_n (pc := 344) K d_L_law_344 rfl ?_
  refine z_aload_n (pc := 345) K d_L_law_345 rfl ?_
  refine z_iload_n (pc := 346) K d_L_law_346 rfl ?_
  refine z_iconst (pc := 347) K (v := 1) d_L_law_347 (by decide) ?_
  refine z_iadd (pc := 348) K d_L_law_348 ?_
  refine z_sld (pc := 349) K X d_L_law_349 (in_k (k := 1) hL (by omega)) ?_
  refine z_aload_n (pc := 350) K d_L_law_350 rfl ?_
  refine z_iload_n (pc := 351) K d_L_law_351 rfl ?_
  refine z_iconst (pc := 352) K (v := 2) d_L_law_352 (by decide) ?_
  refine z_iadd (pc := 353) K d_L_law_353 ?_
  refine z_sld (pc := 354) K X d_L_law_354 (in_k (k := 2) hL (by omega)) ?_
  refine z_gVi (pc := 355) K 0 (c_D_about u (xs (nI i + 1).toNatClampNeg) (xs (nI i + 2).toNatClampNeg) hu) (cwA K 2 k186 k187 k188 k1 k189 q_D_about ⟨Nat.le_of_ble_eq_true rfl, Nat.le_of_ble_eq_true rfl⟩) d_L_law_355 rfl rfl rfl rfl rfl (Nat.le_of_ble_eq_true rfl) ⟨Nat.le_of_ble_eq_true rfl, Nat.le_of_ble_eq_true rfl⟩ ?_
  refine z_aload_n (pc := 358) K d_L_law_358 rfl ?_
  refine z_aload_n (pc := 359) K d_L_law_359 rfl ?_
  refine z_iload_n (pc := 360) K d_L_law_360 rfl ?_
  refine z_iconst (pc := 361) K (v := 1) d_L_law_361 (by decide) ?_
  refine z_iadd (pc := 362) K d_L_law_362 ?_
  refine z_sld (pc := 363) K X d_L_law_363 (in_k (k := 1) hL (by omega)) ?_
  refine z_aload_n (pc := 364) K d_L_law_364 rfl ?_
  refine z_iload_n (pc := 365) K d_L_law_365 rfl ?_
  refine z_iconst (pc := 366) K (v := 2) d_L_law_366 (by decide) ?_
  refine z_iadd (pc := 367) K d_L_law_367 ?_
  refine z_sld (pc := 368) K X d_L_law_368 (in_k (k := 2) hL (by omega)) ?_
  refine z_fVi (pc := 369) K 0 (m_about_c v (xs (nI i + 1).toNatClampNeg) (xs (nI i + 2).toNatClampNeg) hm) (cwA K 2 k588 k589 k590 k7 k591 q_M_about ⟨Nat.le_of_ble_eq_true rfl, Nat.le_of_ble_eq_true rfl⟩) d_L_law_369 rfl rfl rfl rfl rfl (Nat.le_of_ble_eq_true rfl) ⟨Nat.le_of_ble_eq_true rfl, Nat.le_of_ble_eq_true rfl⟩ ?_
  refine z_icmp_eq (pc := 372) K (tgt := 970) d_L_law_372 (by decide) (fun c372 => ?_) (fun c372 => ?_)
  · exact kk u v hR
  · exact absurd (Hc u v (xs (nI i + 1).toNatClampNeg) (xs (nI i + 2).toNatClampNeg) hR) c372
set_option maxRecDepth 100000 in
set_option maxHeartbeats 4000000 in
theorem law_set {p : Program} {l : Launch} {e : Env} {s : State} {m : MethodId} {below : List Frame} {meth : Method} {c : Code} {D : va_G} {a a2 : Nat → Nat} {cI cJ cC cZ : ClassId} {b L i : Nat} {xs : Nat → Int32} {Rel : US → MS → Prop} {u : US} {v : MS} (K : Cx p s m #[Value.ref b] c code 4 "DemandTermsLaw" AW D vwCl (CT cI cJ cC cZ) (fun q : Nat => s.heap.size ≤ q)) (X : va_X b L xs s s.heap ∧ b < s.heap.size ∧ ¬ (fun q : Nat => s.heap.size ≤ q) b) (hL : L ≤ 3584) (hi : i + 7 ≤ L) (hR : Rel u v) (Ho : H_ok Rel) (Hc : H_set Rel) (kk : ∀ (u' : US) (v' : MS), Rel u' v' → zW p l e room_1 s m #[Value.ref b] below meth c D vwCl (fun q : Nat => s.heap.size ≤ q) 4 37 293742 (lw_Z below #[Value.ref b] s) (CW a cI cJ cC u' ++ MW a2 cI cJ cZ v') 970 [(3, .int (nI i)), (0, .ref b), (1, .ref (a 0)), (2, .ref (a2 0))] []) : zW p l e room_1 s m #[Value.ref b] below meth c D vwCl (fun q : Nat => s.heap.size ≤ q) 4 37 293742 (lw_Z below #[Value.ref b] s) (CW a cI cJ cC u ++ MW a2 cI cJ cZ v) 377 [(3, .int (nI i)), (0, .ref b), (1, .ref (a 0)), (2, .ref (a2 0))] [] := by
  obtain ⟨hu, hm, hrv, ho⟩ := Ho u v hR
  refine z_aload_n (pc := 377) K d_L_law_377 rfl ?_
  refine z_aload_n (pc := 378) K d_L_law_378 rfl ?_
  refine z_iload_n (pc := 379) K d_L_law_379 rfl ?_
  refine z_iconst (pc := 380) K (v := 1) d_L_law_380 (by decide) ?_
  refine z_iadd (pc := 381) K d_L_law_381 ?_
  refine z_sld (pc := 382) K X d_L_law_382 (in_k (k := 1) hL (by omega)) ?_
  refine z_gVl (pc := 383) K 0 (c_D_set u (xs (nI i + 1).toNatClampNeg) hu) (cwA K 1 k209 k210 k211 k1 k212 q_D_set ⟨Nat.le_of_ble_eq_true rfl, Nat.le_of_ble_eq_true rfl⟩) d_L_law_383 rfl rfl rfl rfl rfl (Nat.le_of_ble_eq_true rfl) ⟨Nat.le_of_ble_eq_true rfl, Nat.le_of_ble_eq_true rfl⟩ ?_
  refine z_aload_n (pc := 386) K d_L_law_386 rfl ?_
  refine z_aload_n (pc := 387) K d_L_law_387 rfl ?_
  refine z_iload_n (pc := 388) K d_L_law_388 rfl ?_
  refine z_iconst (pc := 389) K (v := 1) d_L_law_389 (by decide) ?_
  refine z_iadd (pc := 390) K d_L_law_390 ?_
  refine z_sld (pc := 391) K X d_L_law_391 (in_k (k := 1) hL (by omega)) ?_
  refine z_fVl (pc := 392) K 0 (m_set_c v (xs (nI i + 1).toNatClampNeg) hm) (cwA K 1 k604 k605 k606 k7 k607 q_M_set ⟨Nat.le_of_ble_eq_true rfl, Nat.le_of_ble_eq_true rfl⟩) d_L_law_392 rfl rfl rfl rfl rfl (Nat.le_of_ble_eq_true rfl) ⟨Nat.le_of_ble_eq_true rfl, Nat.le_of_ble_eq_true rfl⟩ ?_
  refine z_lcmp (pc := 395) K d_L_law_395 ?_
  refine z_ifl_eq (pc := 396) K (tgt := 970) d_L_law_396 (by decide) (fun c396 => ?_) (fun c396 => ?_)
  · exact kk u v hR
  · exact absurd (Hc u v (xs (nI i + 1).toNatClampNeg) hR) c396
set_option maxRecDepth 100000 in
set_option maxHeartbeats 4000000 in
theorem law_needs {p : Program} {l : Launch} {e : Env} {s : State} {m : MethodId} {below : List Frame} {meth : Method} {c : Code} {D : va_G} {a a2 : Nat → Nat} {cI cJ cC cZ : ClassId} {b L i : Nat} {xs : Nat → Int32} {Rel : US → MS → Prop} {u : US} {v : MS} (K : Cx p s m #[Value.ref b] c code 4 "DemandTermsLaw" AW D vwCl (CT cI cJ cC cZ) (fun q : Nat => s.heap.size ≤ q)) (X : va_X b L xs s s.heap ∧ b < s.heap.size ∧ ¬ (fun q : Nat => s.heap.size ≤ q) b) (hL : L ≤ 3584) (hi : i + 7 ≤ L) (hR : Rel u v) (Ho : H_ok Rel) (Hc : H_needs Rel) (kk : ∀ (u' : US) (v' : MS), Rel u' v' → zW p l e room_1 s m #[Value.ref b] below meth c D vwCl (fun q : Nat => s.heap.size ≤ q) 4 37 293742 (lw_Z below #[Value.ref b] s) (CW a cI cJ cC u' ++ MW a2 cI cJ cZ v') 970 [(3, .int (nI i)), (0, .ref b), (1, .ref (a 0)), (2, .ref (a2 0))] []) : zW p l e room_1 s m #[Value.ref b] below meth c D vwCl (fun q : Nat => s.heap.size ≤ q) 4 37 293742 (lw_Z below #[Value.ref b] s) (CW a cI cJ cC u ++ MW a2 cI cJ cZ v) 401 [(3, .int (nI i)), (0, .ref b), (1, .ref (a 0)), (2, .ref (a2 0))] [] := by
  obtain ⟨hu, hm, hrv, ho⟩ := Ho u v hR
  refine z_aload_n (pc := 401) K d_L_law_401 rfl ?_
  refine z_aload_n (pc := 402) K d_L_law_402 rfl ?_
  refine z_iload_n (pc := 403) K d_L_law_403 rfl ?_
  refine z_iconst (pc := 404) K (v := 1) d_L_law_404 (by decide) ?_
  refine z_iadd (pc := 405) K d_L_law_405 ?_
  refine z_sld (pc := 406) K X d_L_law_406 (in_k (k := 1) hL (by omega)) ?_
  refine z_aload_n (pc := 407) K d_L_law_407 rfl ?_
  refine z_iload_n (pc := 408) K d_L_law_408 rfl ?_
  refine z_iconst (pc := 409) K (v := 2) d_L_law_409 (by decide) ?_
  refine z_iadd (pc := 410) K d_L_law_410 ?_
  refine z_sld (pc := 411) K X d_L_law_411 (in_k (k := 2) hL (by omega)) ?_
  refine z_aload_n (pc := 412) K d_L_law_412 rfl ?_
  refine z_iload_n (pc := 413) K d_L_law_413 rfl ?_
  refine z_iconst (pc := 414) K (v := 3) d_L_law_414 (by decide) ?_
  refine z_iadd (pc := 415) K d_L_law_415 ?_
  refine z_sld (pc := 416) K X d_L_law_416 (in_k (k := 3) hL (by omega)) ?_
  refine z_aload_n (pc := 417) K d_L_law_417 rfl ?_
  refine z_iload_n (pc := 418) K d_L_law_418 rfl ?_
  refine z_iconst (pc := 419) K (v := 4) d_L_law_419 (by decide) ?_
  refine z_iadd (pc := 420) K d_L_law_420 ?_
  refine z_sld (pc := 421) K X d_L_law_421 (in_k (k := 4) hL (by omega)) ?_
  refine z_i2l (pc := 422) K d_L_law_422 ?_
  refine z_bipush (pc := 423) K (v := 32) d_L_law_423 (by decide) ?_
  refine z_lshl (pc := 425) K d_L_law_425 ?_
  refine z_aload_n (pc := 426) K d_L_law_426 rfl ?_
  refine z_iload_n (pc := 427) K d_L_law_427 rfl ?_
  refine z_iconst (pc := 428) K (v := 5) d_L_law_428 (by decide) ?_
  refine z_iadd (pc := 429) K d_L_law_429 ?_
  refine z_sld (pc := 430) K X d_L_law_430 (in_k (k := 5) hL (by omega)) ?_
  refine z_i2l (pc := 431) K d_L_law_431 ?_
  refine z_ldc2 (pc := 432) K (v := 4294967295) k760 d_L_law_432 ?_
  refine z_land (pc := 435) K d_L_law_435 ?_
  refine z_lor (pc := 436) K d_L_law_436 ?_
  refine z_aload_n (pc := 437) K d_L_law_437 rfl ?_
  refine z_iload_n (pc := 438) K d_L_law_438 rfl ?_
  refine z_bipush (pc := 439) K (v := 6) d_L_law_439 (by decide) ?_
  refine z_iadd (pc := 441) K d_L_law_441 ?_
  refine z_sld (pc := 442) K X d_L_law_442 (in_k (k := 6) hL (by omega)) ?_
  refine z_gVi (pc := 443) K 0 (c_D_needs u (xs (nI i + 1).toNatClampNeg) (xs (nI i + 2).toNatClampNeg) (xs (nI i + 3).toNatClampNeg) (((xs (nI i + 4).toNatClampNeg).toInt64 <<< ((32 : Int32).toInt64 &&& 63)) ||| ((xs (nI i + 5).toNatClampNeg).toInt64 &&& 4294967295)) (xs (nI i + 6).toNatClampNeg) hu) (cwA K 5 k213 k214 k215 k1 k216 q_D_needs ⟨Nat.le_of_ble_eq_true rfl, Nat.le_of_ble_eq_true rfl⟩) d_L_law_443 rfl rfl rfl rfl rfl (Nat.le_of_ble_eq_true rfl) ⟨Nat.le_of_ble_eq_true rfl, Nat.le_of_ble_eq_true rfl⟩ ?_
  refine z_aload_n (pc := 446) K d_L_law_446 rfl ?_
  refine z_aload_n (pc := 447) K d_L_law_447 rfl ?_
  refine z_iload_n (pc := 448) K d_L_law_448 rfl ?_
  refine z_iconst (pc := 449) K (v := 1) d_L_law_449 (by decide) ?_
  refine z_iadd (pc := 450) K d_L_law_450 ?_
  refine z_sld (pc := 451) K X d_L_law_451 (in_k (k := 1) hL (by omega)) ?_
  refine z_aload_n (pc := 452) K d_L_law_452 rfl ?_
  refine z_iload_n (pc := 453) K d_L_law_453 rfl ?_
  refine z_iconst (pc := 454) K (v := 2) d_L_law_454 (by decide) ?_
  refine z_iadd (pc := 455) K d_L_law_455 ?_
  refine z_sld (pc := 456) K X d_L_law_456 (in_k (k := 2) hL (by omega)) ?_
  refine z_aload_n (pc := 457) K d_L_law_457 rfl ?_
  refine z_iload_n (pc := 458) K d_L_law_458 rfl ?_
  refine z_iconst (pc := 459) K (v := 3) d_L_law_459 (by decide) ?_
  refine z_iadd (pc := 460) K d_L_law_460 ?_
  refine z_sld (pc := 461) K X d_L_law_461 (in_k (k := 3) hL (by omega)) ?_
  refine z_aload_n (pc := 462) K d_L_law_462 rfl ?_
  refine z_iload_n (pc := 463) K d_L_law_463 rfl ?_
  refine z_iconst (pc := 464) K (v := 4) d_L_law_464 (by decide) ?_
  refine z_iadd (pc := 465) K d_L_law_465 ?_
  refine z_sld (pc := 466) K X d_L_law_466 (in_k (k := 4) hL (by omega)) ?_
  refine z_i2l (pc := 467) K d_L_law_467 ?_
  refine z_bipush (pc := 468) K (v := 32) d_L_law_468 (by decide) ?_
  refine z_lshl (pc := 470) K d_L_law_470 ?_
  refine z_aload_n (pc := 471) K d_L_law_471 rfl ?_
  refine z_iload_n (pc := 472) K d_L_law_472 rfl ?_
  refine z_iconst (pc := 473) K (v := 5) d_L_law_473 (by decide) ?_
  refine z_iadd (pc := 474) K d_L_law_474 ?_
  refine z_sld (pc := 475) K X d_L_law_475 (in_k (k := 5) hL (by omega)) ?_
  refine z_i2l (pc := 476) K d_L_law_476 ?_
  refine z_ldc2 (pc := 477) K (v := 4294967295) k760 d_L_law_477 ?_
  refine z_land (pc := 480) K d_L_law_480 ?_
  refine z_lor (pc := 481) K d_L_law_481 ?_
  refine z_aload_n (pc := 482) K d_L_law_482 rfl ?_
  refine z_iload_n (pc := 483) K d_L_law_483 rfl ?_
  refine z_bipush (pc := 484) K (v := 6) d_L_law_484 (by decide) ?_
  refine z_iadd (pc := 486) K d_L_law_486 ?_
  refine z_sld (pc := 487) K X d_L_law_487 (in_k (k := 6) hL (by omega)) ?_
  refine z_fVi (pc := 488) K 0 (m_needs_c v (xs (nI i + 1).toNatClampNeg) (xs (nI i + 2).toNatClampNeg) (xs (nI i + 3).toNatClampNeg) (((xs (nI i + 4).toNatClampNeg).toInt64 <<< ((32 : Int32).toInt64 &&& 63)) ||| ((xs (nI i + 5).toNatClampNeg).toInt64 &&& 4294967295)) (xs (nI i + 6).toNatClampNeg) hm) (cwA K 5 k612 k613 k614 k7 k615 q_M_needs ⟨Nat.le_of_ble_eq_true rfl, Nat.le_of_ble_eq_true rfl⟩) d_L_law_488 rfl rfl rfl rfl rfl (Nat.le_of_ble_eq_true rfl) ⟨Nat.le_of_ble_eq_true rfl, Nat.le_of_ble_eq_true rfl⟩ ?_
  refine z_icmp_eq (pc := 491) K (tgt := 970) d_L_law_491 (by decide) (fun c491 => ?_) (fun c491 => ?_)
  · exact kk _ _ (Hc u v (xs (nI i + 1).toNatClampNeg) (xs (nI i + 2).toNatClampNeg) (xs (nI i + 3).toNatClampNeg) (((xs (nI i + 4).toNatClampNeg).toInt64 <<< ((32 : Int32).toInt64 &&& 63)) ||| ((xs (nI i + 5).toNatClampNeg).toInt64 &&& 4294967295)) (xs (nI i + 6).toNatClampNeg) hR).2
  · exact absurd (congrArg bI (Hc u v (xs (nI i + 1).toNatClampNeg) (xs (nI i + 2).toNatClampNeg) (xs (nI i + 3).toNatClampNeg) (((xs (nI i + 4).toNatClampNeg).toInt64 <<< ((32 : Int32).toInt64 &&& 63)) ||| ((xs (nI i + 5).toNatClampNeg).toInt64 &&& 4294967295)) (xs (nI i + 6).toNatClampNeg) hR).1) c491
set_option maxRecDepth 100000 in
set_option maxHeartbeats 4000000 in
theorem law_derive {p : Program} {l : Launch} {e : Env} {s : State} {m : MethodId} {below : List Frame} {meth : Method} {c : Code} {D : va_G} {a a2 : Nat → Nat} {cI cJ cC cZ : ClassId} {b L i : Nat} {xs : Nat → Int32} {Rel : US → MS → Prop} {u : US} {v : MS} (K : Cx p s m #[Value.ref b] c code 4 "DemandTermsLaw" AW D vwCl (CT cI cJ cC cZ) (fun q : Nat => s.heap.size ≤ q)) (X : va_X b L xs s s.heap ∧ b < s.heap.size ∧ ¬ (fun q : Nat => s.heap.size ≤ q) b) (hL : L ≤ 3584) (hi : i + 7 ≤ L) (hR : Rel u v) (Ho : H_ok Rel) (Hc : H_derive Rel) (kk : ∀ (u' : US) (v' : MS), Rel u' v' → zW p l e room_1 s m #[Value.ref b] below meth c D vwCl (fun q : Nat => s.heap.size ≤ q) 4 37 293742 (lw_Z below #[Value.ref b] s) (CW a cI cJ cC u' ++ MW a2 cI cJ cZ v') 970 [(3, .int (nI i)), (0, .ref b), (1, .ref (a 0)), (2, .ref (a2 0))] []) : zW p l e room_1 s m #[Value.ref b] below meth c D vwCl (fun q : Nat => s.heap.size ≤ q) 4 37 293742 (lw_Z below #[Value.ref b] s) (CW a cI cJ cC u ++ MW a2 cI cJ cZ v) 496 [(3, .int (nI i)), (0, .ref b), (1, .ref (a 0)), (2, .ref (a2 0))] [] := by
  obtain ⟨hu, hm, hrv, ho⟩ := Ho u v hR
  refine z_aload_n (pc := 496) K d_L_law_496 rfl ?_
  refine z_aload_n (pc := 497) K d_L_law_497 rfl ?_
  refine z_iload_n (pc := 498) K d_L_law_498 rfl ?_
  refine z_iconst (pc := 499) K (v := 1) d_L_law_499 (by decide) ?_
  refine z_iadd (pc := 500) K d_L_law_500 ?_
  refine z_sld (pc := 501) K X d_L_law_501 (in_k (k := 1) hL (by omega)) ?_
  refine z_aload_n (pc := 502) K d_L_law_502 rfl ?_
  refine z_iload_n (pc := 503) K d_L_law_503 rfl ?_
  refine z_iconst (pc := 504) K (v := 2) d_L_law_504 (by decide) ?_
  refine z_iadd (pc := 505) K d_L_law_505 ?_
  refine z_sld (pc := 506) K X d_L_law_506 (in_k (k := 2) hL (by omega)) ?_
  refine z_gVi (pc := 507) K 0 (c_D_derive u (xs (nI i + 1).toNatClampNeg) (xs (nI i + 2).toNatClampNeg) hu hrv) (cwA K 2 k228 k229 k230 k1 k231 q_D_derive ⟨Nat.le_of_ble_eq_true rfl, Nat.le_of_ble_eq_true rfl⟩) d_L_law_507 rfl rfl rfl rfl rfl (Nat.le_of_ble_eq_true rfl) ⟨Nat.le_of_ble_eq_true rfl, Nat.le_of_ble_eq_true rfl⟩ ?_
  refine z_aload_n (pc := 510) K d_L_law_510 rfl ?_
  refine z_aload_n (pc := 511) K d_L_law_511 rfl ?_
  refine z_iload_n (pc := 512) K d_L_law_512 rfl ?_
  refine z_iconst (pc := 513) K (v := 1) d_L_law_513 (by decide) ?_
  refine z_iadd (pc := 514) K d_L_law_514 ?_
  refine z_sld (pc := 515) K X d_L_law_515 (in_k (k := 1) hL (by omega)) ?_
  refine z_aload_n (pc := 516) K d_L_law_516 rfl ?_
  refine z_iload_n (pc := 517) K d_L_law_517 rfl ?_
  refine z_iconst (pc := 518) K (v := 2) d_L_law_518 (by decide) ?_
  refine z_iadd (pc := 519) K d_L_law_519 ?_
  refine z_sld (pc := 520) K X d_L_law_520 (in_k (k := 2) hL (by omega)) ?_
  refine z_fVi (pc := 521) K 0 (m_derive_c v (xs (nI i + 1).toNatClampNeg) (xs (nI i + 2).toNatClampNeg) hm) (cwA K 2 k620 k621 k622 k7 k623 q_M_derive ⟨Nat.le_of_ble_eq_true rfl, Nat.le_of_ble_eq_true rfl⟩) d_L_law_521 rfl rfl rfl rfl rfl (Nat.le_of_ble_eq_true rfl) ⟨Nat.le_of_ble_eq_true rfl, Nat.le_of_ble_eq_true rfl⟩ ?_
  refine z_icmp_eq (pc := 524) K (tgt := 970) d_L_law_524 (by decide) (fun c524 => ?_) (fun c524 => ?_)
  · exact kk _ _ (Hc u v (xs (nI i + 1).toNatClampNeg) (xs (nI i + 2).toNatClampNeg) hR).2
  · exact absurd (Hc u v (xs (nI i + 1).toNatClampNeg) (xs (nI i + 2).toNatClampNeg) hR).1 c524
set_option maxRecDepth 100000 in
set_option maxHeartbeats 4000000 in
theorem law_bar {p : Program} {l : Launch} {e : Env} {s : State} {m : MethodId} {below : List Frame} {meth : Method} {c : Code} {D : va_G} {a a2 : Nat → Nat} {cI cJ cC cZ : ClassId} {b L i : Nat} {xs : Nat → Int32} {Rel : US → MS → Prop} {u : US} {v : MS} (K : Cx p s m #[Value.ref b] c code 4 "DemandTermsLaw" AW D vwCl (CT cI cJ cC cZ) (fun q : Nat => s.heap.size ≤ q)) (X : va_X b L xs s s.heap ∧ b < s.heap.size ∧ ¬ (fun q : Nat => s.heap.size ≤ q) b) (hL : L ≤ 3584) (hi : i + 7 ≤ L) (hR : Rel u v) (Ho : H_ok Rel) (Hc : H_bar Rel) (kk : ∀ (u' : US) (v' : MS), Rel u' v' → zW p l e room_1 s m #[Value.ref b] below meth c D vwCl (fun q : Nat => s.heap.size ≤ q) 4 37 293742 (lw_Z below #[Value.ref b] s) (CW a cI cJ cC u' ++ MW a2 cI cJ cZ v') 970 [(3, .int (nI i)), (0, .ref b), (1, .ref (a 0)), (2, .ref (a2 0))] []) : zW p l e room_1 s m #[Value.ref b] below meth c D vwCl (fun q : Nat => s.heap.size ≤ q) 4 37 293742 (lw_Z below #[Value.ref b] s) (CW a cI cJ cC u ++ MW a2 cI cJ cZ v) 529 [(3, .int (nI i)), (0, .ref b), (1, .ref (a 0)), (2, .ref (a2 0))] [] := by
  obtain ⟨hu, hm, hrv, ho⟩ := Ho u v hR
  refine z_aload_n (pc := 529) K d_L_law_529 rfl ?_
  refine z_aload_n (pc := 530) K d_L_law_530 rfl ?_
  refine z_iload_n (pc := 531) K d_L_law_531 rfl ?_
  refine z_iconst (pc := 532) K (v := 1) d_L_law_532 (by decide) ?_
  refine z_iadd (pc := 533) K d_L_law_533 ?_
  refine z_sld (pc := 534) K X d_L_law_534 (in_k (k := 1) hL (by omega)) ?_
  refine z_aload_n (pc := 535) K d_L_law_535 rfl ?_
  refine z_iload_n (pc := 536) K d_L_law_536 rfl ?_
  refine z_iconst (pc := 537) K (v := 2) d_L_law_537 (by decide) ?_
  refine z_iadd (pc := 538) K d_L_law_538 ?_
  refine z_sld (pc := 539) K X d_L_law_539 (in_k (k := 2) hL (by omega)) ?_
  refine z_i2l (pc := 540) K d_L_law_540 ?_
  refine z_bipush (pc := 541) K (v := 32) d_L_law_541 (by decide) ?_
  refine z_lshl (pc := 543) K d_L_law_543 ?_
  refine z_aload_n (pc := 544) K d_L_law_544 rfl ?_
  refine z_iload_n (pc := 545) K d_L_law_545 rfl ?_
  refine z_iconst (pc := 546) K (v := 3) d_L_law_546 (by decide) ?_
  refine z_iadd (pc := 547) K d_L_law_547 ?_
  refine z_sld (pc := 548) K X d_L_law_548 (in_k (k := 3) hL (by omega)) ?_
  refine z_i2l (pc := 549) K d_L_law_549 ?_
  refine z_ldc2 (pc := 550) K (v := 4294967295) k760 d_L_law_550 ?_
  refine z_land (pc := 553) K d_L_law_553 ?_
  refine z_lor (pc := 554) K d_L_law_554 ?_
  refine z_aload_n (pc := 555) K d_L_law_555 rfl ?_
  refine z_iload_n (pc := 556) K d_L_law_556 rfl ?_
  refine z_iconst (pc := 557) K (v := 4) d_L_law_557 (by decide) ?_
  refine z_iadd (pc := 558) K d_L_law_558 ?_
  refine z_sld (pc := 559) K X d_L_law_559 (in_k (k := 4) hL (by omega)) ?_
  refine z_if_eq (pc := 560) K (tgt := 567) d_L_law_560 (by decide) (fun c560 => ?_) (fun c560 => ?_)
  · refine z_iconst (pc := 567) K (v := 0) d_L_law_567 (by decide) ?_
    refine z_gVi (pc := 568) K 0 (c_D_bar u (xs (nI i + 1).toNatClampNeg) (((xs (nI i + 2).toNatClampNeg).toInt64 <<< ((32 : Int32).toInt64 &&& 63)) ||| ((xs (nI i + 3).toNatClampNeg).toInt64 &&& 4294967295)) 0 hu) (cwA K 3 k313 k314 k315 k1 k316 q_D_bar ⟨Nat.le_of_ble_eq_true rfl, Nat.le_of_ble_eq_true rfl⟩) d_L_law_568 rfl rfl rfl rfl rfl (Nat.le_of_ble_eq_true rfl) ⟨Nat.le_of_ble_eq_true rfl, Nat.le_of_ble_eq_true rfl⟩ ?_
    refine z_aload_n (pc := 571) K d_L_law_571 rfl ?_
    refine z_aload_n (pc := 572) K d_L_law_572 rfl ?_
    refine z_iload_n (pc := 573) K d_L_law_573 rfl ?_
    refine z_iconst (pc := 574) K (v := 1) d_L_law_574 (by decide) ?_
    refine z_iadd (pc := 575) K d_L_law_575 ?_
    refine z_sld (pc := 576) K X d_L_law_576 (in_k (k := 1) hL (by omega)) ?_
    refine z_aload_n (pc := 577) K d_L_law_577 rfl ?_
    refine z_iload_n (pc := 578) K d_L_law_578 rfl ?_
    refine z_iconst (pc := 579) K (v := 2) d_L_law_579 (by decide) ?_
    refine z_iadd (pc := 580) K d_L_law_580 ?_
    refine z_sld (pc := 581) K X d_L_law_581 (in_k (k := 2) hL (by omega)) ?_
    refine z_i2l (pc := 582) K d_L_law_582 ?_
    refine z_bipush (pc := 583) K (v := 32) d_L_law_583 (by decide) ?_
    refine z_lshl (pc := 585) K d_L_law_585 ?_
    refine z_aload_n (pc := 586) K d_L_law_586 rfl ?_
    refine z_iload_n (pc := 587) K d_L_law_587 rfl ?_
    refine z_iconst (pc := 588) K (v := 3) d_L_law_588 (by decide) ?_
    refine z_iadd (pc := 589) K d_L_law_589 ?_
    refine z_sld (pc := 590) K X d_L_law_590 (in_k (k := 3) hL (by omega)) ?_
    refine z_i2l (pc := 591) K d_L_law_591 ?_
    refine z_ldc2 (pc := 592) K (v := 4294967295) k760 d_L_law_592 ?_
    refine z_land (pc := 595) K d_L_law_595 ?_
    refine z_lor (pc := 596) K d_L_law_596 ?_
    refine z_aload_n (pc := 597) K d_L_law_597 rfl ?_
    refine z_iload_n (pc := 598) K d_L_law_598 rfl ?_
    refine z_iconst (pc := 599) K (v := 4) d_L_law_599 (by decide) ?_
    refine z_iadd (pc := 600) K d_L_law_600 ?_
    refine z_sld (pc := 601) K X d_L_law_601 (in_k (k := 4) hL (by omega)) ?_
    refine z_if_eq (pc := 602) K (tgt := 609) d_L_law_602 (by decide) (fun c602 => ?_) (fun c602 => ?_)
    · refine z_iconst (pc := 609) K (v := 0) d_L_law_609 (by decide) ?_
      refine z_eqi (y := bI false) rfl ?_
      refine z_fVi (pc := 610) K 0 (m_bar_c v (xs (nI i + 1).toNatClampNeg) (((xs (nI i + 2).toNatClampNeg).toInt64 <<< ((32 : Int32).toInt64 &&& 63)) ||| ((xs (nI i + 3).toNatClampNeg).toInt64 &&& 4294967295)) false hm) (cwA K 3 k656 k657 k658 k7 k659 q_M_bar ⟨Nat.le_of_ble_eq_true rfl, Nat.le_of_ble_eq_true rfl⟩) d_L_law_610 rfl rfl rfl rfl rfl (Nat.le_of_ble_eq_true rfl) ⟨Nat.le_of_ble_eq_true rfl, Nat.le_of_ble_eq_true rfl⟩ ?_
      refine z_icmp_eq (pc := 613) K (tgt := 970) d_L_law_613 (by decide) (fun c613 => ?_) (fun c613 => ?_)
      · exact kk _ _ (Hc u v (xs (nI i + 1).toNatClampNeg) (((xs (nI i + 2).toNatClampNeg).toInt64 <<< ((32 : Int32).toInt64 &&& 63)) ||| ((xs (nI i + 3).toNatClampNeg).toInt64 &&& 4294967295)) false hR).2
      · exact absurd (Hc u v (xs (nI i + 1).toNatClampNeg) (((xs (nI i + 2).toNatClampNeg).toInt64 <<< ((32 : Int32).toInt64 &&& 63)) ||| ((xs (nI i + 3).toNatClampNeg).toInt64 &&& 4294967295)) false hR).1 c613
    · exact absurd c560 c602
  · refine z_iconst (pc := 563) K (v := 1) d_L_law_563 (by decide) ?_
    refine z_goto (pc := 564) K (tgt := 568) d_L_law_564 (by decide) ?_
    refine z_gVi (pc := 568) K 0 (c_D_bar u (xs (nI i + 1).toNatClampNeg) (((xs (nI i + 2).toNatClampNeg).toInt64 <<< ((32 : Int32).toInt64 &&& 63)) ||| ((xs (nI i + 3).toNatClampNeg).toInt64 &&& 4294967295)) 1 hu) (cwA K 3 k313 k314 k315 k1 k316 q_D_bar ⟨Nat.le_of_ble_eq_true rfl, Nat.le_of_ble_eq_true rfl⟩) d_L_law_568 rfl rfl rfl rfl rfl (Nat.le_of_ble_eq_true rfl) ⟨Nat.le_of_ble_eq_true rfl, Nat.le_of_ble_eq_true rfl⟩ ?_
    refine z_aload_n (pc := 571) K d_L_law_571 rfl ?_
    refine z_aload_n (pc := 572) K d_L_law_572 rfl ?_
    refine z_iload_n (pc := 573) K d_L_law_573 rfl ?_
    refine z_iconst (pc := 574) K (v := 1) d_L_law_574 (by decide) ?_
    refine z_iadd (pc := 575) K d_L_law_575 ?_
    refine z_sld (pc := 576) K X d_L_law_576 (in_k (k := 1) hL (by omega)) ?_
    refine z_aload_n (pc := 577) K d_L_law_577 rfl ?_
    refine z_iload_n (pc := 578) K d_L_law_578 rfl ?_
    refine z_iconst (pc := 579) K (v := 2) d_L_law_579 (by decide) ?_
    refine z_iadd (pc := 580) K d_L_law_580 ?_
    refine z_sld (pc := 581) K X d_L_law_581 (in_k (k := 2) hL (by omega)) ?_
    refine z_i2l (pc := 582) K d_L_law_582 ?_
    refine z_bipush (pc := 583) K (v := 32) d_L_law_583 (by decide) ?_
    refine z_lshl (pc := 585) K d_L_law_585 ?_
    refine z_aload_n (pc := 586) K d_L_law_586 rfl ?_
    refine z_iload_n (pc := 587) K d_L_law_587 rfl ?_
    refine z_iconst (pc := 588) K (v := 3) d_L_law_588 (by decide) ?_
    refine z_iadd (pc := 589) K d_L_law_589 ?_
    refine z_sld (pc := 590) K X d_L_law_590 (in_k (k := 3) hL (by omega)) ?_
    refine z_i2l (pc := 591) K d_L_law_591 ?_
    refine z_ldc2 (pc := 592) K (v := 4294967295) k760 d_L_law_592 ?_
    refine z_land (pc := 595) K d_L_law_595 ?_
    refine z_lor (pc := 596) K d_L_law_596 ?_
    refine z_aload_n (pc := 597) K d_L_law_597 rfl ?_
    refine z_iload_n (pc := 598) K d_L_law_598 rfl ?_
    refine z_iconst (pc := 599) K (v := 4) d_L_law_599 (by decide) ?_
    refine z_iadd (pc := 600) K d_L_law_600 ?_
    refine z_sld (pc := 601) K X d_L_law_601 (in_k (k := 4) hL (by omega)) ?_
    refine z_if_eq (pc := 602) K (tgt := 609) d_L_law_602 (by decide) (fun c602 => ?_) (fun c602 => ?_)
    · exact absurd c602 c560
    · refine z_iconst (pc := 605) K (v := 1) d_L_law_605 (by decide) ?_
      refine z_goto (pc := 606) K (tgt := 610) d_L_law_606 (by decide) ?_
      refine z_eqi (y := bI true) rfl ?_
      refine z_fVi (pc := 610) K 0 (m_bar_c v (xs (nI i + 1).toNatClampNeg) (((xs (nI i + 2).toNatClampNeg).toInt64 <<< ((32 : Int32).toInt64 &&& 63)) ||| ((xs (nI i + 3).toNatClampNeg).toInt64 &&& 4294967295)) true hm) (cwA K 3 k656 k657 k658 k7 k659 q_M_bar ⟨Nat.le_of_ble_eq_true rfl, Nat.le_of_ble_eq_true rfl⟩) d_L_law_610 rfl rfl rfl rfl rfl (Nat.le_of_ble_eq_true rfl) ⟨Nat.le_of_ble_eq_true rfl, Nat.le_of_ble_eq_true rfl⟩ ?_
      refine z_icmp_eq (pc := 613) K (tgt := 970) d_L_law_613 (by decide) (fun c613 => ?_) (fun c613 => ?_)
      · exact kk _ _ (Hc u v (xs (nI i + 1).toNatClampNeg) (((xs (nI i + 2).toNatClampNeg).toInt64 <<< ((32 : Int32).toInt64 &&& 63)) ||| ((xs (nI i + 3).toNatClampNeg).toInt64 &&& 4294967295)) true hR).2
      · exact absurd (Hc u v (xs (nI i + 1).toNatClampNeg) (((xs (nI i + 2).toNatClampNeg).toInt64 <<< ((32 : Int32).toInt64 &&& 63)) ||| ((xs (nI i + 3).toNatClampNeg).toInt64 &&& 4294967295)) true hR).1 c613
set_option maxRecDepth 100000 in
set_option maxHeartbeats 4000000 in
theorem law_learn {p : Program} {l : Launch} {e : Env} {s : State} {m : MethodId} {below : List Frame} {meth : Method} {c : Code} {D : va_G} {a a2 : Nat → Nat} {cI cJ cC cZ : ClassId} {b L i : Nat} {xs : Nat → Int32} {Rel : US → MS → Prop} {u : US} {v : MS} (K : Cx p s m #[Value.ref b] c code 4 "DemandTermsLaw" AW D vwCl (CT cI cJ cC cZ) (fun q : Nat => s.heap.size ≤ q)) (X : va_X b L xs s s.heap ∧ b < s.heap.size ∧ ¬ (fun q : Nat => s.heap.size ≤ q) b) (hL : L ≤ 3584) (hi : i + 7 ≤ L) (hR : Rel u v) (Ho : H_ok Rel) (Hc : H_learn Rel) (kk : ∀ (u' : US) (v' : MS), Rel u' v' → zW p l e room_1 s m #[Value.ref b] below meth c D vwCl (fun q : Nat => s.heap.size ≤ q) 4 37 293742 (lw_Z below #[Value.ref b] s) (CW a cI cJ cC u' ++ MW a2 cI cJ cZ v') 970 [(3, .int (nI i)), (0, .ref b), (1, .ref (a 0)), (2, .ref (a2 0))] []) : zW p l e room_1 s m #[Value.ref b] below meth c D vwCl (fun q : Nat => s.heap.size ≤ q) 4 37 293742 (lw_Z below #[Value.ref b] s) (CW a cI cJ cC u ++ MW a2 cI cJ cZ v) 618 [(3, .int (nI i)), (0, .ref b), (1, .ref (a 0)), (2, .ref (a2 0))] [] := by
  obtain ⟨hu, hm, hrv, ho⟩ := Ho u v hR
  refine z_aload_n (pc := 618) K d_L_law_618 rfl ?_
  refine z_aload_n (pc := 619) K d_L_law_619 rfl ?_
  refine z_iload_n (pc := 620) K d_L_law_620 rfl ?_
  refine z_iconst (pc := 621) K (v := 1) d_L_law_621 (by decide) ?_
  refine z_iadd (pc := 622) K d_L_law_622 ?_
  refine z_sld (pc := 623) K X d_L_law_623 (in_k (k := 1) hL (by omega)) ?_
  refine z_aload_n (pc := 624) K d_L_law_624 rfl ?_
  refine z_iload_n (pc := 625) K d_L_law_625 rfl ?_
  refine z_iconst (pc := 626) K (v := 2) d_L_law_626 (by decide) ?_
  refine z_iadd (pc := 627) K d_L_law_627 ?_
  refine z_sld (pc := 628) K X d_L_law_628 (in_k (k := 2) hL (by omega)) ?_
  refine z_aload_n (pc := 629) K d_L_law_629 rfl ?_
  refine z_iload_n (pc := 630) K d_L_law_630 rfl ?_
  refine z_iconst (pc := 631) K (v := 3) d_L_law_631 (by decide) ?_
  refine z_iadd (pc := 632) K d_L_law_632 ?_
  refine z_sld (pc := 633) K X d_L_law_633 (in_k (k := 3) hL (by omega)) ?_
  refine z_gVi (pc := 634) K 0 (c_D_learn u (xs (nI i + 1).toNatClampNeg) (xs (nI i + 2).toNatClampNeg) (xs (nI i + 3).toNatClampNeg) hu) (cwA K 3 k317 k318 k319 k1 k320 q_D_learn ⟨Nat.le_of_ble_eq_true rfl, Nat.le_of_ble_eq_true rfl⟩) d_L_law_634 rfl rfl rfl rfl rfl (Nat.le_of_ble_eq_true rfl) ⟨Nat.le_of_ble_eq_true rfl, Nat.le_of_ble_eq_true rfl⟩ ?_
  refine z_aload_n (pc := 637) K d_L_law_637 rfl ?_
  refine z_aload_n (pc := 638) K d_L_law_638 rfl ?_
  refine z_iload_n (pc := 639) K d_L_law_639 rfl ?_
  refine z_iconst (pc := 640) K (v := 1) d_L_law_640 (by decide) ?_
  refine z_iadd (pc := 641) K d_L_law_641 ?_
  refine z_sld (pc := 642) K X d_L_law_642 (in_k (k := 1) hL (by omega)) ?_
  refine z_aload_n (pc := 643) K d_L_law_643 rfl ?_
  refine z_iload_n (pc := 644) K d_L_law_644 rfl ?_
  refine z_iconst (pc := 645) K (v := 2) d_L_law_645 (by decide) ?_
  refine z_iadd (pc := 646) K d_L_law_646 ?_
  refine z_sld (pc := 647) K X d_L_law_647 (in_k (k := 2) hL (by omega)) ?_
  refine z_aload_n (pc := 648) K d_L_law_648 rfl ?_
  refine z_iload_n (pc := 649) K d_L_law_649 rfl ?_
  refine z_iconst (pc := 650) K (v := 3) d_L_law_650 (by decide) ?_
  refine z_iadd (pc := 651) K d_L_law_651 ?_
  refine z_sld (pc := 652) K X d_L_law_652 (in_k (k := 3) hL (by omega)) ?_
  refine z_fVi (pc := 653) K 0 (m_learn_c v (xs (nI i + 1).toNatClampNeg) (xs (nI i + 2).toNatClampNeg) (xs (nI i + 3).toNatClampNeg) hm) (cwA K 3 k660 k661 k662 k7 k663 q_M_learn ⟨Nat.le_of_ble_eq_true rfl, Nat.le_of_ble_eq_true rfl⟩) d_L_law_653 rfl rfl rfl rfl rfl (Nat.le_of_ble_eq_true rfl) ⟨Nat.le_of_ble_eq_true rfl, Nat.le_of_ble_eq_true rfl⟩ ?_
  refine z_icmp_eq (pc := 656) K (tgt := 970) d_L_law_656 (by decide) (fun c656 => ?_) (fun c656 => ?_)
  · exact kk _ _ (Hc u v (xs (nI i + 1).toNatClampNeg) (xs (nI i + 2).toNatClampNeg) (xs (nI i + 3).toNatClampNeg) hR).2
  · exact absurd (Hc u v (xs (nI i + 1).toNatClampNeg) (xs (nI i + 2).toNatClampNeg) (xs (nI i + 3).toNatClampNeg) hR).1 c656
set_option maxRecDepth 100000 in
set_option maxHeartbeats 4000000 in
theorem law_count {p : Program} {l : Launch} {e : Env} {s : State} {m : MethodId} {below : List Frame} {meth : Method} {c : Code} {D : va_G} {a a2 : Nat → Nat} {cI cJ cC cZ : ClassId} {b L i : Nat} {xs : Nat → Int32} {Rel : US → MS → Prop} {u : US} {v : MS} (K : Cx p s m #[Value.ref b] c code 4 "DemandTermsLaw" AW D vwCl (CT cI cJ cC cZ) (fun q : Nat => s.heap.size ≤ q)) (X : va_X b L xs s s.heap ∧ b < s.heap.size ∧ ¬ (fun q : Nat => s.heap.size ≤ q) b) (hL : L ≤ 3584) (hi : i + 7 ≤ L) (hR : Rel u v) (Ho : H_ok Rel) (Hc : H_count Rel) (kk : ∀ (u' : US) (v' : MS), Rel u' v' → zW p l e room_1 s m #[Value.ref b] below meth c D vwCl (fun q : Nat => s.heap.size ≤ q) 4 37 293742 (lw_Z below #[Value.ref b] s) (CW a cI cJ cC u' ++ MW a2 cI cJ cZ v') 970 [(3, .int (nI i)), (0, .ref b), (1, .ref (a 0)), (2, .ref (a2 0))] []) : zW p l e room_1 s m #[Value.ref b] below meth c D vwCl (fun q : Nat => s.heap.size ≤ q) 4 37 293742 (lw_Z below #[Value.ref b] s) (CW a cI cJ cC u ++ MW a2 cI cJ cZ v) 661 [(3, .int (nI i)), (0, .ref b), (1, .ref (a 0)), (2, .ref (a2 0))] [] := by
  obtain ⟨hu, hm, hrv, ho⟩ := Ho u v hR
  refine z_aload_n (pc := 661) K d_L_law_661 rfl ?_
  refine z_gVi (pc := 662) K 0 (c_D_count u) (cwA K 0 k338 k339 k340 k1 k341 q_D_count ⟨Nat.le_of_ble_eq_true rfl, Nat.le_of_ble_eq_true rfl⟩) d_L_law_662 rfl rfl rfl rfl rfl (Nat.le_of_ble_eq_true rfl) ⟨Nat.le_of_ble_eq_true rfl, Nat.le_of_ble_eq_true rfl⟩ ?_
  refine z_aload_n (pc := 665) K d_L_law_665 rfl ?_
  refine z_fVi (pc := 666) K 0 (m_count_c v) (cwA K 0 k672 k673 k674 k7 k675 q_M_count ⟨Nat.le_of_ble_eq_true rfl, Nat.le_of_ble_eq_true rfl⟩) d_L_law_666 rfl rfl rfl rfl rfl (Nat.le_of_ble_eq_true rfl) ⟨Nat.le_of_ble_eq_true rfl, Nat.le_of_ble_eq_true rfl⟩ ?_
  refine z_icmp_eq (pc := 669) K (tgt := 970) d_L_law_669 (by decide) (fun c669 => ?_) (fun c669 => ?_)
  · exact kk u v hR
  · exact absurd (Hc u v hR) c669
set_option maxRecDepth 100000 in
set_option maxHeartbeats 4000000 in
theorem law_terms {p : Program} {l : Launch} {e : Env} {s : State} {m : MethodId} {below : List Frame} {meth : Method} {c : Code} {D : va_G} {a a2 : Nat → Nat} {cI cJ cC cZ : ClassId} {b L i : Nat} {xs : Nat → Int32} {Rel : US → MS → Prop} {u : US} {v : MS} (K : Cx p s m #[Value.ref b] c code 4 "DemandTermsLaw" AW D vwCl (CT cI cJ cC cZ) (fun q : Nat => s.heap.size ≤ q)) (X : va_X b L xs s s.heap ∧ b < s.heap.size ∧ ¬ (fun q : Nat => s.heap.size ≤ q) b) (hL : L ≤ 3584) (hi : i + 7 ≤ L) (hR : Rel u v) (Ho : H_ok Rel) (Hc : H_terms Rel) (kk : ∀ (u' : US) (v' : MS), Rel u' v' → zW p l e room_1 s m #[Value.ref b] below meth c D vwCl (fun q : Nat => s.heap.size ≤ q) 4 37 293742 (lw_Z below #[Value.ref b] s) (CW a cI cJ cC u' ++ MW a2 cI cJ cZ v') 970 [(3, .int (nI i)), (0, .ref b), (1, .ref (a 0)), (2, .ref (a2 0))] []) : zW p l e room_1 s m #[Value.ref b] below meth c D vwCl (fun q : Nat => s.heap.size ≤ q) 4 37 293742 (lw_Z below #[Value.ref b] s) (CW a cI cJ cC u ++ MW a2 cI cJ cZ v) 674 [(3, .int (nI i)), (0, .ref b), (1, .ref (a 0)), (2, .ref (a2 0))] [] := by
  obtain ⟨hu, hm, hrv, ho⟩ := Ho u v hR
  refine z_aload_n (pc := 674) K d_L_law_674 rfl ?_
  refine z_aload_n (pc := 675) K d_L_law_675 rfl ?_
  refine z_iload_n (pc := 676) K d_L_law_676 rfl ?_
  refine z_iconst (pc := 677) K (v := 1) d_L_law_677 (by decide) ?_
  refine z_iadd (pc := 678) K d_L_law_678 ?_
  refine z_sld (pc := 679) K X d_L_law_679 (in_k (k := 1) hL (by omega)) ?_
  refine z_gVi (pc := 680) K 0 (c_D_terms u (xs (nI i + 1).toNatClampNeg) hu) (cwA K 1 k342 k343 k344 k1 k345 q_D_terms ⟨Nat.le_of_ble_eq_true rfl, Nat.le_of_ble_eq_true rfl⟩) d_L_law_680 rfl rfl rfl rfl rfl (Nat.le_of_ble_eq_true rfl) ⟨Nat.le_of_ble_eq_true rfl, Nat.le_of_ble_eq_true rfl⟩ ?_
  refine z_aload_n (pc := 683) K d_L_law_683 rfl ?_
  refine z_aload_n (pc := 684) K d_L_law_684 rfl ?_
  refine z_iload_n (pc := 685) K d_L_law_685 rfl ?_
  refine z_iconst (pc := 686) K (v := 1) d_L_law_686 (by decide) ?_
  refine z_iadd (pc := 687) K d_L_law_687 ?_
  refine z_sld (pc := 688) K X d_L_law_688 (in_k (k := 1) hL (by omega)) ?_
  refine z_fVi (pc := 689) K 0 (m_terms_c v (xs (nI i + 1).toNatClampNeg) hm) (cwA K 1 k676 k677 k678 k7 k679 q_M_terms ⟨Nat.le_of_ble_eq_true rfl, Nat.le_of_ble_eq_true rfl⟩) d_L_law_689 rfl rfl rfl rfl rfl (Nat.le_of_ble_eq_true rfl) ⟨Nat.le_of_ble_eq_true rfl, Nat.le_of_ble_eq_true rfl⟩ ?_
  refine z_icmp_eq (pc := 692) K (tgt := 970) d_L_law_692 (by decide) (fun c692 => ?_) (fun c692 => ?_)
  · exact kk u v hR
  · exact absurd (Hc u v (xs (nI i + 1).toNatClampNeg) hR) c692
set_option maxRecDepth 100000 in
set_option maxHeartbeats 4000000 in
theorem law_part {p : Program} {l : Launch} {e : Env} {s : State} {m : MethodId} {below : List Frame} {meth : Method} {c : Code} {D : va_G} {a a2 : Nat → Nat} {cI cJ cC cZ : ClassId} {b L i : Nat} {xs : Nat → Int32} {Rel : US → MS → Prop} {u : US} {v : MS} (K : Cx p s m #[Value.ref b] c code 4 "DemandTermsLaw" AW D vwCl (CT cI cJ cC cZ) (fun q : Nat => s.heap.size ≤ q)) (X : va_X b L xs s s.heap ∧ b < s.heap.size ∧ ¬ (fun q : Nat => s.heap.size ≤ q) b) (hL : L ≤ 3584) (hi : i + 7 ≤ L) (hR : Rel u v) (Ho : H_ok Rel) (Hc : H_part Rel) (kk : ∀ (u' : US) (v' : MS), Rel u' v' → zW p l e room_1 s m #[Value.ref b] below meth c D vwCl (fun q : Nat => s.heap.size ≤ q) 4 37 293742 (lw_Z below #[Value.ref b] s) (CW a cI cJ cC u' ++ MW a2 cI cJ cZ v') 970 [(3, .int (nI i)), (0, .ref b), (1, .ref (a 0)), (2, .ref (a2 0))] []) : zW p l e room_1 s m #[Value.ref b] below meth c D vwCl (fun q : Nat => s.heap.size ≤ q) 4 37 293742 (lw_Z below #[Value.ref b] s) (CW a cI cJ cC u ++ MW a2 cI cJ cZ v) 697 [(3, .int (nI i)), (0, .ref b), (1, .ref (a 0)), (2, .ref (a2 0))] [] := by
  obtain ⟨hu, hm, hrv, ho⟩ := Ho u v hR
  refine z_aload_n (pc := 697) K d_L_law_697 rfl ?_
  refine z_aload_n (pc := 698) K d_L_law_698 rfl ?_
  refine z_iload_n (pc := 699) K d_L_law_699 rfl ?_
  refine z_iconst (pc := 700) K (v := 1) d_L_law_700 (by decide) ?_
  refine z_iadd (pc := 701) K d_L_law_701 ?_
  refine z_sld (pc := 702) K X d_L_law_702 (in_k (k := 1) hL (by omega)) ?_
  refine z_aload_n (pc := 703) K d_L_law_703 rfl ?_
  refine z_iload_n (pc := 704) K d_L_law_704 rfl ?_
  refine z_iconst (pc := 705) K (v := 2) d_L_law_705 (by decide) ?_
  refine z_iadd (pc := 706) K d_L_law_706 ?_
  refine z_sld (pc := 707) K X d_L_law_707 (in_k (k := 2) hL (by omega)) ?_
  refine z_aload_n (pc := 708) K d_L_law_708 rfl ?_
  refine z_iload_n (pc := 709) K d_L_law_709 rfl ?_
  refine z_iconst (pc := 710) K (v := 3) d_L_law_710 (by decide) ?_
  refine z_iadd (pc := 711) K d_L_law_711 ?_
  refine z_sld (pc := 712) K X d_L_law_712 (in_k (k := 3) hL (by omega)) ?_
  refine z_gVi (pc := 713) K 0 (c_D_part u (xs (nI i + 1).toNatClampNeg) (xs (nI i + 2).toNatClampNeg) (xs (nI i + 3).toNatClampNeg) hu) (cwA K 3 k357 k358 k359 k1 k360 q_D_part ⟨Nat.le_of_ble_eq_true rfl, Nat.le_of_ble_eq_true rfl⟩) d_L_law_713 rfl rfl rfl rfl rfl (Nat.le_of_ble_eq_true rfl) ⟨Nat.le_of_ble_eq_true rfl, Nat.le_of_ble_eq_true rfl⟩ ?_
  refine z_aload_n (pc := 716) K d_L_law_716 rfl ?_
  refine z_aload_n (pc := 717) K d_L_law_717 rfl ?_
  refine z_iload_n (pc := 718) K d_L_law_718 rfl ?_
  refine z_iconst (pc := 719) K (v := 1) d_L_law_719 (by decide) ?_
  refine z_iadd (pc := 720) K d_L_law_720 ?_
  refine z_sld (pc := 721) K X d_L_law_721 (in_k (k := 1) hL (by omega)) ?_
  refine z_aload_n (pc := 722) K d_L_law_722 rfl ?_
  refine z_iload_n (pc := 723) K d_L_law_723 rfl ?_
  refine z_iconst (pc := 724) K (v := 2) d_L_law_724 (by decide) ?_
  refine z_iadd (pc := 725) K d_L_law_725 ?_
  refine z_sld (pc := 726) K X d_L_law_726 (in_k (k := 2) hL (by omega)) ?_
  refine z_aload_n (pc := 727) K d_L_law_727 rfl ?_
  refine z_iload_n (pc := 728) K d_L_law_728 rfl ?_
  refine z_iconst (pc := 729) K (v := 3) d_L_law_729 (by decide) ?_
  refine z_iadd (pc := 730) K d_L_law_730 ?_
  refine z_sld (pc := 731) K X d_L_law_731 (in_k (k := 3) hL (by omega)) ?_
  refine z_fVi (pc := 732) K 0 (m_part_c v (xs (nI i + 1).toNatClampNeg) (xs (nI i + 2).toNatClampNeg) (xs (nI i + 3).toNatClampNeg) hm) (cwA K 3 k680 k681 k682 k7 k683 q_M_part ⟨Nat.le_of_ble_eq_true rfl, Nat.le_of_ble_eq_true rfl⟩) d_L_law_732 rfl rfl rfl rfl rfl (Nat.le_of_ble_eq_true rfl) ⟨Nat.le_of_ble_eq_true rfl, Nat.le_of_ble_eq_true rfl⟩ ?_
  refine z_icmp_eq (pc := 735) K (tgt := 970) d_L_law_735 (by decide) (fun c735 => ?_) (fun c735 => ?_)
  · exact kk u v hR
  · exact absurd (Hc u v (xs (nI i + 1).toNatClampNeg) (xs (nI i + 2).toNatClampNeg) (xs (nI i + 3).toNatClampNeg) hR) c735
set_option maxRecDepth 100000 in
set_option maxHeartbeats 4000000 in
theorem law_partSet {p : Program} {l : Launch} {e : Env} {s : State} {m : MethodId} {below : List Frame} {meth : Method} {c : Code} {D : va_G} {a a2 : Nat → Nat} {cI cJ cC cZ : ClassId} {b L i : Nat} {xs : Nat → Int32} {Rel : US → MS → Prop} {u : US} {v : MS} (K : Cx p s m #[Value.ref b] c code 4 "DemandTermsLaw" AW D vwCl (CT cI cJ cC cZ) (fun q : Nat => s.heap.size ≤ q)) (X : va_X b L xs s s.heap ∧ b < s.heap.size ∧ ¬ (fun q : Nat => s.heap.size ≤ q) b) (hL : L ≤ 3584) (hi : i + 7 ≤ L) (hR : Rel u v) (Ho : H_ok Rel) (Hc : H_partSet Rel) (kk : ∀ (u' : US) (v' : MS), Rel u' v' → zW p l e room_1 s m #[Value.ref b] below meth c D vwCl (fun q : Nat => s.heap.size ≤ q) 4 37 293742 (lw_Z below #[Value.ref b] s) (CW a cI cJ cC u' ++ MW a2 cI cJ cZ v') 970 [(3, .int (nI i)), (0, .ref b), (1, .ref (a 0)), (2, .ref (a2 0))] []) : zW p l e room_1 s m #[Value.ref b] below meth c D vwCl (fun q : Nat => s.heap.size ≤ q) 4 37 293742 (lw_Z below #[Value.ref b] s) (CW a cI cJ cC u ++ MW a2 cI cJ cZ v) 740 [(3, .int (nI i)), (0, .ref b), (1, .ref (a 0)), (2, .ref (a2 0))] [] := by
  obtain ⟨hu, hm, hrv, ho⟩ := Ho u v hR
  refine z_aload_n (pc := 740) K d_L_law_740 rfl ?_
  refine z_aload_n (pc := 741) K d_L_law_741 rfl ?_
  refine z_iload_n (pc := 742) K d_L_law_742 rfl ?_
  refine z_iconst (pc := 743) K (v := 1) d_L_law_743 (by decide) ?_
  refine z_iadd (pc := 744) K d_L_law_744 ?_
  refine z_sld (pc := 745) K X d_L_law_745 (in_k (k := 1) hL (by omega)) ?_
  refine z_aload_n (pc := 746) K d_L_law_746 rfl ?_
  refine z_iload_n (pc := 747) K d_L_law_747 rfl ?_
  refine z_iconst (pc := 748) K (v := 2) d_L_law_748 (by decide) ?_
  refine z_iadd (pc := 749) K d_L_law_749 ?_
  refine z_sld (pc := 750) K X d_L_law_750 (in_k (k := 2) hL (by omega)) ?_
  refine z_gVl (pc := 751) K 0 (c_D_partSet u (xs (nI i + 1).toNatClampNeg) (xs (nI i + 2).toNatClampNeg) hu) (cwA K 2 k369 k370 k371 k1 k372 q_D_partSet ⟨Nat.le_of_ble_eq_true rfl, Nat.le_of_ble_eq_true rfl⟩) d_L_law_751 rfl rfl rfl rfl rfl (Nat.le_of_ble_eq_true rfl) ⟨Nat.le_of_ble_eq_true rfl, Nat.le_of_ble_eq_true rfl⟩ ?_
  refine z_aload_n (pc := 754) K d_L_law_754 rfl ?_
  refine z_aload_n (pc := 755) K d_L_law_755 rfl ?_
  refine z_iload_n (pc := 756) K d_L_law_756 rfl ?_
  refine z_iconst (pc := 757) K (v := 1) d_L_law_757 (by decide) ?_
  refine z_iadd (pc := 758) K d_L_law_758 ?_
  refine z_sld (pc := 759) K X d_L_law_759 (in_k (k := 1) hL (by omega)) ?_
  refine z_aload_n (pc := 760) K d_L_law_760 rfl ?_
  refine z_iload_n (pc := 761) K d_L_law_761 rfl ?_
  refine z_iconst (pc := 762) K (v := 2) d_L_law_762 (by decide) ?_
  refine z_iadd (pc := 763) K d_L_law_763 ?_
  refine z_sld (pc := 764) K X d_L_law_764 (in_k (k := 2) hL (by omega)) ?_
  refine z_fVl (pc := 765) K 0 (m_partSet_c v (xs (nI i + 1).toNatClampNeg) (xs (nI i + 2).toNatClampNeg) hm) (cwA K 2 k688 k689 k690 k7 k691 q_M_partSet ⟨Nat.le_of_ble_eq_true rfl, Nat.le_of_ble_eq_true rfl⟩) d_L_law_765 rfl rfl rfl rfl rfl (Nat.le_of_ble_eq_true rfl) ⟨Nat.le_of_ble_eq_true rfl, Nat.le_of_ble_eq_true rfl⟩ ?_
  refine z_lcmp (pc := 768) K d_L_law_768 ?_
  refine z_ifl_eq (pc := 769) K (tgt := 970) d_L_law_769 (by decide) (fun c769 => ?_) (fun c769 => ?_)
  · exact kk u v hR
  · exact absurd (Hc u v (xs (nI i + 1).toNatClampNeg) (xs (nI i + 2).toNatClampNeg) hR) c769
set_option maxRecDepth 100000 in
set_option maxHeartbeats 4000000 in
theorem law_choose {p : Program} {l : Launch} {e : Env} {s : State} {m : MethodId} {below : List Frame} {meth : Method} {c : Code} {D : va_G} {a a2 : Nat → Nat} {cI cJ cC cZ : ClassId} {b L i : Nat} {xs : Nat → Int32} {Rel : US → MS → Prop} {u : US} {v : MS} (K : Cx p s m #[Value.ref b] c code 4 "DemandTermsLaw" AW D vwCl (CT cI cJ cC cZ) (fun q : Nat => s.heap.size ≤ q)) (X : va_X b L xs s s.heap ∧ b < s.heap.size ∧ ¬ (fun q : Nat => s.heap.size ≤ q) b) (hL : L ≤ 3584) (hi : i + 7 ≤ L) (hR : Rel u v) (Ho : H_ok Rel) (Hc : H_choose Rel) (kk : ∀ (u' : US) (v' : MS), Rel u' v' → zW p l e room_1 s m #[Value.ref b] below meth c D vwCl (fun q : Nat => s.heap.size ≤ q) 4 37 293742 (lw_Z below #[Value.ref b] s) (CW a cI cJ cC u' ++ MW a2 cI cJ cZ v') 970 [(3, .int (nI i)), (0, .ref b), (1, .ref (a 0)), (2, .ref (a2 0))] []) : zW p l e room_1 s m #[Value.ref b] below meth c D vwCl (fun q : Nat => s.heap.size ≤ q) 4 37 293742 (lw_Z below #[Value.ref b] s) (CW a cI cJ cC u ++ MW a2 cI cJ cZ v) 774 [(3, .int (nI i)), (0, .ref b), (1, .ref (a 0)), (2, .ref (a2 0))] [] := by
  obtain ⟨hu, hm, hrv, ho⟩ := Ho u v hR
  refine z_aload_n (pc := 774) K d_L_law_774 rfl ?_
  refine z_aload_n (pc := 775) K d_L_law_775 rfl ?_
  refine z_iload_n (pc := 776) K d_L_law_776 rfl ?_
  refine z_iconst (pc := 777) K (v := 1) d_L_law_777 (by decide) ?_
  refine z_iadd (pc := 778) K d_L_law_778 ?_
  refine z_sld (pc := 779) K X d_L_law_779 (in_k (k := 1) hL (by omega)) ?_
  refine z_gVi (pc := 780) K 0 (c_D_choose u (xs (nI i + 1).toNatClampNeg) hu) (cwA K 1 k373 k374 k375 k1 k376 q_D_choose ⟨Nat.le_of_ble_eq_true rfl, Nat.le_of_ble_eq_true rfl⟩) d_L_law_780 rfl rfl rfl rfl rfl (Nat.le_of_ble_eq_true rfl) ⟨Nat.le_of_ble_eq_true rfl, Nat.le_of_ble_eq_true rfl⟩ ?_
  refine z_aload_n (pc := 783) K d_L_law_783 rfl ?_
  refine z_aload_n (pc := 784) K d_L_law_784 rfl ?_
  refine z_iload_n (pc := 785) K d_L_law_785 rfl ?_
  refine z_iconst (pc := 786) K (v := 1) d_L_law_786 (by decide) ?_
  refine z_iadd (pc := 787) K d_L_law_787 ?_
  refine z_sld (pc := 788) K X d_L_law_788 (in_k (k := 1) hL (by omega)) ?_
  refine z_fVi (pc := 789) K 0 (m_choose_c v (xs (nI i + 1).toNatClampNeg) hm) (cwA K 1 k692 k693 k694 k7 k695 q_M_choose ⟨Nat.le_of_ble_eq_true rfl, Nat.le_of_ble_eq_true rfl⟩) d_L_law_789 rfl rfl rfl rfl rfl (Nat.le_of_ble_eq_true rfl) ⟨Nat.le_of_ble_eq_true rfl, Nat.le_of_ble_eq_true rfl⟩ ?_
  refine z_icmp_eq (pc := 792) K (tgt := 970) d_L_law_792 (by decide) (fun c792 => ?_) (fun c792 => ?_)
  · exact kk _ _ (Hc u v (xs (nI i + 1).toNatClampNeg) hR).2
  · exact absurd (congrArg bI (Hc u v (xs (nI i + 1).toNatClampNeg) hR).1) c792
set_option maxRecDepth 100000 in
set_option maxHeartbeats 4000000 in
theorem law_forget {p : Program} {l : Launch} {e : Env} {s : State} {m : MethodId} {below : List Frame} {meth : Method} {c : Code} {D : va_G} {a a2 : Nat → Nat} {cI cJ cC cZ : ClassId} {b L i : Nat} {xs : Nat → Int32} {Rel : US → MS → Prop} {u : US} {v : MS} (K : Cx p s m #[Value.ref b] c code 4 "DemandTermsLaw" AW D vwCl (CT cI cJ cC cZ) (fun q : Nat => s.heap.size ≤ q)) (X : va_X b L xs s s.heap ∧ b < s.heap.size ∧ ¬ (fun q : Nat => s.heap.size ≤ q) b) (hL : L ≤ 3584) (hi : i + 7 ≤ L) (hR : Rel u v) (Ho : H_ok Rel) (Hc : H_forget Rel) (kk : ∀ (u' : US) (v' : MS), Rel u' v' → zW p l e room_1 s m #[Value.ref b] below meth c D vwCl (fun q : Nat => s.heap.size ≤ q) 4 37 293742 (lw_Z below #[Value.ref b] s) (CW a cI cJ cC u' ++ MW a2 cI cJ cZ v') 970 [(3, .int (nI i)), (0, .ref b), (1, .ref (a 0)), (2, .ref (a2 0))] []) : zW p l e room_1 s m #[Value.ref b] below meth c D vwCl (fun q : Nat => s.heap.size ≤ q) 4 37 293742 (lw_Z below #[Value.ref b] s) (CW a cI cJ cC u ++ MW a2 cI cJ cZ v) 797 [(3, .int (nI i)), (0, .ref b), (1, .ref (a 0)), (2, .ref (a2 0))] [] := by
  obtain ⟨hu, hm, hrv, ho⟩ := Ho u v hR
  refine z_aload_n (pc := 797) K d_L_law_797 rfl ?_
  refine z_gVv (pc := 798) K 0 (c_D_forget u hu) (cwA K 0 k381 k382 k383 k1 k384 q_D_forget ⟨Nat.le_of_ble_eq_true rfl, Nat.le_of_ble_eq_true rfl⟩) d_L_law_798 rfl rfl rfl rfl rfl (Nat.le_of_ble_eq_true rfl) ⟨Nat.le_of_ble_eq_true rfl, Nat.le_of_ble_eq_true rfl⟩ ?_
  refine z_aload_n (pc := 801) K d_L_law_801 rfl ?_
  refine z_fVv (pc := 802) K 0 (m_forget_c v hm) (cwA K 0 k696 k697 k698 k7 k699 q_M_forget ⟨Nat.le_of_ble_eq_true rfl, Nat.le_of_ble_eq_true rfl⟩) d_L_law_802 rfl rfl rfl rfl rfl (Nat.le_of_ble_eq_true rfl) ⟨Nat.le_of_ble_eq_true rfl, Nat.le_of_ble_eq_true rfl⟩ ?_
  refine z_goto (pc := 805) K (tgt := 970) d_L_law_805 (by decide) ?_
  exact kk _ _ (Hc u v hR)
set_option maxRecDepth 100000 in
set_option maxHeartbeats 4000000 in
theorem law_state {p : Program} {l : Launch} {e : Env} {s : State} {m : MethodId} {below : List Frame} {meth : Method} {c : Code} {D : va_G} {a a2 : Nat → Nat} {cI cJ cC cZ : ClassId} {b L i : Nat} {xs : Nat → Int32} {Rel : US → MS → Prop} {u : US} {v : MS} (K : Cx p s m #[Value.ref b] c code 4 "DemandTermsLaw" AW D vwCl (CT cI cJ cC cZ) (fun q : Nat => s.heap.size ≤ q)) (X : va_X b L xs s s.heap ∧ b < s.heap.size ∧ ¬ (fun q : Nat => s.heap.size ≤ q) b) (hL : L ≤ 3584) (hi : i + 7 ≤ L) (hR : Rel u v) (Ho : H_ok Rel) (Hc : H_state Rel) (kk : ∀ (u' : US) (v' : MS), Rel u' v' → zW p l e room_1 s m #[Value.ref b] below meth c D vwCl (fun q : Nat => s.heap.size ≤ q) 4 37 293742 (lw_Z below #[Value.ref b] s) (CW a cI cJ cC u' ++ MW a2 cI cJ cZ v') 970 [(3, .int (nI i)), (0, .ref b), (1, .ref (a 0)), (2, .ref (a2 0))] []) : zW p l e room_1 s m #[Value.ref b] below meth c D vwCl (fun q : Nat => s.heap.size ≤ q) 4 37 293742 (lw_Z below #[Value.ref b] s) (CW a cI cJ cC u ++ MW a2 cI cJ cZ v) 808 [(3, .int (nI i)), (0, .ref b), (1, .ref (a 0)), (2, .ref (a2 0))] [] := by
  obtain ⟨hu, hm, hrv, ho⟩ := Ho u v hR
  refine z_aload_n (pc := 808) K d_L_law_808 rfl ?_
  refine z_aload_n (pc := 809) K d_L_law_809 rfl ?_
  refine z_iload_n (pc := 810) K d_L_law_810 rfl ?_
  refine z_iconst (pc := 811) K (v := 1) d_L_law_811 (by decide) ?_
  refine z_iadd (pc := 812) K d_L_law_812 ?_
  refine z_sld (pc := 813) K X d_L_law_813 (in_k (k := 1) hL (by omega)) ?_
  refine z_gVi (pc := 814) K 0 (c_D_state u (xs (nI i + 1).toNatClampNeg) hu) (cwA K 1 k385 k386 k387 k1 k388 q_D_state ⟨Nat.le_of_ble_eq_true rfl, Nat.le_of_ble_eq_true rfl⟩) d_L_law_814 rfl rfl rfl rfl rfl (Nat.le_of_ble_eq_true rfl) ⟨Nat.le_of_ble_eq_true rfl, Nat.le_of_ble_eq_true rfl⟩ ?_
  refine z_aload_n (pc := 817) K d_L_law_817 rfl ?_
  refine z_aload_n (pc := 818) K d_L_law_818 rfl ?_
  refine z_iload_n (pc := 819) K d_L_law_819 rfl ?_
  refine z_iconst (pc := 820) K (v := 1) d_L_law_820 (by decide) ?_
  refine z_iadd (pc := 821) K d_L_law_821 ?_
  refine z_sld (pc := 822) K X d_L_law_822 (in_k (k := 1) hL (by omega)) ?_
  refine z_fVi (pc := 823) K 0 (m_state_c v (xs (nI i + 1).toNatClampNeg) hm) (cwA K 1 k700 k701 k702 k7 k703 q_M_state ⟨Nat.le_of_ble_eq_true rfl, Nat.le_of_ble_eq_true rfl⟩) d_L_law_823 rfl rfl rfl rfl rfl (Nat.le_of_ble_eq_true rfl) ⟨Nat.le_of_ble_eq_true rfl, Nat.le_of_ble_eq_true rfl⟩ ?_
  refine z_icmp_eq (pc := 826) K (tgt := 970) d_L_law_826 (by decide) (fun c826 => ?_) (fun c826 => ?_)
  · exact kk u v hR
  · exact absurd (Hc u v (xs (nI i + 1).toNatClampNeg) hR) c826
set_option maxRecDepth 100000 in
set_option maxHeartbeats 4000000 in
theorem law_forced {p : Program} {l : Launch} {e : Env} {s : State} {m : MethodId} {below : List Frame} {meth : Method} {c : Code} {D : va_G} {a a2 : Nat → Nat} {cI cJ cC cZ : ClassId} {b L i : Nat} {xs : Nat → Int32} {Rel : US → MS → Prop} {u : US} {v : MS} (K : Cx p s m #[Value.ref b] c code 4 "DemandTermsLaw" AW D vwCl (CT cI cJ cC cZ) (fun q : Nat => s.heap.size ≤ q)) (X : va_X b L xs s s.heap ∧ b < s.heap.size ∧ ¬ (fun q : Nat => s.heap.size ≤ q) b) (hL : L ≤ 3584) (hi : i + 7 ≤ L) (hR : Rel u v) (Ho : H_ok Rel) (Hc : H_forced Rel) (kk : ∀ (u' : US) (v' : MS), Rel u' v' → zW p l e room_1 s m #[Value.ref b] below meth c D vwCl (fun q : Nat => s.heap.size ≤ q) 4 37 293742 (lw_Z below #[Value.ref b] s) (CW a cI cJ cC u' ++ MW a2 cI cJ cZ v') 970 [(3, .int (nI i)), (0, .ref b), (1, .ref (a 0)), (2, .ref (a2 0))] []) : zW p l e room_1 s m #[Value.ref b] below meth c D vwCl (fun q : Nat => s.heap.size ≤ q) 4 37 293742 (lw_Z below #[Value.ref b] s) (CW a cI cJ cC u ++ MW a2 cI cJ cZ v) 831 [(3, .int (nI i)), (0, .ref b), (1, .ref (a 0)), (2, .ref (a2 0))] [] := by
  obtain ⟨hu, hm, hrv, ho⟩ := Ho u v hR
  refine z_aload_n (pc := 831) K d_L_law_831 rfl ?_
  refine z_aload_n (pc := 832) K d_L_law_832 rfl ?_
  refine z_iload_n (pc := 833) K d_L_law_833 rfl ?_
  refine z_iconst (pc := 834) K (v := 1) d_L_law_834 (by decide) ?_
  refine z_iadd (pc := 835) K d_L_law_835 ?_
  refine z_sld (pc := 836) K X d_L_law_836 (in_k (k := 1) hL (by omega)) ?_
  refine z_gVi (pc := 837) K 0 (c_D_forced u (xs (nI i + 1).toNatClampNeg) hu) (cwA K 1 k397 k398 k399 k1 k400 q_D_forced ⟨Nat.le_of_ble_eq_true rfl, Nat.le_of_ble_eq_true rfl⟩) d_L_law_837 rfl rfl rfl rfl rfl (Nat.le_of_ble_eq_true rfl) ⟨Nat.le_of_ble_eq_true rfl, Nat.le_of_ble_eq_true rfl⟩ ?_
  refine z_aload_n (pc := 840) K d_L_law_840 rfl ?_
  refine z_aload_n (pc := 841) K d_L_law_841 rfl ?_
  refine z_iload_n (pc := 842) K d_L_law_842 rfl ?_
  refine z_iconst (pc := 843) K (v := 1) d_L_law_843 (by decide) ?_
  refine z_iadd (pc := 844) K d_L_law_844 ?_
  refine z_sld (pc := 845) K X d_L_law_845 (in_k (k := 1) hL (by omega)) ?_
  refine z_fVi (pc := 846) K 0 (m_forced_c v (xs (nI i + 1).toNatClampNeg) hm) (cwA K 1 k716 k717 k718 k7 k719 q_M_forced ⟨Nat.le_of_ble_eq_true rfl, Nat.le_of_ble_eq_true rfl⟩) d_L_law_846 rfl rfl rfl rfl rfl (Nat.le_of_ble_eq_true rfl) ⟨Nat.le_of_ble_eq_true rfl, Nat.le_of_ble_eq_true rfl⟩ ?_
  refine z_icmp_eq (pc := 849) K (tgt := 970) d_L_law_849 (by decide) (fun c849 => ?_) (fun c849 => ?_)
  · exact kk u v hR
  · exact absurd (Hc u v (xs (nI i + 1).toNatClampNeg) hR) c849
set_option maxRecDepth 100000 in
set_option maxHeartbeats 4000000 in
theorem law_spread {p : Program} {l : Launch} {e : Env} {s : State} {m : MethodId} {below : List Frame} {meth : Method} {c : Code} {D : va_G} {a a2 : Nat → Nat} {cI cJ cC cZ : ClassId} {b L i : Nat} {xs : Nat → Int32} {Rel : US → MS → Prop} {u : US} {v : MS} (K : Cx p s m #[Value.ref b] c code 4 "DemandTermsLaw" AW D vwCl (CT cI cJ cC cZ) (fun q : Nat => s.heap.size ≤ q)) (X : va_X b L xs s s.heap ∧ b < s.heap.size ∧ ¬ (fun q : Nat => s.heap.size ≤ q) b) (hL : L ≤ 3584) (hi : i + 7 ≤ L) (hR : Rel u v) (Ho : H_ok Rel) (Hc : H_spread Rel) (kk : ∀ (u' : US) (v' : MS), Rel u' v' → zW p l e room_1 s m #[Value.ref b] below meth c D vwCl (fun q : Nat => s.heap.size ≤ q) 4 37 293742 (lw_Z below #[Value.ref b] s) (CW a cI cJ cC u' ++ MW a2 cI cJ cZ v') 970 [(3, .int (nI i)), (0, .ref b), (1, .ref (a 0)), (2, .ref (a2 0))] []) : zW p l e room_1 s m #[Value.ref b] below meth c D vwCl (fun q : Nat => s.heap.size ≤ q) 4 37 293742 (lw_Z below #[Value.ref b] s) (CW a cI cJ cC u ++ MW a2 cI cJ cZ v) 854 [(3, .int (nI i)), (0, .ref b), (1, .ref (a 0)), (2, .ref (a2 0))] [] := by
  obtain ⟨hu, hm, hrv, ho⟩ := Ho u v hR
  refine z_aload_n (pc := 854) K d_L_law_854 rfl ?_
  refine z_gVi (pc := 855) K 0 (c_D_spread u hu) (cwA K 0 k406 k407 k408 k1 k409 q_D_spread ⟨Nat.le_of_ble_eq_true rfl, Nat.le_of_ble_eq_true rfl⟩) d_L_law_855 rfl rfl rfl rfl rfl (Nat.le_of_ble_eq_true rfl) ⟨Nat.le_of_ble_eq_true rfl, Nat.le_of_ble_eq_true rfl⟩ ?_
  obtain ⟨N9, s9, hs9, hrel⟩ := Hc u v hR
  refine z_aload_n (pc := 858) K d_L_law_858 rfl ?_
  refine z_fVi (pc := 859) K 0 (m_spread_c v N9 _ s9 hm hs9) (cwA K 0 k724 k725 k726 k7 k727 q_M_spread ⟨Nat.le_of_ble_eq_true rfl, Nat.le_of_ble_eq_true rfl⟩) d_L_law_859 rfl rfl rfl rfl rfl (Nat.le_of_ble_eq_true rfl) ⟨Nat.le_of_ble_eq_true rfl, Nat.le_of_ble_eq_true rfl⟩ ?_
  refine z_icmp_eq (pc := 862) K (tgt := 970) d_L_law_862 (by decide) (fun c862 => ?_) (fun c862 => ?_)
  · exact kk _ _ hrel
  · exact absurd rfl c862
set_option maxRecDepth 100000 in
set_option maxHeartbeats 4000000 in
theorem law_chosen {p : Program} {l : Launch} {e : Env} {s : State} {m : MethodId} {below : List Frame} {meth : Method} {c : Code} {D : va_G} {a a2 : Nat → Nat} {cI cJ cC cZ : ClassId} {b L i : Nat} {xs : Nat → Int32} {Rel : US → MS → Prop} {u : US} {v : MS} (K : Cx p s m #[Value.ref b] c code 4 "DemandTermsLaw" AW D vwCl (CT cI cJ cC cZ) (fun q : Nat => s.heap.size ≤ q)) (X : va_X b L xs s s.heap ∧ b < s.heap.size ∧ ¬ (fun q : Nat => s.heap.size ≤ q) b) (hL : L ≤ 3584) (hi : i + 7 ≤ L) (hR : Rel u v) (Ho : H_ok Rel) (Hc : H_chosen Rel) (kk : ∀ (u' : US) (v' : MS), Rel u' v' → zW p l e room_1 s m #[Value.ref b] below meth c D vwCl (fun q : Nat => s.heap.size ≤ q) 4 37 293742 (lw_Z below #[Value.ref b] s) (CW a cI cJ cC u' ++ MW a2 cI cJ cZ v') 970 [(3, .int (nI i)), (0, .ref b), (1, .ref (a 0)), (2, .ref (a2 0))] []) : zW p l e room_1 s m #[Value.ref b] below meth c D vwCl (fun q : Nat => s.heap.size ≤ q) 4 37 293742 (lw_Z below #[Value.ref b] s) (CW a cI cJ cC u ++ MW a2 cI cJ cZ v) 867 [(3, .int (nI i)), (0, .ref b), (1, .ref (a 0)), (2, .ref (a2 0))] [] := by
  obtain ⟨hu, hm, hrv, ho⟩ := Ho u v hR
  refine z_aload_n (pc := 867) K d_L_law_867 rfl ?_
  refine z_aload_n (pc := 868) K d_L_law_868 rfl ?_
  refine z_iload_n (pc := 869) K d_L_law_869 rfl ?_
  refine z_iconst (pc := 870) K (v := 1) d_L_law_870 (by decide) ?_
  refine z_iadd (pc := 871) K d_L_law_871 ?_
  refine z_sld (pc := 872) K X d_L_law_872 (in_k (k := 1) hL (by omega)) ?_
  refine z_aload_n (pc := 873) K d_L_law_873 rfl ?_
  refine z_iload_n (pc := 874) K d_L_law_874 rfl ?_
  refine z_iconst (pc := 875) K (v := 2) d_L_law_875 (by decide) ?_
  refine z_iadd (pc := 876) K d_L_law_876 ?_
  refine z_sld (pc := 877) K X d_L_law_877 (in_k (k := 2) hL (by omega)) ?_
  refine z_gVi (pc := 878) K 0 (c_D_chosen u (xs (nI i + 1).toNatClampNeg) (xs (nI i + 2).toNatClampNeg) hu) (cwA K 2 k418 k419 k420 k1 k421 q_D_chosen ⟨Nat.le_of_ble_eq_true rfl, Nat.le_of_ble_eq_true rfl⟩) d_L_law_878 rfl rfl rfl rfl rfl (Nat.le_of_ble_eq_true rfl) ⟨Nat.le_of_ble_eq_true rfl, Nat.le_of_ble_eq_true rfl⟩ ?_
  refine z_aload_n (pc := 881) K d_L_law_881 rfl ?_
  refine z_aload_n (pc := 882) K d_L_law_882 rfl ?_
  refine z_iload_n (pc := 883) K d_L_law_883 rfl ?_
  refine z_iconst (pc := 884) K (v := 1) d_L_law_884 (by decide) ?_
  refine z_iadd (pc := 885) K d_L_law_885 ?_
  refine z_sld (pc := 886) K X d_L_law_886 (in_k (k := 1) hL (by omega)) ?_
  refine z_aload_n (pc := 887) K d_L_law_887 rfl ?_
  refine z_iload_n (pc := 888) K d_L_law_888 rfl ?_
  refine z_iconst (pc := 889) K (v := 2) d_L_law_889 (by decide) ?_
  refine z_iadd (pc := 890) K d_L_law_890 ?_
  refine z_sld (pc := 891) K X d_L_law_891 (in_k (k := 2) hL (by omega)) ?_
  refine z_fVi (pc := 892) K 0 (m_chosen_c v (xs (nI i + 1).toNatClampNeg) (xs (nI i + 2).toNatClampNeg) hm) (cwA K 2 k732 k733 k734 k7 k735 q_M_chosen ⟨Nat.le_of_ble_eq_true rfl, Nat.le_of_ble_eq_true rfl⟩) d_L_law_892 rfl rfl rfl rfl rfl (Nat.le_of_ble_eq_true rfl) ⟨Nat.le_of_ble_eq_true rfl, Nat.le_of_ble_eq_true rfl⟩ ?_
  refine z_icmp_eq (pc := 895) K (tgt := 970) d_L_law_895 (by decide) (fun c895 => ?_) (fun c895 => ?_)
  · exact kk u v hR
  · exact absurd (Hc u v (xs (nI i + 1).toNatClampNeg) (xs (nI i + 2).toNatClampNeg) hR) c895
set_option maxRecDepth 100000 in
set_option maxHeartbeats 4000000 in
theorem law_chosenSet {p : Program} {l : Launch} {e : Env} {s : State} {m : MethodId} {below : List Frame} {meth : Method} {c : Code} {D : va_G} {a a2 : Nat → Nat} {cI cJ cC cZ : ClassId} {b L i : Nat} {xs : Nat → Int32} {Rel : US → MS → Prop} {u : US} {v : MS} (K : Cx p s m #[Value.ref b] c code 4 "DemandTermsLaw" AW D vwCl (CT cI cJ cC cZ) (fun q : Nat => s.heap.size ≤ q)) (X : va_X b L xs s s.heap ∧ b < s.heap.size ∧ ¬ (fun q : Nat => s.heap.size ≤ q) b) (hL : L ≤ 3584) (hi : i + 7 ≤ L) (hR : Rel u v) (Ho : H_ok Rel) (Hc : H_chosenSet Rel) (kk : ∀ (u' : US) (v' : MS), Rel u' v' → zW p l e room_1 s m #[Value.ref b] below meth c D vwCl (fun q : Nat => s.heap.size ≤ q) 4 37 293742 (lw_Z below #[Value.ref b] s) (CW a cI cJ cC u' ++ MW a2 cI cJ cZ v') 970 [(3, .int (nI i)), (0, .ref b), (1, .ref (a 0)), (2, .ref (a2 0))] []) : zW p l e room_1 s m #[Value.ref b] below meth c D vwCl (fun q : Nat => s.heap.size ≤ q) 4 37 293742 (lw_Z below #[Value.ref b] s) (CW a cI cJ cC u ++ MW a2 cI cJ cZ v) 900 [(3, .int (nI i)), (0, .ref b), (1, .ref (a 0)), (2, .ref (a2 0))] [] := by
  obtain ⟨hu, hm, hrv, ho⟩ := Ho u v hR
  refine z_aload_n (pc := 900) K d_L_law_900 rfl ?_
  refine z_aload_n (pc := 901) K d_L_law_901 rfl ?_
  refine z_iload_n (pc := 902) K d_L_law_902 rfl ?_
  refine z_iconst (pc := 903) K (v := 1) d_L_law_903 (by decide) ?_
  refine z_iadd (pc := 904) K d_L_law_904 ?_
  refine z_sld (pc := 905) K X d_L_law_905 (in_k (k := 1) hL (by omega)) ?_
  refine z_gVl (pc := 906) K 0 (c_D_chosenSet u (xs (nI i + 1).toNatClampNeg) hu) (cwA K 1 k422 k423 k424 k1 k425 q_D_chosenSet ⟨Nat.le_of_ble_eq_true rfl, Nat.le_of_ble_eq_true rfl⟩) d_L_law_906 rfl rfl rfl rfl rfl (Nat.le_of_ble_eq_true rfl) ⟨Nat.le_of_ble_eq_true rfl, Nat.le_of_ble_eq_true rfl⟩ ?_
  refine z_aload_n (pc := 909) K d_L_law_909 rfl ?_
  refine z_aload_n (pc := 910) K d_L_law_910 rfl ?_
  refine z_iload_n (pc := 911) K d_L_law_911 rfl ?_
  refine z_iconst (pc := 912) K (v := 1) d_L_law_912 (by decide) ?_
  refine z_iadd (pc := 913) K d_L_law_913 ?_
  refine z_sld (pc := 914) K X d_L_law_914 (in_k (k := 1) hL (by omega)) ?_
  refine z_fVl (pc := 915) K 0 (m_chosenSet_c v (xs (nI i + 1).toNatClampNeg) hm) (cwA K 1 k736 k737 k738 k7 k739 q_M_chosenSet ⟨Nat.le_of_ble_eq_true rfl, Nat.le_of_ble_eq_true rfl⟩) d_L_law_915 rfl rfl rfl rfl rfl (Nat.le_of_ble_eq_true rfl) ⟨Nat.le_of_ble_eq_true rfl, Nat.le_of_ble_eq_true rfl⟩ ?_
  refine z_lcmp (pc := 918) K d_L_law_918 ?_
  refine z_ifl_eq (pc := 919) K (tgt := 970) d_L_law_919 (by decide) (fun c919 => ?_) (fun c919 => ?_)
  · exact kk u v hR
  · exact absurd (Hc u v (xs (nI i + 1).toNatClampNeg) hR) c919
set_option maxRecDepth 100000 in
set_option maxHeartbeats 4000000 in
theorem law_print {p : Program} {l : Launch} {e : Env} {s : State} {m : MethodId} {below : List Frame} {meth : Method} {c : Code} {D : va_G} {a a2 : Nat → Nat} {cI cJ cC cZ : ClassId} {b L i : Nat} {xs : Nat → Int32} {Rel : US → MS → Prop} {u : US} {v : MS} (K : Cx p s m #[Value.ref b] c code 4 "DemandTermsLaw" AW D vwCl (CT cI cJ cC cZ) (fun q : Nat => s.heap.size ≤ q)) (X : va_X b L xs s s.heap ∧ b < s.heap.size ∧ ¬ (fun q : Nat => s.heap.size ≤ q) b) (hL : L ≤ 3584) (hi : i + 7 ≤ L) (hR : Rel u v) (Ho : H_ok Rel) (Hc : H_print Rel) (kk : ∀ (u' : US) (v' : MS), Rel u' v' → zW p l e room_1 s m #[Value.ref b] below meth c D vwCl (fun q : Nat => s.heap.size ≤ q) 4 37 293742 (lw_Z below #[Value.ref b] s) (CW a cI cJ cC u' ++ MW a2 cI cJ cZ v') 970 [(3, .int (nI i)), (0, .ref b), (1, .ref (a 0)), (2, .ref (a2 0))] []) : zW p l e room_1 s m #[Value.ref b] below meth c D vwCl (fun q : Nat => s.heap.size ≤ q) 4 37 293742 (lw_Z below #[Value.ref b] s) (CW a cI cJ cC u ++ MW a2 cI cJ cZ v) 924 [(3, .int (nI i)), (0, .ref b), (1, .ref (a 0)), (2, .ref (a2 0))] [] := by
  obtain ⟨hu, hm, hrv, ho⟩ := Ho u v hR
  refine z_aload_n (pc := 924) K d_L_law_924 rfl ?_
  refine z_aload_n (pc := 925) K d_L_law_925 rfl ?_
  refine z_iload_n (pc := 926) K d_L_law_926 rfl ?_
  refine z_iconst (pc := 927) K (v := 1) d_L_law_927 (by decide) ?_
  refine z_iadd (pc := 928) K d_L_law_928 ?_
  refine z_sld (pc := 929) K X d_L_law_929 (in_k (k := 1) hL (by omega)) ?_
  refine z_gVi (pc := 930) K 0 (c_D_print u (xs (nI i + 1).toNatClampNeg) hu) (cwA K 1 k426 k427 k428 k1 k429 q_D_print ⟨Nat.le_of_ble_eq_true rfl, Nat.le_of_ble_eq_true rfl⟩) d_L_law_930 rfl rfl rfl rfl rfl (Nat.le_of_ble_eq_true rfl) ⟨Nat.le_of_ble_eq_true rfl, Nat.le_of_ble_eq_true rfl⟩ ?_
  refine z_aload_n (pc := 933) K d_L_law_933 rfl ?_
  refine z_aload_n (pc := 934) K d_L_law_934 rfl ?_
  refine z_iload_n (pc := 935) K d_L_law_935 rfl ?_
  refine z_iconst (pc := 936) K (v := 1) d_L_law_936 (by decide) ?_
  refine z_iadd (pc := 937) K d_L_law_937 ?_
  refine z_sld (pc := 938) K X d_L_law_938 (in_k (k := 1) hL (by omega)) ?_
  refine z_fVi (pc := 939) K 0 (m_print_c v (xs (nI i + 1).toNatClampNeg) hm) (cwA K 1 k740 k741 k742 k7 k743 q_M_print ⟨Nat.le_of_ble_eq_true rfl, Nat.le_of_ble_eq_true rfl⟩) d_L_law_939 rfl rfl rfl rfl rfl (Nat.le_of_ble_eq_true rfl) ⟨Nat.le_of_ble_eq_true rfl, Nat.le_of_ble_eq_true rfl⟩ ?_
  refine z_icmp_eq (pc := 942) K (tgt := 970) d_L_law_942 (by decide) (fun c942 => ?_) (fun c942 => ?_)
  · exact kk _ _ (Hc u v (xs (nI i + 1).toNatClampNeg) hR).2
  · exact absurd (Hc u v (xs (nI i + 1).toNatClampNeg) hR).1 c942
set_option maxRecDepth 100000 in
set_option maxHeartbeats 4000000 in
theorem law_at {p : Program} {l : Launch} {e : Env} {s : State} {m : MethodId} {below : List Frame} {meth : Method} {c : Code} {D : va_G} {a a2 : Nat → Nat} {cI cJ cC cZ : ClassId} {b L i : Nat} {xs : Nat → Int32} {Rel : US → MS → Prop} {u : US} {v : MS} (K : Cx p s m #[Value.ref b] c code 4 "DemandTermsLaw" AW D vwCl (CT cI cJ cC cZ) (fun q : Nat => s.heap.size ≤ q)) (X : va_X b L xs s s.heap ∧ b < s.heap.size ∧ ¬ (fun q : Nat => s.heap.size ≤ q) b) (hL : L ≤ 3584) (hi : i + 7 ≤ L) (hR : Rel u v) (Ho : H_ok Rel) (Hc : H_at Rel) (kk : ∀ (u' : US) (v' : MS), Rel u' v' → zW p l e room_1 s m #[Value.ref b] below meth c D vwCl (fun q : Nat => s.heap.size ≤ q) 4 37 293742 (lw_Z below #[Value.ref b] s) (CW a cI cJ cC u' ++ MW a2 cI cJ cZ v') 970 [(3, .int (nI i)), (0, .ref b), (1, .ref (a 0)), (2, .ref (a2 0))] []) : zW p l e room_1 s m #[Value.ref b] below meth c D vwCl (fun q : Nat => s.heap.size ≤ q) 4 37 293742 (lw_Z below #[Value.ref b] s) (CW a cI cJ cC u ++ MW a2 cI cJ cZ v) 947 [(3, .int (nI i)), (0, .ref b), (1, .ref (a 0)), (2, .ref (a2 0))] [] := by
  obtain ⟨hu, hm, hrv, ho⟩ := Ho u v hR
  refine z_aload_n (pc := 947) K d_L_law_947 rfl ?_
  refine z_aload_n (pc := 948) K d_L_law_948 rfl ?_
  refine z_iload_n (pc := 949) K d_L_law_949 rfl ?_
  refine z_iconst (pc := 950) K (v := 1) d_L_law_950 (by decide) ?_
  refine z_iadd (pc := 951) K d_L_law_951 ?_
  refine z_sld (pc := 952) K X d_L_law_952 (in_k (k := 1) hL (by omega)) ?_
  refine z_gVi (pc := 953) K 0 (c_D_at u (xs (nI i + 1).toNatClampNeg) hu) (cwA K 1 k457 k458 k459 k1 k460 q_D_at ⟨Nat.le_of_ble_eq_true rfl, Nat.le_of_ble_eq_true rfl⟩) d_L_law_953 rfl rfl rfl rfl rfl (Nat.le_of_ble_eq_true rfl) ⟨Nat.le_of_ble_eq_true rfl, Nat.le_of_ble_eq_true rfl⟩ ?_
  refine z_aload_n (pc := 956) K d_L_law_956 rfl ?_
  refine z_aload_n (pc := 957) K d_L_law_957 rfl ?_
  refine z_iload_n (pc := 958) K d_L_law_958 rfl ?_
  refine z_iconst (pc := 959) K (v := 1) d_L_law_959 (by decide) ?_
  refine z_iadd (pc := 960) K d_L_law_960 ?_
  refine z_sld (pc := 961) K X d_L_law_961 (in_k (k := 1) hL (by omega)) ?_
  refine z_fVi (pc := 962) K 0 (m_at_c v (xs (nI i + 1).toNatClampNeg) ho) (cwA K 1 k756 k757 k758 k7 k759 q_M_at ⟨Nat.le_of_ble_eq_true rfl, Nat.le_of_ble_eq_true rfl⟩) d_L_law_962 rfl rfl rfl rfl rfl (Nat.le_of_ble_eq_true rfl) ⟨Nat.le_of_ble_eq_true rfl, Nat.le_of_ble_eq_true rfl⟩ ?_
  refine z_icmp_eq (pc := 965) K (tgt := 970) d_L_law_965 (by decide) (fun c965 => ?_) (fun c965 => ?_)
  · exact kk u v hR
  · exact absurd (Hc u v (xs (nI i + 1).toNatClampNeg) hR) c965
