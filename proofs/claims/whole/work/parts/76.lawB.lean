theorem tmL_13 : Cond.methodLink R_law 13 yX8_type ∈ gtb := gtb_in (List.mem_append_right _ (List.mem_of_getElem? (i := 318) (by decide +kernel))) rfl
theorem tmL_17 : Cond.methodLink R_law 17 yX9_type ∈ gtb := gtb_in (List.mem_append_right _ (List.mem_of_getElem? (i := 957) (by decide +kernel))) rfl
theorem tmL_18 : Cond.methodLink R_law 18 yX8_wipe ∈ gtb := gtb_in (List.mem_append_right _ (List.mem_of_getElem? (i := 336) (by decide +kernel))) rfl
theorem tmL_22 : Cond.methodLink R_law 22 yX9_wipe ∈ gtb := gtb_in (List.mem_append_right _ (List.mem_of_getElem? (i := 965) (by decide +kernel))) rfl
theorem tmL_23 : Cond.methodLink R_law 23 yX8_undo ∈ gtb := gtb_in (List.mem_append_right _ (List.mem_of_getElem? (i := 345) (by decide +kernel))) rfl
theorem tmL_26 : Cond.methodLink R_law 26 yX9_undo ∈ gtb := gtb_in (List.mem_append_right _ (List.mem_of_getElem? (i := 969) (by decide +kernel))) rfl
theorem tmL_27 : Cond.methodLink R_law 27 yX8_fault ∈ gtb := gtb_in (List.mem_append_right _ (List.mem_of_getElem? (i := 349) (by decide +kernel))) rfl
theorem tmL_30 : Cond.methodLink R_law 30 yX9_fault ∈ gtb := gtb_in (List.mem_append_right _ (List.mem_of_getElem? (i := 973) (by decide +kernel))) rfl
theorem tmL_31 : Cond.methodLink R_law 31 yX8_wagon ∈ gtb := gtb_in (List.mem_append_right _ (List.mem_of_getElem? (i := 361) (by decide +kernel))) rfl
theorem tmL_34 : Cond.methodLink R_law 34 yX9_wagon ∈ gtb := gtb_in (List.mem_append_right _ (List.mem_of_getElem? (i := 986) (by decide +kernel))) rfl
theorem tmL_35 : Cond.methodLink R_law 35 yX8_hill ∈ gtb := gtb_in (List.mem_append_right _ (List.mem_of_getElem? (i := 373) (by decide +kernel))) rfl
theorem tmL_38 : Cond.methodLink R_law 38 yX9_hill ∈ gtb := gtb_in (List.mem_append_right _ (List.mem_of_getElem? (i := 994) (by decide +kernel))) rfl
theorem tmL_39 : Cond.methodLink R_law 39 yX8_engine ∈ gtb := gtb_in (List.mem_append_right _ (List.mem_of_getElem? (i := 389) (by decide +kernel))) rfl
theorem tmL_43 : Cond.methodLink R_law 43 yX9_engine ∈ gtb := gtb_in (List.mem_append_right _ (List.mem_of_getElem? (i := 998) (by decide +kernel))) rfl
theorem tmL_44 : Cond.methodLink R_law 44 yX8_set ∈ gtb := gtb_in (List.mem_append_right _ (List.mem_of_getElem? (i := 410) (by decide +kernel))) rfl
theorem tmL_47 : Cond.methodLink R_law 47 yX9_set ∈ gtb := gtb_in (List.mem_append_right _ (List.mem_of_getElem? (i := 1004) (by decide +kernel))) rfl
theorem tmL_48 : Cond.methodLink R_law 48 yX8_gives ∈ gtb := gtb_in (List.mem_append_right _ (List.mem_of_getElem? (i := 414) (by decide +kernel))) rfl
theorem tmL_51 : Cond.methodLink R_law 51 yX9_gives ∈ gtb := gtb_in (List.mem_append_right _ (List.mem_of_getElem? (i := 1011) (by decide +kernel))) rfl
theorem tmL_52 : Cond.methodLink R_law 52 yX8_minute ∈ gtb := gtb_in (List.mem_append_right _ (List.mem_of_getElem? (i := 425) (by decide +kernel))) rfl
theorem tmL_55 : Cond.methodLink R_law 55 yX9_minute ∈ gtb := gtb_in (List.mem_append_right _ (List.mem_of_getElem? (i := 1037) (by decide +kernel))) rfl
theorem tmL_56 : Cond.methodLink R_law 56 yX8_strain ∈ gtb := gtb_in (List.mem_append_right _ (List.mem_of_getElem? (i := 441) (by decide +kernel))) rfl
theorem tmL_60 : Cond.methodLink R_law 60 yX9_strain ∈ gtb := gtb_in (List.mem_append_right _ (List.mem_of_getElem? (i := 1049) (by decide +kernel))) rfl
theorem tmL_61 : Cond.methodLink R_law 61 yX8_slack ∈ gtb := gtb_in (List.mem_append_right _ (List.mem_of_getElem? (i := 462) (by decide +kernel))) rfl
theorem tmL_64 : Cond.methodLink R_law 64 yX9_slack ∈ gtb := gtb_in (List.mem_append_right _ (List.mem_of_getElem? (i := 1072) (by decide +kernel))) rfl
theorem tmL_65 : Cond.methodLink R_law 65 yX8_torn ∈ gtb := gtb_in (List.mem_append_right _ (List.mem_of_getElem? (i := 471) (by decide +kernel))) rfl
theorem tmL_69 : Cond.methodLink R_law 69 yX9_torn ∈ gtb := gtb_in (List.mem_append_right _ (List.mem_of_getElem? (i := 1080) (by decide +kernel))) rfl
theorem tmL_70 : Cond.methodLink R_law 70 yX8_off ∈ gtb := gtb_in (List.mem_append_right _ (List.mem_of_getElem? (i := 479) (by decide +kernel))) rfl
theorem tmL_73 : Cond.methodLink R_law 73 yX9_off ∈ gtb := gtb_in (List.mem_append_right _ (List.mem_of_getElem? (i := 1092) (by decide +kernel))) rfl
theorem tmL_74 : Cond.methodLink R_law 74 yX8_over ∈ gtb := gtb_in (List.mem_append_right _ (List.mem_of_getElem? (i := 492) (by decide +kernel))) rfl
theorem tmL_77 : Cond.methodLink R_law 77 yX9_over ∈ gtb := gtb_in (List.mem_append_right _ (List.mem_of_getElem? (i := 1104) (by decide +kernel))) rfl
theorem tmL_78 : Cond.methodLink R_law 78 yX8_settles ∈ gtb := gtb_in (List.mem_append_right _ (List.mem_of_getElem? (i := 496) (by decide +kernel))) rfl
theorem tmL_81 : Cond.methodLink R_law 81 yX9_settles ∈ gtb := gtb_in (List.mem_append_right _ (List.mem_of_getElem? (i := 1112) (by decide +kernel))) rfl
theorem tmL_82 : Cond.methodLink R_law 82 yX8_swings ∈ gtb := gtb_in (List.mem_append_right _ (List.mem_of_getElem? (i := 505) (by decide +kernel))) rfl
theorem tmL_85 : Cond.methodLink R_law 85 yX9_swings ∈ gtb := gtb_in (List.mem_append_right _ (List.mem_of_getElem? (i := 1124) (by decide +kernel))) rfl
theorem tmL_86 : Cond.methodLink R_law 86 yX8_does ∈ gtb := gtb_in (List.mem_append_right _ (List.mem_of_getElem? (i := 514) (by decide +kernel))) rfl
theorem tmL_89 : Cond.methodLink R_law 89 yX9_does ∈ gtb := gtb_in (List.mem_append_right _ (List.mem_of_getElem? (i := 1132) (by decide +kernel))) rfl
theorem tmL_90 : Cond.methodLink R_law 90 yX8_start ∈ gtb := gtb_in (List.mem_append_right _ (List.mem_of_getElem? (i := 522) (by decide +kernel))) rfl
theorem tmL_93 : Cond.methodLink R_law 93 yX9_start ∈ gtb := gtb_in (List.mem_append_right _ (List.mem_of_getElem? (i := 1140) (by decide +kernel))) rfl
theorem tmL_94 : Cond.methodLink R_law 94 yX8_safe ∈ gtb := gtb_in (List.mem_append_right _ (List.mem_of_getElem? (i := 533) (by decide +kernel))) rfl
theorem tmL_97 : Cond.methodLink R_law 97 yX9_safe ∈ gtb := gtb_in (List.mem_append_right _ (List.mem_of_getElem? (i := 1148) (by decide +kernel))) rfl
theorem tmL_98 : Cond.methodLink R_law 98 yX8_order ∈ gtb := gtb_in (List.mem_append_right _ (List.mem_of_getElem? (i := 537) (by decide +kernel))) rfl
theorem tmL_101 : Cond.methodLink R_law 101 yX9_order ∈ gtb := gtb_in (List.mem_append_right _ (List.mem_of_getElem? (i := 1156) (by decide +kernel))) rfl
theorem tmL_102 : Cond.methodLink R_law 102 yX8_squeeze ∈ gtb := gtb_in (List.mem_append_right _ (List.mem_of_getElem? (i := 580) (by decide +kernel))) rfl
theorem tmL_105 : Cond.methodLink R_law 105 yX9_squeeze ∈ gtb := gtb_in (List.mem_append_right _ (List.mem_of_getElem? (i := 1179) (by decide +kernel))) rfl
theorem tmL_106 : Cond.methodLink R_law 106 yX8_train ∈ gtb := gtb_in (List.mem_append_right _ (List.mem_of_getElem? (i := 592) (by decide +kernel))) rfl
theorem tmL_109 : Cond.methodLink R_law 109 yX9_train ∈ gtb := gtb_in (List.mem_append_right _ (List.mem_of_getElem? (i := 1187) (by decide +kernel))) rfl
theorem tmL_110 : Cond.methodLink R_law 110 yX8_back ∈ gtb := gtb_in (List.mem_append_right _ (List.mem_of_getElem? (i := 611) (by decide +kernel))) rfl
theorem tmL_113 : Cond.methodLink R_law 113 yX9_back ∈ gtb := gtb_in (List.mem_append_right _ (List.mem_of_getElem? (i := 1191) (by decide +kernel))) rfl
theorem tmL_114 : Cond.methodLink R_law 114 yX8_read ∈ gtb := gtb_in (List.mem_append_right _ (List.mem_of_getElem? (i := 620) (by decide +kernel))) rfl
theorem tmL_117 : Cond.methodLink R_law 117 yX9_read ∈ gtb := gtb_in (List.mem_append_right _ (List.mem_of_getElem? (i := 1195) (by decide +kernel))) rfl
theorem tmL_118 : Cond.methodLink R_law 118 yX8_late ∈ gtb := gtb_in (List.mem_append_right _ (List.mem_of_getElem? (i := 644) (by decide +kernel))) rfl
theorem tmL_121 : Cond.methodLink R_law 121 yX9_late ∈ gtb := gtb_in (List.mem_append_right _ (List.mem_of_getElem? (i := 1200) (by decide +kernel))) rfl
theorem tmL_122 : Cond.methodLink R_law 122 yX8_enough ∈ gtb := gtb_in (List.mem_append_right _ (List.mem_of_getElem? (i := 672) (by decide +kernel))) rfl
theorem tmL_125 : Cond.methodLink R_law 125 yX9_enough ∈ gtb := gtb_in (List.mem_append_right _ (List.mem_of_getElem? (i := 1213) (by decide +kernel))) rfl
theorem tmL_126 : Cond.methodLink R_law 126 yX8_whistles ∈ gtb := gtb_in (List.mem_append_right _ (List.mem_of_getElem? (i := 676) (by decide +kernel))) rfl
theorem tmL_130 : Cond.methodLink R_law 130 yX9_whistles ∈ gtb := gtb_in (List.mem_append_right _ (List.mem_of_getElem? (i := 1221) (by decide +kernel))) rfl
theorem tmL_131 : Cond.methodLink R_law 131 yX8_words ∈ gtb := gtb_in (List.mem_append_right _ (List.mem_of_getElem? (i := 686) (by decide +kernel))) rfl
theorem tmL_134 : Cond.methodLink R_law 134 yX9_words ∈ gtb := gtb_in (List.mem_append_right _ (List.mem_of_getElem? (i := 1229) (by decide +kernel))) rfl
theorem tmL_135 : Cond.methodLink R_law 135 yX8_sheet ∈ gtb := gtb_in (List.mem_append_right _ (List.mem_of_getElem? (i := 690) (by decide +kernel))) rfl
theorem tmL_138 : Cond.methodLink R_law 138 yX9_sheet ∈ gtb := gtb_in (List.mem_append_right _ (List.mem_of_getElem? (i := 917) (by decide +kernel))) rfl
theorem tmL_139 : Cond.methodLink R_law 139 yX8_lose ∈ gtb := gtb_in (List.mem_append_right _ (List.mem_of_getElem? (i := 703) (by decide +kernel))) rfl
theorem tmL_142 : Cond.methodLink R_law 142 yX9_lose ∈ gtb := gtb_in (List.mem_append_right _ (List.mem_of_getElem? (i := 933) (by decide +kernel))) rfl
theorem tmL_143 : Cond.methodLink R_law 143 yX8_lay ∈ gtb := gtb_in (List.mem_append_right _ (List.mem_of_getElem? (i := 711) (by decide +kernel))) rfl
theorem tmL_147 : Cond.methodLink R_law 147 yX9_lay ∈ gtb := gtb_in (List.mem_append_right _ (List.mem_of_getElem? (i := 937) (by decide +kernel))) rfl
theorem tmL_148 : Cond.methodLink R_law 148 yX8_get ∈ gtb := gtb_in (List.mem_append_right _ (List.mem_of_getElem? (i := 734) (by decide +kernel))) rfl
theorem tmL_151 : Cond.methodLink R_law 151 yX9_get ∈ gtb := gtb_in (List.mem_append_right _ (List.mem_of_getElem? (i := 948) (by decide +kernel))) rfl
theorem tmL_152 : Cond.methodLink R_law 152 yX8_copy ∈ gtb := gtb_in (List.mem_append_right _ (List.mem_of_getElem? (i := 739) (by decide +kernel))) rfl
theorem tmL_156 : Cond.methodLink R_law 156 yX9_copy ∈ gtb := gtb_in (List.mem_append_right _ (List.mem_of_getElem? (i := 953) (by decide +kernel))) rfl
theorem tmL_157 : Cond.methodLink R_law 157 yX8_write ∈ gtb := gtb_in (List.mem_append_right _ (List.mem_of_getElem? (i := 753) (by decide +kernel))) rfl
theorem tmL_160 : Cond.methodLink R_law 160 yX9_write ∈ gtb := gtb_in (List.mem_append_right _ (List.mem_of_getElem? (i := 1233) (by decide +kernel))) rfl
theorem tmL_161 : Cond.methodLink R_law 161 yX8_count ∈ gtb := gtb_in (List.mem_append_right _ (List.mem_of_getElem? (i := 758) (by decide +kernel))) rfl
theorem tmL_164 : Cond.methodLink R_law 164 yX9_count ∈ gtb := gtb_in (List.mem_append_right _ (List.mem_of_getElem? (i := 1237) (by decide +kernel))) rfl
theorem tmL_165 : Cond.methodLink R_law 165 yX8_digest ∈ gtb := gtb_in (List.mem_append_right _ (List.mem_of_getElem? (i := 766) (by decide +kernel))) rfl
theorem tmL_169 : Cond.methodLink R_law 169 yX9_digest ∈ gtb := gtb_in (List.mem_append_right _ (List.mem_of_getElem? (i := 1241) (by decide +kernel))) rfl
set_option maxHeartbeats 1000000 in
theorem lcs_0 {X : Amb} {ad : Nat → Nat} {b Ln : Nat} {xs : Nat → Int32} {σ τ : Mem} (h : R σ τ) {i : Nat} (hi : i + 6 ≤ Ln) (hL : Ln ≤ 3072) (hnext : ∀ σ' τ', R σ' τ' → LWP X ad b Ln xs 1250 [(0, .ref b), (1, .ref (adr X 0)), (2, .ref (ad 0)), (3, .int (nI i))] [] σ' τ') : LWP X ad b Ln xs 196 [(0, .ref b), (1, .ref (adr X 0)), (2, .ref (ad 0)), (3, .int (nI i))] [] σ τ := by
  refine lq_aload_n dL_law_196 1 rfl ?_
  refine lq_aload_n dL_law_197 0 rfl ?_
  refine lq_iload_n dL_law_198 3 rfl ?_
  refine lq_iconst (v := 1) dL_law_199 (by decide) ?_
  refine lq_iadd dL_law_200 ?_
  refine lq_sld dL_law_201 (law_in (t := 1) rfl (by omega) hL) ?_
  refine lq_aload_n dL_law_202 0 rfl ?_
  refine lq_iload_n dL_law_203 3 rfl ?_
  refine lq_iconst (v := 2) dL_law_204 (by decide) ?_
  refine lq_iadd dL_law_205 ?_
  refine lq_sld dL_law_206 (law_in (t := 2) rfl (by omega) hL) ?_
  have hop := op_type h (xs (nI i + 1).toNatClampNeg) (xs (nI i + 2).toNatClampNeg)
  refine lq_callX (N := mX8_type) (As := [.int (xs (nI i + 1).toNatClampNeg), .int (xs (nI i + 2).toNatClampNeg)]) (rest := []) dL_law_207 tmL_13 okX8_type rfl rfl rfl rfl rfl rfl (s_X8_type X σ _ _) ?_
  refine lq_aload_n dL_law_210 2 rfl ?_
  refine lq_aload_n dL_law_211 0 rfl ?_
  refine lq_iload_n dL_law_212 3 rfl ?_
  refine lq_iconst (v := 1) dL_law_213 (by decide) ?_
  refine lq_iadd dL_law_214 ?_
  refine lq_sld dL_law_215 (law_in (t := 1) rfl (by omega) hL) ?_
  refine lq_aload_n dL_law_216 0 rfl ?_
  refine lq_iload_n dL_law_217 3 rfl ?_
  refine lq_iconst (v := 2) dL_law_218 (by decide) ?_
  refine lq_iadd dL_law_219 ?_
  refine lq_sld dL_law_220 (law_in (t := 2) rfl (by omega) hL) ?_
  refine lq_callY (N := mX9_type) (As := [.int (xs (nI i + 1).toNatClampNeg), .int (xs (nI i + 2).toNatClampNeg)]) (rest := [_]) dL_law_221 tmL_17 okX9_type rfl rfl rfl rfl rfl rfl (s_X9_type (YY X ad) τ _ _ hop.1) ?_
  exact lq_icmp_eq 1250 dL_law_224 rfl (fun _ => hnext _ _ hop.2.2) (fun hne => absurd hop.2.1 hne)
set_option maxHeartbeats 1000000 in
theorem lcs_1 {X : Amb} {ad : Nat → Nat} {b Ln : Nat} {xs : Nat → Int32} {σ τ : Mem} (h : R σ τ) {i : Nat} (hi : i + 6 ≤ Ln) (hL : Ln ≤ 3072) (hnext : ∀ σ' τ', R σ' τ' → LWP X ad b Ln xs 1250 [(0, .ref b), (1, .ref (adr X 0)), (2, .ref (ad 0)), (3, .int (nI i))] [] σ' τ') : LWP X ad b Ln xs 229 [(0, .ref b), (1, .ref (adr X 0)), (2, .ref (ad 0)), (3, .int (nI i))] [] σ τ := by
  refine lq_aload_n dL_law_229 1 rfl ?_
  refine lq_aload_n dL_law_230 0 rfl ?_
  refine lq_iload_n dL_law_231 3 rfl ?_
  refine lq_iconst (v := 1) dL_law_232 (by decide) ?_
  refine lq_iadd dL_law_233 ?_
  refine lq_sld dL_law_234 (law_in (t := 1) rfl (by omega) hL) ?_
  have hop := op_wipe h (xs (nI i + 1).toNatClampNeg)
  refine lq_callX (N := mX8_wipe) (As := [.int (xs (nI i + 1).toNatClampNeg)]) (rest := []) dL_law_235 tmL_18 okX8_wipe rfl rfl rfl rfl rfl rfl (s_X8_wipe X σ _) ?_
  refine lq_aload_n dL_law_238 2 rfl ?_
  refine lq_aload_n dL_law_239 0 rfl ?_
  refine lq_iload_n dL_law_240 3 rfl ?_
  refine lq_iconst (v := 1) dL_law_241 (by decide) ?_
  refine lq_iadd dL_law_242 ?_
  refine lq_sld dL_law_243 (law_in (t := 1) rfl (by omega) hL) ?_
  refine lq_callY (N := mX9_wipe) (As := [.int (xs (nI i + 1).toNatClampNeg)]) (rest := [_]) dL_law_244 tmL_22 okX9_wipe rfl rfl rfl rfl rfl rfl (s_X9_wipe (YY X ad) τ _ hop.1) ?_
  exact lq_icmp_eq 1250 dL_law_247 rfl (fun _ => hnext _ _ hop.2.2) (fun hne => absurd hop.2.1 hne)
set_option maxHeartbeats 1000000 in
theorem lcs_2 {X : Amb} {ad : Nat → Nat} {b Ln : Nat} {xs : Nat → Int32} {σ τ : Mem} (h : R σ τ) {i : Nat} (hi : i + 6 ≤ Ln) (hL : Ln ≤ 3072) (hnext : ∀ σ' τ', R σ' τ' → LWP X ad b Ln xs 1250 [(0, .ref b), (1, .ref (adr X 0)), (2, .ref (ad 0)), (3, .int (nI i))] [] σ' τ') : LWP X ad b Ln xs 252 [(0, .ref b), (1, .ref (adr X 0)), (2, .ref (ad 0)), (3, .int (nI i))] [] σ τ := by
  refine lq_aload_n dL_law_252 1 rfl ?_
  refine lq_aload_n dL_law_253 0 rfl ?_
  refine lq_iload_n dL_law_254 3 rfl ?_
  refine lq_iconst (v := 1) dL_law_255 (by decide) ?_
  refine lq_iadd dL_law_256 ?_
  refine lq_sld dL_law_257 (law_in (t := 1) rfl (by omega) hL) ?_
  have hop := op_undo h (xs (nI i + 1).toNatClampNeg)
  refine lq_callX (N := mX8_undo) (As := [.int (xs (nI i + 1).toNatClampNeg)]) (rest := []) dL_law_258 tmL_23 okX8_undo rfl rfl rfl rfl rfl rfl (s_X8_undo X σ _) ?_
  refine lq_aload_n dL_law_261 2 rfl ?_
  refine lq_aload_n dL_law_262 0 rfl ?_
  refine lq_iload_n dL_law_263 3 rfl ?_
  refine lq_iconst (v := 1) dL_law_264 (by decide) ?_
  refine lq_iadd dL_law_265 ?_
  refine lq_sld dL_law_266 (law_in (t := 1) rfl (by omega) hL) ?_
  refine lq_callY (N := mX9_undo) (As := [.int (xs (nI i + 1).toNatClampNeg)]) (rest := [_]) dL_law_267 tmL_26 okX9_undo rfl rfl rfl rfl rfl rfl (s_X9_undo (YY X ad) τ _ hop.1) ?_
  exact lq_icmp_eq 1250 dL_law_270 rfl (fun _ => hnext _ _ hop.2.2) (fun hne => absurd hop.2.1 hne)
set_option maxHeartbeats 1000000 in
theorem lcs_3 {X : Amb} {ad : Nat → Nat} {b Ln : Nat} {xs : Nat → Int32} {σ τ : Mem} (h : R σ τ) {i : Nat} (hi : i + 6 ≤ Ln) (hL : Ln ≤ 3072) (hnext : ∀ σ' τ', R σ' τ' → LWP X ad b Ln xs 1250 [(0, .ref b), (1, .ref (adr X 0)), (2, .ref (ad 0)), (3, .int (nI i))] [] σ' τ') : LWP X ad b Ln xs 275 [(0, .ref b), (1, .ref (adr X 0)), (2, .ref (ad 0)), (3, .int (nI i))] [] σ τ := by
  refine lq_aload_n dL_law_275 1 rfl ?_
  refine lq_aload_n dL_law_276 0 rfl ?_
  refine lq_iload_n dL_law_277 3 rfl ?_
  refine lq_iconst (v := 1) dL_law_278 (by decide) ?_
  refine lq_iadd dL_law_279 ?_
  refine lq_sld dL_law_280 (law_in (t := 1) rfl (by omega) hL) ?_
  have hop := op_fault h (xs (nI i + 1).toNatClampNeg)
  refine lq_callX (N := mX8_fault) (As := [.int (xs (nI i + 1).toNatClampNeg)]) (rest := []) dL_law_281 tmL_27 okX8_fault rfl rfl rfl rfl rfl rfl (s_X8_fault X σ _) ?_
  refine lq_aload_n dL_law_284 2 rfl ?_
  refine lq_aload_n dL_law_285 0 rfl ?_
  refine lq_iload_n dL_law_286 3 rfl ?_
  refine lq_iconst (v := 1) dL_law_287 (by decide) ?_
  refine lq_iadd dL_law_288 ?_
  refine lq_sld dL_law_289 (law_in (t := 1) rfl (by omega) hL) ?_
  refine lq_callY (N := mX9_fault) (As := [.int (xs (nI i + 1).toNatClampNeg)]) (rest := [_]) dL_law_290 tmL_30 okX9_fault rfl rfl rfl rfl rfl rfl (s_X9_fault (YY X ad) τ _ hop.1) ?_
  exact lq_icmp_eq 1250 dL_law_293 rfl (fun _ => hnext _ _ hop.2.2) (fun hne => absurd hop.2.1 hne)
set_option maxHeartbeats 1000000 in
theorem lcs_4 {X : Amb} {ad : Nat → Nat} {b Ln : Nat} {xs : Nat → Int32} {σ τ : Mem} (h : R σ τ) {i : Nat} (hi : i + 6 ≤ Ln) (hL : Ln ≤ 3072) (hnext : ∀ σ' τ', R σ' τ' → LWP X ad b Ln xs 1250 [(0, .ref b), (1, .ref (adr X 0)), (2, .ref (ad 0)), (3, .int (nI i))] [] σ' τ') : LWP X ad b Ln xs 298 [(0, .ref b), (1, .ref (adr X 0)), (2, .ref (ad 0)), (3, .int (nI i))] [] σ τ := by
  refine lq_aload_n dL_law_298 1 rfl ?_
  refine lq_aload_n dL_law_299 0 rfl ?_
  refine lq_iload_n dL_law_300 3 rfl ?_
  refine lq_iconst (v := 1) dL_law_301 (by decide) ?_
  refine lq_iadd dL_law_302 ?_
  refine lq_sld dL_law_303 (law_in (t := 1) rfl (by omega) hL) ?_
  have hop := op_wagon h (xs (nI i + 1).toNatClampNeg)
  refine lq_callX (N := mX8_wagon) (As := [.int (xs (nI i + 1).toNatClampNeg)]) (rest := []) dL_law_304 tmL_31 okX8_wagon rfl rfl rfl rfl rfl rfl (s_X8_wagon X σ _) ?_
  refine lq_aload_n dL_law_307 2 rfl ?_
  refine lq_aload_n dL_law_308 0 rfl ?_
  refine lq_iload_n dL_law_309 3 rfl ?_
  refine lq_iconst (v := 1) dL_law_310 (by decide) ?_
  refine lq_iadd dL_law_311 ?_
  refine lq_sld dL_law_312 (law_in (t := 1) rfl (by omega) hL) ?_
  refine lq_callY (N := mX9_wagon) (As := [.int (xs (nI i + 1).toNatClampNeg)]) (rest := [_]) dL_law_313 tmL_34 okX9_wagon rfl rfl rfl rfl rfl rfl (s_X9_wagon (YY X ad) τ _ hop.1) ?_
  exact lq_icmp_eq 1250 dL_law_316 rfl (fun _ => hnext _ _ hop.2.2) (fun hne => absurd hop.2.1 hne)
set_option maxHeartbeats 1000000 in
theorem lcs_5 {X : Amb} {ad : Nat → Nat} {b Ln : Nat} {xs : Nat → Int32} {σ τ : Mem} (h : R σ τ) {i : Nat} (hi : i + 6 ≤ Ln) (hL : Ln ≤ 3072) (hnext : ∀ σ' τ', R σ' τ' → LWP X ad b Ln xs 1250 [(0, .ref b), (1, .ref (adr X 0)), (2, .ref (ad 0)), (3, .int (nI i))] [] σ' τ') : LWP X ad b Ln xs 321 [(0, .ref b), (1, .ref (adr X 0)), (2, .ref (ad 0)), (3, .int (nI i))] [] σ τ := by
  refine lq_aload_n dL_law_321 1 rfl ?_
  refine lq_aload_n dL_law_322 0 rfl ?_
  refine lq_iload_n dL_law_323 3 rfl ?_
  refine lq_iconst (v := 1) dL_law_324 (by decide) ?_
  refine lq_iadd dL_law_325 ?_
  refine lq_sld dL_law_326 (law_in (t := 1) rfl (by omega) hL) ?_
  refine lq_aload_n dL_law_327 0 rfl ?_
  refine lq_iload_n dL_law_328 3 rfl ?_
  refine lq_iconst (v := 2) dL_law_329 (by decide) ?_
  refine lq_iadd dL_law_330 ?_
  refine lq_sld dL_law_331 (law_in (t := 2) rfl (by omega) hL) ?_
  have hop := op_hill h (xs (nI i + 1).toNatClampNeg) (xs (nI i + 2).toNatClampNeg)
  refine lq_callX (N := mX8_hill) (As := [.int (xs (nI i + 1).toNatClampNeg), .int (xs (nI i + 2).toNatClampNeg)]) (rest := []) dL_law_332 tmL_35 okX8_hill rfl rfl rfl rfl rfl rfl (s_X8_hill X σ _ _) ?_
  refine lq_aload_n dL_law_335 2 rfl ?_
  refine lq_aload_n dL_law_336 0 rfl ?_
  refine lq_iload_n dL_law_337 3 rfl ?_
  refine lq_iconst (v := 1) dL_law_338 (by decide) ?_
  refine lq_iadd dL_law_339 ?_
  refine lq_sld dL_law_340 (law_in (t := 1) rfl (by omega) hL) ?_
  refine lq_aload_n dL_law_341 0 rfl ?_
  refine lq_iload_n dL_law_342 3 rfl ?_
  refine lq_iconst (v := 2) dL_law_343 (by decide) ?_
  refine lq_iadd dL_law_344 ?_
  refine lq_sld dL_law_345 (law_in (t := 2) rfl (by omega) hL) ?_
  refine lq_callY (N := mX9_hill) (As := [.int (xs (nI i + 1).toNatClampNeg), .int (xs (nI i + 2).toNatClampNeg)]) (rest := [_]) dL_law_346 tmL_38 okX9_hill rfl rfl rfl rfl rfl rfl (s_X9_hill (YY X ad) τ _ _ hop.1) ?_
  exact lq_icmp_eq 1250 dL_law_349 rfl (fun _ => hnext _ _ hop.2.2) (fun hne => absurd hop.2.1 hne)
set_option maxHeartbeats 1000000 in
theorem lcs_6 {X : Amb} {ad : Nat → Nat} {b Ln : Nat} {xs : Nat → Int32} {σ τ : Mem} (h : R σ τ) {i : Nat} (hi : i + 6 ≤ Ln) (hL : Ln ≤ 3072) (hnext : ∀ σ' τ', R σ' τ' → LWP X ad b Ln xs 1250 [(0, .ref b), (1, .ref (adr X 0)), (2, .ref (ad 0)), (3, .int (nI i))] [] σ' τ') : LWP X ad b Ln xs 354 [(0, .ref b), (1, .ref (adr X 0)), (2, .ref (ad 0)), (3, .int (nI i))] [] σ τ := by
  refine lq_aload_n dL_law_354 1 rfl ?_
  refine lq_aload_n dL_law_355 0 rfl ?_
  refine lq_iload_n dL_law_356 3 rfl ?_
  refine lq_iconst (v := 1) dL_law_357 (by decide) ?_
  refine lq_iadd dL_law_358 ?_
  refine lq_sld dL_law_359 (law_in (t := 1) rfl (by omega) hL) ?_
  refine lq_aload_n dL_law_360 0 rfl ?_
  refine lq_iload_n dL_law_361 3 rfl ?_
  refine lq_iconst (v := 2) dL_law_362 (by decide) ?_
  refine lq_iadd dL_law_363 ?_
  refine lq_sld dL_law_364 (law_in (t := 2) rfl (by omega) hL) ?_
  refine lq_aload_n dL_law_365 0 rfl ?_
  refine lq_iload_n dL_law_366 3 rfl ?_
  refine lq_iconst (v := 3) dL_law_367 (by decide) ?_
  refine lq_iadd dL_law_368 ?_
  refine lq_sld dL_law_369 (law_in (t := 3) rfl (by omega) hL) ?_
  have hop := op_engine h (xs (nI i + 1).toNatClampNeg) (xs (nI i + 2).toNatClampNeg) (xs (nI i + 3).toNatClampNeg)
  refine lq_callX (N := mX8_engine) (As := [.int (xs (nI i + 1).toNatClampNeg), .int (xs (nI i + 2).toNatClampNeg), .int (xs (nI i + 3).toNatClampNeg)]) (rest := []) dL_law_370 tmL_39 okX8_engine rfl rfl rfl rfl rfl rfl (s_X8_engine X σ _ _ _) ?_
  refine lq_aload_n dL_law_373 2 rfl ?_
  refine lq_aload_n dL_law_374 0 rfl ?_
  refine lq_iload_n dL_law_375 3 rfl ?_
  refine lq_iconst (v := 1) dL_law_376 (by decide) ?_
  refine lq_iadd dL_law_377 ?_
  refine lq_sld dL_law_378 (law_in (t := 1) rfl (by omega) hL) ?_
  refine lq_aload_n dL_law_379 0 rfl ?_
  refine lq_iload_n dL_law_380 3 rfl ?_
  refine lq_iconst (v := 2) dL_law_381 (by decide) ?_
  refine lq_iadd dL_law_382 ?_
  refine lq_sld dL_law_383 (law_in (t := 2) rfl (by omega) hL) ?_
  refine lq_aload_n dL_law_384 0 rfl ?_
  refine lq_iload_n dL_law_385 3 rfl ?_
  refine lq_iconst (v := 3) dL_law_386 (by decide) ?_
  refine lq_iadd dL_law_387 ?_
  refine lq_sld dL_law_388 (law_in (t := 3) rfl (by omega) hL) ?_
  refine lq_callY (N := mX9_engine) (As := [.int (xs (nI i + 1).toNatClampNeg), .int (xs (nI i + 2).toNatClampNeg), .int (xs (nI i + 3).toNatClampNeg)]) (rest := [_]) dL_law_389 tmL_43 okX9_engine rfl rfl rfl rfl rfl rfl (s_X9_engine (YY X ad) τ _ _ _ hop.1) ?_
  exact lq_icmp_eq 1250 dL_law_392 rfl (fun _ => hnext _ _ hop.2.2) (fun hne => absurd hop.2.1 hne)
set_option maxHeartbeats 1000000 in
theorem lcs_7 {X : Amb} {ad : Nat → Nat} {b Ln : Nat} {xs : Nat → Int32} {σ τ : Mem} (h : R σ τ) {i : Nat} (hi : i + 6 ≤ Ln) (hL : Ln ≤ 3072) (hnext : ∀ σ' τ', R σ' τ' → LWP X ad b Ln xs 1250 [(0, .ref b), (1, .ref (adr X 0)), (2, .ref (ad 0)), (3, .int (nI i))] [] σ' τ') : LWP X ad b Ln xs 397 [(0, .ref b), (1, .ref (adr X 0)), (2, .ref (ad 0)), (3, .int (nI i))] [] σ τ := by
  refine lq_aload_n dL_law_397 1 rfl ?_
  refine lq_aload_n dL_law_398 0 rfl ?_
  refine lq_iload_n dL_law_399 3 rfl ?_
  refine lq_iconst (v := 1) dL_law_400 (by decide) ?_
  refine lq_iadd dL_law_401 ?_
  refine lq_sld dL_law_402 (law_in (t := 1) rfl (by omega) hL) ?_
  refine lq_aload_n dL_law_403 0 rfl ?_
  refine lq_iload_n dL_law_404 3 rfl ?_
  refine lq_iconst (v := 2) dL_law_405 (by decide) ?_
  refine lq_iadd dL_law_406 ?_
  refine lq_sld dL_law_407 (law_in (t := 2) rfl (by omega) hL) ?_
  have hop := op_set h (xs (nI i + 1).toNatClampNeg) (xs (nI i + 2).toNatClampNeg)
  refine lq_callX (N := mX8_set) (As := [.int (xs (nI i + 1).toNatClampNeg), .int (xs (nI i + 2).toNatClampNeg)]) (rest := []) dL_law_408 tmL_44 okX8_set rfl rfl rfl rfl rfl rfl (s_X8_set X σ _ _) ?_
  refine lq_aload_n dL_law_411 2 rfl ?_
  refine lq_aload_n dL_law_412 0 rfl ?_
  refine lq_iload_n dL_law_413 3 rfl ?_
  refine lq_iconst (v := 1) dL_law_414 (by decide) ?_
  refine lq_iadd dL_law_415 ?_
  refine lq_sld dL_law_416 (law_in (t := 1) rfl (by omega) hL) ?_
  refine lq_aload_n dL_law_417 0 rfl ?_
  refine lq_iload_n dL_law_418 3 rfl ?_
  refine lq_iconst (v := 2) dL_law_419 (by decide) ?_
  refine lq_iadd dL_law_420 ?_
  refine lq_sld dL_law_421 (law_in (t := 2) rfl (by omega) hL) ?_
  refine lq_callY (N := mX9_set) (As := [.int (xs (nI i + 1).toNatClampNeg), .int (xs (nI i + 2).toNatClampNeg)]) (rest := [_]) dL_law_422 tmL_47 okX9_set rfl rfl rfl rfl rfl rfl (s_X9_set (YY X ad) τ _ _ hop.1) ?_
  exact lq_icmp_eq 1250 dL_law_425 rfl (fun _ => hnext _ _ hop.2.2) (fun hne => absurd hop.2.1 hne)
set_option maxHeartbeats 1000000 in
theorem lcs_8 {X : Amb} {ad : Nat → Nat} {b Ln : Nat} {xs : Nat → Int32} {σ τ : Mem} (h : R σ τ) {i : Nat} (hi : i + 6 ≤ Ln) (hL : Ln ≤ 3072) (hnext : ∀ σ' τ', R σ' τ' → LWP X ad b Ln xs 1250 [(0, .ref b), (1, .ref (adr X 0)), (2, .ref (ad 0)), (3, .int (nI i))] [] σ' τ') : LWP X ad b Ln xs 430 [(0, .ref b), (1, .ref (adr X 0)), (2, .ref (ad 0)), (3, .int (nI i))] [] σ τ := by
  refine lq_aload_n dL_law_430 1 rfl ?_
  refine lq_aload_n dL_law_431 0 rfl ?_
  refine lq_iload_n dL_law_432 3 rfl ?_
  refine lq_iconst (v := 1) dL_law_433 (by decide) ?_
  refine lq_iadd dL_law_434 ?_
  refine lq_sld dL_law_435 (law_in (t := 1) rfl (by omega) hL) ?_
  refine lq_aload_n dL_law_436 0 rfl ?_
  refine lq_iload_n dL_law_437 3 rfl ?_
  refine lq_iconst (v := 2) dL_law_438 (by decide) ?_
  refine lq_iadd dL_law_439 ?_
  refine lq_sld dL_law_440 (law_in (t := 2) rfl (by omega) hL) ?_
  have hop := op_gives h (xs (nI i + 1).toNatClampNeg) (xs (nI i + 2).toNatClampNeg)
  refine lq_callX (N := mX8_gives) (As := [.int (xs (nI i + 1).toNatClampNeg), .int (xs (nI i + 2).toNatClampNeg)]) (rest := []) dL_law_441 tmL_48 okX8_gives rfl rfl rfl rfl rfl rfl (s_X8_gives X σ _ _) ?_
  refine lq_aload_n dL_law_444 2 rfl ?_
  refine lq_aload_n dL_law_445 0 rfl ?_
  refine lq_iload_n dL_law_446 3 rfl ?_
  refine lq_iconst (v := 1) dL_law_447 (by decide) ?_
  refine lq_iadd dL_law_448 ?_
  refine lq_sld dL_law_449 (law_in (t := 1) rfl (by omega) hL) ?_
  refine lq_aload_n dL_law_450 0 rfl ?_
  refine lq_iload_n dL_law_451 3 rfl ?_
  refine lq_iconst (v := 2) dL_law_452 (by decide) ?_
  refine lq_iadd dL_law_453 ?_
  refine lq_sld dL_law_454 (law_in (t := 2) rfl (by omega) hL) ?_
  refine lq_callY (N := mX9_gives) (As := [.int (xs (nI i + 1).toNatClampNeg), .int (xs (nI i + 2).toNatClampNeg)]) (rest := [_]) dL_law_455 tmL_51 okX9_gives rfl rfl rfl rfl rfl rfl (s_X9_gives (YY X ad) τ _ _ hop.1) ?_
  exact lq_icmp_eq 1250 dL_law_458 rfl (fun _ => hnext _ _ hop.2.2) (fun hne => absurd hop.2.1 hne)
set_option maxHeartbeats 1000000 in
theorem lcs_9 {X : Amb} {ad : Nat → Nat} {b Ln : Nat} {xs : Nat → Int32} {σ τ : Mem} (h : R σ τ) {i : Nat} (hi : i + 6 ≤ Ln) (hL : Ln ≤ 3072) (hnext : ∀ σ' τ', R σ' τ' → LWP X ad b Ln xs 1250 [(0, .ref b), (1, .ref (adr X 0)), (2, .ref (ad 0)), (3, .int (nI i))] [] σ' τ') : LWP X ad b Ln xs 463 [(0, .ref b), (1, .ref (adr X 0)), (2, .ref (ad 0)), (3, .int (nI i))] [] σ τ := by
  refine lq_aload_n dL_law_463 1 rfl ?_
  refine lq_aload_n dL_law_464 0 rfl ?_
  refine lq_iload_n dL_law_465 3 rfl ?_
  refine lq_iconst (v := 1) dL_law_466 (by decide) ?_
  refine lq_iadd dL_law_467 ?_
  refine lq_sld dL_law_468 (law_in (t := 1) rfl (by omega) hL) ?_
  refine lq_aload_n dL_law_469 0 rfl ?_
  refine lq_iload_n dL_law_470 3 rfl ?_
  refine lq_iconst (v := 2) dL_law_471 (by decide) ?_
  refine lq_iadd dL_law_472 ?_
  refine lq_sld dL_law_473 (law_in (t := 2) rfl (by omega) hL) ?_
  have hop := op_minute h (xs (nI i + 1).toNatClampNeg) (xs (nI i + 2).toNatClampNeg)
  refine lq_callX (N := mX8_minute) (As := [.int (xs (nI i + 1).toNatClampNeg), .int (xs (nI i + 2).toNatClampNeg)]) (rest := []) dL_law_474 tmL_52 okX8_minute rfl rfl rfl rfl rfl rfl (s_X8_minute X σ _ _) ?_
  refine lq_aload_n dL_law_477 2 rfl ?_
  refine lq_aload_n dL_law_478 0 rfl ?_
  refine lq_iload_n dL_law_479 3 rfl ?_
  refine lq_iconst (v := 1) dL_law_480 (by decide) ?_
  refine lq_iadd dL_law_481 ?_
  refine lq_sld dL_law_482 (law_in (t := 1) rfl (by omega) hL) ?_
  refine lq_aload_n dL_law_483 0 rfl ?_
  refine lq_iload_n dL_law_484 3 rfl ?_
  refine lq_iconst (v := 2) dL_law_485 (by decide) ?_
  refine lq_iadd dL_law_486 ?_
  refine lq_sld dL_law_487 (law_in (t := 2) rfl (by omega) hL) ?_
  refine lq_callY (N := mX9_minute) (As := [.int (xs (nI i + 1).toNatClampNeg), .int (xs (nI i + 2).toNatClampNeg)]) (rest := [_]) dL_law_488 tmL_55 okX9_minute rfl rfl rfl rfl rfl rfl (s_X9_minute (YY X ad) τ _ _ hop.1) ?_
  exact lq_icmp_eq 1250 dL_law_491 rfl (fun _ => hnext _ _ hop.2.2) (fun hne => absurd hop.2.1 hne)
set_option maxHeartbeats 1000000 in
theorem lcs_10 {X : Amb} {ad : Nat → Nat} {b Ln : Nat} {xs : Nat → Int32} {σ τ : Mem} (h : R σ τ) {i : Nat} (hi : i + 6 ≤ Ln) (hL : Ln ≤ 3072) (hnext : ∀ σ' τ', R σ' τ' → LWP X ad b Ln xs 1250 [(0, .ref b), (1, .ref (adr X 0)), (2, .ref (ad 0)), (3, .int (nI i))] [] σ' τ') : LWP X ad b Ln xs 496 [(0, .ref b), (1, .ref (adr X 0)), (2, .ref (ad 0)), (3, .int (nI i))] [] σ τ := by
  refine lq_aload_n dL_law_496 1 rfl ?_
  refine lq_aload_n dL_law_497 0 rfl ?_
  refine lq_iload_n dL_law_498 3 rfl ?_
  refine lq_iconst (v := 1) dL_law_499 (by decide) ?_
  refine lq_iadd dL_law_500 ?_
  refine lq_sld dL_law_501 (law_in (t := 1) rfl (by omega) hL) ?_
  refine lq_aload_n dL_law_502 0 rfl ?_
  refine lq_iload_n dL_law_503 3 rfl ?_
  refine lq_iconst (v := 2) dL_law_504 (by decide) ?_
  refine lq_iadd dL_law_505 ?_
  refine lq_sld dL_law_506 (law_in (t := 2) rfl (by omega) hL) ?_
  refine lq_aload_n dL_law_507 0 rfl ?_
  refine lq_iload_n dL_law_508 3 rfl ?_
  refine lq_iconst (v := 3) dL_law_509 (by decide) ?_
  refine lq_iadd dL_law_510 ?_
  refine lq_sld dL_law_511 (law_in (t := 3) rfl (by omega) hL) ?_
  have hop := op_strain h (xs (nI i + 1).toNatClampNeg) (xs (nI i + 2).toNatClampNeg) (xs (nI i + 3).toNatClampNeg)
  refine lq_callX (N := mX8_strain) (As := [.int (xs (nI i + 1).toNatClampNeg), .int (xs (nI i + 2).toNatClampNeg), .int (xs (nI i + 3).toNatClampNeg)]) (rest := []) dL_law_512 tmL_56 okX8_strain rfl rfl rfl rfl rfl rfl (s_X8_strain X σ _ _ _) ?_
  refine lq_aload_n dL_law_515 2 rfl ?_
  refine lq_aload_n dL_law_516 0 rfl ?_
  refine lq_iload_n dL_law_517 3 rfl ?_
  refine lq_iconst (v := 1) dL_law_518 (by decide) ?_
  refine lq_iadd dL_law_519 ?_
  refine lq_sld dL_law_520 (law_in (t := 1) rfl (by omega) hL) ?_
  refine lq_aload_n dL_law_521 0 rfl ?_
  refine lq_iload_n dL_law_522 3 rfl ?_
  refine lq_iconst (v := 2) dL_law_523 (by decide) ?_
  refine lq_iadd dL_law_524 ?_
  refine lq_sld dL_law_525 (law_in (t := 2) rfl (by omega) hL) ?_
  refine lq_aload_n dL_law_526 0 rfl ?_
  refine lq_iload_n dL_law_527 3 rfl ?_
  refine lq_iconst (v := 3) dL_law_528 (by decide) ?_
  refine lq_iadd dL_law_529 ?_
  refine lq_sld dL_law_530 (law_in (t := 3) rfl (by omega) hL) ?_
  refine lq_callY (N := mX9_strain) (As := [.int (xs (nI i + 1).toNatClampNeg), .int (xs (nI i + 2).toNatClampNeg), .int (xs (nI i + 3).toNatClampNeg)]) (rest := [_]) dL_law_531 tmL_60 okX9_strain rfl rfl rfl rfl rfl rfl (s_X9_strain (YY X ad) τ _ _ _ hop.1) ?_
  refine lq_lcmp dL_law_534 ?_
  exact lq_if_eq 1250 dL_law_535 rfl (fun _ => hnext _ _ hop.2.2) (fun hne => absurd (cmp_eq hop.2.1) hne)
set_option maxHeartbeats 1000000 in
theorem lcs_11 {X : Amb} {ad : Nat → Nat} {b Ln : Nat} {xs : Nat → Int32} {σ τ : Mem} (h : R σ τ) {i : Nat} (hi : i + 6 ≤ Ln) (hL : Ln ≤ 3072) (hnext : ∀ σ' τ', R σ' τ' → LWP X ad b Ln xs 1250 [(0, .ref b), (1, .ref (adr X 0)), (2, .ref (ad 0)), (3, .int (nI i))] [] σ' τ') : LWP X ad b Ln xs 540 [(0, .ref b), (1, .ref (adr X 0)), (2, .ref (ad 0)), (3, .int (nI i))] [] σ τ := by
  refine lq_aload_n dL_law_540 1 rfl ?_
  refine lq_aload_n dL_law_541 0 rfl ?_
  refine lq_iload_n dL_law_542 3 rfl ?_
  refine lq_iconst (v := 1) dL_law_543 (by decide) ?_
  refine lq_iadd dL_law_544 ?_
  refine lq_sld dL_law_545 (law_in (t := 1) rfl (by omega) hL) ?_
  have hop := op_slack h (xs (nI i + 1).toNatClampNeg)
  refine lq_callX (N := mX8_slack) (As := [.int (xs (nI i + 1).toNatClampNeg)]) (rest := []) dL_law_546 tmL_61 okX8_slack rfl rfl rfl rfl rfl rfl (s_X8_slack X σ _ h.CI) ?_
  refine lq_aload_n dL_law_549 2 rfl ?_
  refine lq_aload_n dL_law_550 0 rfl ?_
  refine lq_iload_n dL_law_551 3 rfl ?_
  refine lq_iconst (v := 1) dL_law_552 (by decide) ?_
  refine lq_iadd dL_law_553 ?_
  refine lq_sld dL_law_554 (law_in (t := 1) rfl (by omega) hL) ?_
  refine lq_callY (N := mX9_slack) (As := [.int (xs (nI i + 1).toNatClampNeg)]) (rest := [_]) dL_law_555 tmL_64 okX9_slack rfl rfl rfl rfl rfl rfl (s_X9_slack (YY X ad) τ _ hop.1) ?_
  exact lq_icmp_eq 1250 dL_law_558 rfl (fun _ => hnext _ _ hop.2.2) (fun hne => absurd hop.2.1 hne)
set_option maxHeartbeats 1000000 in
theorem lcs_12 {X : Amb} {ad : Nat → Nat} {b Ln : Nat} {xs : Nat → Int32} {σ τ : Mem} (h : R σ τ) {i : Nat} (hi : i + 6 ≤ Ln) (hL : Ln ≤ 3072) (hnext : ∀ σ' τ', R σ' τ' → LWP X ad b Ln xs 1250 [(0, .ref b), (1, .ref (adr X 0)), (2, .ref (ad 0)), (3, .int (nI i))] [] σ' τ') : LWP X ad b Ln xs 563 [(0, .ref b), (1, .ref (adr X 0)), (2, .ref (ad 0)), (3, .int (nI i))] [] σ τ := by
  refine lq_aload_n dL_law_563 1 rfl ?_
  have hop := op_torn h
  refine lq_callX (N := mX8_torn) (As := []) (rest := []) dL_law_564 tmL_65 okX8_torn rfl rfl rfl rfl rfl rfl (s_X8_torn X σ h.CI) ?_
  refine lq_aload_n dL_law_567 2 rfl ?_
  refine lq_callY (N := mX9_torn) (As := []) (rest := [_]) dL_law_568 tmL_69 okX9_torn rfl rfl rfl rfl rfl rfl (s_X9_torn (YY X ad) τ hop.1) ?_
  exact lq_icmp_eq 1250 dL_law_571 rfl (fun _ => hnext _ _ hop.2.2) (fun hne => absurd hop.2.1 hne)
set_option maxHeartbeats 1000000 in
theorem lcs_13 {X : Amb} {ad : Nat → Nat} {b Ln : Nat} {xs : Nat → Int32} {σ τ : Mem} (h : R σ τ) {i : Nat} (hi : i + 6 ≤ Ln) (hL : Ln ≤ 3072) (hnext : ∀ σ' τ', R σ' τ' → LWP X ad b Ln xs 1250 [(0, .ref b), (1, .ref (adr X 0)), (2, .ref (ad 0)), (3, .int (nI i))] [] σ' τ') : LWP X ad b Ln xs 576 [(0, .ref b), (1, .ref (adr X 0)), (2, .ref (ad 0)), (3, .int (nI i))] [] σ τ := by
  refine lq_aload_n dL_law_576 1 rfl ?_
  refine lq_aload_n dL_law_577 0 rfl ?_
  refine lq_iload_n dL_law_578 3 rfl ?_
  refine lq_iconst (v := 1) dL_law_579 (by decide) ?_
  refine lq_iadd dL_law_580 ?_
  refine lq_sld dL_law_581 (law_in (t := 1) rfl (by omega) hL) ?_
  have hop := op_off h (xs (nI i + 1).toNatClampNeg)
  refine lq_callX (N := mX8_off) (As := [.int (xs (nI i + 1).toNatClampNeg)]) (rest := []) dL_law_582 tmL_70 okX8_off rfl rfl rfl rfl rfl rfl (s_X8_off X σ _) ?_
  refine lq_aload_n dL_law_585 2 rfl ?_
  refine lq_aload_n dL_law_586 0 rfl ?_
  refine lq_iload_n dL_law_587 3 rfl ?_
  refine lq_iconst (v := 1) dL_law_588 (by decide) ?_
  refine lq_iadd dL_law_589 ?_
  refine lq_sld dL_law_590 (law_in (t := 1) rfl (by omega) hL) ?_
  refine lq_callY (N := mX9_off) (As := [.int (xs (nI i + 1).toNatClampNeg)]) (rest := [_]) dL_law_591 tmL_73 okX9_off rfl rfl rfl rfl rfl rfl (s_X9_off (YY X ad) τ _ hop.1) ?_
  exact lq_icmp_eq 1250 dL_law_594 rfl (fun _ => hnext _ _ hop.2.2) (fun hne => absurd hop.2.1 hne)
set_option maxHeartbeats 1000000 in
theorem lcs_14 {X : Amb} {ad : Nat → Nat} {b Ln : Nat} {xs : Nat → Int32} {σ τ : Mem} (h : R σ τ) {i : Nat} (hi : i + 6 ≤ Ln) (hL : Ln ≤ 3072) (hnext : ∀ σ' τ', R σ' τ' → LWP X ad b Ln xs 1250 [(0, .ref b), (1, .ref (adr X 0)), (2, .ref (ad 0)), (3, .int (nI i))] [] σ' τ') : LWP X ad b Ln xs 599 [(0, .ref b), (1, .ref (adr X 0)), (2, .ref (ad 0)), (3, .int (nI i))] [] σ τ := by
  refine lq_aload_n dL_law_599 1 rfl ?_
  have hop := op_over h
  refine lq_callX (N := mX8_over) (As := []) (rest := []) dL_law_600 tmL_74 okX8_over rfl rfl rfl rfl rfl rfl (s_X8_over X σ) ?_
  refine lq_aload_n dL_law_603 2 rfl ?_
  refine lq_callY (N := mX9_over) (As := []) (rest := [_]) dL_law_604 tmL_77 okX9_over rfl rfl rfl rfl rfl rfl (s_X9_over (YY X ad) τ hop.1) ?_
  exact lq_icmp_eq 1250 dL_law_607 rfl (fun _ => hnext _ _ hop.2.2) (fun hne => absurd hop.2.1 hne)
set_option maxHeartbeats 1000000 in
theorem lcs_15 {X : Amb} {ad : Nat → Nat} {b Ln : Nat} {xs : Nat → Int32} {σ τ : Mem} (h : R σ τ) {i : Nat} (hi : i + 6 ≤ Ln) (hL : Ln ≤ 3072) (hnext : ∀ σ' τ', R σ' τ' → LWP X ad b Ln xs 1250 [(0, .ref b), (1, .ref (adr X 0)), (2, .ref (ad 0)), (3, .int (nI i))] [] σ' τ') : LWP X ad b Ln xs 612 [(0, .ref b), (1, .ref (adr X 0)), (2, .ref (ad 0)), (3, .int (nI i))] [] σ τ := by
  refine lq_aload_n dL_law_612 1 rfl ?_
  have hop := op_settles h
  refine lq_callX (N := mX8_settles) (As := []) (rest := []) dL_law_613 tmL_78 okX8_settles rfl rfl rfl rfl rfl rfl (s_X8_settles X σ) ?_
  refine lq_aload_n dL_law_616 2 rfl ?_
  refine lq_callY (N := mX9_settles) (As := []) (rest := [_]) dL_law_617 tmL_81 okX9_settles rfl rfl rfl rfl rfl rfl (s_X9_settles (YY X ad) τ hop.1) ?_
  exact lq_icmp_eq 1250 dL_law_620 rfl (fun _ => hnext _ _ hop.2.2) (fun hne => absurd hop.2.1 hne)
set_option maxHeartbeats 1000000 in
theorem lcs_16 {X : Amb} {ad : Nat → Nat} {b Ln : Nat} {xs : Nat → Int32} {σ τ : Mem} (h : R σ τ) {i : Nat} (hi : i + 6 ≤ Ln) (hL : Ln ≤ 3072) (hnext : ∀ σ' τ', R σ' τ' → LWP X ad b Ln xs 1250 [(0, .ref b), (1, .ref (adr X 0)), (2, .ref (ad 0)), (3, .int (nI i))] [] σ' τ') : LWP X ad b Ln xs 625 [(0, .ref b), (1, .ref (adr X 0)), (2, .ref (ad 0)), (3, .int (nI i))] [] σ τ := by
  refine lq_aload_n dL_law_625 1 rfl ?_
  have hop := op_swings h
  refine lq_callX (N := mX8_swings) (As := []) (rest := []) dL_law_626 tmL_82 okX8_swings rfl rfl rfl rfl rfl rfl (s_X8_swings X σ) ?_
  refine lq_aload_n dL_law_629 2 rfl ?_
  refine lq_callY (N := mX9_swings) (As := []) (rest := [_]) dL_law_630 tmL_85 okX9_swings rfl rfl rfl rfl rfl rfl (s_X9_swings (YY X ad) τ hop.1) ?_
  exact lq_icmp_eq 1250 dL_law_633 rfl (fun _ => hnext _ _ hop.2.2) (fun hne => absurd hop.2.1 hne)
set_option maxHeartbeats 1000000 in
theorem lcs_17 {X : Amb} {ad : Nat → Nat} {b Ln : Nat} {xs : Nat → Int32} {σ τ : Mem} (h : R σ τ) {i : Nat} (hi : i + 6 ≤ Ln) (hL : Ln ≤ 3072) (hnext : ∀ σ' τ', R σ' τ' → LWP X ad b Ln xs 1250 [(0, .ref b), (1, .ref (adr X 0)), (2, .ref (ad 0)), (3, .int (nI i))] [] σ' τ') : LWP X ad b Ln xs 638 [(0, .ref b), (1, .ref (adr X 0)), (2, .ref (ad 0)), (3, .int (nI i))] [] σ τ := by
  refine lq_aload_n dL_law_638 1 rfl ?_
  refine lq_aload_n dL_law_639 0 rfl ?_
  refine lq_iload_n dL_law_640 3 rfl ?_
  refine lq_iconst (v := 1) dL_law_641 (by decide) ?_
  refine lq_iadd dL_law_642 ?_
  refine lq_sld dL_law_643 (law_in (t := 1) rfl (by omega) hL) ?_
  have hop := op_does h (xs (nI i + 1).toNatClampNeg)
  refine lq_callX (N := mX8_does) (As := [.int (xs (nI i + 1).toNatClampNeg)]) (rest := []) dL_law_644 tmL_86 okX8_does rfl rfl rfl rfl rfl rfl (s_X8_does X σ _) ?_
  refine lq_aload_n dL_law_647 2 rfl ?_
  refine lq_aload_n dL_law_648 0 rfl ?_
  refine lq_iload_n dL_law_649 3 rfl ?_
  refine lq_iconst (v := 1) dL_law_650 (by decide) ?_
  refine lq_iadd dL_law_651 ?_
  refine lq_sld dL_law_652 (law_in (t := 1) rfl (by omega) hL) ?_
  refine lq_callY (N := mX9_does) (As := [.int (xs (nI i + 1).toNatClampNeg)]) (rest := [_]) dL_law_653 tmL_89 okX9_does rfl rfl rfl rfl rfl rfl (s_X9_does (YY X ad) τ _ hop.1) ?_
  exact lq_icmp_eq 1250 dL_law_656 rfl (fun _ => hnext _ _ hop.2.2) (fun hne => absurd hop.2.1 hne)
set_option maxHeartbeats 1000000 in
theorem lcs_18 {X : Amb} {ad : Nat → Nat} {b Ln : Nat} {xs : Nat → Int32} {σ τ : Mem} (h : R σ τ) {i : Nat} (hi : i + 6 ≤ Ln) (hL : Ln ≤ 3072) (hnext : ∀ σ' τ', R σ' τ' → LWP X ad b Ln xs 1250 [(0, .ref b), (1, .ref (adr X 0)), (2, .ref (ad 0)), (3, .int (nI i))] [] σ' τ') : LWP X ad b Ln xs 661 [(0, .ref b), (1, .ref (adr X 0)), (2, .ref (ad 0)), (3, .int (nI i))] [] σ τ := by
  refine lq_aload_n dL_law_661 1 rfl ?_
  refine lq_aload_n dL_law_662 0 rfl ?_
  refine lq_iload_n dL_law_663 3 rfl ?_
  refine lq_iconst (v := 1) dL_law_664 (by decide) ?_
  refine lq_iadd dL_law_665 ?_
  refine lq_sld dL_law_666 (law_in (t := 1) rfl (by omega) hL) ?_
  refine lq_aload_n dL_law_667 0 rfl ?_
  refine lq_iload_n dL_law_668 3 rfl ?_
  refine lq_iconst (v := 2) dL_law_669 (by decide) ?_
  refine lq_iadd dL_law_670 ?_
  refine lq_sld dL_law_671 (law_in (t := 2) rfl (by omega) hL) ?_
  have hop := op_start h (xs (nI i + 1).toNatClampNeg) (xs (nI i + 2).toNatClampNeg)
  refine lq_callX (N := mX8_start) (As := [.int (xs (nI i + 1).toNatClampNeg), .int (xs (nI i + 2).toNatClampNeg)]) (rest := []) dL_law_672 tmL_90 okX8_start rfl rfl rfl rfl rfl rfl (s_X8_start X σ _ _ h.CI) ?_
  refine lq_aload_n dL_law_675 2 rfl ?_
  refine lq_aload_n dL_law_676 0 rfl ?_
  refine lq_iload_n dL_law_677 3 rfl ?_
  refine lq_iconst (v := 1) dL_law_678 (by decide) ?_
  refine lq_iadd dL_law_679 ?_
  refine lq_sld dL_law_680 (law_in (t := 1) rfl (by omega) hL) ?_
  refine lq_aload_n dL_law_681 0 rfl ?_
  refine lq_iload_n dL_law_682 3 rfl ?_
  refine lq_iconst (v := 2) dL_law_683 (by decide) ?_
  refine lq_iadd dL_law_684 ?_
  refine lq_sld dL_law_685 (law_in (t := 2) rfl (by omega) hL) ?_
  refine lq_callY (N := mX9_start) (As := [.int (xs (nI i + 1).toNatClampNeg), .int (xs (nI i + 2).toNatClampNeg)]) (rest := [_]) dL_law_686 tmL_93 okX9_start rfl rfl rfl rfl rfl rfl (s_X9_start (YY X ad) τ _ _ hop.1) ?_
  exact lq_icmp_eq 1250 dL_law_689 rfl (fun _ => hnext _ _ hop.2.2) (fun hne => absurd hop.2.1 hne)
set_option maxHeartbeats 1000000 in
theorem lcs_19 {X : Amb} {ad : Nat → Nat} {b Ln : Nat} {xs : Nat → Int32} {σ τ : Mem} (h : R σ τ) {i : Nat} (hi : i + 6 ≤ Ln) (hL : Ln ≤ 3072) (hnext : ∀ σ' τ', R σ' τ' → LWP X ad b Ln xs 1250 [(0, .ref b), (1, .ref (adr X 0)), (2, .ref (ad 0)), (3, .int (nI i))] [] σ' τ') : LWP X ad b Ln xs 694 [(0, .ref b), (1, .ref (adr X 0)), (2, .ref (ad 0)), (3, .int (nI i))] [] σ τ := by
  refine lq_aload_n dL_law_694 1 rfl ?_
  refine lq_aload_n dL_law_695 0 rfl ?_
  refine lq_iload_n dL_law_696 3 rfl ?_
  refine lq_iconst (v := 1) dL_law_697 (by decide) ?_
  refine lq_iadd dL_law_698 ?_
  refine lq_sld dL_law_699 (law_in (t := 1) rfl (by omega) hL) ?_
  have hop := op_safe h (xs (nI i + 1).toNatClampNeg)
  refine lq_callX (N := mX8_safe) (As := [.int (xs (nI i + 1).toNatClampNeg)]) (rest := []) dL_law_700 tmL_94 okX8_safe rfl rfl rfl rfl rfl rfl (s_X8_safe X σ _ h.CI) ?_
  refine lq_aload_n dL_law_703 2 rfl ?_
  refine lq_aload_n dL_law_704 0 rfl ?_
  refine lq_iload_n dL_law_705 3 rfl ?_
  refine lq_iconst (v := 1) dL_law_706 (by decide) ?_
  refine lq_iadd dL_law_707 ?_
  refine lq_sld dL_law_708 (law_in (t := 1) rfl (by omega) hL) ?_
  refine lq_callY (N := mX9_safe) (As := [.int (xs (nI i + 1).toNatClampNeg)]) (rest := [_]) dL_law_709 tmL_97 okX9_safe rfl rfl rfl rfl rfl rfl (s_X9_safe (YY X ad) τ _ hop.1) ?_
  exact lq_icmp_eq 1250 dL_law_712 rfl (fun _ => hnext _ _ hop.2.2) (fun hne => absurd hop.2.1 hne)
set_option maxHeartbeats 1000000 in
theorem lcs_20 {X : Amb} {ad : Nat → Nat} {b Ln : Nat} {xs : Nat → Int32} {σ τ : Mem} (h : R σ τ) {i : Nat} (hi : i + 6 ≤ Ln) (hL : Ln ≤ 3072) (hnext : ∀ σ' τ', R σ' τ' → LWP X ad b Ln xs 1250 [(0, .ref b), (1, .ref (adr X 0)), (2, .ref (ad 0)), (3, .int (nI i))] [] σ' τ') : LWP X ad b Ln xs 717 [(0, .ref b), (1, .ref (adr X 0)), (2, .ref (ad 0)), (3, .int (nI i))] [] σ τ := by
  refine lq_aload_n dL_law_717 1 rfl ?_
  refine lq_aload_n dL_law_718 0 rfl ?_
  refine lq_iload_n dL_law_719 3 rfl ?_
  refine lq_iconst (v := 1) dL_law_720 (by decide) ?_
  refine lq_iadd dL_law_721 ?_
  refine lq_sld dL_law_722 (law_in (t := 1) rfl (by omega) hL) ?_
  have hop := op_order h (xs (nI i + 1).toNatClampNeg)
  refine lq_callX (N := mX8_order) (As := [.int (xs (nI i + 1).toNatClampNeg)]) (rest := []) dL_law_723 tmL_98 okX8_order rfl rfl rfl rfl rfl rfl (s_X8_order X σ _ h.CI) ?_
  refine lq_aload_n dL_law_726 2 rfl ?_
  refine lq_aload_n dL_law_727 0 rfl ?_
  refine lq_iload_n dL_law_728 3 rfl ?_
  refine lq_iconst (v := 1) dL_law_729 (by decide) ?_
  refine lq_iadd dL_law_730 ?_
  refine lq_sld dL_law_731 (law_in (t := 1) rfl (by omega) hL) ?_
  refine lq_callY (N := mX9_order) (As := [.int (xs (nI i + 1).toNatClampNeg)]) (rest := [_]) dL_law_732 tmL_101 okX9_order rfl rfl rfl rfl rfl rfl (s_X9_order (YY X ad) τ _ hop.1) ?_
  exact lq_icmp_eq 1250 dL_law_735 rfl (fun _ => hnext _ _ hop.2.2) (fun hne => absurd hop.2.1 hne)
set_option maxHeartbeats 1000000 in
theorem lcs_21 {X : Amb} {ad : Nat → Nat} {b Ln : Nat} {xs : Nat → Int32} {σ τ : Mem} (h : R σ τ) {i : Nat} (hi : i + 6 ≤ Ln) (hL : Ln ≤ 3072) (hnext : ∀ σ' τ', R σ' τ' → LWP X ad b Ln xs 1250 [(0, .ref b), (1, .ref (adr X 0)), (2, .ref (ad 0)), (3, .int (nI i))] [] σ' τ') : LWP X ad b Ln xs 740 [(0, .ref b), (1, .ref (adr X 0)), (2, .ref (ad 0)), (3, .int (nI i))] [] σ τ := by
  refine lq_aload_n dL_law_740 1 rfl ?_
  refine lq_aload_n dL_law_741 0 rfl ?_
  refine lq_iload_n dL_law_742 3 rfl ?_
  refine lq_iconst (v := 1) dL_law_743 (by decide) ?_
  refine lq_iadd dL_law_744 ?_
  refine lq_sld dL_law_745 (law_in (t := 1) rfl (by omega) hL) ?_
  have hop := op_squeeze h (xs (nI i + 1).toNatClampNeg)
  refine lq_callX (N := mX8_squeeze) (As := [.int (xs (nI i + 1).toNatClampNeg)]) (rest := []) dL_law_746 tmL_102 okX8_squeeze rfl rfl rfl rfl rfl rfl (s_X8_squeeze X σ _ h.CI) ?_
  refine lq_aload_n dL_law_749 2 rfl ?_
  refine lq_aload_n dL_law_750 0 rfl ?_
  refine lq_iload_n dL_law_751 3 rfl ?_
  refine lq_iconst (v := 1) dL_law_752 (by decide) ?_
  refine lq_iadd dL_law_753 ?_
  refine lq_sld dL_law_754 (law_in (t := 1) rfl (by omega) hL) ?_
  refine lq_callY (N := mX9_squeeze) (As := [.int (xs (nI i + 1).toNatClampNeg)]) (rest := [_]) dL_law_755 tmL_105 okX9_squeeze rfl rfl rfl rfl rfl rfl (s_X9_squeeze (YY X ad) τ _ hop.1) ?_
  exact lq_icmp_eq 1250 dL_law_758 rfl (fun _ => hnext _ _ hop.2.2) (fun hne => absurd hop.2.1 hne)
set_option maxHeartbeats 1000000 in
theorem lcs_22 {X : Amb} {ad : Nat → Nat} {b Ln : Nat} {xs : Nat → Int32} {σ τ : Mem} (h : R σ τ) {i : Nat} (hi : i + 6 ≤ Ln) (hL : Ln ≤ 3072) (hnext : ∀ σ' τ', R σ' τ' → LWP X ad b Ln xs 1250 [(0, .ref b), (1, .ref (adr X 0)), (2, .ref (ad 0)), (3, .int (nI i))] [] σ' τ') : LWP X ad b Ln xs 763 [(0, .ref b), (1, .ref (adr X 0)), (2, .ref (ad 0)), (3, .int (nI i))] [] σ τ := by
  refine lq_aload_n dL_law_763 1 rfl ?_
  refine lq_aload_n dL_law_764 0 rfl ?_
  refine lq_iload_n dL_law_765 3 rfl ?_
  refine lq_iconst (v := 1) dL_law_766 (by decide) ?_
  refine lq_iadd dL_law_767 ?_
  refine lq_sld dL_law_768 (law_in (t := 1) rfl (by omega) hL) ?_
  have hop := op_train h (xs (nI i + 1).toNatClampNeg)
  refine lq_callX (N := mX8_train) (As := [.int (xs (nI i + 1).toNatClampNeg)]) (rest := []) dL_law_769 tmL_106 okX8_train rfl rfl rfl rfl rfl rfl (s_X8_train X σ _) ?_
  refine lq_aload_n dL_law_772 2 rfl ?_
  refine lq_aload_n dL_law_773 0 rfl ?_
  refine lq_iload_n dL_law_774 3 rfl ?_
  refine lq_iconst (v := 1) dL_law_775 (by decide) ?_
  refine lq_iadd dL_law_776 ?_
  refine lq_sld dL_law_777 (law_in (t := 1) rfl (by omega) hL) ?_
  refine lq_callY (N := mX9_train) (As := [.int (xs (nI i + 1).toNatClampNeg)]) (rest := [_]) dL_law_778 tmL_109 okX9_train rfl rfl rfl rfl rfl rfl (s_X9_train (YY X ad) τ _ hop.1) ?_
  exact lq_icmp_eq 1250 dL_law_781 rfl (fun _ => hnext _ _ hop.2.2) (fun hne => absurd hop.2.1 hne)
set_option maxHeartbeats 1000000 in
theorem lcs_23 {X : Amb} {ad : Nat → Nat} {b Ln : Nat} {xs : Nat → Int32} {σ τ : Mem} (h : R σ τ) {i : Nat} (hi : i + 6 ≤ Ln) (hL : Ln ≤ 3072) (hnext : ∀ σ' τ', R σ' τ' → LWP X ad b Ln xs 1250 [(0, .ref b), (1, .ref (adr X 0)), (2, .ref (ad 0)), (3, .int (nI i))] [] σ' τ') : LWP X ad b Ln xs 786 [(0, .ref b), (1, .ref (adr X 0)), (2, .ref (ad 0)), (3, .int (nI i))] [] σ τ := by
  refine lq_aload_n dL_law_786 1 rfl ?_
  have hop := op_back h
  refine lq_callX (N := mX8_back) (As := []) (rest := []) dL_law_787 tmL_110 okX8_back rfl rfl rfl rfl rfl rfl (s_X8_back X σ) ?_
  refine lq_aload_n dL_law_790 2 rfl ?_
  refine lq_callY (N := mX9_back) (As := []) (rest := [_]) dL_law_791 tmL_113 okX9_back rfl rfl rfl rfl rfl rfl (s_X9_back (YY X ad) τ) ?_
  exact lq_icmp_eq 1250 dL_law_794 rfl (fun _ => hnext _ _ hop.2.2) (fun hne => absurd hop.2.1 hne)
set_option maxHeartbeats 1000000 in
theorem lcs_24 {X : Amb} {ad : Nat → Nat} {b Ln : Nat} {xs : Nat → Int32} {σ τ : Mem} (h : R σ τ) {i : Nat} (hi : i + 6 ≤ Ln) (hL : Ln ≤ 3072) (hnext : ∀ σ' τ', R σ' τ' → LWP X ad b Ln xs 1250 [(0, .ref b), (1, .ref (adr X 0)), (2, .ref (ad 0)), (3, .int (nI i))] [] σ' τ') : LWP X ad b Ln xs 799 [(0, .ref b), (1, .ref (adr X 0)), (2, .ref (ad 0)), (3, .int (nI i))] [] σ τ := by
  refine lq_aload_n dL_law_799 1 rfl ?_
  refine lq_aload_n dL_law_800 0 rfl ?_
  refine lq_iload_n dL_law_801 3 rfl ?_
  refine lq_iconst (v := 1) dL_law_802 (by decide) ?_
  refine lq_iadd dL_law_803 ?_
  refine lq_sld dL_law_804 (law_in (t := 1) rfl (by omega) hL) ?_
  have hop := op_read h (xs (nI i + 1).toNatClampNeg)
  refine lq_callX (N := mX8_read) (As := [.int (xs (nI i + 1).toNatClampNeg)]) (rest := []) dL_law_805 tmL_114 okX8_read rfl rfl rfl rfl rfl rfl (s_X8_read X σ _) ?_
  refine lq_aload_n dL_law_808 2 rfl ?_
  refine lq_aload_n dL_law_809 0 rfl ?_
  refine lq_iload_n dL_law_810 3 rfl ?_
  refine lq_iconst (v := 1) dL_law_811 (by decide) ?_
  refine lq_iadd dL_law_812 ?_
  refine lq_sld dL_law_813 (law_in (t := 1) rfl (by omega) hL) ?_
  refine lq_callY (N := mX9_read) (As := [.int (xs (nI i + 1).toNatClampNeg)]) (rest := [_]) dL_law_814 tmL_117 okX9_read rfl rfl rfl rfl rfl rfl (s_X9_read (YY X ad) τ _ hop.1) ?_
  exact lq_icmp_eq 1250 dL_law_817 rfl (fun _ => hnext _ _ hop.2.2) (fun hne => absurd hop.2.1 hne)
set_option maxHeartbeats 1000000 in
theorem lcs_25 {X : Amb} {ad : Nat → Nat} {b Ln : Nat} {xs : Nat → Int32} {σ τ : Mem} (h : R σ τ) {i : Nat} (hi : i + 6 ≤ Ln) (hL : Ln ≤ 3072) (hnext : ∀ σ' τ', R σ' τ' → LWP X ad b Ln xs 1250 [(0, .ref b), (1, .ref (adr X 0)), (2, .ref (ad 0)), (3, .int (nI i))] [] σ' τ') : LWP X ad b Ln xs 822 [(0, .ref b), (1, .ref (adr X 0)), (2, .ref (ad 0)), (3, .int (nI i))] [] σ τ := by
  refine lq_aload_n dL_law_822 1 rfl ?_
  refine lq_aload_n dL_law_823 0 rfl ?_
  refine lq_iload_n dL_law_824 3 rfl ?_
  refine lq_iconst (v := 1) dL_law_825 (by decide) ?_
  refine lq_iadd dL_law_826 ?_
  refine lq_sld dL_law_827 (law_in (t := 1) rfl (by omega) hL) ?_
  refine lq_aload_n dL_law_828 0 rfl ?_
  refine lq_iload_n dL_law_829 3 rfl ?_
  refine lq_iconst (v := 2) dL_law_830 (by decide) ?_
  refine lq_iadd dL_law_831 ?_
  refine lq_sld dL_law_832 (law_in (t := 2) rfl (by omega) hL) ?_
  have hop := op_late h (xs (nI i + 1).toNatClampNeg) (xs (nI i + 2).toNatClampNeg)
  refine lq_callX (N := mX8_late) (As := [.int (xs (nI i + 1).toNatClampNeg), .int (xs (nI i + 2).toNatClampNeg)]) (rest := []) dL_law_833 tmL_118 okX8_late rfl rfl rfl rfl rfl rfl (s_X8_late X σ _ _) ?_
  refine lq_aload_n dL_law_836 2 rfl ?_
  refine lq_aload_n dL_law_837 0 rfl ?_
  refine lq_iload_n dL_law_838 3 rfl ?_
  refine lq_iconst (v := 1) dL_law_839 (by decide) ?_
  refine lq_iadd dL_law_840 ?_
  refine lq_sld dL_law_841 (law_in (t := 1) rfl (by omega) hL) ?_
  refine lq_aload_n dL_law_842 0 rfl ?_
  refine lq_iload_n dL_law_843 3 rfl ?_
  refine lq_iconst (v := 2) dL_law_844 (by decide) ?_
  refine lq_iadd dL_law_845 ?_
  refine lq_sld dL_law_846 (law_in (t := 2) rfl (by omega) hL) ?_
  refine lq_callY (N := mX9_late) (As := [.int (xs (nI i + 1).toNatClampNeg), .int (xs (nI i + 2).toNatClampNeg)]) (rest := [_]) dL_law_847 tmL_121 okX9_late rfl rfl rfl rfl rfl rfl (s_X9_late (YY X ad) τ _ _ hop.1) ?_
  exact lq_icmp_eq 1250 dL_law_850 rfl (fun _ => hnext _ _ hop.2.2) (fun hne => absurd hop.2.1 hne)
set_option maxHeartbeats 1000000 in
theorem lcs_26 {X : Amb} {ad : Nat → Nat} {b Ln : Nat} {xs : Nat → Int32} {σ τ : Mem} (h : R σ τ) {i : Nat} (hi : i + 6 ≤ Ln) (hL : Ln ≤ 3072) (hnext : ∀ σ' τ', R σ' τ' → LWP X ad b Ln xs 1250 [(0, .ref b), (1, .ref (adr X 0)), (2, .ref (ad 0)), (3, .int (nI i))] [] σ' τ') : LWP X ad b Ln xs 855 [(0, .ref b), (1, .ref (adr X 0)), (2, .ref (ad 0)), (3, .int (nI i))] [] σ τ := by
  refine lq_aload_n dL_law_855 1 rfl ?_
  refine lq_aload_n dL_law_856 0 rfl ?_
  refine lq_iload_n dL_law_857 3 rfl ?_
  refine lq_iconst (v := 1) dL_law_858 (by decide) ?_
  refine lq_iadd dL_law_859 ?_
  refine lq_sld dL_law_860 (law_in (t := 1) rfl (by omega) hL) ?_
  have hop := op_enough h (xs (nI i + 1).toNatClampNeg)
  refine lq_callX (N := mX8_enough) (As := [.int (xs (nI i + 1).toNatClampNeg)]) (rest := []) dL_law_861 tmL_122 okX8_enough rfl rfl rfl rfl rfl rfl (s_X8_enough X σ _) ?_
  refine lq_aload_n dL_law_864 2 rfl ?_
  refine lq_aload_n dL_law_865 0 rfl ?_
  refine lq_iload_n dL_law_866 3 rfl ?_
  refine lq_iconst (v := 1) dL_law_867 (by decide) ?_
  refine lq_iadd dL_law_868 ?_
  refine lq_sld dL_law_869 (law_in (t := 1) rfl (by omega) hL) ?_
  refine lq_callY (N := mX9_enough) (As := [.int (xs (nI i + 1).toNatClampNeg)]) (rest := [_]) dL_law_870 tmL_125 okX9_enough rfl rfl rfl rfl rfl rfl (s_X9_enough (YY X ad) τ _ hop.1) ?_
  exact lq_icmp_eq 1250 dL_law_873 rfl (fun _ => hnext _ _ hop.2.2) (fun hne => absurd hop.2.1 hne)
set_option maxHeartbeats 1000000 in
theorem lcs_27 {X : Amb} {ad : Nat → Nat} {b Ln : Nat} {xs : Nat → Int32} {σ τ : Mem} (h : R σ τ) {i : Nat} (hi : i + 6 ≤ Ln) (hL : Ln ≤ 3072) (hnext : ∀ σ' τ', R σ' τ' → LWP X ad b Ln xs 1250 [(0, .ref b), (1, .ref (adr X 0)), (2, .ref (ad 0)), (3, .int (nI i))] [] σ' τ') : LWP X ad b Ln xs 878 [(0, .ref b), (1, .ref (adr X 0)), (2, .ref (ad 0)), (3, .int (nI i))] [] σ τ := by
  refine lq_aload_n dL_law_878 1 rfl ?_
  refine lq_aload_n dL_law_879 0 rfl ?_
  refine lq_iload_n dL_law_880 3 rfl ?_
  refine lq_iconst (v := 1) dL_law_881 (by decide) ?_
  refine lq_iadd dL_law_882 ?_
  refine lq_sld dL_law_883 (law_in (t := 1) rfl (by omega) hL) ?_
  refine lq_aload_n dL_law_884 0 rfl ?_
  refine lq_iload_n dL_law_885 3 rfl ?_
  refine lq_iconst (v := 2) dL_law_886 (by decide) ?_
  refine lq_iadd dL_law_887 ?_
  refine lq_sld dL_law_888 (law_in (t := 2) rfl (by omega) hL) ?_
  refine lq_aload_n dL_law_889 0 rfl ?_
  refine lq_iload_n dL_law_890 3 rfl ?_
  refine lq_iconst (v := 3) dL_law_891 (by decide) ?_
  refine lq_iadd dL_law_892 ?_
  refine lq_sld dL_law_893 (law_in (t := 3) rfl (by omega) hL) ?_
  refine lq_aload_n dL_law_894 0 rfl ?_
  refine lq_iload_n dL_law_895 3 rfl ?_
  refine lq_iconst (v := 4) dL_law_896 (by decide) ?_
  refine lq_iadd dL_law_897 ?_
  refine lq_sld dL_law_898 (law_in (t := 4) rfl (by omega) hL) ?_
  have hop := op_whistles h (xs (nI i + 1).toNatClampNeg) (xs (nI i + 2).toNatClampNeg) (xs (nI i + 3).toNatClampNeg) (xs (nI i + 4).toNatClampNeg)
  refine lq_callX (N := mX8_whistles) (As := [.int (xs (nI i + 1).toNatClampNeg), .int (xs (nI i + 2).toNatClampNeg), .int (xs (nI i + 3).toNatClampNeg), .int (xs (nI i + 4).toNatClampNeg)]) (rest := []) dL_law_899 tmL_126 okX8_whistles rfl rfl rfl rfl rfl rfl (s_X8_whistles X σ _ _ _ _) ?_
  refine lq_aload_n dL_law_902 2 rfl ?_
  refine lq_aload_n dL_law_903 0 rfl ?_
  refine lq_iload_n dL_law_904 3 rfl ?_
  refine lq_iconst (v := 1) dL_law_905 (by decide) ?_
  refine lq_iadd dL_law_906 ?_
  refine lq_sld dL_law_907 (law_in (t := 1) rfl (by omega) hL) ?_
  refine lq_aload_n dL_law_908 0 rfl ?_
  refine lq_iload_n dL_law_909 3 rfl ?_
  refine lq_iconst (v := 2) dL_law_910 (by decide) ?_
  refine lq_iadd dL_law_911 ?_
  refine lq_sld dL_law_912 (law_in (t := 2) rfl (by omega) hL) ?_
  refine lq_aload_n dL_law_913 0 rfl ?_
  refine lq_iload_n dL_law_914 3 rfl ?_
  refine lq_iconst (v := 3) dL_law_915 (by decide) ?_
  refine lq_iadd dL_law_916 ?_
  refine lq_sld dL_law_917 (law_in (t := 3) rfl (by omega) hL) ?_
  refine lq_aload_n dL_law_918 0 rfl ?_
  refine lq_iload_n dL_law_919 3 rfl ?_
  refine lq_iconst (v := 4) dL_law_920 (by decide) ?_
  refine lq_iadd dL_law_921 ?_
  refine lq_sld dL_law_922 (law_in (t := 4) rfl (by omega) hL) ?_
  refine lq_callY (N := mX9_whistles) (As := [.int (xs (nI i + 1).toNatClampNeg), .int (xs (nI i + 2).toNatClampNeg), .int (xs (nI i + 3).toNatClampNeg), .int (xs (nI i + 4).toNatClampNeg)]) (rest := [_]) dL_law_923 tmL_130 okX9_whistles rfl rfl rfl rfl rfl rfl (s_X9_whistles (YY X ad) τ _ _ _ _ hop.1) ?_
  refine lq_lcmp dL_law_926 ?_
  exact lq_if_eq 1250 dL_law_927 rfl (fun _ => hnext _ _ hop.2.2) (fun hne => absurd (cmp_eq hop.2.1) hne)
set_option maxHeartbeats 1000000 in
theorem lcs_28 {X : Amb} {ad : Nat → Nat} {b Ln : Nat} {xs : Nat → Int32} {σ τ : Mem} (h : R σ τ) {i : Nat} (hi : i + 6 ≤ Ln) (hL : Ln ≤ 3072) (hnext : ∀ σ' τ', R σ' τ' → LWP X ad b Ln xs 1250 [(0, .ref b), (1, .ref (adr X 0)), (2, .ref (ad 0)), (3, .int (nI i))] [] σ' τ') : LWP X ad b Ln xs 932 [(0, .ref b), (1, .ref (adr X 0)), (2, .ref (ad 0)), (3, .int (nI i))] [] σ τ := by
  refine lq_aload_n dL_law_932 1 rfl ?_
  refine lq_aload_n dL_law_933 0 rfl ?_
  refine lq_iload_n dL_law_934 3 rfl ?_
  refine lq_iconst (v := 1) dL_law_935 (by decide) ?_
  refine lq_iadd dL_law_936 ?_
  refine lq_sld dL_law_937 (law_in (t := 1) rfl (by omega) hL) ?_
  have hop := op_words h (xs (nI i + 1).toNatClampNeg)
  refine lq_callX (N := mX8_words) (As := [.int (xs (nI i + 1).toNatClampNeg)]) (rest := []) dL_law_938 tmL_131 okX8_words rfl rfl rfl rfl rfl rfl (s_X8_words X σ _) ?_
  refine lq_aload_n dL_law_941 2 rfl ?_
  refine lq_aload_n dL_law_942 0 rfl ?_
  refine lq_iload_n dL_law_943 3 rfl ?_
  refine lq_iconst (v := 1) dL_law_944 (by decide) ?_
  refine lq_iadd dL_law_945 ?_
  refine lq_sld dL_law_946 (law_in (t := 1) rfl (by omega) hL) ?_
  refine lq_callY (N := mX9_words) (As := [.int (xs (nI i + 1).toNatClampNeg)]) (rest := [_]) dL_law_947 tmL_134 okX9_words rfl rfl rfl rfl rfl rfl (s_X9_words (YY X ad) τ _ hop.1) ?_
  exact lq_icmp_eq 1250 dL_law_950 rfl (fun _ => hnext _ _ hop.2.2) (fun hne => absurd hop.2.1 hne)
set_option maxHeartbeats 1000000 in
theorem lcs_29 {X : Amb} {ad : Nat → Nat} {b Ln : Nat} {xs : Nat → Int32} {σ τ : Mem} (h : R σ τ) {i : Nat} (hi : i + 6 ≤ Ln) (hL : Ln ≤ 3072) (hnext : ∀ σ' τ', R σ' τ' → LWP X ad b Ln xs 1250 [(0, .ref b), (1, .ref (adr X 0)), (2, .ref (ad 0)), (3, .int (nI i))] [] σ' τ') : LWP X ad b Ln xs 955 [(0, .ref b), (1, .ref (adr X 0)), (2, .ref (ad 0)), (3, .int (nI i))] [] σ τ := by
  refine lq_aload_n dL_law_955 1 rfl ?_
  refine lq_aload_n dL_law_956 0 rfl ?_
  refine lq_iload_n dL_law_957 3 rfl ?_
  refine lq_iconst (v := 1) dL_law_958 (by decide) ?_
  refine lq_iadd dL_law_959 ?_
  refine lq_sld dL_law_960 (law_in (t := 1) rfl (by omega) hL) ?_
  refine lq_aload_n dL_law_961 0 rfl ?_
  refine lq_iload_n dL_law_962 3 rfl ?_
  refine lq_iconst (v := 2) dL_law_963 (by decide) ?_
  refine lq_iadd dL_law_964 ?_
  refine lq_sld dL_law_965 (law_in (t := 2) rfl (by omega) hL) ?_
  refine lq_aload_n dL_law_966 0 rfl ?_
  refine lq_iload_n dL_law_967 3 rfl ?_
  refine lq_iconst (v := 3) dL_law_968 (by decide) ?_
  refine lq_iadd dL_law_969 ?_
  refine lq_sld dL_law_970 (law_in (t := 3) rfl (by omega) hL) ?_
  have hop := op_sheet h (xs (nI i + 1).toNatClampNeg) (xs (nI i + 2).toNatClampNeg) (xs (nI i + 3).toNatClampNeg)
  refine lq_callX (N := mX8_sheet) (As := [.int (xs (nI i + 1).toNatClampNeg), .int (xs (nI i + 2).toNatClampNeg), .int (xs (nI i + 3).toNatClampNeg)]) (rest := []) dL_law_971 tmL_135 okX8_sheet rfl rfl rfl rfl rfl rfl (s_X8_sheet X σ _ _ _) ?_
  refine lq_aload_n dL_law_974 2 rfl ?_
  refine lq_aload_n dL_law_975 0 rfl ?_
  refine lq_iload_n dL_law_976 3 rfl ?_
  refine lq_iconst (v := 1) dL_law_977 (by decide) ?_
  refine lq_iadd dL_law_978 ?_
  refine lq_sld dL_law_979 (law_in (t := 1) rfl (by omega) hL) ?_
  refine lq_aload_n dL_law_980 0 rfl ?_
  refine lq_iload_n dL_law_981 3 rfl ?_
  refine lq_iconst (v := 2) dL_law_982 (by decide) ?_
  refine lq_iadd dL_law_983 ?_
  refine lq_sld dL_law_984 (law_in (t := 2) rfl (by omega) hL) ?_
  refine lq_aload_n dL_law_985 0 rfl ?_
  refine lq_iload_n dL_law_986 3 rfl ?_
  refine lq_iconst (v := 3) dL_law_987 (by decide) ?_
  refine lq_iadd dL_law_988 ?_
  refine lq_sld dL_law_989 (law_in (t := 3) rfl (by omega) hL) ?_
  refine lq_callY (N := mX9_sheet) (As := [.int (xs (nI i + 1).toNatClampNeg), .int (xs (nI i + 2).toNatClampNeg), .int (xs (nI i + 3).toNatClampNeg)]) (rest := [_]) dL_law_990 tmL_138 okX9_sheet rfl rfl rfl rfl rfl rfl (s_X9_sheet (YY X ad) τ _ _ _ hop.1) ?_
  exact lq_icmp_eq 1250 dL_law_993 rfl (fun _ => hnext _ _ hop.2.2) (fun hne => absurd hop.2.1 hne)
set_option maxHeartbeats 1000000 in
theorem lcs_30 {X : Amb} {ad : Nat → Nat} {b Ln : Nat} {xs : Nat → Int32} {σ τ : Mem} (h : R σ τ) {i : Nat} (hi : i + 6 ≤ Ln) (hL : Ln ≤ 3072) (hnext : ∀ σ' τ', R σ' τ' → LWP X ad b Ln xs 1250 [(0, .ref b), (1, .ref (adr X 0)), (2, .ref (ad 0)), (3, .int (nI i))] [] σ' τ') : LWP X ad b Ln xs 998 [(0, .ref b), (1, .ref (adr X 0)), (2, .ref (ad 0)), (3, .int (nI i))] [] σ τ := by
  refine lq_aload_n dL_law_998 1 rfl ?_
  refine lq_aload_n dL_law_999 0 rfl ?_
  refine lq_iload_n dL_law_1000 3 rfl ?_
  refine lq_iconst (v := 1) dL_law_1001 (by decide) ?_
  refine lq_iadd dL_law_1002 ?_
  refine lq_sld dL_law_1003 (law_in (t := 1) rfl (by omega) hL) ?_
  have hop := op_lose h (xs (nI i + 1).toNatClampNeg)
  refine lq_callX (N := mX8_lose) (As := [.int (xs (nI i + 1).toNatClampNeg)]) (rest := []) dL_law_1004 tmL_139 okX8_lose rfl rfl rfl rfl rfl rfl (s_X8_lose X σ _) ?_
  refine lq_aload_n dL_law_1007 2 rfl ?_
  refine lq_aload_n dL_law_1008 0 rfl ?_
  refine lq_iload_n dL_law_1009 3 rfl ?_
  refine lq_iconst (v := 1) dL_law_1010 (by decide) ?_
  refine lq_iadd dL_law_1011 ?_
  refine lq_sld dL_law_1012 (law_in (t := 1) rfl (by omega) hL) ?_
  refine lq_callY (N := mX9_lose) (As := [.int (xs (nI i + 1).toNatClampNeg)]) (rest := [_]) dL_law_1013 tmL_142 okX9_lose rfl rfl rfl rfl rfl rfl (s_X9_lose (YY X ad) τ _ hop.1) ?_
  exact lq_icmp_eq 1250 dL_law_1016 rfl (fun _ => hnext _ _ hop.2.2) (fun hne => absurd hop.2.1 hne)
set_option maxHeartbeats 1000000 in
theorem lcs_31 {X : Amb} {ad : Nat → Nat} {b Ln : Nat} {xs : Nat → Int32} {σ τ : Mem} (h : R σ τ) {i : Nat} (hi : i + 6 ≤ Ln) (hL : Ln ≤ 3072) (hnext : ∀ σ' τ', R σ' τ' → LWP X ad b Ln xs 1250 [(0, .ref b), (1, .ref (adr X 0)), (2, .ref (ad 0)), (3, .int (nI i))] [] σ' τ') : LWP X ad b Ln xs 1021 [(0, .ref b), (1, .ref (adr X 0)), (2, .ref (ad 0)), (3, .int (nI i))] [] σ τ := by
  refine lq_aload_n dL_law_1021 1 rfl ?_
  refine lq_aload_n dL_law_1022 0 rfl ?_
  refine lq_iload_n dL_law_1023 3 rfl ?_
  refine lq_iconst (v := 1) dL_law_1024 (by decide) ?_
  refine lq_iadd dL_law_1025 ?_
  refine lq_sld dL_law_1026 (law_in (t := 1) rfl (by omega) hL) ?_
  refine lq_aload_n dL_law_1027 0 rfl ?_
  refine lq_iload_n dL_law_1028 3 rfl ?_
  refine lq_iconst (v := 2) dL_law_1029 (by decide) ?_
  refine lq_iadd dL_law_1030 ?_
  refine lq_sld dL_law_1031 (law_in (t := 2) rfl (by omega) hL) ?_
  refine lq_aload_n dL_law_1032 0 rfl ?_
  refine lq_iload_n dL_law_1033 3 rfl ?_
  refine lq_iconst (v := 3) dL_law_1034 (by decide) ?_
  refine lq_iadd dL_law_1035 ?_
  refine lq_sld dL_law_1036 (law_in (t := 3) rfl (by omega) hL) ?_
  refine lq_aload_n dL_law_1037 0 rfl ?_
  refine lq_iload_n dL_law_1038 3 rfl ?_
  refine lq_iconst (v := 4) dL_law_1039 (by decide) ?_
  refine lq_iadd dL_law_1040 ?_
  refine lq_sld dL_law_1041 (law_in (t := 4) rfl (by omega) hL) ?_
  have hop := op_lay h (xs (nI i + 1).toNatClampNeg) (xs (nI i + 2).toNatClampNeg) (xs (nI i + 3).toNatClampNeg) (xs (nI i + 4).toNatClampNeg)
  refine lq_callX (N := mX8_lay) (As := [.int (xs (nI i + 1).toNatClampNeg), .int (xs (nI i + 2).toNatClampNeg), .int (xs (nI i + 3).toNatClampNeg), .int (xs (nI i + 4).toNatClampNeg)]) (rest := []) dL_law_1042 tmL_143 okX8_lay rfl rfl rfl rfl rfl rfl (s_X8_lay X σ _ _ _ _) ?_
  refine lq_aload_n dL_law_1045 2 rfl ?_
  refine lq_aload_n dL_law_1046 0 rfl ?_
  refine lq_iload_n dL_law_1047 3 rfl ?_
  refine lq_iconst (v := 1) dL_law_1048 (by decide) ?_
  refine lq_iadd dL_law_1049 ?_
  refine lq_sld dL_law_1050 (law_in (t := 1) rfl (by omega) hL) ?_
  refine lq_aload_n dL_law_1051 0 rfl ?_
  refine lq_iload_n dL_law_1052 3 rfl ?_
  refine lq_iconst (v := 2) dL_law_1053 (by decide) ?_
  refine lq_iadd dL_law_1054 ?_
  refine lq_sld dL_law_1055 (law_in (t := 2) rfl (by omega) hL) ?_
  refine lq_aload_n dL_law_1056 0 rfl ?_
  refine lq_iload_n dL_law_1057 3 rfl ?_
  refine lq_iconst (v := 3) dL_law_1058 (by decide) ?_
  refine lq_iadd dL_law_1059 ?_
  refine lq_sld dL_law_1060 (law_in (t := 3) rfl (by omega) hL) ?_
  refine lq_aload_n dL_law_1061 0 rfl ?_
  refine lq_iload_n dL_law_1062 3 rfl ?_
  refine lq_iconst (v := 4) dL_law_1063 (by decide) ?_
  refine lq_iadd dL_law_1064 ?_
  refine lq_sld dL_law_1065 (law_in (t := 4) rfl (by omega) hL) ?_
  refine lq_callY (N := mX9_lay) (As := [.int (xs (nI i + 1).toNatClampNeg), .int (xs (nI i + 2).toNatClampNeg), .int (xs (nI i + 3).toNatClampNeg), .int (xs (nI i + 4).toNatClampNeg)]) (rest := [_]) dL_law_1066 tmL_147 okX9_lay rfl rfl rfl rfl rfl rfl (s_X9_lay (YY X ad) τ _ _ _ _ hop.1) ?_
  exact lq_icmp_eq 1250 dL_law_1069 rfl (fun _ => hnext _ _ hop.2.2) (fun hne => absurd hop.2.1 hne)
set_option maxHeartbeats 1000000 in
theorem lcs_32 {X : Amb} {ad : Nat → Nat} {b Ln : Nat} {xs : Nat → Int32} {σ τ : Mem} (h : R σ τ) {i : Nat} (hi : i + 6 ≤ Ln) (hL : Ln ≤ 3072) (hnext : ∀ σ' τ', R σ' τ' → LWP X ad b Ln xs 1250 [(0, .ref b), (1, .ref (adr X 0)), (2, .ref (ad 0)), (3, .int (nI i))] [] σ' τ') : LWP X ad b Ln xs 1074 [(0, .ref b), (1, .ref (adr X 0)), (2, .ref (ad 0)), (3, .int (nI i))] [] σ τ := by
  refine lq_aload_n dL_law_1074 1 rfl ?_
  refine lq_aload_n dL_law_1075 0 rfl ?_
  refine lq_iload_n dL_law_1076 3 rfl ?_
  refine lq_iconst (v := 1) dL_law_1077 (by decide) ?_
  refine lq_iadd dL_law_1078 ?_
  refine lq_sld dL_law_1079 (law_in (t := 1) rfl (by omega) hL) ?_
  refine lq_aload_n dL_law_1080 0 rfl ?_
  refine lq_iload_n dL_law_1081 3 rfl ?_
  refine lq_iconst (v := 2) dL_law_1082 (by decide) ?_
  refine lq_iadd dL_law_1083 ?_
  refine lq_sld dL_law_1084 (law_in (t := 2) rfl (by omega) hL) ?_
  refine lq_aload_n dL_law_1085 0 rfl ?_
  refine lq_iload_n dL_law_1086 3 rfl ?_
  refine lq_iconst (v := 3) dL_law_1087 (by decide) ?_
  refine lq_iadd dL_law_1088 ?_
  refine lq_sld dL_law_1089 (law_in (t := 3) rfl (by omega) hL) ?_
  have hop := op_get h (xs (nI i + 1).toNatClampNeg) (xs (nI i + 2).toNatClampNeg) (xs (nI i + 3).toNatClampNeg)
  refine lq_callX (N := mX8_get) (As := [.int (xs (nI i + 1).toNatClampNeg), .int (xs (nI i + 2).toNatClampNeg), .int (xs (nI i + 3).toNatClampNeg)]) (rest := []) dL_law_1090 tmL_148 okX8_get rfl rfl rfl rfl rfl rfl (s_X8_get X σ _ _ _) ?_
  refine lq_aload_n dL_law_1093 2 rfl ?_
  refine lq_aload_n dL_law_1094 0 rfl ?_
  refine lq_iload_n dL_law_1095 3 rfl ?_
  refine lq_iconst (v := 1) dL_law_1096 (by decide) ?_
  refine lq_iadd dL_law_1097 ?_
  refine lq_sld dL_law_1098 (law_in (t := 1) rfl (by omega) hL) ?_
  refine lq_aload_n dL_law_1099 0 rfl ?_
  refine lq_iload_n dL_law_1100 3 rfl ?_
  refine lq_iconst (v := 2) dL_law_1101 (by decide) ?_
  refine lq_iadd dL_law_1102 ?_
  refine lq_sld dL_law_1103 (law_in (t := 2) rfl (by omega) hL) ?_
  refine lq_aload_n dL_law_1104 0 rfl ?_
  refine lq_iload_n dL_law_1105 3 rfl ?_
  refine lq_iconst (v := 3) dL_law_1106 (by decide) ?_
  refine lq_iadd dL_law_1107 ?_
  refine lq_sld dL_law_1108 (law_in (t := 3) rfl (by omega) hL) ?_
  refine lq_callY (N := mX9_get) (As := [.int (xs (nI i + 1).toNatClampNeg), .int (xs (nI i + 2).toNatClampNeg), .int (xs (nI i + 3).toNatClampNeg)]) (rest := [_]) dL_law_1109 tmL_151 okX9_get rfl rfl rfl rfl rfl rfl (s_X9_get (YY X ad) τ _ _ _ hop.1) ?_
  exact lq_icmp_eq 1250 dL_law_1112 rfl (fun _ => hnext _ _ hop.2.2) (fun hne => absurd hop.2.1 hne)
set_option maxHeartbeats 1000000 in
theorem lcs_33 {X : Amb} {ad : Nat → Nat} {b Ln : Nat} {xs : Nat → Int32} {σ τ : Mem} (h : R σ τ) {i : Nat} (hi : i + 6 ≤ Ln) (hL : Ln ≤ 3072) (hnext : ∀ σ' τ', R σ' τ' → LWP X ad b Ln xs 1250 [(0, .ref b), (1, .ref (adr X 0)), (2, .ref (ad 0)), (3, .int (nI i))] [] σ' τ') : LWP X ad b Ln xs 1117 [(0, .ref b), (1, .ref (adr X 0)), (2, .ref (ad 0)), (3, .int (nI i))] [] σ τ := by
  refine lq_aload_n dL_law_1117 1 rfl ?_
  refine lq_aload_n dL_law_1118 0 rfl ?_
  refine lq_iload_n dL_law_1119 3 rfl ?_
  refine lq_iconst (v := 1) dL_law_1120 (by decide) ?_
  refine lq_iadd dL_law_1121 ?_
  refine lq_sld dL_law_1122 (law_in (t := 1) rfl (by omega) hL) ?_
  refine lq_aload_n dL_law_1123 0 rfl ?_
  refine lq_iload_n dL_law_1124 3 rfl ?_
  refine lq_iconst (v := 2) dL_law_1125 (by decide) ?_
  refine lq_iadd dL_law_1126 ?_
  refine lq_sld dL_law_1127 (law_in (t := 2) rfl (by omega) hL) ?_
  refine lq_aload_n dL_law_1128 0 rfl ?_
  refine lq_iload_n dL_law_1129 3 rfl ?_
  refine lq_iconst (v := 3) dL_law_1130 (by decide) ?_
  refine lq_iadd dL_law_1131 ?_
  refine lq_sld dL_law_1132 (law_in (t := 3) rfl (by omega) hL) ?_
  refine lq_aload_n dL_law_1133 0 rfl ?_
  refine lq_iload_n dL_law_1134 3 rfl ?_
  refine lq_iconst (v := 4) dL_law_1135 (by decide) ?_
  refine lq_iadd dL_law_1136 ?_
  refine lq_sld dL_law_1137 (law_in (t := 4) rfl (by omega) hL) ?_
  refine lq_aload_n dL_law_1138 0 rfl ?_
  refine lq_iload_n dL_law_1139 3 rfl ?_
  refine lq_iconst (v := 5) dL_law_1140 (by decide) ?_
  refine lq_iadd dL_law_1141 ?_
  refine lq_sld dL_law_1142 (law_in (t := 5) rfl (by omega) hL) ?_
  have hop := op_copy h (xs (nI i + 1).toNatClampNeg) (xs (nI i + 2).toNatClampNeg) (xs (nI i + 3).toNatClampNeg) (xs (nI i + 4).toNatClampNeg) (xs (nI i + 5).toNatClampNeg)
  refine lq_callX (N := mX8_copy) (As := [.int (xs (nI i + 1).toNatClampNeg), .int (xs (nI i + 2).toNatClampNeg), .int (xs (nI i + 3).toNatClampNeg), .int (xs (nI i + 4).toNatClampNeg), .int (xs (nI i + 5).toNatClampNeg)]) (rest := []) dL_law_1143 tmL_152 okX8_copy rfl rfl rfl rfl rfl rfl (s_X8_copy X σ _ _ _ _ _ h.CI) ?_
  refine lq_aload_n dL_law_1146 2 rfl ?_
  refine lq_aload_n dL_law_1147 0 rfl ?_
  refine lq_iload_n dL_law_1148 3 rfl ?_
  refine lq_iconst (v := 1) dL_law_1149 (by decide) ?_
  refine lq_iadd dL_law_1150 ?_
  refine lq_sld dL_law_1151 (law_in (t := 1) rfl (by omega) hL) ?_
  refine lq_aload_n dL_law_1152 0 rfl ?_
  refine lq_iload_n dL_law_1153 3 rfl ?_
  refine lq_iconst (v := 2) dL_law_1154 (by decide) ?_
  refine lq_iadd dL_law_1155 ?_
  refine lq_sld dL_law_1156 (law_in (t := 2) rfl (by omega) hL) ?_
  refine lq_aload_n dL_law_1157 0 rfl ?_
  refine lq_iload_n dL_law_1158 3 rfl ?_
  refine lq_iconst (v := 3) dL_law_1159 (by decide) ?_
  refine lq_iadd dL_law_1160 ?_
  refine lq_sld dL_law_1161 (law_in (t := 3) rfl (by omega) hL) ?_
  refine lq_aload_n dL_law_1162 0 rfl ?_
  refine lq_iload_n dL_law_1163 3 rfl ?_
  refine lq_iconst (v := 4) dL_law_1164 (by decide) ?_
  refine lq_iadd dL_law_1165 ?_
  refine lq_sld dL_law_1166 (law_in (t := 4) rfl (by omega) hL) ?_
  refine lq_aload_n dL_law_1167 0 rfl ?_
  refine lq_iload_n dL_law_1168 3 rfl ?_
  refine lq_iconst (v := 5) dL_law_1169 (by decide) ?_
  refine lq_iadd dL_law_1170 ?_
  refine lq_sld dL_law_1171 (law_in (t := 5) rfl (by omega) hL) ?_
  refine lq_callY (N := mX9_copy) (As := [.int (xs (nI i + 1).toNatClampNeg), .int (xs (nI i + 2).toNatClampNeg), .int (xs (nI i + 3).toNatClampNeg), .int (xs (nI i + 4).toNatClampNeg), .int (xs (nI i + 5).toNatClampNeg)]) (rest := [_]) dL_law_1172 tmL_156 okX9_copy rfl rfl rfl rfl rfl rfl (s_X9_copy (YY X ad) τ _ _ _ _ _ hop.1) ?_
  exact lq_icmp_eq 1250 dL_law_1175 rfl (fun _ => hnext _ _ hop.2.2) (fun hne => absurd hop.2.1 hne)
set_option maxHeartbeats 1000000 in
theorem lcs_34 {X : Amb} {ad : Nat → Nat} {b Ln : Nat} {xs : Nat → Int32} {σ τ : Mem} (h : R σ τ) {i : Nat} (hi : i + 6 ≤ Ln) (hL : Ln ≤ 3072) (hnext : ∀ σ' τ', R σ' τ' → LWP X ad b Ln xs 1250 [(0, .ref b), (1, .ref (adr X 0)), (2, .ref (ad 0)), (3, .int (nI i))] [] σ' τ') : LWP X ad b Ln xs 1180 [(0, .ref b), (1, .ref (adr X 0)), (2, .ref (ad 0)), (3, .int (nI i))] [] σ τ := by
  refine lq_aload_n dL_law_1180 1 rfl ?_
  refine lq_aload_n dL_law_1181 0 rfl ?_
  refine lq_iload_n dL_law_1182 3 rfl ?_
  refine lq_iconst (v := 1) dL_law_1183 (by decide) ?_
  refine lq_iadd dL_law_1184 ?_
  refine lq_sld dL_law_1185 (law_in (t := 1) rfl (by omega) hL) ?_
  refine lq_aload_n dL_law_1186 0 rfl ?_
  refine lq_iload_n dL_law_1187 3 rfl ?_
  refine lq_iconst (v := 2) dL_law_1188 (by decide) ?_
  refine lq_iadd dL_law_1189 ?_
  refine lq_sld dL_law_1190 (law_in (t := 2) rfl (by omega) hL) ?_
  have hop := op_write h (xs (nI i + 1).toNatClampNeg) (xs (nI i + 2).toNatClampNeg)
  refine lq_callX (N := mX8_write) (As := [.int (xs (nI i + 1).toNatClampNeg), .int (xs (nI i + 2).toNatClampNeg)]) (rest := []) dL_law_1191 tmL_157 okX8_write rfl rfl rfl rfl rfl rfl (s_X8_write X σ _ _) ?_
  refine lq_aload_n dL_law_1194 2 rfl ?_
  refine lq_aload_n dL_law_1195 0 rfl ?_
  refine lq_iload_n dL_law_1196 3 rfl ?_
  refine lq_iconst (v := 1) dL_law_1197 (by decide) ?_
  refine lq_iadd dL_law_1198 ?_
  refine lq_sld dL_law_1199 (law_in (t := 1) rfl (by omega) hL) ?_
  refine lq_aload_n dL_law_1200 0 rfl ?_
  refine lq_iload_n dL_law_1201 3 rfl ?_
  refine lq_iconst (v := 2) dL_law_1202 (by decide) ?_
  refine lq_iadd dL_law_1203 ?_
  refine lq_sld dL_law_1204 (law_in (t := 2) rfl (by omega) hL) ?_
  refine lq_callY (N := mX9_write) (As := [.int (xs (nI i + 1).toNatClampNeg), .int (xs (nI i + 2).toNatClampNeg)]) (rest := [_]) dL_law_1205 tmL_160 okX9_write rfl rfl rfl rfl rfl rfl (s_X9_write (YY X ad) τ _ _ hop.1) ?_
  exact lq_icmp_eq 1250 dL_law_1208 rfl (fun _ => hnext _ _ hop.2.2) (fun hne => absurd hop.2.1 hne)
set_option maxHeartbeats 1000000 in
theorem lcs_35 {X : Amb} {ad : Nat → Nat} {b Ln : Nat} {xs : Nat → Int32} {σ τ : Mem} (h : R σ τ) {i : Nat} (hi : i + 6 ≤ Ln) (hL : Ln ≤ 3072) (hnext : ∀ σ' τ', R σ' τ' → LWP X ad b Ln xs 1250 [(0, .ref b), (1, .ref (adr X 0)), (2, .ref (ad 0)), (3, .int (nI i))] [] σ' τ') : LWP X ad b Ln xs 1213 [(0, .ref b), (1, .ref (adr X 0)), (2, .ref (ad 0)), (3, .int (nI i))] [] σ τ := by
  refine lq_aload_n dL_law_1213 1 rfl ?_
  refine lq_aload_n dL_law_1214 0 rfl ?_
  refine lq_iload_n dL_law_1215 3 rfl ?_
  refine lq_iconst (v := 1) dL_law_1216 (by decide) ?_
  refine lq_iadd dL_law_1217 ?_
  refine lq_sld dL_law_1218 (law_in (t := 1) rfl (by omega) hL) ?_
  have hop := op_count h (xs (nI i + 1).toNatClampNeg)
  refine lq_callX (N := mX8_count) (As := [.int (xs (nI i + 1).toNatClampNeg)]) (rest := []) dL_law_1219 tmL_161 okX8_count rfl rfl rfl rfl rfl rfl (s_X8_count X σ _) ?_
  refine lq_aload_n dL_law_1222 2 rfl ?_
  refine lq_aload_n dL_law_1223 0 rfl ?_
  refine lq_iload_n dL_law_1224 3 rfl ?_
  refine lq_iconst (v := 1) dL_law_1225 (by decide) ?_
  refine lq_iadd dL_law_1226 ?_
  refine lq_sld dL_law_1227 (law_in (t := 1) rfl (by omega) hL) ?_
  refine lq_callY (N := mX9_count) (As := [.int (xs (nI i + 1).toNatClampNeg)]) (rest := [_]) dL_law_1228 tmL_164 okX9_count rfl rfl rfl rfl rfl rfl (s_X9_count (YY X ad) τ _ hop.1) ?_
  exact lq_icmp_eq 1250 dL_law_1231 rfl (fun _ => hnext _ _ hop.2.2) (fun hne => absurd hop.2.1 hne)
set_option maxHeartbeats 1000000 in
theorem lcs_36 {X : Amb} {ad : Nat → Nat} {b Ln : Nat} {xs : Nat → Int32} {σ τ : Mem} (h : R σ τ) {i : Nat} (hi : i + 6 ≤ Ln) (hL : Ln ≤ 3072) (hnext : ∀ σ' τ', R σ' τ' → LWP X ad b Ln xs 1250 [(0, .ref b), (1, .ref (adr X 0)), (2, .ref (ad 0)), (3, .int (nI i))] [] σ' τ') : LWP X ad b Ln xs 1236 [(0, .ref b), (1, .ref (adr X 0)), (2, .ref (ad 0)), (3, .int (nI i))] [] σ τ := by
  refine lq_aload_n dL_law_1236 1 rfl ?_
  have hop := op_digest h
  refine lq_callX (N := mX8_digest) (As := []) (rest := []) dL_law_1237 tmL_165 okX8_digest rfl rfl rfl rfl rfl rfl (s_X8_digest X σ h.CI) ?_
  refine lq_aload_n dL_law_1240 2 rfl ?_
  refine lq_callY (N := mX9_digest) (As := []) (rest := [_]) dL_law_1241 tmL_169 okX9_digest rfl rfl rfl rfl rfl rfl (s_X9_digest (YY X ad) τ hop.1) ?_
  refine lq_lcmp dL_law_1244 ?_
  exact lq_if_eq 1250 dL_law_1245 rfl (fun _ => hnext _ _ hop.2.2) (fun hne => absurd (cmp_eq hop.2.1) hne)
