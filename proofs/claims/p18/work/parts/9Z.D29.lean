/-! the chain of contracts with nothing left open -/
theorem h1_175 : xctr kd0 sh0 rt0 bd0 un0 PR0 MT0 (ctL [(193, ct_174)]) 3 md_175 ct_175 = true := by decide +kernel
theorem f_175 {Ev : Env9} : CK Ev 13 (194, ct_175) := xctr_ok hu0 hang_0 hR9 hMT9 (b := 9) (ctL_ok (l := [(193, ct_174)]) (And.intro (CK_up cc_174 (by decide)) trivial)) (mo_X11_seen rfl _) h1_175
theorem h1_178 : xctr kd0 sh0 rt0 bd0 un0 PR0 MT0 (ctL [(194, ct_175)]) 6 md_178 ct_178 = true := by decide +kernel
theorem f_178 {Ev : Env9} : CK Ev 20 (196, ct_178) := xctr_ok hu0 hang_0 hR9 hMT9 (b := 13) (ctL_ok (l := [(194, ct_175)]) (And.intro (CK_up f_175 (by decide)) trivial)) (mo_X11_isAcceptable rfl _) h1_178
theorem h2_276 : xctr kd0 sh0 rt0 bd0 un0 PR0 MT0 (ctL [(198, ct_182)]) 2 md_276 ct_276 = true := by decide +kernel
theorem f_276 {Ev : Env9} : CK Ev 30 (204, ct_276) := xctr_ok hu0 hang_0 hR9 hMT9 (b := 27) (ctL_ok (l := [(198, ct_182)]) (And.intro (CK_up cc_182 (by decide)) trivial)) (mo_X11_leastKept rfl _) h2_276
theorem f_190 {Ev : Env9} : CK Ev 60 (208, ct_190) := hh_190 f_178 (CK_up cc_179 (by decide)) f_276 (CK_up cc_182 (by decide))
theorem f_194 {Ev : Env9} : CK Ev 80 (209, ct_194) := hh_194 f_190
theorem f_192 {Ev : Env9} : CK Ev 69 (296, ct_192) := cc_192 f_190
theorem f_198 {Ev : Env9} : CK Ev 89 (213, ct_198) := cc_198 f_194 hh_197
theorem f_199 {Ev : Env9} : CK Ev 98 (214, ct_199) := cc_199 f_194 hh_197
theorem f_200 {Ev : Env9} : CK Ev 107 (298, ct_200) := cc_200 f_194 hh_197
theorem f_201 {Ev : Env9} : CK Ev 107 (299, ct_201) := cc_201 f_194 hh_197
theorem f_202 {Ev : Env9} : CK Ev 98 (300, ct_202) := cc_202 f_194 hh_197
theorem f_203 {Ev : Env9} : CK Ev 69 (301, ct_203) := cc_203 f_190
theorem f_225 {Ev : Env9} : CK Ev 107 (321, ct_225) := cc_225 f_194 hh_197 hh_224
theorem f_226 {Ev : Env9} : CK Ev 69 (322, ct_226) := cc_226 f_190 hh_224
theorem f_227 {Ev : Env9} : CK Ev 69 (323, ct_227) := cc_227 hh_224
theorem f_229 {Ev : Env9} : CK Ev 69 (324, ct_229) := cc_229 hh_224 hh_228
theorem f_230 {Ev : Env9} : CK Ev 69 (325, ct_230) := cc_230 hh_224
theorem f_231 {Ev : Env9} : CK Ev 69 (326, ct_231) := cc_231 hh_224
theorem f_232 {Ev : Env9} : CK Ev 69 (327, ct_232) := cc_232 hh_224
theorem tl_fog_ok {Ev : Env9} : ∀ y, ∀ ct ∈ ctL tl_fog y, ∀ k, 40 ≤ k → CtrOK kd0 sh0 rt0 bd0 Inv0 Ev (runM k) y ct := ctL_ok (b := 40) (l := tl_fog) (And.intro (CK_up cc_238 (by decide)) (And.intro (CK_up cc_239 (by decide)) (And.intro (CK_up cc_240 (by decide)) (And.intro (CK_up cc_243 (by decide)) (And.intro (CK_up cc_246 (by decide)) trivial)))))
theorem tl_echo_ok {Ev : Env9} : ∀ y, ∀ ct ∈ ctL tl_echo y, ∀ k, 40 ≤ k → CtrOK kd0 sh0 rt0 bd0 Inv0 Ev (runM k) y ct := ctL_ok (b := 40) (l := tl_echo) (And.intro (CK_up cc_156 (by decide)) (And.intro (CK_up cc_239 (by decide)) (And.intro (CK_up cc_240 (by decide)) (And.intro (CK_up cc_249 (by decide)) (And.intro (CK_up cc_250 (by decide)) (And.intro (CK_up cc_251 (by decide)) (And.intro (CK_up cc_253 (by decide)) (And.intro (CK_up cc_254 (by decide)) trivial))))))))
theorem tl_valley_ok {Ev : Env9} : ∀ y, ∀ ct ∈ ctL tl_valley y, ∀ k, 40 ≤ k → CtrOK kd0 sh0 rt0 bd0 Inv0 Ev (runM k) y ct := ctL_ok (b := 40) (l := tl_valley) (And.intro (CK_up cc_156 (by decide)) (And.intro (CK_up cc_250 (by decide)) (And.intro (CK_up cc_251 (by decide)) (And.intro (CK_up cc_253 (by decide)) (And.intro (CK_up cc_254 (by decide)) (And.intro (CK_up cc_257 (by decide)) (And.intro (CK_up cc_258 (by decide)) (And.intro (CK_up cc_259 (by decide)) (And.intro (CK_up cc_261 (by decide)) (And.intro (CK_up cc_262 (by decide)) trivial))))))))))
theorem tl_start_ok {Ev : Env9} : ∀ y, ∀ ct ∈ ctL tl_start y, ∀ k, 40 ≤ k → CtrOK kd0 sh0 rt0 bd0 Inv0 Ev (runM k) y ct := ctL_ok (b := 40) (l := tl_start) (And.intro (CK_up cc_234 (by decide)) (And.intro (CK_up cc_236 (by decide)) (And.intro (CK_up cc_245 (by decide)) (And.intro (CK_up cc_246 (by decide)) (And.intro (CK_up cc_247 (by decide)) trivial)))))
theorem f_fog {Ev : Env9} : CK Ev 60 (247, ctFg) := fog_ok tl_fog_ok
theorem f_load {Ev : Env9} : CK Ev 100 (252, ctLoad) := load_ok (CK_up cc_249 (by decide)) (CK_up cc_257 (by decide)) tl_echo_ok tl_valley_ok (CK_up cc_156 (by decide)) tl_start_ok f_fog
theorem f_parse {Ev : Env9} : CK Ev 50 (7, ctP) := CK_up (parse_ok tl_parse_ok) (by decide)
theorem f_exec {Ev : Env9} : CK Ev 120 (102, ctX) := exec_ok f_parse (CK_up cc_146 (by decide)) (CK_up cc_126 (by decide)) (CK_up cc_103 (by decide)) (CK_up cc_95 (by decide)) (CK_up cc_108 (by decide)) (CK_up cc_100 (by decide))
theorem f_execR {Ev : Env9} : CK Ev 120 (259, ctZ) := execR_ok (fun k hk => keeps_ok (Or.inl rfl) kp_453 k (Nat.le_trans (by decide) hk)) (CK_up f_199 (by decide)) (CK_up cc_223 (by decide)) (CK_up f_190 (by decide)) (CK_up cc_204 (by decide)) (CK_up cc_174 (by decide)) (CK_up hh_228 (by decide))
