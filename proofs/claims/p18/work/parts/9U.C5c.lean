/-! lists of contracts -/
noncomputable def tl_fog : List (Nat × Ctr) := [(231, ct_238), (235, ct_239), (235, ct_240), (236, ct_243), (234, ct_246)]
noncomputable def tl_echo : List (Nat × Ctr) := [(229, ct_156), (235, ct_239), (235, ct_240), (240, ct_249), (235, ct_250), (235, ct_251), (235, ct_253), (235, ct_254)]
noncomputable def tl_valley : List (Nat × Ctr) := [(229, ct_156), (235, ct_250), (235, ct_251), (235, ct_253), (235, ct_254), (240, ct_257), (235, ct_258), (235, ct_259), (235, ct_261), (235, ct_262)]
noncomputable def tl_start : List (Nat × Ctr) := [(231, ct_234), (235, ct_236), (234, ct_245), (234, ct_246), (234, ct_247)]
