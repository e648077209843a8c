/-! the reference's constructor -/
def mtI : List (Nat × Nat × Int32) := (102, 5, -1) :: (102, 4, -1) :: (102, 3, -1) :: (102, 2, -1) :: (102, 1, -1) :: (102, 0, -1) :: (73, 39, nI 0) :: (73, 36, -1) :: (73, 35, nI 0) :: (73, 20, nI 0) :: (73, 19, nI 0) :: (73, 18, nI 0) :: (73, 8, nI 0) :: (73, 7, nI 0) :: (73, 6, nI 0) :: (73, 5, -1) :: (73, 4, nI 0) :: (73, 1, nI 1) :: (73, 0, nI 0) :: tcI
def mtR : List (Nat × Nat × Option Nat) := (73, 44, some 105) :: (73, 43, some 104) :: (73, 42, some 103) :: (73, 41, some 102) :: (73, 40, some 101) :: (73, 38, some 100) :: (73, 37, some 99) :: (73, 34, some 98) :: (73, 33, some 97) :: (73, 32, some 96) :: (73, 31, some 95) :: (73, 30, some 94) :: (73, 29, some 93) :: (73, 28, some 92) :: (73, 27, some 91) :: (73, 26, some 90) :: (73, 25, some 89) :: (73, 24, some 88) :: (73, 23, some 87) :: (73, 22, some 86) :: (73, 21, some 85) :: (73, 17, some 84) :: (73, 16, some 83) :: (73, 15, some 82) :: (73, 14, some 81) :: (73, 13, some 80) :: (73, 12, some 79) :: (73, 11, some 78) :: (73, 10, some 77) :: (73, 9, some 76) :: (73, 3, some 75) :: (73, 2, some 74) :: tcR
def mtD : cm_Ds := tcD ++ [.inr 10] ++ [.inl (0, 4)] ++ [.inl (0, 4)] ++ [.inl (0, 100)] ++ [.inl (0, 6)] ++ [.inl (0, 72)] ++ [.inl (0, 72)] ++ [.inl (0, 72)] ++ [.inl (0, 72)] ++ [.inl (0, 72)] ++ [.inl (0, 600)] ++ [.inl (0, 101)] ++ [.inl (0, 24)] ++ [.inl (0, 2)] ++ [.inl (0, 256)] ++ [.inl (0, 64)] ++ [.inl (0, 64)] ++ [.inl (0, 4096)] ++ [.inl (0, 16)] ++ [.inl (2, 4096)] ++ [.inl (2, 100)] ++ [.inl (2, 768)] ++ [.inl (2, 768)] ++ [.inl (2, 768)] ++ [.inl (0, 768)] ++ [.inl (0, 12)] ++ [.inl (0, 24)] ++ [.inl (0, 2)] ++ [.inl (0, 20)] ++ [.inl (0, 6)] ++ [.inl (0, 6)] ++ [.inl (1, 360)] ++ [.inl (1, 60)]
section M24
variable {l : Launch} {g : cm_G} {Q : cm_Post}
theorem c_X12_init (hQ : Q none (As 0 mtI) (As 0 tcL) (As none mtR) mtD) : cm_Ex l g 1 32 13455 mX12_init 0 [.ref 73] [] (As 0 tcI) (As 0 tcL) (As none tcR) (tcD ++ [.inr 10]) Q := by
  refine x_aldn qX12_init_0 rfl trivial ?_
  refine x_objInit qX12_init_1 oX12_1 oi_1 oi_2 (by decide) (by decide) ?_
  refine x_aldn qX12_init_4 rfl trivial ?_
  refine x_iconst (v := nI 0) qX12_init_5 rfl ?_
  refine x_putI qX12_init_6 fX12_7 (Or.inl rfl) rfl ?_
  refine x_memI as_u ?_
  refine x_aldn qX12_init_9 rfl trivial ?_
  refine x_iconst (v := nI 1) qX12_init_10 rfl ?_
  refine x_putI qX12_init_11 fX12_13 (Or.inl rfl) rfl ?_
  refine x_memI as_u ?_
  refine x_aldn qX12_init_14 rfl trivial ?_
  refine x_iconst (v := nI 4) qX12_init_15 rfl ?_
  refine x_newa (t := 0) (N := 4) (n := 74) qX12_init_16 rfl (by decide) ay_0 rfl (by decide) rfl ?_
  refine x_zz (Zr_as (by decide) (by decide) (by decide)) ?_
  refine x_putR qX12_init_18 fX12_16 (Or.inr ⟨rfl, wfX12_16⟩) rfl (cm_rvs _) ?_
  refine x_memR as_u ?_
  refine x_aldn qX12_init_21 rfl trivial ?_
  refine x_iconst (v := nI 4) qX12_init_22 rfl ?_
  refine x_newa (t := 0) (N := 4) (n := 75) qX12_init_23 rfl (by decide) ay_0 rfl (by decide) rfl ?_
  refine x_zz (Zr_as (by decide) (by decide) (by decide)) ?_
  refine x_putR qX12_init_25 fX12_20 (Or.inr ⟨rfl, wfX12_20⟩) rfl (cm_rvs _) ?_
  refine x_memR as_u ?_
  refine x_aldn qX12_init_28 rfl trivial ?_
  refine x_iconst (v := nI 0) qX12_init_29 rfl ?_
  refine x_putI qX12_init_30 fX12_23 (Or.inl rfl) rfl ?_
  refine x_memI as_u ?_
  refine x_aldn qX12_init_33 rfl trivial ?_
  refine x_iconst (v := -1) qX12_init_34 rfl ?_
  refine x_putI qX12_init_35 fX12_26 (Or.inl rfl) rfl ?_
  refine x_memI as_u ?_
  refine x_aldn qX12_init_38 rfl trivial ?_
  refine x_iconst (v := nI 0) qX12_init_39 rfl ?_
  refine x_putI qX12_init_40 fX12_29 (Or.inl rfl) rfl ?_
  refine x_memI as_u ?_
  refine x_aldn qX12_init_43 rfl trivial ?_
  refine x_iconst (v := nI 0) qX12_init_44 rfl ?_
  refine x_putI qX12_init_45 fX12_32 (Or.inl rfl) rfl ?_
  refine x_memI as_u ?_
  refine x_aldn qX12_init_48 rfl trivial ?_
  refine x_iconst (v := nI 0) qX12_init_49 rfl ?_
  refine x_putI qX12_init_50 fX12_35 (Or.inl rfl) rfl ?_
  refine x_memI as_u ?_
  refine x_aldn qX12_init_53 rfl trivial ?_
  refine x_bipush (v := nI 100) qX12_init_54 rfl ?_
  refine x_newa (t := 0) (N := 100) (n := 76) qX12_init_56 rfl (by decide) ay_0 rfl (by decide) rfl ?_
  refine x_zz (Zr_as (by decide) (by decide) (by decide)) ?_
  refine x_putR qX12_init_58 fX12_38 (Or.inr ⟨rfl, wfX12_38⟩) rfl (cm_rvs _) ?_
  refine x_memR as_u ?_
  refine x_aldn qX12_init_61 rfl trivial ?_
  refine x_bipush (v := nI 6) qX12_init_62 rfl ?_
  refine x_newa (t := 0) (N := 6) (n := 77) qX12_init_64 rfl (by decide) ay_0 rfl (by decide) rfl ?_
  refine x_zz (Zr_as (by decide) (by decide) (by decide)) ?_
  refine x_putR qX12_init_66 fX12_41 (Or.inr ⟨rfl, wfX12_41⟩) rfl (cm_rvs _) ?_
  refine x_memR as_u ?_
  refine x_aldn qX12_init_69 rfl trivial ?_
  refine x_bipush (v := nI 72) qX12_init_70 rfl ?_
  refine x_newa (t := 0) (N := 72) (n := 78) qX12_init_72 rfl (by decide) ay_0 rfl (by decide) rfl ?_
  refine x_zz (Zr_as (by decide) (by decide) (by decide)) ?_
  refine x_putR qX12_init_74 fX12_44 (Or.inr ⟨rfl, wfX12_44⟩) rfl (cm_rvs _) ?_
  refine x_memR as_u ?_
  refine x_aldn qX12_init_77 rfl trivial ?_
  refine x_bipush (v := nI 72) qX12_init_78 rfl ?_
  refine x_newa (t := 0) (N := 72) (n := 79) qX12_init_80 rfl (by decide) ay_0 rfl (by decide) rfl ?_
  refine x_zz (Zr_as (by decide) (by decide) (by decide)) ?_
  refine x_putR qX12_init_82 fX12_47 (Or.inr ⟨rfl, wfX12_47⟩) rfl (cm_rvs _) ?_
  refine x_memR as_u ?_
  refine x_aldn qX12_init_85 rfl trivial ?_
  refine x_bipush (v := nI 72) qX12_init_86 rfl ?_
  refine x_newa (t := 0) (N := 72) (n := 80) qX12_init_88 rfl (by decide) ay_0 rfl (by decide) rfl ?_
  refine x_zz (Zr_as (by decide) (by decide) (by decide)) ?_
  refine x_putR qX12_init_90 fX12_50 (Or.inr ⟨rfl, wfX12_50⟩) rfl (cm_rvs _) ?_
  refine x_memR as_u ?_
  refine x_aldn qX12_init_93 rfl trivial ?_
  refine x_bipush (v := nI 72) qX12_init_94 rfl ?_
  refine x_newa (t := 0) (N := 72) (n := 81) qX12_init_96 rfl (by decide) ay_0 rfl (by decide) rfl ?_
  refine x_zz (Zr_as (by decide) (by decide) (by decide)) ?_
  refine x_putR qX12_init_98 fX12_53 (Or.inr ⟨rfl, wfX12_53⟩) rfl (cm_rvs _) ?_
  refine x_memR as_u ?_
  refine x_aldn qX12_init_101 rfl trivial ?_
  refine x_bipush (v := nI 72) qX12_init_102 rfl ?_
  refine x_newa (t := 0) (N := 72) (n := 82) qX12_init_104 rfl (by decide) ay_0 rfl (by decide) rfl ?_
  refine x_zz (Zr_as (by decide) (by decide) (by decide)) ?_
  refine x_putR qX12_init_106 fX12_56 (Or.inr ⟨rfl, wfX12_56⟩) rfl (cm_rvs _) ?_
  refine x_memR as_u ?_
  refine x_aldn qX12_init_109 rfl trivial ?_
  refine x_sipush (v := nI 600) qX12_init_110 rfl ?_
  refine x_newa (t := 0) (N := 600) (n := 83) qX12_init_113 rfl (by decide) ay_0 rfl (by decide) rfl ?_
  refine x_zz (Zr_as (by decide) (by decide) (by decide)) ?_
  refine x_putR qX12_init_115 fX12_59 (Or.inr ⟨rfl, wfX12_59⟩) rfl (cm_rvs _) ?_
  refine x_memR as_u ?_
  refine x_aldn qX12_init_118 rfl trivial ?_
  refine x_bipush (v := nI 101) qX12_init_119 rfl ?_
  refine x_newa (t := 0) (N := 101) (n := 84) qX12_init_121 rfl (by decide) ay_0 rfl (by decide) rfl ?_
  refine x_zz (Zr_as (by decide) (by decide) (by decide)) ?_
  refine x_putR qX12_init_123 fX12_62 (Or.inr ⟨rfl, wfX12_62⟩) rfl (cm_rvs _) ?_
  refine x_memR as_u ?_
  refine x_aldn qX12_init_126 rfl trivial ?_
  refine x_iconst (v := nI 0) qX12_init_127 rfl ?_
  refine x_putI qX12_init_128 fX12_65 (Or.inl rfl) rfl ?_
  refine x_memI as_u ?_
  refine x_aldn qX12_init_131 rfl trivial ?_
  refine x_iconst (v := nI 0) qX12_init_132 rfl ?_
  refine x_putI qX12_init_133 fX12_68 (Or.inl rfl) rfl ?_
  refine x_memI as_u ?_
  refine x_aldn qX12_init_136 rfl trivial ?_
  refine x_iconst (v := nI 0) qX12_init_137 rfl ?_
  refine x_putI qX12_init_138 fX12_71 (Or.inl rfl) rfl ?_
  refine x_memI as_u ?_
  refine x_aldn qX12_init_141 rfl trivial ?_
  refine x_bipush (v := nI 24) qX12_init_142 rfl ?_
  refine x_newa (t := 0) (N := 24) (n := 85) qX12_init_144 rfl (by decide) ay_0 rfl (by decide) rfl ?_
  refine x_zz (Zr_as (by decide) (by decide) (by decide)) ?_
  refine x_putR qX12_init_146 fX12_74 (Or.inr ⟨rfl, wfX12_74⟩) rfl (cm_rvs _) ?_
  refine x_memR as_u ?_
  refine x_aldn qX12_init_149 rfl trivial ?_
  refine x_iconst (v := nI 2) qX12_init_150 rfl ?_
  refine x_newa (t := 0) (N := 2) (n := 86) qX12_init_151 rfl (by decide) ay_0 rfl (by decide) rfl ?_
  refine x_zz (Zr_as (by decide) (by decide) (by decide)) ?_
  refine x_putR qX12_init_153 fX12_77 (Or.inr ⟨rfl, wfX12_77⟩) rfl (cm_rvs _) ?_
  refine x_memR as_u ?_
  refine x_aldn qX12_init_156 rfl trivial ?_
  refine x_sipush (v := nI 256) qX12_init_157 rfl ?_
  refine x_newa (t := 0) (N := 256) (n := 87) qX12_init_160 rfl (by decide) ay_0 rfl (by decide) rfl ?_
  refine x_zz (Zr_as (by decide) (by decide) (by decide)) ?_
  refine x_putR qX12_init_162 fX12_80 (Or.inr ⟨rfl, wfX12_80⟩) rfl (cm_rvs _) ?_
  refine x_memR as_u ?_
  refine x_aldn qX12_init_165 rfl trivial ?_
  refine x_bipush (v := nI 64) qX12_init_166 rfl ?_
  refine x_newa (t := 0) (N := 64) (n := 88) qX12_init_168 rfl (by decide) ay_0 rfl (by decide) rfl ?_
  refine x_zz (Zr_as (by decide) (by decide) (by decide)) ?_
  refine x_putR qX12_init_170 fX12_83 (Or.inr ⟨rfl, wfX12_83⟩) rfl (cm_rvs _) ?_
  refine x_memR as_u ?_
  refine x_aldn qX12_init_173 rfl trivial ?_
  refine x_bipush (v := nI 64) qX12_init_174 rfl ?_
  refine x_newa (t := 0) (N := 64) (n := 89) qX12_init_176 rfl (by decide) ay_0 rfl (by decide) rfl ?_
  refine x_zz (Zr_as (by decide) (by decide) (by decide)) ?_
  refine x_putR qX12_init_178 fX12_86 (Or.inr ⟨rfl, wfX12_86⟩) rfl (cm_rvs _) ?_
  refine x_memR as_u ?_
  refine x_aldn qX12_init_181 rfl trivial ?_
  refine x_sipush (v := nI 4096) qX12_init_182 rfl ?_
  refine x_newa (t := 0) (N := 4096) (n := 90) qX12_init_185 rfl (by decide) ay_0 rfl (by decide) rfl ?_
  refine x_zz (Zr_as (by decide) (by decide) (by decide)) ?_
  refine x_putR qX12_init_187 fX12_89 (Or.inr ⟨rfl, wfX12_89⟩) rfl (cm_rvs _) ?_
  refine x_memR as_u ?_
  refine x_aldn qX12_init_190 rfl trivial ?_
  refine x_bipush (v := nI 16) qX12_init_191 rfl ?_
  refine x_newa (t := 0) (N := 16) (n := 91) qX12_init_193 rfl (by decide) ay_0 rfl (by decide) rfl ?_
  refine x_zz (Zr_as (by decide) (by decide) (by decide)) ?_
  refine x_putR qX12_init_195 fX12_92 (Or.inr ⟨rfl, wfX12_92⟩) rfl (cm_rvs _) ?_
  refine x_memR as_u ?_
  refine x_aldn qX12_init_198 rfl trivial ?_
  refine x_sipush (v := nI 4096) qX12_init_199 rfl ?_
  refine x_newa (t := 2) (N := 4096) (n := 92) qX12_init_202 rfl (by decide) ay_2 rfl (by decide) rfl ?_
  refine x_zz (Zr_as (by decide) (by decide) (by decide)) ?_
  refine x_putR qX12_init_204 fX12_95 (Or.inr ⟨rfl, wfX12_95⟩) rfl (cm_rvs _) ?_
  refine x_memR as_u ?_
  refine x_aldn qX12_init_207 rfl trivial ?_
  refine x_bipush (v := nI 100) qX12_init_208 rfl ?_
  refine x_newa (t := 2) (N := 100) (n := 93) qX12_init_210 rfl (by decide) ay_2 rfl (by decide) rfl ?_
  refine x_zz (Zr_as (by decide) (by decide) (by decide)) ?_
  refine x_putR qX12_init_212 fX12_99 (Or.inr ⟨rfl, wfX12_99⟩) rfl (cm_rvs _) ?_
  refine x_memR as_u ?_
  refine x_aldn qX12_init_215 rfl trivial ?_
  refine x_sipush (v := nI 768) qX12_init_216 rfl ?_
  refine x_newa (t := 2) (N := 768) (n := 94) qX12_init_219 rfl (by decide) ay_2 rfl (by decide) rfl ?_
  refine x_zz (Zr_as (by decide) (by decide) (by decide)) ?_
  refine x_putR qX12_init_221 fX12_102 (Or.inr ⟨rfl, wfX12_102⟩) rfl (cm_rvs _) ?_
  refine x_memR as_u ?_
  refine x_aldn qX12_init_224 rfl trivial ?_
  refine x_sipush (v := nI 768) qX12_init_225 rfl ?_
  refine x_newa (t := 2) (N := 768) (n := 95) qX12_init_228 rfl (by decide) ay_2 rfl (by decide) rfl ?_
  refine x_zz (Zr_as (by decide) (by decide) (by decide)) ?_
  refine x_putR qX12_init_230 fX12_105 (Or.inr ⟨rfl, wfX12_105⟩) rfl (cm_rvs _) ?_
  refine x_memR as_u ?_
  refine x_aldn qX12_init_233 rfl trivial ?_
  refine x_sipush (v := nI 768) qX12_init_234 rfl ?_
  refine x_newa (t := 2) (N := 768) (n := 96) qX12_init_237 rfl (by decide) ay_2 rfl (by decide) rfl ?_
  refine x_zz (Zr_as (by decide) (by decide) (by decide)) ?_
  refine x_putR qX12_init_239 fX12_108 (Or.inr ⟨rfl, wfX12_108⟩) rfl (cm_rvs _) ?_
  refine x_memR as_u ?_
  refine x_aldn qX12_init_242 rfl trivial ?_
  refine x_sipush (v := nI 768) qX12_init_243 rfl ?_
  refine x_newa (t := 0) (N := 768) (n := 97) qX12_init_246 rfl (by decide) ay_0 rfl (by decide) rfl ?_
  refine x_zz (Zr_as (by decide) (by decide) (by decide)) ?_
  refine x_putR qX12_init_248 fX12_111 (Or.inr ⟨rfl, wfX12_111⟩) rfl (cm_rvs _) ?_
  refine x_memR as_u ?_
  refine x_aldn qX12_init_251 rfl trivial ?_
  refine x_bipush (v := nI 12) qX12_init_252 rfl ?_
  refine x_newa (t := 0) (N := 12) (n := 98) qX12_init_254 rfl (by decide) ay_0 rfl (by decide) rfl ?_
  refine x_zz (Zr_as (by decide) (by decide) (by decide)) ?_
  refine x_putR qX12_init_256 fX12_114 (Or.inr ⟨rfl, wfX12_114⟩) rfl (cm_rvs _) ?_
  refine x_memR as_u ?_
  refine x_aldn qX12_init_259 rfl trivial ?_
  refine x_iconst (v := nI 0) qX12_init_260 rfl ?_
  refine x_putZ qX12_init_261 fX12_117 (Or.inl rfl) rfl (by decide) ?_
  refine x_memI as_u ?_
  refine x_aldn qX12_init_264 rfl trivial ?_
  refine x_iconst (v := -1) qX12_init_265 rfl ?_
  refine x_putI qX12_init_266 fX12_121 (Or.inl rfl) rfl ?_
  refine x_memI as_u ?_
  refine x_aldn qX12_init_269 rfl trivial ?_
  refine x_bipush (v := nI 24) qX12_init_270 rfl ?_
  refine x_newa (t := 0) (N := 24) (n := 99) qX12_init_272 rfl (by decide) ay_0 rfl (by decide) rfl ?_
  refine x_zz (Zr_as (by decide) (by decide) (by decide)) ?_
  refine x_putR qX12_init_274 fX12_124 (Or.inr ⟨rfl, wfX12_124⟩) rfl (cm_rvs _) ?_
  refine x_memR as_u ?_
  refine x_aldn qX12_init_277 rfl trivial ?_
  refine x_iconst (v := nI 2) qX12_init_278 rfl ?_
  refine x_newa (t := 0) (N := 2) (n := 100) qX12_init_279 rfl (by decide) ay_0 rfl (by decide) rfl ?_
  refine x_zz (Zr_as (by decide) (by decide) (by decide)) ?_
  refine x_putR qX12_init_281 fX12_127 (Or.inr ⟨rfl, wfX12_127⟩) rfl (cm_rvs _) ?_
  refine x_memR as_u ?_
  refine x_aldn qX12_init_284 rfl trivial ?_
  refine x_iconst (v := nI 0) qX12_init_285 rfl ?_
  refine x_putI qX12_init_286 fX12_130 (Or.inl rfl) rfl ?_
  refine x_memI as_u ?_
  refine x_aldn qX12_init_289 rfl trivial ?_
  refine x_bipush (v := nI 20) qX12_init_290 rfl ?_
  refine x_newa (t := 0) (N := 20) (n := 101) qX12_init_292 rfl (by decide) ay_0 rfl (by decide) rfl ?_
  refine x_zz (Zr_as (by decide) (by decide) (by decide)) ?_
  refine x_putR qX12_init_294 fX12_133 (Or.inr ⟨rfl, wfX12_133⟩) rfl (cm_rvs _) ?_
  refine x_memR as_u ?_
  refine x_aldn qX12_init_297 rfl trivial ?_
  refine x_bipush (v := nI 6) qX12_init_298 rfl ?_
  refine x_newa (t := 0) (N := 6) (n := 102) qX12_init_300 rfl (by decide) ay_0 rfl (by decide) rfl ?_
  refine x_zz (Zr_as (by decide) (by decide) (by decide)) ?_
  refine x_dup qX12_init_302 rfl ?_
  refine x_iconst (v := nI 0) qX12_init_303 rfl ?_
  refine x_iconst (v := -1) qX12_init_304 rfl ?_
  refine x_iast qX12_init_305 rfl rfl (by decide) (by decide) ?_
  refine x_memI as_u ?_
  refine x_dup qX12_init_306 rfl ?_
  refine x_iconst (v := nI 1) qX12_init_307 rfl ?_
  refine x_iconst (v := -1) qX12_init_308 rfl ?_
  refine x_iast qX12_init_309 rfl rfl (by decide) (by decide) ?_
  refine x_memI as_u ?_
  refine x_dup qX12_init_310 rfl ?_
  refine x_iconst (v := nI 2) qX12_init_311 rfl ?_
  refine x_iconst (v := -1) qX12_init_312 rfl ?_
  refine x_iast qX12_init_313 rfl rfl (by decide) (by decide) ?_
  refine x_memI as_u ?_
  refine x_dup qX12_init_314 rfl ?_
  refine x_iconst (v := nI 3) qX12_init_315 rfl ?_
  refine x_iconst (v := -1) qX12_init_316 rfl ?_
  refine x_iast qX12_init_317 rfl rfl (by decide) (by decide) ?_
  refine x_memI as_u ?_
  refine x_dup qX12_init_318 rfl ?_
  refine x_iconst (v := nI 4) qX12_init_319 rfl ?_
  refine x_iconst (v := -1) qX12_init_320 rfl ?_
  refine x_iast qX12_init_321 rfl rfl (by decide) (by decide) ?_
  refine x_memI as_u ?_
  refine x_dup qX12_init_322 rfl ?_
  refine x_iconst (v := nI 5) qX12_init_323 rfl ?_
  refine x_iconst (v := -1) qX12_init_324 rfl ?_
  refine x_iast qX12_init_325 rfl rfl (by decide) (by decide) ?_
  refine x_memI as_u ?_
  refine x_putR qX12_init_326 fX12_136 (Or.inr ⟨rfl, wfX12_136⟩) rfl (cm_rvs _) ?_
  refine x_memR as_u ?_
  refine x_aldn qX12_init_329 rfl trivial ?_
  refine x_bipush (v := nI 6) qX12_init_330 rfl ?_
  refine x_newa (t := 0) (N := 6) (n := 103) qX12_init_332 rfl (by decide) ay_0 rfl (by decide) rfl ?_
  refine x_zz (Zr_as (by decide) (by decide) (by decide)) ?_
  refine x_putR qX12_init_334 fX12_139 (Or.inr ⟨rfl, wfX12_139⟩) rfl (cm_rvs _) ?_
  refine x_memR as_u ?_
  refine x_aldn qX12_init_337 rfl trivial ?_
  refine x_sipush (v := nI 360) qX12_init_338 rfl ?_
  refine x_newa (t := 1) (N := 360) (n := 104) qX12_init_341 rfl (by decide) ay_1 rfl (by decide) rfl ?_
  refine x_zz (Zr_as (by decide) (by decide) (by decide)) ?_
  refine x_putR qX12_init_343 fX12_142 (Or.inr ⟨rfl, wfX12_142⟩) rfl (cm_rvs _) ?_
  refine x_memR as_u ?_
  refine x_aldn qX12_init_346 rfl trivial ?_
  refine x_bipush (v := nI 60) qX12_init_347 rfl ?_
  refine x_newa (t := 1) (N := 60) (n := 105) qX12_init_349 rfl (by decide) ay_1 rfl (by decide) rfl ?_
  refine x_zz (Zr_as (by decide) (by decide) (by decide)) ?_
  refine x_putR qX12_init_351 fX12_146 (Or.inr ⟨rfl, wfX12_146⟩) rfl (cm_rvs _) ?_
  refine x_memR as_u ?_
  refine x_vret qX12_init_354 rfl ?_
  exact hQ
end M24
