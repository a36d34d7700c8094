def L_L_law_18 (LL : Nat) (sx : Nat → Int32) : Nat → Int32 → Mm → Option ((Mm) ⊕ (Int32))
  | 0, _, _ => none
  | n_8 + 1, x3_1, M_2 =>
    if ((nI LL) - (6 : Int32)) < x3_1 then (
     some (.inl M_2))
    else (
     ck (ib x3_1 LL) (
     if ((sx x3_1.toNatClampNeg) &&& (31 : Int32)) = (0 : Int32) then (
     ck (ib (x3_1 + (1 : Int32)) LL) (
     Option.bind (f_X6_beats (sx (x3_1 + (1 : Int32)).toNatClampNeg) M_2) (fun q_15 =>
     ck (ib (x3_1 + (1 : Int32)) LL) (
     Option.bind (f_X7_beats (sx (x3_1 + (1 : Int32)).toNatClampNeg) q_15.2) (fun q_18 =>
     if q_15.1 = q_18.1 then (
     L_L_law_18 LL sx n_8 (x3_1 + 6) q_18.2)
    else (
     some (.inr (0 : Int32))))))))
    else (
     if ((sx x3_1.toNatClampNeg) &&& (31 : Int32)) = (1 : Int32) then (
     ck (ib (x3_1 + (1 : Int32)) LL) (
     ck (ib (x3_1 + (2 : Int32)) LL) (
     ck (ib (x3_1 + (3 : Int32)) LL) (
     ck (ib (x3_1 + (4 : Int32)) LL) (
     nm (
     if (sx (x3_1 + (4 : Int32)).toNatClampNeg) = 0 then (
     (0 : Int32))
    else (
     (1 : Int32))) (fun q_27 =>
     Option.bind (f_X6_note (sx (x3_1 + (1 : Int32)).toNatClampNeg) (sx (x3_1 + (2 : Int32)).toNatClampNeg) (sx (x3_1 + (3 : Int32)).toNatClampNeg) q_27 M_2) (fun q_31 =>
     ck (ib (x3_1 + (1 : Int32)) LL) (
     ck (ib (x3_1 + (2 : Int32)) LL) (
     ck (ib (x3_1 + (3 : Int32)) LL) (
     ck (ib (x3_1 + (4 : Int32)) LL) (
     nm (
     if (sx (x3_1 + (4 : Int32)).toNatClampNeg) = 0 then (
     (0 : Int32))
    else (
     (1 : Int32))) (fun q_38 =>
     Option.bind (f_X7_note_ (sx (x3_1 + (1 : Int32)).toNatClampNeg) (sx (x3_1 + (2 : Int32)).toNatClampNeg) (sx (x3_1 + (3 : Int32)).toNatClampNeg) q_38 q_31.2) (fun q_42 =>
     if q_31.1 = q_42.1 then (
     L_L_law_18 LL sx n_8 (x3_1 + 6) q_42.2)
    else (
     some (.inr (0 : Int32))))))))))))))))
    else (
     if ((sx x3_1.toNatClampNeg) &&& (31 : Int32)) = (2 : Int32) then (
     ck (ib (x3_1 + (1 : Int32)) LL) (
     Option.bind (f_X6_drop (sx (x3_1 + (1 : Int32)).toNatClampNeg) M_2) (fun q_47 =>
     ck (ib (x3_1 + (1 : Int32)) LL) (
     Option.bind (f_X7_drop (sx (x3_1 + (1 : Int32)).toNatClampNeg) q_47.2) (fun q_50 =>
     if q_47.1 = q_50.1 then (
     L_L_law_18 LL sx n_8 (x3_1 + 6) q_50.2)
    else (
     some (.inr (0 : Int32))))))))
    else (
     if ((sx x3_1.toNatClampNeg) &&& (31 : Int32)) = (3 : Int32) then (
     ck (ib (x3_1 + (1 : Int32)) LL) (
     ck (ib (x3_1 + (2 : Int32)) LL) (
     ck (ib (x3_1 + (3 : Int32)) LL) (
     Option.bind (f_X6_as (sx (x3_1 + (1 : Int32)).toNatClampNeg) (sx (x3_1 + (2 : Int32)).toNatClampNeg) (sx (x3_1 + (3 : Int32)).toNatClampNeg) M_2) (fun q_57 =>
     ck (ib (x3_1 + (1 : Int32)) LL) (
     ck (ib (x3_1 + (2 : Int32)) LL) (
     ck (ib (x3_1 + (3 : Int32)) LL) (
     Option.bind (f_X7_as (sx (x3_1 + (1 : Int32)).toNatClampNeg) (sx (x3_1 + (2 : Int32)).toNatClampNeg) (sx (x3_1 + (3 : Int32)).toNatClampNeg) q_57.2) (fun q_62 =>
     if q_57.1 = q_62.1 then (
     L_L_law_18 LL sx n_8 (x3_1 + 6) q_62.2)
    else (
     some (.inr (0 : Int32))))))))))))
    else (
     if ((sx x3_1.toNatClampNeg) &&& (31 : Int32)) = (4 : Int32) then (
     ck (ib (x3_1 + (1 : Int32)) LL) (
     ck (ib (x3_1 + (2 : Int32)) LL) (
     ck (ib (x3_1 + (3 : Int32)) LL) (
     Option.bind (f_X6_of (sx (x3_1 + (1 : Int32)).toNatClampNeg) (sx (x3_1 + (2 : Int32)).toNatClampNeg) (sx (x3_1 + (3 : Int32)).toNatClampNeg) M_2) (fun q_69 =>
     ck (ib (x3_1 + (1 : Int32)) LL) (
     ck (ib (x3_1 + (2 : Int32)) LL) (
     ck (ib (x3_1 + (3 : Int32)) LL) (
     Option.bind (f_X7_of (sx (x3_1 + (1 : Int32)).toNatClampNeg) (sx (x3_1 + (2 : Int32)).toNatClampNeg) (sx (x3_1 + (3 : Int32)).toNatClampNeg) q_69.2) (fun q_74 =>
     if q_69.1 = q_74.1 then (
     L_L_law_18 LL sx n_8 (x3_1 + 6) q_74.2)
    else (
     some (.inr (0 : Int32))))))))))))
    else (
     if ((sx x3_1.toNatClampNeg) &&& (31 : Int32)) = (5 : Int32) then (
     ck (ib (x3_1 + (1 : Int32)) LL) (
     Option.bind (f_X6_shift (sx (x3_1 + (1 : Int32)).toNatClampNeg) M_2) (fun q_79 =>
     ck (ib (x3_1 + (1 : Int32)) LL) (
     Option.bind (f_X7_shift (sx (x3_1 + (1 : Int32)).toNatClampNeg) q_79.2) (fun q_82 =>
     if q_79.1 = q_82.1 then (
     L_L_law_18 LL sx n_8 (x3_1 + 6) q_82.2)
    else (
     some (.inr (0 : Int32))))))))
    else (
     if ((sx x3_1.toNatClampNeg) &&& (31 : Int32)) = (6 : Int32) then (
     ck (ib (x3_1 + (1 : Int32)) LL) (
     ck (ib (x3_1 + (2 : Int32)) LL) (
     ck (ib (x3_1 + (3 : Int32)) LL) (
     Option.bind (f_X6_mark (sx (x3_1 + (1 : Int32)).toNatClampNeg) (sx (x3_1 + (2 : Int32)).toNatClampNeg) (sx (x3_1 + (3 : Int32)).toNatClampNeg) M_2) (fun q_89 =>
     ck (ib (x3_1 + (1 : Int32)) LL) (
     ck (ib (x3_1 + (2 : Int32)) LL) (
     ck (ib (x3_1 + (3 : Int32)) LL) (
     Option.bind (f_X7_mark (sx (x3_1 + (1 : Int32)).toNatClampNeg) (sx (x3_1 + (2 : Int32)).toNatClampNeg) (sx (x3_1 + (3 : Int32)).toNatClampNeg) q_89.2) (fun q_94 =>
     if q_89.1 = q_94.1 then (
     L_L_law_18 LL sx n_8 (x3_1 + 6) q_94.2)
    else (
     some (.inr (0 : Int32))))))))))))
    else (
     if ((sx x3_1.toNatClampNeg) &&& (31 : Int32)) = (7 : Int32) then (
     ck (ib (x3_1 + (1 : Int32)) LL) (
     ck (ib (x3_1 + (2 : Int32)) LL) (
     Option.bind (f_X6_start (sx (x3_1 + (1 : Int32)).toNatClampNeg) (sx (x3_1 + (2 : Int32)).toNatClampNeg) M_2) (fun q_100 =>
     ck (ib (x3_1 + (1 : Int32)) LL) (
     ck (ib (x3_1 + (2 : Int32)) LL) (
     Option.bind (f_X7_start (sx (x3_1 + (1 : Int32)).toNatClampNeg) (sx (x3_1 + (2 : Int32)).toNatClampNeg) q_100.2) (fun q_104 =>
     if q_100.1 = q_104.1 then (
     L_L_law_18 LL sx n_8 (x3_1 + 6) q_104.2)
    else (
     some (.inr (0 : Int32))))))))))
    else (
     if ((sx x3_1.toNatClampNeg) &&& (31 : Int32)) = (8 : Int32) then (
     ck (ib (x3_1 + (1 : Int32)) LL) (
     ck (ib (x3_1 + (2 : Int32)) LL) (
     Option.bind (f_X6_pitch (sx (x3_1 + (1 : Int32)).toNatClampNeg) (sx (x3_1 + (2 : Int32)).toNatClampNeg) M_2) (fun q_110 =>
     ck (ib (x3_1 + (1 : Int32)) LL) (
     ck (ib (x3_1 + (2 : Int32)) LL) (
     Option.bind (f_X7_pitch (sx (x3_1 + (1 : Int32)).toNatClampNeg) (sx (x3_1 + (2 : Int32)).toNatClampNeg) q_110.2) (fun q_114 =>
     if q_110.1 = q_114.1 then (
     L_L_law_18 LL sx n_8 (x3_1 + 6) q_114.2)
    else (
     some (.inr (0 : Int32))))))))))
    else (
     if ((sx x3_1.toNatClampNeg) &&& (31 : Int32)) = (9 : Int32) then (
     ck (ib (x3_1 + (1 : Int32)) LL) (
     ck (ib (x3_1 + (2 : Int32)) LL) (
     ck (ib (x3_1 + (3 : Int32)) LL) (
     Option.bind (f_X6_string (sx (x3_1 + (1 : Int32)).toNatClampNeg) (sx (x3_1 + (2 : Int32)).toNatClampNeg) (sx (x3_1 + (3 : Int32)).toNatClampNeg) M_2) (fun q_121 =>
     ck (ib (x3_1 + (1 : Int32)) LL) (
     ck (ib (x3_1 + (2 : Int32)) LL) (
     ck (ib (x3_1 + (3 : Int32)) LL) (
     Option.bind (f_X7_string (sx (x3_1 + (1 : Int32)).toNatClampNeg) (sx (x3_1 + (2 : Int32)).toNatClampNeg) (sx (x3_1 + (3 : Int32)).toNatClampNeg) q_121.2) (fun q_126 =>
     if q_121.1 = q_126.1 then (
     L_L_law_18 LL sx n_8 (x3_1 + 6) q_126.2)
    else (
     some (.inr (0 : Int32))))))))))))
    else (
     if ((sx x3_1.toNatClampNeg) &&& (31 : Int32)) = (10 : Int32) then (
     ck (ib (x3_1 + (1 : Int32)) LL) (
     ck (ib (x3_1 + (2 : Int32)) LL) (
     Option.bind (f_X6_does (sx (x3_1 + (1 : Int32)).toNatClampNeg) (sx (x3_1 + (2 : Int32)).toNatClampNeg) M_2) (fun q_132 =>
     ck (ib (x3_1 + (1 : Int32)) LL) (
     ck (ib (x3_1 + (2 : Int32)) LL) (
     Option.bind (f_X7_does (sx (x3_1 + (1 : Int32)).toNatClampNeg) (sx (x3_1 + (2 : Int32)).toNatClampNeg) q_132.2) (fun q_136 =>
     if q_132.1 = q_136.1 then (
     L_L_law_18 LL sx n_8 (x3_1 + 6) q_136.2)
    else (
     some (.inr (0 : Int32))))))))))
    else (
     if ((sx x3_1.toNatClampNeg) &&& (31 : Int32)) = (11 : Int32) then (
     ck (ib (x3_1 + (1 : Int32)) LL) (
     Option.bind (f_X6_many (sx (x3_1 + (1 : Int32)).toNatClampNeg) M_2) (fun q_141 =>
     ck (ib (x3_1 + (1 : Int32)) LL) (
     Option.bind (f_X7_many (sx (x3_1 + (1 : Int32)).toNatClampNeg) q_141.2) (fun q_144 =>
     if q_141.1 = q_144.1 then (
     L_L_law_18 LL sx n_8 (x3_1 + 6) q_144.2)
    else (
     some (.inr (0 : Int32))))))))
    else (
     if ((sx x3_1.toNatClampNeg) &&& (31 : Int32)) = (12 : Int32) then (
     Option.bind (f_X6_moves M_2) (fun q_148 =>
     Option.bind (f_X7_moves q_148.2) (fun q_150 =>
     if q_148.1 = q_150.1 then (
     L_L_law_18 LL sx n_8 (x3_1 + 6) q_150.2)
    else (
     some (.inr (0 : Int32))))))
    else (
     if ((sx x3_1.toNatClampNeg) &&& (31 : Int32)) = (13 : Int32) then (
     ck (ib (x3_1 + (1 : Int32)) LL) (
     Option.bind (f_X6_diagram (sx (x3_1 + (1 : Int32)).toNatClampNeg) M_2) (fun q_155 =>
     ck (ib (x3_1 + (1 : Int32)) LL) (
     Option.bind (f_X7_diagram (sx (x3_1 + (1 : Int32)).toNatClampNeg) q_155.2) (fun q_158 =>
     if q_155.1 = q_158.1 then (
     L_L_law_18 LL sx n_8 (x3_1 + 6) q_158.2)
    else (
     some (.inr (0 : Int32))))))))
    else (
     if ((sx x3_1.toNatClampNeg) &&& (31 : Int32)) = (14 : Int32) then (
     ck (ib (x3_1 + (1 : Int32)) LL) (
     ck (ib (x3_1 + (2 : Int32)) LL) (
     Option.bind (f_X6_stand (sx (x3_1 + (1 : Int32)).toNatClampNeg) (sx (x3_1 + (2 : Int32)).toNatClampNeg) M_2) (fun q_164 =>
     ck (ib (x3_1 + (1 : Int32)) LL) (
     ck (ib (x3_1 + (2 : Int32)) LL) (
     Option.bind (f_X7_stand (sx (x3_1 + (1 : Int32)).toNatClampNeg) (sx (x3_1 + (2 : Int32)).toNatClampNeg) q_164.2) (fun q_168 =>
     if q_164.1 = q_168.1 then (
     L_L_law_18 LL sx n_8 (x3_1 + 6) q_168.2)
    else (
     some (.inr (0 : Int32))))))))))
    else (
     if ((sx x3_1.toNatClampNeg) &&& (31 : Int32)) = (15 : Int32) then (
     ck (ib (x3_1 + (1 : Int32)) LL) (
     ck (ib (x3_1 + (2 : Int32)) LL) (
     nm (
     if (sx (x3_1 + (2 : Int32)).toNatClampNeg) = 0 then (
     (0 : Int32))
    else (
     (1 : Int32))) (fun q_175 =>
     Option.bind (f_X6_foot (sx (x3_1 + (1 : Int32)).toNatClampNeg) q_175 M_2) (fun q_179 =>
     ck (ib (x3_1 + (1 : Int32)) LL) (
     ck (ib (x3_1 + (2 : Int32)) LL) (
     nm (
     if (sx (x3_1 + (2 : Int32)).toNatClampNeg) = 0 then (
     (0 : Int32))
    else (
     (1 : Int32))) (fun q_184 =>
     Option.bind (f_X7_foot (sx (x3_1 + (1 : Int32)).toNatClampNeg) q_184 q_179.2) (fun q_188 =>
     if q_179.1 = q_188.1 then (
     L_L_law_18 LL sx n_8 (x3_1 + 6) q_188.2)
    else (
     some (.inr (0 : Int32))))))))))))
    else (
     if ((sx x3_1.toNatClampNeg) &&& (31 : Int32)) = (16 : Int32) then (
     Option.bind (f_X6_ways M_2) (fun q_192 =>
     Option.bind (f_X7_ways q_192.2) (fun q_194 =>
     if q_192.1 = q_194.1 then (
     L_L_law_18 LL sx n_8 (x3_1 + 6) q_194.2)
    else (
     some (.inr (0 : Int32))))))
    else (
     if ((sx x3_1.toNatClampNeg) &&& (31 : Int32)) = (17 : Int32) then (
     Option.bind (f_X6_stuck M_2) (fun q_198 =>
     Option.bind (f_X7_stuck q_198.2) (fun q_200 =>
     if q_198.1 = q_200.1 then (
     L_L_law_18 LL sx n_8 (x3_1 + 6) q_200.2)
    else (
     some (.inr (0 : Int32))))))
    else (
     if ((sx x3_1.toNatClampNeg) &&& (31 : Int32)) = (18 : Int32) then (
     ck (ib (x3_1 + (1 : Int32)) LL) (
     ck (ib (x3_1 + (2 : Int32)) LL) (
     Option.bind (f_X6_without (sx (x3_1 + (1 : Int32)).toNatClampNeg) (sx (x3_1 + (2 : Int32)).toNatClampNeg) M_2) (fun q_206 =>
     ck (ib (x3_1 + (1 : Int32)) LL) (
     ck (ib (x3_1 + (2 : Int32)) LL) (
     Option.bind (f_X7_without (sx (x3_1 + (1 : Int32)).toNatClampNeg) (sx (x3_1 + (2 : Int32)).toNatClampNeg) q_206.2) (fun q_210 =>
     if q_206.1 = q_210.1 then (
     L_L_law_18 LL sx n_8 (x3_1 + 6) q_210.2)
    else (
     some (.inr (0 : Int32))))))))))
    else (
     if ((sx x3_1.toNatClampNeg) &&& (31 : Int32)) = (19 : Int32) then (
     ck (ib (x3_1 + (1 : Int32)) LL) (
     ck (ib (x3_1 + (2 : Int32)) LL) (
     Option.bind (f_X6_split (sx (x3_1 + (1 : Int32)).toNatClampNeg) (sx (x3_1 + (2 : Int32)).toNatClampNeg) M_2) (fun q_216 =>
     ck (ib (x3_1 + (1 : Int32)) LL) (
     ck (ib (x3_1 + (2 : Int32)) LL) (
     Option.bind (f_X7_split (sx (x3_1 + (1 : Int32)).toNatClampNeg) (sx (x3_1 + (2 : Int32)).toNatClampNeg) q_216.2) (fun q_220 =>
     if q_216.1 = q_220.1 then (
     L_L_law_18 LL sx n_8 (x3_1 + 6) q_220.2)
    else (
     some (.inr (0 : Int32))))))))))
    else (
     if ((sx x3_1.toNatClampNeg) &&& (31 : Int32)) = (20 : Int32) then (
     Option.bind (f_X6_hard M_2) (fun q_224 =>
     Option.bind (f_X7_hard q_224.2) (fun q_226 =>
     if q_224.1 = q_226.1 then (
     L_L_law_18 LL sx n_8 (x3_1 + 6) q_226.2)
    else (
     some (.inr (0 : Int32))))))
    else (
     if ((sx x3_1.toNatClampNeg) &&& (31 : Int32)) = (21 : Int32) then (
     ck (ib (x3_1 + (1 : Int32)) LL) (
     ck (ib (x3_1 + (2 : Int32)) LL) (
     ck (ib (x3_1 + (3 : Int32)) LL) (
     ck (ib (x3_1 + (4 : Int32)) LL) (
     Option.bind (f_X6_run (sx (x3_1 + (1 : Int32)).toNatClampNeg) (sx (x3_1 + (2 : Int32)).toNatClampNeg) (sx (x3_1 + (3 : Int32)).toNatClampNeg) (sx (x3_1 + (4 : Int32)).toNatClampNeg) M_2) (fun q_234 =>
     ck (ib (x3_1 + (1 : Int32)) LL) (
     ck (ib (x3_1 + (2 : Int32)) LL) (
     ck (ib (x3_1 + (3 : Int32)) LL) (
     ck (ib (x3_1 + (4 : Int32)) LL) (
     Option.bind (f_X7_run (sx (x3_1 + (1 : Int32)).toNatClampNeg) (sx (x3_1 + (2 : Int32)).toNatClampNeg) (sx (x3_1 + (3 : Int32)).toNatClampNeg) (sx (x3_1 + (4 : Int32)).toNatClampNeg) q_234.2) (fun q_240 =>
     if q_234.1 = q_240.1 then (
     L_L_law_18 LL sx n_8 (x3_1 + 6) q_240.2)
    else (
     some (.inr (0 : Int32))))))))))))))
    else (
     if ((sx x3_1.toNatClampNeg) &&& (31 : Int32)) = (22 : Int32) then (
     ck (ib (x3_1 + (1 : Int32)) LL) (
     ck (ib (x3_1 + (2 : Int32)) LL) (
     ck (ib (x3_1 + (3 : Int32)) LL) (
     Option.bind (f_X6_plain (sx (x3_1 + (1 : Int32)).toNatClampNeg) (sx (x3_1 + (2 : Int32)).toNatClampNeg) (sx (x3_1 + (3 : Int32)).toNatClampNeg) M_2) (fun q_247 =>
     ck (ib (x3_1 + (1 : Int32)) LL) (
     ck (ib (x3_1 + (2 : Int32)) LL) (
     ck (ib (x3_1 + (3 : Int32)) LL) (
     Option.bind (f_X7_plain (sx (x3_1 + (1 : Int32)).toNatClampNeg) (sx (x3_1 + (2 : Int32)).toNatClampNeg) (sx (x3_1 + (3 : Int32)).toNatClampNeg) q_247.2) (fun q_252 =>
     if q_247.1 = q_252.1 then (
     L_L_law_18 LL sx n_8 (x3_1 + 6) q_252.2)
    else (
     some (.inr (0 : Int32))))))))))))
    else (
     if ((sx x3_1.toNatClampNeg) &&& (31 : Int32)) = (23 : Int32) then (
     ck (ib (x3_1 + (1 : Int32)) LL) (
     ck (ib (x3_1 + (2 : Int32)) LL) (
     ck (ib (x3_1 + (3 : Int32)) LL) (
     Option.bind (f_X6_sheet (sx (x3_1 + (1 : Int32)).toNatClampNeg) (sx (x3_1 + (2 : Int32)).toNatClampNeg) (sx (x3_1 + (3 : Int32)).toNatClampNeg) M_2) (fun q_259 =>
     ck (ib (x3_1 + (1 : Int32)) LL) (
     ck (ib (x3_1 + (2 : Int32)) LL) (
     ck (ib (x3_1 + (3 : Int32)) LL) (
     Option.bind (f_X7_sheet (sx (x3_1 + (1 : Int32)).toNatClampNeg) (sx (x3_1 + (2 : Int32)).toNatClampNeg) (sx (x3_1 + (3 : Int32)).toNatClampNeg) q_259.2) (fun q_264 =>
     if q_259.1 = q_264.1 then (
     L_L_law_18 LL sx n_8 (x3_1 + 6) q_264.2)
    else (
     some (.inr (0 : Int32))))))))))))
    else (
     if ((sx x3_1.toNatClampNeg) &&& (31 : Int32)) = (24 : Int32) then (
     ck (ib (x3_1 + (1 : Int32)) LL) (
     ck (ib (x3_1 + (2 : Int32)) LL) (
     ck (ib (x3_1 + (3 : Int32)) LL) (
     Option.bind (f_X6_put (sx (x3_1 + (1 : Int32)).toNatClampNeg) (sx (x3_1 + (2 : Int32)).toNatClampNeg) (sx (x3_1 + (3 : Int32)).toNatClampNeg) M_2) (fun q_271 =>
     ck (ib (x3_1 + (1 : Int32)) LL) (
     ck (ib (x3_1 + (2 : Int32)) LL) (
     ck (ib (x3_1 + (3 : Int32)) LL) (
     Option.bind (f_X7_put (sx (x3_1 + (1 : Int32)).toNatClampNeg) (sx (x3_1 + (2 : Int32)).toNatClampNeg) (sx (x3_1 + (3 : Int32)).toNatClampNeg) q_271.2) (fun q_276 =>
     if q_271.1 = q_276.1 then (
     L_L_law_18 LL sx n_8 (x3_1 + 6) q_276.2)
    else (
     some (.inr (0 : Int32))))))))))))
    else (
     if ((sx x3_1.toNatClampNeg) &&& (31 : Int32)) = (25 : Int32) then (
     ck (ib (x3_1 + (1 : Int32)) LL) (
     ck (ib (x3_1 + (2 : Int32)) LL) (
     ck (ib (x3_1 + (3 : Int32)) LL) (
     ck (ib (x3_1 + (4 : Int32)) LL) (
     ck (ib (x3_1 + (5 : Int32)) LL) (
     Option.bind (f_X6_copy (sx (x3_1 + (1 : Int32)).toNatClampNeg) (sx (x3_1 + (2 : Int32)).toNatClampNeg) (sx (x3_1 + (3 : Int32)).toNatClampNeg) (sx (x3_1 + (4 : Int32)).toNatClampNeg) (sx (x3_1 + (5 : Int32)).toNatClampNeg) M_2) (fun q_285 =>
     ck (ib (x3_1 + (1 : Int32)) LL) (
     ck (ib (x3_1 + (2 : Int32)) LL) (
     ck (ib (x3_1 + (3 : Int32)) LL) (
     ck (ib (x3_1 + (4 : Int32)) LL) (
     ck (ib (x3_1 + (5 : Int32)) LL) (
     Option.bind (f_X7_copy (sx (x3_1 + (1 : Int32)).toNatClampNeg) (sx (x3_1 + (2 : Int32)).toNatClampNeg) (sx (x3_1 + (3 : Int32)).toNatClampNeg) (sx (x3_1 + (4 : Int32)).toNatClampNeg) (sx (x3_1 + (5 : Int32)).toNatClampNeg) q_285.2) (fun q_292 =>
     if q_285.1 = q_292.1 then (
     L_L_law_18 LL sx n_8 (x3_1 + 6) q_292.2)
    else (
     some (.inr (0 : Int32))))))))))))))))
    else (
     if ((sx x3_1.toNatClampNeg) &&& (31 : Int32)) = (26 : Int32) then (
     ck (ib (x3_1 + (1 : Int32)) LL) (
     Option.bind (f_X6_tune (sx (x3_1 + (1 : Int32)).toNatClampNeg) M_2) (fun q_297 =>
     ck (ib (x3_1 + (1 : Int32)) LL) (
     Option.bind (f_X7_tune (sx (x3_1 + (1 : Int32)).toNatClampNeg) q_297.2) (fun q_300 =>
     if q_297.1 = q_300.1 then (
     L_L_law_18 LL sx n_8 (x3_1 + 6) q_300.2)
    else (
     some (.inr (0 : Int32))))))))
    else (
     if ((sx x3_1.toNatClampNeg) &&& (31 : Int32)) = (27 : Int32) then (
     Option.bind (f_X6_undo M_2) (fun q_304 =>
     Option.bind (f_X7_undo q_304.2) (fun q_306 =>
     if q_304.1 = q_306.1 then (
     L_L_law_18 LL sx n_8 (x3_1 + 6) q_306.2)
    else (
     some (.inr (0 : Int32))))))
    else (
     if ((sx x3_1.toNatClampNeg) &&& (31 : Int32)) = (28 : Int32) then (
     ck (ib (x3_1 + (1 : Int32)) LL) (
     Option.bind (f_X6_all (sx (x3_1 + (1 : Int32)).toNatClampNeg) M_2) (fun q_311 =>
     ck (ib (x3_1 + (1 : Int32)) LL) (
     Option.bind (f_X7_all (sx (x3_1 + (1 : Int32)).toNatClampNeg) q_311.2) (fun q_314 =>
     if q_311.1 = q_314.1 then (
     L_L_law_18 LL sx n_8 (x3_1 + 6) q_314.2)
    else (
     some (.inr (0 : Int32))))))))
    else (
     L_L_law_18 LL sx n_8 (x3_1 + 6) M_2)))))))))))))))))))))))))))))))
def f_L_law (LL : Nat) (sx : Nat → Int32) (M : Mm) : Option Int32 :=
 Option.bind (L_L_law_18 LL sx FU (0 : Int32) M) (fun q_3 => Sum.elim (fun w_10 =>
 some (1 : Int32)) (fun r => some r) q_3)
set_option maxRecDepth 100000 in
set_option maxHeartbeats 40000000 in
theorem c_L_law {G : Gm} {X : Xm} {Q : State → Prop} {d b LL : Nat} {sx : Nat → Int32} {M : Mm} (hc : xc G X cL_law 4 RL (d + 8)) (hX : va_X b LL sx X.2.2.2.2.1 X.2.2.2.2.1.heap) (hbl : b < X.2.2.2.2.1.heap.size) (hbA : ¬ gA G b) (hfin : ∀ (N : Mm) (lv : List (Option Value)), WM G X Q N 1130 lv [.int 1]) (h : f_L_law LL sx M = some 1) : WM G X Q M 16 [some (.ref b), some (.ref (gR G 0)), some (.ref (gR G 212)), none] [] := by
  unfold f_L_law at h
  refine m_iconst hc (v := 0) dL_law_16 (by decide) ?_
  refine m_istore_n hc (lv' := [some (.ref b), some (.ref (gR G 0)), some (.ref (gR G 212)), some (.int (0 : Int32))]) dL_law_17 (Nat.le_of_ble_eq_true rfl) rfl rfl ?_
  obtain ⟨q_3, c_4, g_7⟩ := bd_o h
  have J_5 : ∀ (w_10 : Mm), (some (1 : Int32)) = some (1 : Int32) → WM G X Q w_10 1129 [some (.ref b), some (.ref (gR G 0)), some (.ref (gR G 212)), none] [] := by
    intro w_10 h
    refine m_iconst hc (v := 1) dL_law_1129 (by decide) ?_
    exact hfin _ _
  have L_6 : ∀ (n_8 : Nat) (x3_1 : Int32) (M_2 : Mm), L_L_law_18 LL sx n_8 x3_1 M_2 = some q_3 → WM G X Q M_2 18 [some (.ref b), some (.ref (gR G 0)), some (.ref (gR G 212)), some (.int x3_1)] [] := by
    intro n_8
    induction n_8 with
    | zero =>
      intro x3_1 M_2 h
      cases (show none = some _ from h)
    | succ n_8 i_9 =>
      intro x3_1 M_2 h
      rw [L_L_law_18] at h
      refine m_iload_n hc dL_law_18 rfl ?_
      refine m_aload_n hc dL_law_19 rfl ?_
      refine m_xlen hc hX hbl hbA dL_law_20 ?_
      refine m_bipush hc (v := (6 : Int32)) dL_law_21 (by decide) ?_
      refine m_isub hc dL_law_23 ?_
      refine m_icgt hc (tgt := 1129) dL_law_24 (by decide) (fun b_11 => ?_) (fun b_11 => ?_)
      · replace h := (if_pos b_11).symm.trans h
        cases h
        exact m_fg [3] rfl (J_5 M_2 g_7)
      · replace h := (if_neg b_11).symm.trans h
        refine m_aload_n hc dL_law_27 rfl ?_
        refine m_iload_n hc dL_law_28 rfl ?_
        obtain ⟨b_12, h⟩ := ck_o h
        refine m_xald hc hX hbl hbA b_12 dL_law_29 ?_
        refine m_bipush hc (v := (31 : Int32)) dL_law_30 (by decide) ?_
        refine m_iand hc dL_law_32 ?_
        by_cases b_13 : ((sx x3_1.toNatClampNeg) &&& (31 : Int32)) = (0 : Int32)
        · replace h := (if_pos b_13).symm.trans h
          refine m_tsK hc (tgt := 164) b_13 dL_law_33 (by decide) (by decide) rfl (by decide) ?_
          refine m_aload_n hc dL_law_164 rfl ?_
          refine m_aload_n hc dL_law_165 rfl ?_
          refine m_iload_n hc dL_law_166 rfl ?_
          refine m_iconst hc (v := 1) dL_law_167 (by decide) ?_
          refine m_iadd hc dL_law_168 ?_
          obtain ⟨b_14, h⟩ := ck_o h
          refine m_xald hc hX hbl hbA b_14 dL_law_169 ?_
          obtain ⟨q_15, c_16, h⟩ := bd_o h
          refine m_callVi hc yO_0 rfl (c_X6_beats (d + 4) c_16) (by omega) (by decide) wm_L_13 wi_X6_beats we_X6_beats wn_X6 wc_X6_beats wy_X6_beats rfl (st := []) rfl rfl (Nat.le_of_ble_eq_true rfl) dL_law_170 ?_
          refine m_aload_n hc dL_law_173 rfl ?_
          refine m_aload_n hc dL_law_174 rfl ?_
          refine m_iload_n hc dL_law_175 rfl ?_
          refine m_iconst hc (v := 1) dL_law_176 (by decide) ?_
          refine m_iadd hc dL_law_177 ?_
          obtain ⟨b_17, h⟩ := ck_o h
          refine m_xald hc hX hbl hbA b_17 dL_law_178 ?_
          obtain ⟨q_18, c_19, h⟩ := bd_o h
          refine m_callVi hc yO_212 rfl (c_X7_beats (d + 5) c_19) (by omega) (by decide) wm_L_17 wi_X7_beats we_X7_beats wn_X7 wc_X7_beats wy_X7_beats rfl (st := [.int q_15.1]) rfl rfl (Nat.le_of_ble_eq_true rfl) dL_law_179 ?_
          refine m_iceq hc (tgt := 1123) dL_law_182 (by decide) (fun b_20 => ?_) (fun b_20 => ?_)
          · replace h := (if_pos b_20).symm.trans h
            refine m_iinc hc (v := x3_1 + 6) (lv' := [some (.ref b), some (.ref (gR G 0)), some (.ref (gR G 212)), some (.int (x3_1 + 6))]) dL_law_1123 rfl rfl rfl rfl ?_
            refine m_goto hc (tgt := 18) dL_law_1126 (by decide) ?_
            exact m_fg [] rfl (i_9 _ _ h)
          · replace h := (if_neg b_20).symm.trans h
            refine m_iconst hc (v := 0) dL_law_185 (by decide) ?_
            cases h
            have g_7 : some (0 : Int32) = some (1 : Int32) := g_7
            exact absurd (Option.some.inj g_7) (by decide)
        · replace h := (if_neg b_13).symm.trans h
          by_cases b_21 : ((sx x3_1.toNatClampNeg) &&& (31 : Int32)) = (1 : Int32)
          · replace h := (if_pos b_21).symm.trans h
            refine m_tsK hc (tgt := 187) b_21 dL_law_33 (by decide) (by decide) rfl (by decide) ?_
            refine m_aload_n hc dL_law_187 rfl ?_
            refine m_aload_n hc dL_law_188 rfl ?_
            refine m_iload_n hc dL_law_189 rfl ?_
            refine m_iconst hc (v := 1) dL_law_190 (by decide) ?_
            refine m_iadd hc dL_law_191 ?_
            obtain ⟨b_22, h⟩ := ck_o h
            refine m_xald hc hX hbl hbA b_22 dL_law_192 ?_
            refine m_aload_n hc dL_law_193 rfl ?_
            refine m_iload_n hc dL_law_194 rfl ?_
            refine m_iconst hc (v := 2) dL_law_195 (by decide) ?_
            refine m_iadd hc dL_law_196 ?_
            obtain ⟨b_23, h⟩ := ck_o h
            refine m_xald hc hX hbl hbA b_23 dL_law_197 ?_
            refine m_aload_n hc dL_law_198 rfl ?_
            refine m_iload_n hc dL_law_199 rfl ?_
            refine m_iconst hc (v := 3) dL_law_200 (by decide) ?_
            refine m_iadd hc dL_law_201 ?_
            obtain ⟨b_24, h⟩ := ck_o h
            refine m_xald hc hX hbl hbA b_24 dL_law_202 ?_
            refine m_aload_n hc dL_law_203 rfl ?_
            refine m_iload_n hc dL_law_204 rfl ?_
            refine m_iconst hc (v := 4) dL_law_205 (by decide) ?_
            refine m_iadd hc dL_law_206 ?_
            obtain ⟨b_25, h⟩ := ck_o h
            refine m_xald hc hX hbl hbA b_25 dL_law_207 ?_
            obtain ⟨q_27, c_28, h⟩ := nm_o h
            have J_29 : WM G X Q M_2 216 [some (.ref b), some (.ref (gR G 0)), some (.ref (gR G 212)), some (.int x3_1)] [.int q_27, .int (sx (x3_1 + (3 : Int32)).toNatClampNeg), .int (sx (x3_1 + (2 : Int32)).toNatClampNeg), .int (sx (x3_1 + (1 : Int32)).toNatClampNeg), .ref (gR G 0)] := by
              obtain ⟨q_31, c_32, h⟩ := bd_o h
              refine m_callVi hc yO_0 rfl (c_X6_note (d + 4) c_32) (by omega) (by decide) wm_L_18 wi_X6_note we_X6_note wn_X6 wc_X6_note wy_X6_note rfl (st := []) rfl rfl (Nat.le_of_ble_eq_true rfl) dL_law_216 ?_
              refine m_aload_n hc dL_law_219 rfl ?_
              refine m_aload_n hc dL_law_220 rfl ?_
              refine m_iload_n hc dL_law_221 rfl ?_
              refine m_iconst hc (v := 1) dL_law_222 (by decide) ?_
              refine m_iadd hc dL_law_223 ?_
              obtain ⟨b_33, h⟩ := ck_o h
              refine m_xald hc hX hbl hbA b_33 dL_law_224 ?_
              refine m_aload_n hc dL_law_225 rfl ?_
              refine m_iload_n hc dL_law_226 rfl ?_
              refine m_iconst hc (v := 2) dL_law_227 (by decide) ?_
              refine m_iadd hc dL_law_228 ?_
              obtain ⟨b_34, h⟩ := ck_o h
              refine m_xald hc hX hbl hbA b_34 dL_law_229 ?_
              refine m_aload_n hc dL_law_230 rfl ?_
              refine m_iload_n hc dL_law_231 rfl ?_
              refine m_iconst hc (v := 3) dL_law_232 (by decide) ?_
              refine m_iadd hc dL_law_233 ?_
              obtain ⟨b_35, h⟩ := ck_o h
              refine m_xald hc hX hbl hbA b_35 dL_law_234 ?_
              refine m_aload_n hc dL_law_235 rfl ?_
              refine m_iload_n hc dL_law_236 rfl ?_
              refine m_iconst hc (v := 4) dL_law_237 (by decide) ?_
              refine m_iadd hc dL_law_238 ?_
              obtain ⟨b_36, h⟩ := ck_o h
              refine m_xald hc hX hbl hbA b_36 dL_law_239 ?_
              obtain ⟨q_38, c_39, h⟩ := nm_o h
              have J_40 : WM G X Q q_31.2 248 [some (.ref b), some (.ref (gR G 0)), some (.ref (gR G 212)), some (.int x3_1)] [.int q_38, .int (sx (x3_1 + (3 : Int32)).toNatClampNeg), .int (sx (x3_1 + (2 : Int32)).toNatClampNeg), .int (sx (x3_1 + (1 : Int32)).toNatClampNeg), .ref (gR G 212), .int q_31.1] := by
                obtain ⟨q_42, c_43, h⟩ := bd_o h
                refine m_callVi hc yO_212 rfl (c_X7_note_ (d + 5) c_43) (by omega) (by decide) wm_L_22 wi_X7_note_ we_X7_note_ wn_X7 wc_X7_note_ wy_X7_note_ rfl (st := [.int q_31.1]) rfl rfl (Nat.le_of_ble_eq_true rfl) dL_law_248 ?_
                refine m_iceq hc (tgt := 1123) dL_law_251 (by decide) (fun b_44 => ?_) (fun b_44 => ?_)
                · replace h := (if_pos b_44).symm.trans h
                  refine m_iinc hc (v := x3_1 + 6) (lv' := [some (.ref b), some (.ref (gR G 0)), some (.ref (gR G 212)), some (.int (x3_1 + 6))]) dL_law_1123 rfl rfl rfl rfl ?_
                  refine m_goto hc (tgt := 18) dL_law_1126 (by decide) ?_
                  exact m_fg [] rfl (i_9 _ _ h)
                · replace h := (if_neg b_44).symm.trans h
                  refine m_iconst hc (v := 0) dL_law_254 (by decide) ?_
                  cases h
                  have g_7 : some (0 : Int32) = some (1 : Int32) := g_7
                  exact absurd (Option.some.inj g_7) (by decide)
              replace h := c_39
              refine m_ifeq hc (tgt := 247) dL_law_240 (by decide) (fun b_41 => ?_) (fun b_41 => ?_)
              · replace h := (if_pos b_41).symm.trans h
                refine m_iconst hc (v := 0) dL_law_247 (by decide) ?_
                subst h
                exact m_fg [] rfl J_40
              · replace h := (if_neg b_41).symm.trans h
                refine m_iconst hc (v := 1) dL_law_243 (by decide) ?_
                refine m_goto hc (tgt := 248) dL_law_244 (by decide) ?_
                subst h
                exact m_fg [] rfl J_40
            replace h := c_28
            refine m_ifeq hc (tgt := 215) dL_law_208 (by decide) (fun b_30 => ?_) (fun b_30 => ?_)
            · replace h := (if_pos b_30).symm.trans h
              refine m_iconst hc (v := 0) dL_law_215 (by decide) ?_
              subst h
              exact m_fg [] rfl J_29
            · replace h := (if_neg b_30).symm.trans h
              refine m_iconst hc (v := 1) dL_law_211 (by decide) ?_
              refine m_goto hc (tgt := 216) dL_law_212 (by decide) ?_
              subst h
              exact m_fg [] rfl J_29
          · replace h := (if_neg b_21).symm.trans h
            by_cases b_45 : ((sx x3_1.toNatClampNeg) &&& (31 : Int32)) = (2 : Int32)
            · replace h := (if_pos b_45).symm.trans h
              refine m_tsK hc (tgt := 256) b_45 dL_law_33 (by decide) (by decide) rfl (by decide) ?_
              refine m_aload_n hc dL_law_256 rfl ?_
              refine m_aload_n hc dL_law_257 rfl ?_
              refine m_iload_n hc dL_law_258 rfl ?_
              refine m_iconst hc (v := 1) dL_law_259 (by decide) ?_
              refine m_iadd hc dL_law_260 ?_
              obtain ⟨b_46, h⟩ := ck_o h
              refine m_xald hc hX hbl hbA b_46 dL_law_261 ?_
              obtain ⟨q_47, c_48, h⟩ := bd_o h
              refine m_callVi hc yO_0 rfl (c_X6_drop (d + 4) c_48) (by omega) (by decide) wm_L_23 wi_X6_drop we_X6_drop wn_X6 wc_X6_drop wy_X6_drop rfl (st := []) rfl rfl (Nat.le_of_ble_eq_true rfl) dL_law_262 ?_
              refine m_aload_n hc dL_law_265 rfl ?_
              refine m_aload_n hc dL_law_266 rfl ?_
              refine m_iload_n hc dL_law_267 rfl ?_
              refine m_iconst hc (v := 1) dL_law_268 (by decide) ?_
              refine m_iadd hc dL_law_269 ?_
              obtain ⟨b_49, h⟩ := ck_o h
              refine m_xald hc hX hbl hbA b_49 dL_law_270 ?_
              obtain ⟨q_50, c_51, h⟩ := bd_o h
              refine m_callVi hc yO_212 rfl (c_X7_drop (d + 5) c_51) (by omega) (by decide) wm_L_26 wi_X7_drop we_X7_drop wn_X7 wc_X7_drop wy_X7_drop rfl (st := [.int q_47.1]) rfl rfl (Nat.le_of_ble_eq_true rfl) dL_law_271 ?_
              refine m_iceq hc (tgt := 1123) dL_law_274 (by decide) (fun b_52 => ?_) (fun b_52 => ?_)
              · replace h := (if_pos b_52).symm.trans h
                refine m_iinc hc (v := x3_1 + 6) (lv' := [some (.ref b), some (.ref (gR G 0)), some (.ref (gR G 212)), some (.int (x3_1 + 6))]) dL_law_1123 rfl rfl rfl rfl ?_
                refine m_goto hc (tgt := 18) dL_law_1126 (by decide) ?_
                exact m_fg [] rfl (i_9 _ _ h)
              · replace h := (if_neg b_52).symm.trans h
                refine m_iconst hc (v := 0) dL_law_277 (by decide) ?_
                cases h
                have g_7 : some (0 : Int32) = some (1 : Int32) := g_7
                exact absurd (Option.some.inj g_7) (by decide)
            · replace h := (if_neg b_45).symm.trans h
              by_cases b_53 : ((sx x3_1.toNatClampNeg) &&& (31 : Int32)) = (3 : Int32)
              · replace h := (if_pos b_53).symm.trans h
                refine m_tsK hc (tgt := 279) b_53 dL_law_33 (by decide) (by decide) rfl (by decide) ?_
                refine m_aload_n hc dL_law_279 rfl ?_
                refine m_aload_n hc dL_law_280 rfl ?_
                refine m_iload_n hc dL_law_281 rfl ?_
                refine m_iconst hc (v := 1) dL_law_282 (by decide) ?_
                refine m_iadd hc dL_law_283 ?_
                obtain ⟨b_54, h⟩ := ck_o h
                refine m_xald hc hX hbl hbA b_54 dL_law_284 ?_
                refine m_aload_n hc dL_law_285 rfl ?_
                refine m_iload_n hc dL_law_286 rfl ?_
                refine m_iconst hc (v := 2) dL_law_287 (by decide) ?_
                refine m_iadd hc dL_law_288 ?_
                obtain ⟨b_55, h⟩ := ck_o h
                refine m_xald hc hX hbl hbA b_55 dL_law_289 ?_
                refine m_aload_n hc dL_law_290 rfl ?_
                refine m_iload_n hc dL_law_291 rfl ?_
                refine m_iconst hc (v := 3) dL_law_292 (by decide) ?_
                refine m_iadd hc dL_law_293 ?_
                obtain ⟨b_56, h⟩ := ck_o h
                refine m_xald hc hX hbl hbA b_56 dL_law_294 ?_
                obtain ⟨q_57, c_58, h⟩ := bd_o h
                refine m_callVi hc yO_0 rfl (c_X6_as (d + 5) c_58) (by omega) (by decide) wm_L_27 wi_X6_as we_X6_as wn_X6 wc_X6_as wy_X6_as rfl (st := []) rfl rfl (Nat.le_of_ble_eq_true rfl) dL_law_295 ?_
                refine m_aload_n hc dL_law_298 rfl ?_
                refine m_aload_n hc dL_law_299 rfl ?_
                refine m_iload_n hc dL_law_300 rfl ?_
                refine m_iconst hc (v := 1) dL_law_301 (by decide) ?_
                refine m_iadd hc dL_law_302 ?_
                obtain ⟨b_59, h⟩ := ck_o h
                refine m_xald hc hX hbl hbA b_59 dL_law_303 ?_
                refine m_aload_n hc dL_law_304 rfl ?_
                refine m_iload_n hc dL_law_305 rfl ?_
                refine m_iconst hc (v := 2) dL_law_306 (by decide) ?_
                refine m_iadd hc dL_law_307 ?_
                obtain ⟨b_60, h⟩ := ck_o h
                refine m_xald hc hX hbl hbA b_60 dL_law_308 ?_
                refine m_aload_n hc dL_law_309 rfl ?_
                refine m_iload_n hc dL_law_310 rfl ?_
                refine m_iconst hc (v := 3) dL_law_311 (by decide) ?_
                refine m_iadd hc dL_law_312 ?_
                obtain ⟨b_61, h⟩ := ck_o h
                refine m_xald hc hX hbl hbA b_61 dL_law_313 ?_
                obtain ⟨q_62, c_63, h⟩ := bd_o h
                refine m_callVi hc yO_212 rfl (c_X7_as (d + 4) c_63) (by omega) (by decide) wm_L_31 wi_X7_as we_X7_as wn_X7 wc_X7_as wy_X7_as rfl (st := [.int q_57.1]) rfl rfl (Nat.le_of_ble_eq_true rfl) dL_law_314 ?_
                refine m_iceq hc (tgt := 1123) dL_law_317 (by decide) (fun b_64 => ?_) (fun b_64 => ?_)
                · replace h := (if_pos b_64).symm.trans h
                  refine m_iinc hc (v := x3_1 + 6) (lv' := [some (.ref b), some (.ref (gR G 0)), some (.ref (gR G 212)), some (.int (x3_1 + 6))]) dL_law_1123 rfl rfl rfl rfl ?_
                  refine m_goto hc (tgt := 18) dL_law_1126 (by decide) ?_
                  exact m_fg [] rfl (i_9 _ _ h)
                · replace h := (if_neg b_64).symm.trans h
                  refine m_iconst hc (v := 0) dL_law_320 (by decide) ?_
                  cases h
                  have g_7 : some (0 : Int32) = some (1 : Int32) := g_7
                  exact absurd (Option.some.inj g_7) (by decide)
              · replace h := (if_neg b_53).symm.trans h
                by_cases b_65 : ((sx x3_1.toNatClampNeg) &&& (31 : Int32)) = (4 : Int32)
                · replace h := (if_pos b_65).symm.trans h
                  refine m_tsK hc (tgt := 322) b_65 dL_law_33 (by decide) (by decide) rfl (by decide) ?_
                  refine m_aload_n hc dL_law_322 rfl ?_
                  refine m_aload_n hc dL_law_323 rfl ?_
                  refine m_iload_n hc dL_law_324 rfl ?_
                  refine m_iconst hc (v := 1) dL_law_325 (by decide) ?_
                  refine m_iadd hc dL_law_326 ?_
                  obtain ⟨b_66, h⟩ := ck_o h
                  refine m_xald hc hX hbl hbA b_66 dL_law_327 ?_
                  refine m_aload_n hc dL_law_328 rfl ?_
                  refine m_iload_n hc dL_law_329 rfl ?_
                  refine m_iconst hc (v := 2) dL_law_330 (by decide) ?_
                  refine m_iadd hc dL_law_331 ?_
                  obtain ⟨b_67, h⟩ := ck_o h
                  refine m_xald hc hX hbl hbA b_67 dL_law_332 ?_
                  refine m_aload_n hc dL_law_333 rfl ?_
                  refine m_iload_n hc dL_law_334 rfl ?_
                  refine m_iconst hc (v := 3) dL_law_335 (by decide) ?_
                  refine m_iadd hc dL_law_336 ?_
                  obtain ⟨b_68, h⟩ := ck_o h
                  refine m_xald hc hX hbl hbA b_68 dL_law_337 ?_
                  obtain ⟨q_69, c_70, h⟩ := bd_o h
                  refine m_callVi hc yO_0 rfl (c_X6_of (d + 5) c_70) (by omega) (by decide) wm_L_32 wi_X6_of we_X6_of wn_X6 wc_X6_of wy_X6_of rfl (st := []) rfl rfl (Nat.le_of_ble_eq_true rfl) dL_law_338 ?_
                  refine m_aload_n hc dL_law_341 rfl ?_
                  refine m_aload_n hc dL_law_342 rfl ?_
                  refine m_iload_n hc dL_law_343 rfl ?_
                  refine m_iconst hc (v := 1) dL_law_344 (by decide) ?_
                  refine m_iadd hc dL_law_345 ?_
                  obtain ⟨b_71, h⟩ := ck_o h
                  refine m_xald hc hX hbl hbA b_71 dL_law_346 ?_
                  refine m_aload_n hc dL_law_347 rfl ?_
                  refine m_iload_n hc dL_law_348 rfl ?_
                  refine m_iconst hc (v := 2) dL_law_349 (by decide) ?_
                  refine m_iadd hc dL_law_350 ?_
                  obtain ⟨b_72, h⟩ := ck_o h
                  refine m_xald hc hX hbl hbA b_72 dL_law_351 ?_
                  refine m_aload_n hc dL_law_352 rfl ?_
                  refine m_iload_n hc dL_law_353 rfl ?_
                  refine m_iconst hc (v := 3) dL_law_354 (by decide) ?_
                  refine m_iadd hc dL_law_355 ?_
                  obtain ⟨b_73, h⟩ := ck_o h
                  refine m_xald hc hX hbl hbA b_73 dL_law_356 ?_
                  obtain ⟨q_74, c_75, h⟩ := bd_o h
                  refine m_callVi hc yO_212 rfl (c_X7_of (d + 4) c_75) (by omega) (by decide) wm_L_35 wi_X7_of we_X7_of wn_X7 wc_X7_of wy_X7_of rfl (st := [.int q_69.1]) rfl rfl (Nat.le_of_ble_eq_true rfl) dL_law_357 ?_
                  refine m_iceq hc (tgt := 1123) dL_law_360 (by decide) (fun b_76 => ?_) (fun b_76 => ?_)
                  · replace h := (if_pos b_76).symm.trans h
                    refine m_iinc hc (v := x3_1 + 6) (lv' := [some (.ref b), some (.ref (gR G 0)), some (.ref (gR G 212)), some (.int (x3_1 + 6))]) dL_law_1123 rfl rfl rfl rfl ?_
                    refine m_goto hc (tgt := 18) dL_law_1126 (by decide) ?_
                    exact m_fg [] rfl (i_9 _ _ h)
                  · replace h := (if_neg b_76).symm.trans h
                    refine m_iconst hc (v := 0) dL_law_363 (by decide) ?_
                    cases h
                    have g_7 : some (0 : Int32) = some (1 : Int32) := g_7
                    exact absurd (Option.some.inj g_7) (by decide)
                · replace h := (if_neg b_65).symm.trans h
                  by_cases b_77 : ((sx x3_1.toNatClampNeg) &&& (31 : Int32)) = (5 : Int32)
                  · replace h := (if_pos b_77).symm.trans h
                    refine m_tsK hc (tgt := 365) b_77 dL_law_33 (by decide) (by decide) rfl (by decide) ?_
                    refine m_aload_n hc dL_law_365 rfl ?_
                    refine m_aload_n hc dL_law_366 rfl ?_
                    refine m_iload_n hc dL_law_367 rfl ?_
                    refine m_iconst hc (v := 1) dL_law_368 (by decide) ?_
                    refine m_iadd hc dL_law_369 ?_
                    obtain ⟨b_78, h⟩ := ck_o h
                    refine m_xald hc hX hbl hbA b_78 dL_law_370 ?_
                    obtain ⟨q_79, c_80, h⟩ := bd_o h
                    refine m_callVi hc yO_0 rfl (c_X6_shift (d + 4) c_80) (by omega) (by decide) wm_L_36 wi_X6_shift we_X6_shift wn_X6 wc_X6_shift wy_X6_shift rfl (st := []) rfl rfl (Nat.le_of_ble_eq_true rfl) dL_law_371 ?_
                    refine m_aload_n hc dL_law_374 rfl ?_
                    refine m_aload_n hc dL_law_375 rfl ?_
                    refine m_iload_n hc dL_law_376 rfl ?_
                    refine m_iconst hc (v := 1) dL_law_377 (by decide) ?_
                    refine m_iadd hc dL_law_378 ?_
                    obtain ⟨b_81, h⟩ := ck_o h
                    refine m_xald hc hX hbl hbA b_81 dL_law_379 ?_
                    obtain ⟨q_82, c_83, h⟩ := bd_o h
                    refine m_callVi hc yO_212 rfl (c_X7_shift (d + 6) c_83) (by omega) (by decide) wm_L_39 wi_X7_shift we_X7_shift wn_X7 wc_X7_shift wy_X7_shift rfl (st := [.int q_79.1]) rfl rfl (Nat.le_of_ble_eq_true rfl) dL_law_380 ?_
                    refine m_iceq hc (tgt := 1123) dL_law_383 (by decide) (fun b_84 => ?_) (fun b_84 => ?_)
                    · replace h := (if_pos b_84).symm.trans h
                      refine m_iinc hc (v := x3_1 + 6) (lv' := [some (.ref b), some (.ref (gR G 0)), some (.ref (gR G 212)), some (.int (x3_1 + 6))]) dL_law_1123 rfl rfl rfl rfl ?_
                      refine m_goto hc (tgt := 18) dL_law_1126 (by decide) ?_
                      exact m_fg [] rfl (i_9 _ _ h)
                    · replace h := (if_neg b_84).symm.trans h
                      refine m_iconst hc (v := 0) dL_law_386 (by decide) ?_
                      cases h
                      have g_7 : some (0 : Int32) = some (1 : Int32) := g_7
                      exact absurd (Option.some.inj g_7) (by decide)
                  · replace h := (if_neg b_77).symm.trans h
                    by_cases b_85 : ((sx x3_1.toNatClampNeg) &&& (31 : Int32)) = (6 : Int32)
                    · replace h := (if_pos b_85).symm.trans h
                      refine m_tsK hc (tgt := 388) b_85 dL_law_33 (by decide) (by decide) rfl (by decide) ?_
                      refine m_aload_n hc dL_law_388 rfl ?_
                      refine m_aload_n hc dL_law_389 rfl ?_
                      refine m_iload_n hc dL_law_390 rfl ?_
                      refine m_iconst hc (v := 1) dL_law_391 (by decide) ?_
                      refine m_iadd hc dL_law_392 ?_
                      obtain ⟨b_86, h⟩ := ck_o h
                      refine m_xald hc hX hbl hbA b_86 dL_law_393 ?_
                      refine m_aload_n hc dL_law_394 rfl ?_
                      refine m_iload_n hc dL_law_395 rfl ?_
                      refine m_iconst hc (v := 2) dL_law_396 (by decide) ?_
                      refine m_iadd hc dL_law_397 ?_
                      obtain ⟨b_87, h⟩ := ck_o h
                      refine m_xald hc hX hbl hbA b_87 dL_law_398 ?_
                      refine m_aload_n hc dL_law_399 rfl ?_
                      refine m_iload_n hc dL_law_400 rfl ?_
                      refine m_iconst hc (v := 3) dL_law_401 (by decide) ?_
                      refine m_iadd hc dL_law_402 ?_
                      obtain ⟨b_88, h⟩ := ck_o h
                      refine m_xald hc hX hbl hbA b_88 dL_law_403 ?_
                      obtain ⟨q_89, c_90, h⟩ := bd_o h
                      refine m_callVi hc yO_0 rfl (c_X6_mark (d + 4) c_90) (by omega) (by decide) wm_L_40 wi_X6_mark we_X6_mark wn_X6 wc_X6_mark wy_X6_mark rfl (st := []) rfl rfl (Nat.le_of_ble_eq_true rfl) dL_law_404 ?_
                      refine m_aload_n hc dL_law_407 rfl ?_
                      refine m_aload_n hc dL_law_408 rfl ?_
                      refine m_iload_n hc dL_law_409 rfl ?_
                      refine m_iconst hc (v := 1) dL_law_410 (by decide) ?_
                      refine m_iadd hc dL_law_411 ?_
                      obtain ⟨b_91, h⟩ := ck_o h
                      refine m_xald hc hX hbl hbA b_91 dL_law_412 ?_
                      refine m_aload_n hc dL_law_413 rfl ?_
                      refine m_iload_n hc dL_law_414 rfl ?_
                      refine m_iconst hc (v := 2) dL_law_415 (by decide) ?_
                      refine m_iadd hc dL_law_416 ?_
                      obtain ⟨b_92, h⟩ := ck_o h
                      refine m_xald hc hX hbl hbA b_92 dL_law_417 ?_
                      refine m_aload_n hc dL_law_418 rfl ?_
                      refine m_iload_n hc dL_law_419 rfl ?_
                      refine m_iconst hc (v := 3) dL_law_420 (by decide) ?_
                      refine m_iadd hc dL_law_421 ?_
                      obtain ⟨b_93, h⟩ := ck_o h
                      refine m_xald hc hX hbl hbA b_93 dL_law_422 ?_
                      obtain ⟨q_94, c_95, h⟩ := bd_o h
                      refine m_callVi hc yO_212 rfl (c_X7_mark (d + 5) c_95) (by omega) (by decide) wm_L_43 wi_X7_mark we_X7_mark wn_X7 wc_X7_mark wy_X7_mark rfl (st := [.int q_89.1]) rfl rfl (Nat.le_of_ble_eq_true rfl) dL_law_423 ?_
                      refine m_iceq hc (tgt := 1123) dL_law_426 (by decide) (fun b_96 => ?_) (fun b_96 => ?_)
                      · replace h := (if_pos b_96).symm.trans h
                        refine m_iinc hc (v := x3_1 + 6) (lv' := [some (.ref b), some (.ref (gR G 0)), some (.ref (gR G 212)), some (.int (x3_1 + 6))]) dL_law_1123 rfl rfl rfl rfl ?_
                        refine m_goto hc (tgt := 18) dL_law_1126 (by decide) ?_
                        exact m_fg [] rfl (i_9 _ _ h)
                      · replace h := (if_neg b_96).symm.trans h
                        refine m_iconst hc (v := 0) dL_law_429 (by decide) ?_
                        cases h
                        have g_7 : some (0 : Int32) = some (1 : Int32) := g_7
                        exact absurd (Option.some.inj g_7) (by decide)
                    · replace h := (if_neg b_85).symm.trans h
                      by_cases b_97 : ((sx x3_1.toNatClampNeg) &&& (31 : Int32)) = (7 : Int32)
                      · replace h := (if_pos b_97).symm.trans h
                        refine m_tsK hc (tgt := 431) b_97 dL_law_33 (by decide) (by decide) rfl (by decide) ?_
                        refine m_aload_n hc dL_law_431 rfl ?_
                        refine m_aload_n hc dL_law_432 rfl ?_
                        refine m_iload_n hc dL_law_433 rfl ?_
                        refine m_iconst hc (v := 1) dL_law_434 (by decide) ?_
                        refine m_iadd hc dL_law_435 ?_
                        obtain ⟨b_98, h⟩ := ck_o h
                        refine m_xald hc hX hbl hbA b_98 dL_law_436 ?_
                        refine m_aload_n hc dL_law_437 rfl ?_
                        refine m_iload_n hc dL_law_438 rfl ?_
                        refine m_iconst hc (v := 2) dL_law_439 (by decide) ?_
                        refine m_iadd hc dL_law_440 ?_
                        obtain ⟨b_99, h⟩ := ck_o h
                        refine m_xald hc hX hbl hbA b_99 dL_law_441 ?_
                        obtain ⟨q_100, c_101, h⟩ := bd_o h
                        refine m_callVi hc yO_0 rfl (c_X6_start (d + 4) c_101) (by omega) (by decide) wm_L_44 wi_X6_start we_X6_start wn_X6 wc_X6_start wy_X6_start rfl (st := []) rfl rfl (Nat.le_of_ble_eq_true rfl) dL_law_442 ?_
                        refine m_aload_n hc dL_law_445 rfl ?_
                        refine m_aload_n hc dL_law_446 rfl ?_
                        refine m_iload_n hc dL_law_447 rfl ?_
                        refine m_iconst hc (v := 1) dL_law_448 (by decide) ?_
                        refine m_iadd hc dL_law_449 ?_
                        obtain ⟨b_102, h⟩ := ck_o h
                        refine m_xald hc hX hbl hbA b_102 dL_law_450 ?_
                        refine m_aload_n hc dL_law_451 rfl ?_
                        refine m_iload_n hc dL_law_452 rfl ?_
                        refine m_iconst hc (v := 2) dL_law_453 (by decide) ?_
                        refine m_iadd hc dL_law_454 ?_
                        obtain ⟨b_103, h⟩ := ck_o h
                        refine m_xald hc hX hbl hbA b_103 dL_law_455 ?_
                        obtain ⟨q_104, c_105, h⟩ := bd_o h
                        refine m_callVi hc yO_212 rfl (c_X7_start (d + 5) c_105) (by omega) (by decide) wm_L_48 wi_X7_start we_X7_start wn_X7 wc_X7_start wy_X7_start rfl (st := [.int q_100.1]) rfl rfl (Nat.le_of_ble_eq_true rfl) dL_law_456 ?_
                        refine m_iceq hc (tgt := 1123) dL_law_459 (by decide) (fun b_106 => ?_) (fun b_106 => ?_)
                        · replace h := (if_pos b_106).symm.trans h
                          refine m_iinc hc (v := x3_1 + 6) (lv' := [some (.ref b), some (.ref (gR G 0)), some (.ref (gR G 212)), some (.int (x3_1 + 6))]) dL_law_1123 rfl rfl rfl rfl ?_
                          refine m_goto hc (tgt := 18) dL_law_1126 (by decide) ?_
                          exact m_fg [] rfl (i_9 _ _ h)
                        · replace h := (if_neg b_106).symm.trans h
                          refine m_iconst hc (v := 0) dL_law_462 (by decide) ?_
                          cases h
                          have g_7 : some (0 : Int32) = some (1 : Int32) := g_7
                          exact absurd (Option.some.inj g_7) (by decide)
                      · replace h := (if_neg b_97).symm.trans h
                        by_cases b_107 : ((sx x3_1.toNatClampNeg) &&& (31 : Int32)) = (8 : Int32)
                        · replace h := (if_pos b_107).symm.trans h
                          refine m_tsK hc (tgt := 464) b_107 dL_law_33 (by decide) (by decide) rfl (by decide) ?_
                          refine m_aload_n hc dL_law_464 rfl ?_
                          refine m_aload_n hc dL_law_465 rfl ?_
                          refine m_iload_n hc dL_law_466 rfl ?_
                          refine m_iconst hc (v := 1) dL_law_467 (by decide) ?_
                          refine m_iadd hc dL_law_468 ?_
                          obtain ⟨b_108, h⟩ := ck_o h
                          refine m_xald hc hX hbl hbA b_108 dL_law_469 ?_
                          refine m_aload_n hc dL_law_470 rfl ?_
                          refine m_iload_n hc dL_law_471 rfl ?_
                          refine m_iconst hc (v := 2) dL_law_472 (by decide) ?_
                          refine m_iadd hc dL_law_473 ?_
                          obtain ⟨b_109, h⟩ := ck_o h
                          refine m_xald hc hX hbl hbA b_109 dL_law_474 ?_
                          obtain ⟨q_110, c_111, h⟩ := bd_o h
                          refine m_callVi hc yO_0 rfl (c_X6_pitch (d + 5) c_111) (by omega) (by decide) wm_L_49 wi_X6_pitch we_X6_pitch wn_X6 wc_X6_pitch wy_X6_pitch rfl (st := []) rfl rfl (Nat.le_of_ble_eq_true rfl) dL_law_475 ?_
                          refine m_aload_n hc dL_law_478 rfl ?_
                          refine m_aload_n hc dL_law_479 rfl ?_
                          refine m_iload_n hc dL_law_480 rfl ?_
                          refine m_iconst hc (v := 1) dL_law_481 (by decide) ?_
                          refine m_iadd hc dL_law_482 ?_
                          obtain ⟨b_112, h⟩ := ck_o h
                          refine m_xald hc hX hbl hbA b_112 dL_law_483 ?_
                          refine m_aload_n hc dL_law_484 rfl ?_
                          refine m_iload_n hc dL_law_485 rfl ?_
                          refine m_iconst hc (v := 2) dL_law_486 (by decide) ?_
                          refine m_iadd hc dL_law_487 ?_
                          obtain ⟨b_113, h⟩ := ck_o h
                          refine m_xald hc hX hbl hbA b_113 dL_law_488 ?_
                          obtain ⟨q_114, c_115, h⟩ := bd_o h
                          refine m_callVi hc yO_212 rfl (c_X7_pitch (d + 5) c_115) (by omega) (by decide) wm_L_52 wi_X7_pitch we_X7_pitch wn_X7 wc_X7_pitch wy_X7_pitch rfl (st := [.int q_110.1]) rfl rfl (Nat.le_of_ble_eq_true rfl) dL_law_489 ?_
                          refine m_iceq hc (tgt := 1123) dL_law_492 (by decide) (fun b_116 => ?_) (fun b_116 => ?_)
                          · replace h := (if_pos b_116).symm.trans h
                            refine m_iinc hc (v := x3_1 + 6) (lv' := [some (.ref b), some (.ref (gR G 0)), some (.ref (gR G 212)), some (.int (x3_1 + 6))]) dL_law_1123 rfl rfl rfl rfl ?_
                            refine m_goto hc (tgt := 18) dL_law_1126 (by decide) ?_
                            exact m_fg [] rfl (i_9 _ _ h)
                          · replace h := (if_neg b_116).symm.trans h
                            refine m_iconst hc (v := 0) dL_law_495 (by decide) ?_
                            cases h
                            have g_7 : some (0 : Int32) = some (1 : Int32) := g_7
                            exact absurd (Option.some.inj g_7) (by decide)
                        · replace h := (if_neg b_107).symm.trans h
                          by_cases b_117 : ((sx x3_1.toNatClampNeg) &&& (31 : Int32)) = (9 : Int32)
                          · replace h := (if_pos b_117).symm.trans h
                            refine m_tsK hc (tgt := 497) b_117 dL_law_33 (by decide) (by decide) rfl (by decide) ?_
                            refine m_aload_n hc dL_law_497 rfl ?_
                            refine m_aload_n hc dL_law_498 rfl ?_
                            refine m_iload_n hc dL_law_499 rfl ?_
                            refine m_iconst hc (v := 1) dL_law_500 (by decide) ?_
                            refine m_iadd hc dL_law_501 ?_
                            obtain ⟨b_118, h⟩ := ck_o h
                            refine m_xald hc hX hbl hbA b_118 dL_law_502 ?_
                            refine m_aload_n hc dL_law_503 rfl ?_
                            refine m_iload_n hc dL_law_504 rfl ?_
                            refine m_iconst hc (v := 2) dL_law_505 (by decide) ?_
                            refine m_iadd hc dL_law_506 ?_
                            obtain ⟨b_119, h⟩ := ck_o h
                            refine m_xald hc hX hbl hbA b_119 dL_law_507 ?_
                            refine m_aload_n hc dL_law_508 rfl ?_
                            refine m_iload_n hc dL_law_509 rfl ?_
                            refine m_iconst hc (v := 3) dL_law_510 (by decide) ?_
                            refine m_iadd hc dL_law_511 ?_
                            obtain ⟨b_120, h⟩ := ck_o h
                            refine m_xald hc hX hbl hbA b_120 dL_law_512 ?_
                            obtain ⟨q_121, c_122, h⟩ := bd_o h
                            refine m_callVi hc yO_0 rfl (c_X6_string (d + 4) c_122) (by omega) (by decide) wm_L_53 wi_X6_string we_X6_string wn_X6 wc_X6_string wy_X6_string rfl (st := []) rfl rfl (Nat.le_of_ble_eq_true rfl) dL_law_513 ?_
                            refine m_aload_n hc dL_law_516 rfl ?_
                            refine m_aload_n hc dL_law_517 rfl ?_
                            refine m_iload_n hc dL_law_518 rfl ?_
                            refine m_iconst hc (v := 1) dL_law_519 (by decide) ?_
                            refine m_iadd hc dL_law_520 ?_
                            obtain ⟨b_123, h⟩ := ck_o h
                            refine m_xald hc hX hbl hbA b_123 dL_law_521 ?_
                            refine m_aload_n hc dL_law_522 rfl ?_
                            refine m_iload_n hc dL_law_523 rfl ?_
                            refine m_iconst hc (v := 2) dL_law_524 (by decide) ?_
                            refine m_iadd hc dL_law_525 ?_
                            obtain ⟨b_124, h⟩ := ck_o h
                            refine m_xald hc hX hbl hbA b_124 dL_law_526 ?_
                            refine m_aload_n hc dL_law_527 rfl ?_
                            refine m_iload_n hc dL_law_528 rfl ?_
                            refine m_iconst hc (v := 3) dL_law_529 (by decide) ?_
                            refine m_iadd hc dL_law_530 ?_
                            obtain ⟨b_125, h⟩ := ck_o h
                            refine m_xald hc hX hbl hbA b_125 dL_law_531 ?_
                            obtain ⟨q_126, c_127, h⟩ := bd_o h
                            refine m_callVi hc yO_212 rfl (c_X7_string (d + 4) c_127) (by omega) (by decide) wm_L_56 wi_X7_string we_X7_string wn_X7 wc_X7_string wy_X7_string rfl (st := [.int q_121.1]) rfl rfl (Nat.le_of_ble_eq_true rfl) dL_law_532 ?_
                            refine m_iceq hc (tgt := 1123) dL_law_535 (by decide) (fun b_128 => ?_) (fun b_128 => ?_)
                            · replace h := (if_pos b_128).symm.trans h
                              refine m_iinc hc (v := x3_1 + 6) (lv' := [some (.ref b), some (.ref (gR G 0)), some (.ref (gR G 212)), some (.int (x3_1 + 6))]) dL_law_1123 rfl rfl rfl rfl ?_
                              refine m_goto hc (tgt := 18) dL_law_1126 (by decide) ?_
                              exact m_fg [] rfl (i_9 _ _ h)
                            · replace h := (if_neg b_128).symm.trans h
                              refine m_iconst hc (v := 0) dL_law_538 (by decide) ?_
                              cases h
                              have g_7 : some (0 : Int32) = some (1 : Int32) := g_7
                              exact absurd (Option.some.inj g_7) (by decide)
                          · replace h := (if_neg b_117).symm.trans h
                            by_cases b_129 : ((sx x3_1.toNatClampNeg) &&& (31 : Int32)) = (10 : Int32)
                            · replace h := (if_pos b_129).symm.trans h
                              refine m_tsK hc (tgt := 540) b_129 dL_law_33 (by decide) (by decide) rfl (by decide) ?_
                              refine m_aload_n hc dL_law_540 rfl ?_
                              refine m_aload_n hc dL_law_541 rfl ?_
                              refine m_iload_n hc dL_law_542 rfl ?_
                              refine m_iconst hc (v := 1) dL_law_543 (by decide) ?_
                              refine m_iadd hc dL_law_544 ?_
                              obtain ⟨b_130, h⟩ := ck_o h
                              refine m_xald hc hX hbl hbA b_130 dL_law_545 ?_
                              refine m_aload_n hc dL_law_546 rfl ?_
                              refine m_iload_n hc dL_law_547 rfl ?_
                              refine m_iconst hc (v := 2) dL_law_548 (by decide) ?_
                              refine m_iadd hc dL_law_549 ?_
                              obtain ⟨b_131, h⟩ := ck_o h
                              refine m_xald hc hX hbl hbA b_131 dL_law_550 ?_
                              obtain ⟨q_132, c_133, h⟩ := bd_o h
                              refine m_callVi hc yO_0 rfl (c_X6_does (d + 4) c_133) (by omega) (by decide) wm_L_57 wi_X6_does we_X6_does wn_X6 wc_X6_does wy_X6_does rfl (st := []) rfl rfl (Nat.le_of_ble_eq_true rfl) dL_law_551 ?_
                              refine m_aload_n hc dL_law_554 rfl ?_
                              refine m_aload_n hc dL_law_555 rfl ?_
                              refine m_iload_n hc dL_law_556 rfl ?_
                              refine m_iconst hc (v := 1) dL_law_557 (by decide) ?_
                              refine m_iadd hc dL_law_558 ?_
                              obtain ⟨b_134, h⟩ := ck_o h
                              refine m_xald hc hX hbl hbA b_134 dL_law_559 ?_
                              refine m_aload_n hc dL_law_560 rfl ?_
                              refine m_iload_n hc dL_law_561 rfl ?_
                              refine m_iconst hc (v := 2) dL_law_562 (by decide) ?_
                              refine m_iadd hc dL_law_563 ?_
                              obtain ⟨b_135, h⟩ := ck_o h
                              refine m_xald hc hX hbl hbA b_135 dL_law_564 ?_
                              obtain ⟨q_136, c_137, h⟩ := bd_o h
                              refine m_callVi hc yO_212 rfl (c_X7_does (d + 3) c_137) (by omega) (by decide) wm_L_60 wi_X7_does we_X7_does wn_X7 wc_X7_does wy_X7_does rfl (st := [.int q_132.1]) rfl rfl (Nat.le_of_ble_eq_true rfl) dL_law_565 ?_
                              refine m_iceq hc (tgt := 1123) dL_law_568 (by decide) (fun b_138 => ?_) (fun b_138 => ?_)
                              · replace h := (if_pos b_138).symm.trans h
                                refine m_iinc hc (v := x3_1 + 6) (lv' := [some (.ref b), some (.ref (gR G 0)), some (.ref (gR G 212)), some (.int (x3_1 + 6))]) dL_law_1123 rfl rfl rfl rfl ?_
                                refine m_goto hc (tgt := 18) dL_law_1126 (by decide) ?_
                                exact m_fg [] rfl (i_9 _ _ h)
                              · replace h := (if_neg b_138).symm.trans h
                                refine m_iconst hc (v := 0) dL_law_571 (by decide) ?_
                                cases h
                                have g_7 : some (0 : Int32) = some (1 : Int32) := g_7
                                exact absurd (Option.some.inj g_7) (by decide)
                            · replace h := (if_neg b_129).symm.trans h
                              by_cases b_139 : ((sx x3_1.toNatClampNeg) &&& (31 : Int32)) = (11 : Int32)
                              · replace h := (if_pos b_139).symm.trans h
                                refine m_tsK hc (tgt := 573) b_139 dL_law_33 (by decide) (by decide) rfl (by decide) ?_
                                refine m_aload_n hc dL_law_573 rfl ?_
                                refine m_aload_n hc dL_law_574 rfl ?_
                                refine m_iload_n hc dL_law_575 rfl ?_
                                refine m_iconst hc (v := 1) dL_law_576 (by decide) ?_
                                refine m_iadd hc dL_law_577 ?_
                                obtain ⟨b_140, h⟩ := ck_o h
                                refine m_xald hc hX hbl hbA b_140 dL_law_578 ?_
                                obtain ⟨q_141, c_142, h⟩ := bd_o h
                                refine m_callVi hc yO_0 rfl (c_X6_many (d + 4) c_142) (by omega) (by decide) wm_L_61 wi_X6_many we_X6_many wn_X6 wc_X6_many wy_X6_many rfl (st := []) rfl rfl (Nat.le_of_ble_eq_true rfl) dL_law_579 ?_
                                refine m_aload_n hc dL_law_582 rfl ?_
                                refine m_aload_n hc dL_law_583 rfl ?_
                                refine m_iload_n hc dL_law_584 rfl ?_
                                refine m_iconst hc (v := 1) dL_law_585 (by decide) ?_
                                refine m_iadd hc dL_law_586 ?_
                                obtain ⟨b_143, h⟩ := ck_o h
                                refine m_xald hc hX hbl hbA b_143 dL_law_587 ?_
                                obtain ⟨q_144, c_145, h⟩ := bd_o h
                                refine m_callVi hc yO_212 rfl (c_X7_many (d + 3) c_145) (by omega) (by decide) wm_L_64 wi_X7_many we_X7_many wn_X7 wc_X7_many wy_X7_many rfl (st := [.int q_141.1]) rfl rfl (Nat.le_of_ble_eq_true rfl) dL_law_588 ?_
                                refine m_iceq hc (tgt := 1123) dL_law_591 (by decide) (fun b_146 => ?_) (fun b_146 => ?_)
                                · replace h := (if_pos b_146).symm.trans h
                                  refine m_iinc hc (v := x3_1 + 6) (lv' := [some (.ref b), some (.ref (gR G 0)), some (.ref (gR G 212)), some (.int (x3_1 + 6))]) dL_law_1123 rfl rfl rfl rfl ?_
                                  refine m_goto hc (tgt := 18) dL_law_1126 (by decide) ?_
                                  exact m_fg [] rfl (i_9 _ _ h)
                                · replace h := (if_neg b_146).symm.trans h
                                  refine m_iconst hc (v := 0) dL_law_594 (by decide) ?_
                                  cases h
                                  have g_7 : some (0 : Int32) = some (1 : Int32) := g_7
                                  exact absurd (Option.some.inj g_7) (by decide)
                              · replace h := (if_neg b_139).symm.trans h
                                by_cases b_147 : ((sx x3_1.toNatClampNeg) &&& (31 : Int32)) = (12 : Int32)
                                · replace h := (if_pos b_147).symm.trans h
                                  refine m_tsK hc (tgt := 596) b_147 dL_law_33 (by decide) (by decide) rfl (by decide) ?_
                                  refine m_aload_n hc dL_law_596 rfl ?_
                                  obtain ⟨q_148, c_149, h⟩ := bd_o h
                                  refine m_callVi hc yO_0 rfl (c_X6_moves (d + 1) c_149) (by omega) (by decide) wm_L_65 wi_X6_moves we_X6_moves wn_X6 wc_X6_moves wy_X6_moves rfl (st := []) rfl rfl (Nat.le_of_ble_eq_true rfl) dL_law_597 ?_
                                  refine m_aload_n hc dL_law_600 rfl ?_
                                  obtain ⟨q_150, c_151, h⟩ := bd_o h
                                  refine m_callVi hc yO_212 rfl (c_X7_moves (d + 1) c_151) (by omega) (by decide) wm_L_69 wi_X7_moves we_X7_moves wn_X7 wc_X7_moves wy_X7_moves rfl (st := [.int q_148.1]) rfl rfl (Nat.le_of_ble_eq_true rfl) dL_law_601 ?_
                                  refine m_iceq hc (tgt := 1123) dL_law_604 (by decide) (fun b_152 => ?_) (fun b_152 => ?_)
                                  · replace h := (if_pos b_152).symm.trans h
                                    refine m_iinc hc (v := x3_1 + 6) (lv' := [some (.ref b), some (.ref (gR G 0)), some (.ref (gR G 212)), some (.int (x3_1 + 6))]) dL_law_1123 rfl rfl rfl rfl ?_
                                    refine m_goto hc (tgt := 18) dL_law_1126 (by decide) ?_
                                    exact m_fg [] rfl (i_9 _ _ h)
                                  · replace h := (if_neg b_152).symm.trans h
                                    refine m_iconst hc (v := 0) dL_law_607 (by decide) ?_
                                    cases h
                                    have g_7 : some (0 : Int32) = some (1 : Int32) := g_7
                                    exact absurd (Option.some.inj g_7) (by decide)
                                · replace h := (if_neg b_147).symm.trans h
                                  by_cases b_153 : ((sx x3_1.toNatClampNeg) &&& (31 : Int32)) = (13 : Int32)
                                  · replace h := (if_pos b_153).symm.trans h
                                    refine m_tsK hc (tgt := 609) b_153 dL_law_33 (by decide) (by decide) rfl (by decide) ?_
                                    refine m_aload_n hc dL_law_609 rfl ?_
                                    refine m_aload_n hc dL_law_610 rfl ?_
                                    refine m_iload_n hc dL_law_611 rfl ?_
                                    refine m_iconst hc (v := 1) dL_law_612 (by decide) ?_
                                    refine m_iadd hc dL_law_613 ?_
                                    obtain ⟨b_154, h⟩ := ck_o h
                                    refine m_xald hc hX hbl hbA b_154 dL_law_614 ?_
                                    obtain ⟨q_155, c_156, h⟩ := bd_o h
                                    refine m_callVi hc yO_0 rfl (c_X6_diagram (d + 1) c_156) (by omega) (by decide) wm_L_70 wi_X6_diagram we_X6_diagram wn_X6 wc_X6_diagram wy_X6_diagram rfl (st := []) rfl rfl (Nat.le_of_ble_eq_true rfl) dL_law_615 ?_
                                    refine m_aload_n hc dL_law_618 rfl ?_
                                    refine m_aload_n hc dL_law_619 rfl ?_
                                    refine m_iload_n hc dL_law_620 rfl ?_
                                    refine m_iconst hc (v := 1) dL_law_621 (by decide) ?_
                                    refine m_iadd hc dL_law_622 ?_
                                    obtain ⟨b_157, h⟩ := ck_o h
                                    refine m_xald hc hX hbl hbA b_157 dL_law_623 ?_
                                    obtain ⟨q_158, c_159, h⟩ := bd_o h
                                    refine m_callVi hc yO_212 rfl (c_X7_diagram (d + 0) c_159) (by omega) (by decide) wm_L_73 wi_X7_diagram we_X7_diagram wn_X7 wc_X7_diagram wy_X7_diagram rfl (st := [.int q_155.1]) rfl rfl (Nat.le_of_ble_eq_true rfl) dL_law_624 ?_
                                    refine m_iceq hc (tgt := 1123) dL_law_627 (by decide) (fun b_160 => ?_) (fun b_160 => ?_)
                                    · replace h := (if_pos b_160).symm.trans h
                                      refine m_iinc hc (v := x3_1 + 6) (lv' := [some (.ref b), some (.ref (gR G 0)), some (.ref (gR G 212)), some (.int (x3_1 + 6))]) dL_law_1123 rfl rfl rfl rfl ?_
                                      refine m_goto hc (tgt := 18) dL_law_1126 (by decide) ?_
                                      exact m_fg [] rfl (i_9 _ _ h)
                                    · replace h := (if_neg b_160).symm.trans h
                                      refine m_iconst hc (v := 0) dL_law_630 (by decide) ?_
                                      cases h
                                      have g_7 : some (0 : Int32) = some (1 : Int32) := g_7
                                      exact absurd (Option.some.inj g_7) (by decide)
                                  · replace h := (if_neg b_153).symm.trans h
                                    by_cases b_161 : ((sx x3_1.toNatClampNeg) &&& (31 : Int32)) = (14 : Int32)
                                    · replace h := (if_pos b_161).symm.trans h
                                      refine m_tsK hc (tgt := 632) b_161 dL_law_33 (by decide) (by decide) rfl (by decide) ?_
                                      refine m_aload_n hc dL_law_632 rfl ?_
                                      refine m_aload_n hc dL_law_633 rfl ?_
                                      refine m_iload_n hc dL_law_634 rfl ?_
                                      refine m_iconst hc (v := 1) dL_law_635 (by decide) ?_
                                      refine m_iadd hc dL_law_636 ?_
                                      obtain ⟨b_162, h⟩ := ck_o h
                                      refine m_xald hc hX hbl hbA b_162 dL_law_637 ?_
                                      refine m_aload_n hc dL_law_638 rfl ?_
                                      refine m_iload_n hc dL_law_639 rfl ?_
                                      refine m_iconst hc (v := 2) dL_law_640 (by decide) ?_
                                      refine m_iadd hc dL_law_641 ?_
                                      obtain ⟨b_163, h⟩ := ck_o h
                                      refine m_xald hc hX hbl hbA b_163 dL_law_642 ?_
                                      obtain ⟨q_164, c_165, h⟩ := bd_o h
                                      refine m_callVi hc yO_0 rfl (c_X6_stand (d + 1) c_165) (by omega) (by decide) wm_L_74 wi_X6_stand we_X6_stand wn_X6 wc_X6_stand wy_X6_stand rfl (st := []) rfl rfl (Nat.le_of_ble_eq_true rfl) dL_law_643 ?_
                                      refine m_aload_n hc dL_law_646 rfl ?_
                                      refine m_aload_n hc dL_law_647 rfl ?_
                                      refine m_iload_n hc dL_law_648 rfl ?_
                                      refine m_iconst hc (v := 1) dL_law_649 (by decide) ?_
                                      refine m_iadd hc dL_law_650 ?_
                                      obtain ⟨b_166, h⟩ := ck_o h
                                      refine m_xald hc hX hbl hbA b_166 dL_law_651 ?_
                                      refine m_aload_n hc dL_law_652 rfl ?_
                                      refine m_iload_n hc dL_law_653 rfl ?_
                                      refine m_iconst hc (v := 2) dL_law_654 (by decide) ?_
                                      refine m_iadd hc dL_law_655 ?_
                                      obtain ⟨b_167, h⟩ := ck_o h
                                      refine m_xald hc hX hbl hbA b_167 dL_law_656 ?_
                                      obtain ⟨q_168, c_169, h⟩ := bd_o h
                                      refine m_callVi hc yO_212 rfl (c_X7_stand (d + 0) c_169) (by omega) (by decide) wm_L_77 wi_X7_stand we_X7_stand wn_X7 wc_X7_stand wy_X7_stand rfl (st := [.int q_164.1]) rfl rfl (Nat.le_of_ble_eq_true rfl) dL_law_657 ?_
                                      refine m_iceq hc (tgt := 1123) dL_law_660 (by decide) (fun b_170 => ?_) (fun b_170 => ?_)
                                      · replace h := (if_pos b_170).symm.trans h
                                        refine m_iinc hc (v := x3_1 + 6) (lv' := [some (.ref b), some (.ref (gR G 0)), some (.ref (gR G 212)), some (.int (x3_1 + 6))]) dL_law_1123 rfl rfl rfl rfl ?_
                                        refine m_goto hc (tgt := 18) dL_law_1126 (by decide) ?_
                                        exact m_fg [] rfl (i_9 _ _ h)
                                      · replace h := (if_neg b_170).symm.trans h
                                        refine m_iconst hc (v := 0) dL_law_663 (by decide) ?_
                                        cases h
                                        have g_7 : some (0 : Int32) = some (1 : Int32) := g_7
                                        exact absurd (Option.some.inj g_7) (by decide)
                                    · replace h := (if_neg b_161).symm.trans h
                                      by_cases b_171 : ((sx x3_1.toNatClampNeg) &&& (31 : Int32)) = (15 : Int32)
                                      · replace h := (if_pos b_171).symm.trans h
                                        refine m_tsK hc (tgt := 665) b_171 dL_law_33 (by decide) (by decide) rfl (by decide) ?_
                                        refine m_aload_n hc dL_law_665 rfl ?_
                                        refine m_aload_n hc dL_law_666 rfl ?_
                                        refine m_iload_n hc dL_law_667 rfl ?_
                                        refine m_iconst hc (v := 1) dL_law_668 (by decide) ?_
                                        refine m_iadd hc dL_law_669 ?_
                                        obtain ⟨b_172, h⟩ := ck_o h
                                        refine m_xald hc hX hbl hbA b_172 dL_law_670 ?_
                                        refine m_aload_n hc dL_law_671 rfl ?_
                                        refine m_iload_n hc dL_law_672 rfl ?_
                                        refine m_iconst hc (v := 2) dL_law_673 (by decide) ?_
                                        refine m_iadd hc dL_law_674 ?_
                                        obtain ⟨b_173, h⟩ := ck_o h
                                        refine m_xald hc hX hbl hbA b_173 dL_law_675 ?_
                                        obtain ⟨q_175, c_176, h⟩ := nm_o h
                                        have J_177 : WM G X Q M_2 684 [some (.ref b), some (.ref (gR G 0)), some (.ref (gR G 212)), some (.int x3_1)] [.int q_175, .int (sx (x3_1 + (1 : Int32)).toNatClampNeg), .ref (gR G 0)] := by
                                          obtain ⟨q_179, c_180, h⟩ := bd_o h
                                          refine m_callVi hc yO_0 rfl (c_X6_foot (d + 1) c_180) (by omega) (by decide) wm_L_78 wi_X6_foot we_X6_foot wn_X6 wc_X6_foot wy_X6_foot rfl (st := []) rfl rfl (Nat.le_of_ble_eq_true rfl) dL_law_684 ?_
                                          refine m_aload_n hc dL_law_687 rfl ?_
                                          refine m_aload_n hc dL_law_688 rfl ?_
                                          refine m_iload_n hc dL_law_689 rfl ?_
                                          refine m_iconst hc (v := 1) dL_law_690 (by decide) ?_
                                          refine m_iadd hc dL_law_691 ?_
                                          obtain ⟨b_181, h⟩ := ck_o h
                                          refine m_xald hc hX hbl hbA b_181 dL_law_692 ?_
                                          refine m_aload_n hc dL_law_693 rfl ?_
                                          refine m_iload_n hc dL_law_694 rfl ?_
                                          refine m_iconst hc (v := 2) dL_law_695 (by decide) ?_
                                          refine m_iadd hc dL_law_696 ?_
                                          obtain ⟨b_182, h⟩ := ck_o h
                                          refine m_xald hc hX hbl hbA b_182 dL_law_697 ?_
                                          obtain ⟨q_184, c_185, h⟩ := nm_o h
                                          have J_186 : WM G X Q q_179.2 706 [some (.ref b), some (.ref (gR G 0)), some (.ref (gR G 212)), some (.int x3_1)] [.int q_184, .int (sx (x3_1 + (1 : Int32)).toNatClampNeg), .ref (gR G 212), .int q_179.1] := by
                                            obtain ⟨q_188, c_189, h⟩ := bd_o h
                                            refine m_callVi hc yO_212 rfl (c_X7_foot (d + 0) c_189) (by omega) (by decide) wm_L_82 wi_X7_foot we_X7_foot wn_X7 wc_X7_foot wy_X7_foot rfl (st := [.int q_179.1]) rfl rfl (Nat.le_of_ble_eq_true rfl) dL_law_706 ?_
                                            refine m_iceq hc (tgt := 1123) dL_law_709 (by decide) (fun b_190 => ?_) (fun b_190 => ?_)
                                            · replace h := (if_pos b_190).symm.trans h
                                              refine m_iinc hc (v := x3_1 + 6) (lv' := [some (.ref b), some (.ref (gR G 0)), some (.ref (gR G 212)), some (.int (x3_1 + 6))]) dL_law_1123 rfl rfl rfl rfl ?_
                                              refine m_goto hc (tgt := 18) dL_law_1126 (by decide) ?_
                                              exact m_fg [] rfl (i_9 _ _ h)
                                            · replace h := (if_neg b_190).symm.trans h
                                              refine m_iconst hc (v := 0) dL_law_712 (by decide) ?_
                                              cases h
                                              have g_7 : some (0 : Int32) = some (1 : Int32) := g_7
                                              exact absurd (Option.some.inj g_7) (by decide)
                                          replace h := c_185
                                          refine m_ifeq hc (tgt := 705) dL_law_698 (by decide) (fun b_187 => ?_) (fun b_187 => ?_)
                                          · replace h := (if_pos b_187).symm.trans h
                                            refine m_iconst hc (v := 0) dL_law_705 (by decide) ?_
                                            subst h
                                            exact m_fg [] rfl J_186
                                          · replace h := (if_neg b_187).symm.trans h
                                            refine m_iconst hc (v := 1) dL_law_701 (by decide) ?_
                                            refine m_goto hc (tgt := 706) dL_law_702 (by decide) ?_
                                            subst h
                                            exact m_fg [] rfl J_186
                                        replace h := c_176
                                        refine m_ifeq hc (tgt := 683) dL_law_676 (by decide) (fun b_178 => ?_) (fun b_178 => ?_)
                                        · replace h := (if_pos b_178).symm.trans h
                                          refine m_iconst hc (v := 0) dL_law_683 (by decide) ?_
                                          subst h
                                          exact m_fg [] rfl J_177
                                        · replace h := (if_neg b_178).symm.trans h
                                          refine m_iconst hc (v := 1) dL_law_679 (by decide) ?_
                                          refine m_goto hc (tgt := 684) dL_law_680 (by decide) ?_
                                          subst h
                                          exact m_fg [] rfl J_177
                                      · replace h := (if_neg b_171).symm.trans h
                                        by_cases b_191 : ((sx x3_1.toNatClampNeg) &&& (31 : Int32)) = (16 : Int32)
                                        · replace h := (if_pos b_191).symm.trans h
                                          refine m_tsK hc (tgt := 714) b_191 dL_law_33 (by decide) (by decide) rfl (by decide) ?_
                                          refine m_aload_n hc dL_law_714 rfl ?_
                                          obtain ⟨q_192, c_193, h⟩ := bd_o h
                                          refine m_callVi hc yO_0 rfl (c_X6_ways (d + 1) c_193) (by omega) (by decide) wm_L_83 wi_X6_ways we_X6_ways wn_X6 wc_X6_ways wy_X6_ways rfl (st := []) rfl rfl (Nat.le_of_ble_eq_true rfl) dL_law_715 ?_
                                          refine m_aload_n hc dL_law_718 rfl ?_
                                          obtain ⟨q_194, c_195, h⟩ := bd_o h
                                          refine m_callVi hc yO_212 rfl (c_X7_ways (d + 1) c_195) (by omega) (by decide) wm_L_86 wi_X7_ways we_X7_ways wn_X7 wc_X7_ways wy_X7_ways rfl (st := [.int q_192.1]) rfl rfl (Nat.le_of_ble_eq_true rfl) dL_law_719 ?_
                                          refine m_iceq hc (tgt := 1123) dL_law_722 (by decide) (fun b_196 => ?_) (fun b_196 => ?_)
                                          · replace h := (if_pos b_196).symm.trans h
                                            refine m_iinc hc (v := x3_1 + 6) (lv' := [some (.ref b), some (.ref (gR G 0)), some (.ref (gR G 212)), some (.int (x3_1 + 6))]) dL_law_1123 rfl rfl rfl rfl ?_
                                            refine m_goto hc (tgt := 18) dL_law_1126 (by decide) ?_
                                            exact m_fg [] rfl (i_9 _ _ h)
                                          · replace h := (if_neg b_196).symm.trans h
                                            refine m_iconst hc (v := 0) dL_law_725 (by decide) ?_
                                            cases h
                                            have g_7 : some (0 : Int32) = some (1 : Int32) := g_7
                                            exact absurd (Option.some.inj g_7) (by decide)
                                        · replace h := (if_neg b_191).symm.trans h
                                          by_cases b_197 : ((sx x3_1.toNatClampNeg) &&& (31 : Int32)) = (17 : Int32)
                                          · replace h := (if_pos b_197).symm.trans h
                                            refine m_tsK hc (tgt := 727) b_197 dL_law_33 (by decide) (by decide) rfl (by decide) ?_
                                            refine m_aload_n hc dL_law_727 rfl ?_
                                            obtain ⟨q_198, c_199, h⟩ := bd_o h
                                            refine m_callVi hc yO_0 rfl (c_X6_stuck (d + 1) c_199) (by omega) (by decide) wm_L_87 wi_X6_stuck we_X6_stuck wn_X6 wc_X6_stuck wy_X6_stuck rfl (st := []) rfl rfl (Nat.le_of_ble_eq_true rfl) dL_law_728 ?_
                                            refine m_aload_n hc dL_law_731 rfl ?_
                                            obtain ⟨q_200, c_201, h⟩ := bd_o h
                                            refine m_callVi hc yO_212 rfl (c_X7_stuck (d + 2) c_201) (by omega) (by decide) wm_L_90 wi_X7_stuck we_X7_stuck wn_X7 wc_X7_stuck wy_X7_stuck rfl (st := [.int q_198.1]) rfl rfl (Nat.le_of_ble_eq_true rfl) dL_law_732 ?_
                                            refine m_iceq hc (tgt := 1123) dL_law_735 (by decide) (fun b_202 => ?_) (fun b_202 => ?_)
                                            · replace h := (if_pos b_202).symm.trans h
                                              refine m_iinc hc (v := x3_1 + 6) (lv' := [some (.ref b), some (.ref (gR G 0)), some (.ref (gR G 212)), some (.int (x3_1 + 6))]) dL_law_1123 rfl rfl rfl rfl ?_
                                              refine m_goto hc (tgt := 18) dL_law_1126 (by decide) ?_
                                              exact m_fg [] rfl (i_9 _ _ h)
                                            · replace h := (if_neg b_202).symm.trans h
                                              refine m_iconst hc (v := 0) dL_law_738 (by decide) ?_
                                              cases h
                                              have g_7 : some (0 : Int32) = some (1 : Int32) := g_7
                                              exact absurd (Option.some.inj g_7) (by decide)
                                          · replace h := (if_neg b_197).symm.trans h
                                            by_cases b_203 : ((sx x3_1.toNatClampNeg) &&& (31 : Int32)) = (18 : Int32)
                                            · replace h := (if_pos b_203).symm.trans h
                                              refine m_tsK hc (tgt := 740) b_203 dL_law_33 (by decide) (by decide) rfl (by decide) ?_
                                              refine m_aload_n hc dL_law_740 rfl ?_
                                              refine m_aload_n hc dL_law_741 rfl ?_
                                              refine m_iload_n hc dL_law_742 rfl ?_
                                              refine m_iconst hc (v := 1) dL_law_743 (by decide) ?_
                                              refine m_iadd hc dL_law_744 ?_
                                              obtain ⟨b_204, h⟩ := ck_o h
                                              refine m_xald hc hX hbl hbA b_204 dL_law_745 ?_
                                              refine m_aload_n hc dL_law_746 rfl ?_
                                              refine m_iload_n hc dL_law_747 rfl ?_
                                              refine m_iconst hc (v := 2) dL_law_748 (by decide) ?_
                                              refine m_iadd hc dL_law_749 ?_
                                              obtain ⟨b_205, h⟩ := ck_o h
                                              refine m_xald hc hX hbl hbA b_205 dL_law_750 ?_
                                              obtain ⟨q_206, c_207, h⟩ := bd_o h
                                              refine m_callVi hc yO_0 rfl (c_X6_without (d + 1) c_207) (by omega) (by decide) wm_L_91 wi_X6_without we_X6_without wn_X6 wc_X6_without wy_X6_without rfl (st := []) rfl rfl (Nat.le_of_ble_eq_true rfl) dL_law_751 ?_
                                              refine m_aload_n hc dL_law_754 rfl ?_
                                              refine m_aload_n hc dL_law_755 rfl ?_
                                              refine m_iload_n hc dL_law_756 rfl ?_
                                              refine m_iconst hc (v := 1) dL_law_757 (by decide) ?_
                                              refine m_iadd hc dL_law_758 ?_
                                              obtain ⟨b_208, h⟩ := ck_o h
                                              refine m_xald hc hX hbl hbA b_208 dL_law_759 ?_
                                              refine m_aload_n hc dL_law_760 rfl ?_
                                              refine m_iload_n hc dL_law_761 rfl ?_
                                              refine m_iconst hc (v := 2) dL_law_762 (by decide) ?_
                                              refine m_iadd hc dL_law_763 ?_
                                              obtain ⟨b_209, h⟩ := ck_o h
                                              refine m_xald hc hX hbl hbA b_209 dL_law_764 ?_
                                              obtain ⟨q_210, c_211, h⟩ := bd_o h
                                              refine m_callVi hc yO_212 rfl (c_X7_without (d + 1) c_211) (by omega) (by decide) wm_L_94 wi_X7_without we_X7_without wn_X7 wc_X7_without wy_X7_without rfl (st := [.int q_206.1]) rfl rfl (Nat.le_of_ble_eq_true rfl) dL_law_765 ?_
                                              refine m_iceq hc (tgt := 1123) dL_law_768 (by decide) (fun b_212 => ?_) (fun b_212 => ?_)
                                              · replace h := (if_pos b_212).symm.trans h
                                                refine m_iinc hc (v := x3_1 + 6) (lv' := [some (.ref b), some (.ref (gR G 0)), some (.ref (gR G 212)), some (.int (x3_1 + 6))]) dL_law_1123 rfl rfl rfl rfl ?_
                                                refine m_goto hc (tgt := 18) dL_law_1126 (by decide) ?_
                                                exact m_fg [] rfl (i_9 _ _ h)
                                              · replace h := (if_neg b_212).symm.trans h
                                                refine m_iconst hc (v := 0) dL_law_771 (by decide) ?_
                                                cases h
                                                have g_7 : some (0 : Int32) = some (1 : Int32) := g_7
                                                exact absurd (Option.some.inj g_7) (by decide)
                                            · replace h := (if_neg b_203).symm.trans h
                                              by_cases b_213 : ((sx x3_1.toNatClampNeg) &&& (31 : Int32)) = (19 : Int32)
                                              · replace h := (if_pos b_213).symm.trans h
                                                refine m_tsK hc (tgt := 773) b_213 dL_law_33 (by decide) (by decide) rfl (by decide) ?_
                                                refine m_aload_n hc dL_law_773 rfl ?_
                                                refine m_aload_n hc dL_law_774 rfl ?_
                                                refine m_iload_n hc dL_law_775 rfl ?_
                                                refine m_iconst hc (v := 1) dL_law_776 (by decide) ?_
                                                refine m_iadd hc dL_law_777 ?_
                                                obtain ⟨b_214, h⟩ := ck_o h
                                                refine m_xald hc hX hbl hbA b_214 dL_law_778 ?_
                                                refine m_aload_n hc dL_law_779 rfl ?_
                                                refine m_iload_n hc dL_law_780 rfl ?_
                                                refine m_iconst hc (v := 2) dL_law_781 (by decide) ?_
                                                refine m_iadd hc dL_law_782 ?_
                                                obtain ⟨b_215, h⟩ := ck_o h
                                                refine m_xald hc hX hbl hbA b_215 dL_law_783 ?_
                                                obtain ⟨q_216, c_217, h⟩ := bd_o h
                                                refine m_callVi hc yO_0 rfl (c_X6_split (d + 3) c_217) (by omega) (by decide) wm_L_95 wi_X6_split we_X6_split wn_X6 wc_X6_split wy_X6_split rfl (st := []) rfl rfl (Nat.le_of_ble_eq_true rfl) dL_law_784 ?_
                                                refine m_aload_n hc dL_law_787 rfl ?_
                                                refine m_aload_n hc dL_law_788 rfl ?_
                                                refine m_iload_n hc dL_law_789 rfl ?_
                                                refine m_iconst hc (v := 1) dL_law_790 (by decide) ?_
                                                refine m_iadd hc dL_law_791 ?_
                                                obtain ⟨b_218, h⟩ := ck_o h
                                                refine m_xald hc hX hbl hbA b_218 dL_law_792 ?_
                                                refine m_aload_n hc dL_law_793 rfl ?_
                                                refine m_iload_n hc dL_law_794 rfl ?_
                                                refine m_iconst hc (v := 2) dL_law_795 (by decide) ?_
                                                refine m_iadd hc dL_law_796 ?_
                                                obtain ⟨b_219, h⟩ := ck_o h
                                                refine m_xald hc hX hbl hbA b_219 dL_law_797 ?_
                                                obtain ⟨q_220, c_221, h⟩ := bd_o h
                                                refine m_callVi hc yO_212 rfl (c_X7_split (d + 3) c_221) (by omega) (by decide) wm_L_98 wi_X7_split we_X7_split wn_X7 wc_X7_split wy_X7_split rfl (st := [.int q_216.1]) rfl rfl (Nat.le_of_ble_eq_true rfl) dL_law_798 ?_
                                                refine m_iceq hc (tgt := 1123) dL_law_801 (by decide) (fun b_222 => ?_) (fun b_222 => ?_)
                                                · replace h := (if_pos b_222).symm.trans h
                                                  refine m_iinc hc (v := x3_1 + 6) (lv' := [some (.ref b), some (.ref (gR G 0)), some (.ref (gR G 212)), some (.int (x3_1 + 6))]) dL_law_1123 rfl rfl rfl rfl ?_
                                                  refine m_goto hc (tgt := 18) dL_law_1126 (by decide) ?_
                                                  exact m_fg [] rfl (i_9 _ _ h)
                                                · replace h := (if_neg b_222).symm.trans h
                                                  refine m_iconst hc (v := 0) dL_law_804 (by decide) ?_
                                                  cases h
                                                  have g_7 : some (0 : Int32) = some (1 : Int32) := g_7
                                                  exact absurd (Option.some.inj g_7) (by decide)
                                              · replace h := (if_neg b_213).symm.trans h
                                                by_cases b_223 : ((sx x3_1.toNatClampNeg) &&& (31 : Int32)) = (20 : Int32)
                                                · replace h := (if_pos b_223).symm.trans h
                                                  refine m_tsK hc (tgt := 806) b_223 dL_law_33 (by decide) (by decide) rfl (by decide) ?_
                                                  refine m_aload_n hc dL_law_806 rfl ?_
                                                  obtain ⟨q_224, c_225, h⟩ := bd_o h
                                                  refine m_callVi hc yO_0 rfl (c_X6_hard (d + 1) c_225) (by omega) (by decide) wm_L_99 wi_X6_hard we_X6_hard wn_X6 wc_X6_hard wy_X6_hard rfl (st := []) rfl rfl (Nat.le_of_ble_eq_true rfl) dL_law_807 ?_
                                                  refine m_aload_n hc dL_law_810 rfl ?_
                                                  obtain ⟨q_226, c_227, h⟩ := bd_o h
                                                  refine m_callVi hc yO_212 rfl (c_X7_hard (d + 0) c_227) (by omega) (by decide) wm_L_102 wi_X7_hard we_X7_hard wn_X7 wc_X7_hard wy_X7_hard rfl (st := [.int q_224.1]) rfl rfl (Nat.le_of_ble_eq_true rfl) dL_law_811 ?_
                                                  refine m_iceq hc (tgt := 1123) dL_law_814 (by decide) (fun b_228 => ?_) (fun b_228 => ?_)
                                                  · replace h := (if_pos b_228).symm.trans h
                                                    refine m_iinc hc (v := x3_1 + 6) (lv' := [some (.ref b), some (.ref (gR G 0)), some (.ref (gR G 212)), some (.int (x3_1 + 6))]) dL_law_1123 rfl rfl rfl rfl ?_
                                                    refine m_goto hc (tgt := 18) dL_law_1126 (by decide) ?_
                                                    exact m_fg [] rfl (i_9 _ _ h)
                                                  · replace h := (if_neg b_228).symm.trans h
                                                    refine m_iconst hc (v := 0) dL_law_817 (by decide) ?_
                                                    cases h
                                                    have g_7 : some (0 : Int32) = some (1 : Int32) := g_7
                                                    exact absurd (Option.some.inj g_7) (by decide)
                                                · replace h := (if_neg b_223).symm.trans h
                                                  by_cases b_229 : ((sx x3_1.toNatClampNeg) &&& (31 : Int32)) = (21 : Int32)
                                                  · replace h := (if_pos b_229).symm.trans h
                                                    refine m_tsK hc (tgt := 819) b_229 dL_law_33 (by decide) (by decide) rfl (by decide) ?_
                                                    refine m_aload_n hc dL_law_819 rfl ?_
                                                    refine m_aload_n hc dL_law_820 rfl ?_
                                                    refine m_iload_n hc dL_law_821 rfl ?_
                                                    refine m_iconst hc (v := 1) dL_law_822 (by decide) ?_
                                                    refine m_iadd hc dL_law_823 ?_
                                                    obtain ⟨b_230, h⟩ := ck_o h
                                                    refine m_xald hc hX hbl hbA b_230 dL_law_824 ?_
                                                    refine m_aload_n hc dL_law_825 rfl ?_
                                                    refine m_iload_n hc dL_law_826 rfl ?_
                                                    refine m_iconst hc (v := 2) dL_law_827 (by decide) ?_
                                                    refine m_iadd hc dL_law_828 ?_
                                                    obtain ⟨b_231, h⟩ := ck_o h
                                                    refine m_xald hc hX hbl hbA b_231 dL_law_829 ?_
                                                    refine m_aload_n hc dL_law_830 rfl ?_
                                                    refine m_iload_n hc dL_law_831 rfl ?_
                                                    refine m_iconst hc (v := 3) dL_law_832 (by decide) ?_
                                                    refine m_iadd hc dL_law_833 ?_
                                                    obtain ⟨b_232, h⟩ := ck_o h
                                                    refine m_xald hc hX hbl hbA b_232 dL_law_834 ?_
                                                    refine m_aload_n hc dL_law_835 rfl ?_
                                                    refine m_iload_n hc dL_law_836 rfl ?_
                                                    refine m_iconst hc (v := 4) dL_law_837 (by decide) ?_
                                                    refine m_iadd hc dL_law_838 ?_
                                                    obtain ⟨b_233, h⟩ := ck_o h
                                                    refine m_xald hc hX hbl hbA b_233 dL_law_839 ?_
                                                    obtain ⟨q_234, c_235, h⟩ := bd_o h
                                                    refine m_callVi hc yO_0 rfl (c_X6_run (d + 5) c_235) (by omega) (by decide) wm_L_103 wi_X6_run we_X6_run wn_X6 wc_X6_run wy_X6_run rfl (st := []) rfl rfl (Nat.le_of_ble_eq_true rfl) dL_law_840 ?_
                                                    refine m_aload_n hc dL_law_843 rfl ?_
                                                    refine m_aload_n hc dL_law_844 rfl ?_
                                                    refine m_iload_n hc dL_law_845 rfl ?_
                                                    refine m_iconst hc (v := 1) dL_law_846 (by decide) ?_
                                                    refine m_iadd hc dL_law_847 ?_
                                                    obtain ⟨b_236, h⟩ := ck_o h
                                                    refine m_xald hc hX hbl hbA b_236 dL_law_848 ?_
                                                    refine m_aload_n hc dL_law_849 rfl ?_
                                                    refine m_iload_n hc dL_law_850 rfl ?_
                                                    refine m_iconst hc (v := 2) dL_law_851 (by decide) ?_
                                                    refine m_iadd hc dL_law_852 ?_
                                                    obtain ⟨b_237, h⟩ := ck_o h
                                                    refine m_xald hc hX hbl hbA b_237 dL_law_853 ?_
                                                    refine m_aload_n hc dL_law_854 rfl ?_
                                                    refine m_iload_n hc dL_law_855 rfl ?_
                                                    refine m_iconst hc (v := 3) dL_law_856 (by decide) ?_
                                                    refine m_iadd hc dL_law_857 ?_
                                                    obtain ⟨b_238, h⟩ := ck_o h
                                                    refine m_xald hc hX hbl hbA b_238 dL_law_858 ?_
                                                    refine m_aload_n hc dL_law_859 rfl ?_
                                                    refine m_iload_n hc dL_law_860 rfl ?_
                                                    refine m_iconst hc (v := 4) dL_law_861 (by decide) ?_
                                                    refine m_iadd hc dL_law_862 ?_
                                                    obtain ⟨b_239, h⟩ := ck_o h
                                                    refine m_xald hc hX hbl hbA b_239 dL_law_863 ?_
                                                    obtain ⟨q_240, c_241, h⟩ := bd_o h
                                                    refine m_callVi hc yO_212 rfl (c_X7_run (d + 4) c_241) (by omega) (by decide) wm_L_107 wi_X7_run we_X7_run wn_X7 wc_X7_run wy_X7_run rfl (st := [.int q_234.1]) rfl rfl (Nat.le_of_ble_eq_true rfl) dL_law_864 ?_
                                                    refine m_iceq hc (tgt := 1123) dL_law_867 (by decide) (fun b_242 => ?_) (fun b_242 => ?_)
                                                    · replace h := (if_pos b_242).symm.trans h
                                                      refine m_iinc hc (v := x3_1 + 6) (lv' := [some (.ref b), some (.ref (gR G 0)), some (.ref (gR G 212)), some (.int (x3_1 + 6))]) dL_law_1123 rfl rfl rfl rfl ?_
                                                      refine m_goto hc (tgt := 18) dL_law_1126 (by decide) ?_
                                                      exact m_fg [] rfl (i_9 _ _ h)
                                                    · replace h := (if_neg b_242).symm.trans h
                                                      refine m_iconst hc (v := 0) dL_law_870 (by decide) ?_
                                                      cases h
                                                      have g_7 : some (0 : Int32) = some (1 : Int32) := g_7
                                                      exact absurd (Option.some.inj g_7) (by decide)
                                                  · replace h := (if_neg b_229).symm.trans h
                                                    by_cases b_243 : ((sx x3_1.toNatClampNeg) &&& (31 : Int32)) = (22 : Int32)
                                                    · replace h := (if_pos b_243).symm.trans h
                                                      refine m_tsK hc (tgt := 872) b_243 dL_law_33 (by decide) (by decide) rfl (by decide) ?_
                                                      refine m_aload_n hc dL_law_872 rfl ?_
                                                      refine m_aload_n hc dL_law_873 rfl ?_
                                                      refine m_iload_n hc dL_law_874 rfl ?_
                                                      refine m_iconst hc (v := 1) dL_law_875 (by decide) ?_
                                                      refine m_iadd hc dL_law_876 ?_
                                                      obtain ⟨b_244, h⟩ := ck_o h
                                                      refine m_xald hc hX hbl hbA b_244 dL_law_877 ?_
                                                      refine m_aload_n hc dL_law_878 rfl ?_
                                                      refine m_iload_n hc dL_law_879 rfl ?_
                                                      refine m_iconst hc (v := 2) dL_law_880 (by decide) ?_
                                                      refine m_iadd hc dL_law_881 ?_
                                                      obtain ⟨b_245, h⟩ := ck_o h
                                                      refine m_xald hc hX hbl hbA b_245 dL_law_882 ?_
                                                      refine m_aload_n hc dL_law_883 rfl ?_
                                                      refine m_iload_n hc dL_law_884 rfl ?_
                                                      refine m_iconst hc (v := 3) dL_law_885 (by decide) ?_
                                                      refine m_iadd hc dL_law_886 ?_
                                                      obtain ⟨b_246, h⟩ := ck_o h
                                                      refine m_xald hc hX hbl hbA b_246 dL_law_887 ?_
                                                      obtain ⟨q_247, c_248, h⟩ := bd_o h
                                                      refine m_callVi hc yO_0 rfl (c_X6_plain (d + 4) c_248) (by omega) (by decide) wm_L_108 wi_X6_plain we_X6_plain wn_X6 wc_X6_plain wy_X6_plain rfl (st := []) rfl rfl (Nat.le_of_ble_eq_true rfl) dL_law_888 ?_
                                                      refine m_aload_n hc dL_law_891 rfl ?_
                                                      refine m_aload_n hc dL_law_892 rfl ?_
                                                      refine m_iload_n hc dL_law_893 rfl ?_
                                                      refine m_iconst hc (v := 1) dL_law_894 (by decide) ?_
                                                      refine m_iadd hc dL_law_895 ?_
                                                      obtain ⟨b_249, h⟩ := ck_o h
                                                      refine m_xald hc hX hbl hbA b_249 dL_law_896 ?_
                                                      refine m_aload_n hc dL_law_897 rfl ?_
                                                      refine m_iload_n hc dL_law_898 rfl ?_
                                                      refine m_iconst hc (v := 2) dL_law_899 (by decide) ?_
                                                      refine m_iadd hc dL_law_900 ?_
                                                      obtain ⟨b_250, h⟩ := ck_o h
                                                      refine m_xald hc hX hbl hbA b_250 dL_law_901 ?_
                                                      refine m_aload_n hc dL_law_902 rfl ?_
                                                      refine m_iload_n hc dL_law_903 rfl ?_
                                                      refine m_iconst hc (v := 3) dL_law_904 (by decide) ?_
                                                      refine m_iadd hc dL_law_905 ?_
                                                      obtain ⟨b_251, h⟩ := ck_o h
                                                      refine m_xald hc hX hbl hbA b_251 dL_law_906 ?_
                                                      obtain ⟨q_252, c_253, h⟩ := bd_o h
                                                      refine m_callVi hc yO_212 rfl (c_X7_plain (d + 4) c_253) (by omega) (by decide) wm_L_111 wi_X7_plain we_X7_plain wn_X7 wc_X7_plain wy_X7_plain rfl (st := [.int q_247.1]) rfl rfl (Nat.le_of_ble_eq_true rfl) dL_law_907 ?_
                                                      refine m_iceq hc (tgt := 1123) dL_law_910 (by decide) (fun b_254 => ?_) (fun b_254 => ?_)
                                                      · replace h := (if_pos b_254).symm.trans h
                                                        refine m_iinc hc (v := x3_1 + 6) (lv' := [some (.ref b), some (.ref (gR G 0)), some (.ref (gR G 212)), some (.int (x3_1 + 6))]) dL_law_1123 rfl rfl rfl rfl ?_
                                                        refine m_goto hc (tgt := 18) dL_law_1126 (by decide) ?_
                                                        exact m_fg [] rfl (i_9 _ _ h)
                                                      · replace h := (if_neg b_254).symm.trans h
                                                        refine m_iconst hc (v := 0) dL_law_913 (by decide) ?_
                                                        cases h
                                                        have g_7 : some (0 : Int32) = some (1 : Int32) := g_7
                                                        exact absurd (Option.some.inj g_7) (by decide)
                                                    · replace h := (if_neg b_243).symm.trans h
                                                      by_cases b_255 : ((sx x3_1.toNatClampNeg) &&& (31 : Int32)) = (23 : Int32)
                                                      · replace h := (if_pos b_255).symm.trans h
                                                        refine m_tsK hc (tgt := 915) b_255 dL_law_33 (by decide) (by decide) rfl (by decide) ?_
                                                        refine m_aload_n hc dL_law_915 rfl ?_
                                                        refine m_aload_n hc dL_law_916 rfl ?_
                                                        refine m_iload_n hc dL_law_917 rfl ?_
                                                        refine m_iconst hc (v := 1) dL_law_918 (by decide) ?_
                                                        refine m_iadd hc dL_law_919 ?_
                                                        obtain ⟨b_256, h⟩ := ck_o h
                                                        refine m_xald hc hX hbl hbA b_256 dL_law_920 ?_
                                                        refine m_aload_n hc dL_law_921 rfl ?_
                                                        refine m_iload_n hc dL_law_922 rfl ?_
                                                        refine m_iconst hc (v := 2) dL_law_923 (by decide) ?_
                                                        refine m_iadd hc dL_law_924 ?_
                                                        obtain ⟨b_257, h⟩ := ck_o h
                                                        refine m_xald hc hX hbl hbA b_257 dL_law_925 ?_
                                                        refine m_aload_n hc dL_law_926 rfl ?_
                                                        refine m_iload_n hc dL_law_927 rfl ?_
                                                        refine m_iconst hc (v := 3) dL_law_928 (by decide) ?_
                                                        refine m_iadd hc dL_law_929 ?_
                                                        obtain ⟨b_258, h⟩ := ck_o h
                                                        refine m_xald hc hX hbl hbA b_258 dL_law_930 ?_
                                                        obtain ⟨q_259, c_260, h⟩ := bd_o h
                                                        refine m_callVi hc yO_0 rfl (c_X6_sheet (d + 5) c_260) (by omega) (by decide) wm_L_112 wi_X6_sheet we_X6_sheet wn_X6 wc_X6_sheet wy_X6_sheet rfl (st := []) rfl rfl (Nat.le_of_ble_eq_true rfl) dL_law_931 ?_
                                                        refine m_aload_n hc dL_law_934 rfl ?_
                                                        refine m_aload_n hc dL_law_935 rfl ?_
                                                        refine m_iload_n hc dL_law_936 rfl ?_
                                                        refine m_iconst hc (v := 1) dL_law_937 (by decide) ?_
                                                        refine m_iadd hc dL_law_938 ?_
                                                        obtain ⟨b_261, h⟩ := ck_o h
                                                        refine m_xald hc hX hbl hbA b_261 dL_law_939 ?_
                                                        refine m_aload_n hc dL_law_940 rfl ?_
                                                        refine m_iload_n hc dL_law_941 rfl ?_
                                                        refine m_iconst hc (v := 2) dL_law_942 (by decide) ?_
                                                        refine m_iadd hc dL_law_943 ?_
                                                        obtain ⟨b_262, h⟩ := ck_o h
                                                        refine m_xald hc hX hbl hbA b_262 dL_law_944 ?_
                                                        refine m_aload_n hc dL_law_945 rfl ?_
                                                        refine m_iload_n hc dL_law_946 rfl ?_
                                                        refine m_iconst hc (v := 3) dL_law_947 (by decide) ?_
                                                        refine m_iadd hc dL_law_948 ?_
                                                        obtain ⟨b_263, h⟩ := ck_o h
                                                        refine m_xald hc hX hbl hbA b_263 dL_law_949 ?_
                                                        obtain ⟨q_264, c_265, h⟩ := bd_o h
                                                        refine m_callVi hc yO_212 rfl (c_X7_sheet (d + 5) c_265) (by omega) (by decide) wm_L_115 wi_X7_sheet we_X7_sheet wn_X7 wc_X7_sheet wy_X7_sheet rfl (st := [.int q_259.1]) rfl rfl (Nat.le_of_ble_eq_true rfl) dL_law_950 ?_
                                                        refine m_iceq hc (tgt := 1123) dL_law_953 (by decide) (fun b_266 => ?_) (fun b_266 => ?_)
                                                        · replace h := (if_pos b_266).symm.trans h
                                                          refine m_iinc hc (v := x3_1 + 6) (lv' := [some (.ref b), some (.ref (gR G 0)), some (.ref (gR G 212)), some (.int (x3_1 + 6))]) dL_law_1123 rfl rfl rfl rfl ?_
                                                          refine m_goto hc (tgt := 18) dL_law_1126 (by decide) ?_
                                                          exact m_fg [] rfl (i_9 _ _ h)
                                                        · replace h := (if_neg b_266).symm.trans h
                                                          refine m_iconst hc (v := 0) dL_law_956 (by decide) ?_
                                                          cases h
                                                          have g_7 : some (0 : Int32) = some (1 : Int32) := g_7
                                                          exact absurd (Option.some.inj g_7) (by decide)
                                                      · replace h := (if_neg b_255).symm.trans h
                                                        by_cases b_267 : ((sx x3_1.toNatClampNeg) &&& (31 : Int32)) = (24 : Int32)
                                                        · replace h := (if_pos b_267).symm.trans h
                                                          refine m_tsK hc (tgt := 958) b_267 dL_law_33 (by decide) (by decide) rfl (by decide) ?_
                                                          refine m_aload_n hc dL_law_958 rfl ?_
                                                          refine m_aload_n hc dL_law_959 rfl ?_
                                                          refine m_iload_n hc dL_law_960 rfl ?_
                                                          refine m_iconst hc (v := 1) dL_law_961 (by decide) ?_
                                                          refine m_iadd hc dL_law_962 ?_
                                                          obtain ⟨b_268, h⟩ := ck_o h
                                                          refine m_xald hc hX hbl hbA b_268 dL_law_963 ?_
                                                          refine m_aload_n hc dL_law_964 rfl ?_
                                                          refine m_iload_n hc dL_law_965 rfl ?_
                                                          refine m_iconst hc (v := 2) dL_law_966 (by decide) ?_
                                                          refine m_iadd hc dL_law_967 ?_
                                                          obtain ⟨b_269, h⟩ := ck_o h
                                                          refine m_xald hc hX hbl hbA b_269 dL_law_968 ?_
                                                          refine m_aload_n hc dL_law_969 rfl ?_
                                                          refine m_iload_n hc dL_law_970 rfl ?_
                                                          refine m_iconst hc (v := 3) dL_law_971 (by decide) ?_
                                                          refine m_iadd hc dL_law_972 ?_
                                                          obtain ⟨b_270, h⟩ := ck_o h
                                                          refine m_xald hc hX hbl hbA b_270 dL_law_973 ?_
                                                          obtain ⟨q_271, c_272, h⟩ := bd_o h
                                                          refine m_callVi hc yO_0 rfl (c_X6_put (d + 6) c_272) (by omega) (by decide) wm_L_116 wi_X6_put we_X6_put wn_X6 wc_X6_put wy_X6_put rfl (st := []) rfl rfl (Nat.le_of_ble_eq_true rfl) dL_law_974 ?_
                                                          refine m_aload_n hc dL_law_977 rfl ?_
                                                          refine m_aload_n hc dL_law_978 rfl ?_
                                                          refine m_iload_n hc dL_law_979 rfl ?_
                                                          refine m_iconst hc (v := 1) dL_law_980 (by decide) ?_
                                                          refine m_iadd hc dL_law_981 ?_
                                                          obtain ⟨b_273, h⟩ := ck_o h
                                                          refine m_xald hc hX hbl hbA b_273 dL_law_982 ?_
                                                          refine m_aload_n hc dL_law_983 rfl ?_
                                                          refine m_iload_n hc dL_law_984 rfl ?_
                                                          refine m_iconst hc (v := 2) dL_law_985 (by decide) ?_
                                                          refine m_iadd hc dL_law_986 ?_
                                                          obtain ⟨b_274, h⟩ := ck_o h
                                                          refine m_xald hc hX hbl hbA b_274 dL_law_987 ?_
                                                          refine m_aload_n hc dL_law_988 rfl ?_
                                                          refine m_iload_n hc dL_law_989 rfl ?_
                                                          refine m_iconst hc (v := 3) dL_law_990 (by decide) ?_
                                                          refine m_iadd hc dL_law_991 ?_
                                                          obtain ⟨b_275, h⟩ := ck_o h
                                                          refine m_xald hc hX hbl hbA b_275 dL_law_992 ?_
                                                          obtain ⟨q_276, c_277, h⟩ := bd_o h
                                                          refine m_callVi hc yO_212 rfl (c_X7_put (d + 5) c_277) (by omega) (by decide) wm_L_119 wi_X7_put we_X7_put wn_X7 wc_X7_put wy_X7_put rfl (st := [.int q_271.1]) rfl rfl (Nat.le_of_ble_eq_true rfl) dL_law_993 ?_
                                                          refine m_iceq hc (tgt := 1123) dL_law_996 (by decide) (fun b_278 => ?_) (fun b_278 => ?_)
                                                          · replace h := (if_pos b_278).symm.trans h
                                                            refine m_iinc hc (v := x3_1 + 6) (lv' := [some (.ref b), some (.ref (gR G 0)), some (.ref (gR G 212)), some (.int (x3_1 + 6))]) dL_law_1123 rfl rfl rfl rfl ?_
                                                            refine m_goto hc (tgt := 18) dL_law_1126 (by decide) ?_
                                                            exact m_fg [] rfl (i_9 _ _ h)
                                                          · replace h := (if_neg b_278).symm.trans h
                                                            refine m_iconst hc (v := 0) dL_law_999 (by decide) ?_
                                                            cases h
                                                            have g_7 : some (0 : Int32) = some (1 : Int32) := g_7
                                                            exact absurd (Option.some.inj g_7) (by decide)
                                                        · replace h := (if_neg b_267).symm.trans h
                                                          by_cases b_279 : ((sx x3_1.toNatClampNeg) &&& (31 : Int32)) = (25 : Int32)
                                                          · replace h := (if_pos b_279).symm.trans h
                                                            refine m_tsK hc (tgt := 1001) b_279 dL_law_33 (by decide) (by decide) rfl (by decide) ?_
                                                            refine m_aload_n hc dL_law_1001 rfl ?_
                                                            refine m_aload_n hc dL_law_1002 rfl ?_
                                                            refine m_iload_n hc dL_law_1003 rfl ?_
                                                            refine m_iconst hc (v := 1) dL_law_1004 (by decide) ?_
                                                            refine m_iadd hc dL_law_1005 ?_
                                                            obtain ⟨b_280, h⟩ := ck_o h
                                                            refine m_xald hc hX hbl hbA b_280 dL_law_1006 ?_
                                                            refine m_aload_n hc dL_law_1007 rfl ?_
                                                            refine m_iload_n hc dL_law_1008 rfl ?_
                                                            refine m_iconst hc (v := 2) dL_law_1009 (by decide) ?_
                                                            refine m_iadd hc dL_law_1010 ?_
                                                            obtain ⟨b_281, h⟩ := ck_o h
                                                            refine m_xald hc hX hbl hbA b_281 dL_law_1011 ?_
                                                            refine m_aload_n hc dL_law_1012 rfl ?_
                                                            refine m_iload_n hc dL_law_1013 rfl ?_
                                                            refine m_iconst hc (v := 3) dL_law_1014 (by decide) ?_
                                                            refine m_iadd hc dL_law_1015 ?_
                                                            obtain ⟨b_282, h⟩ := ck_o h
                                                            refine m_xald hc hX hbl hbA b_282 dL_law_1016 ?_
                                                            refine m_aload_n hc dL_law_1017 rfl ?_
                                                            refine m_iload_n hc dL_law_1018 rfl ?_
                                                            refine m_iconst hc (v := 4) dL_law_1019 (by decide) ?_
                                                            refine m_iadd hc dL_law_1020 ?_
                                                            obtain ⟨b_283, h⟩ := ck_o h
                                                            refine m_xald hc hX hbl hbA b_283 dL_law_1021 ?_
                                                            refine m_aload_n hc dL_law_1022 rfl ?_
                                                            refine m_iload_n hc dL_law_1023 rfl ?_
                                                            refine m_iconst hc (v := 5) dL_law_1024 (by decide) ?_
                                                            refine m_iadd hc dL_law_1025 ?_
                                                            obtain ⟨b_284, h⟩ := ck_o h
                                                            refine m_xald hc hX hbl hbA b_284 dL_law_1026 ?_
                                                            obtain ⟨q_285, c_286, h⟩ := bd_o h
                                                            refine m_callVi hc yO_0 rfl (c_X6_copy (d + 6) c_286) (by omega) (by decide) wm_L_120 wi_X6_copy we_X6_copy wn_X6 wc_X6_copy wy_X6_copy rfl (st := []) rfl rfl (Nat.le_of_ble_eq_true rfl) dL_law_1027 ?_
                                                            refine m_aload_n hc dL_law_1030 rfl ?_
                                                            refine m_aload_n hc dL_law_1031 rfl ?_
                                                            refine m_iload_n hc dL_law_1032 rfl ?_
                                                            refine m_iconst hc (v := 1) dL_law_1033 (by decide) ?_
                                                            refine m_iadd hc dL_law_1034 ?_
                                                            obtain ⟨b_287, h⟩ := ck_o h
                                                            refine m_xald hc hX hbl hbA b_287 dL_law_1035 ?_
                                                            refine m_aload_n hc dL_law_1036 rfl ?_
                                                            refine m_iload_n hc dL_law_1037 rfl ?_
                                                            refine m_iconst hc (v := 2) dL_law_1038 (by decide) ?_
                                                            refine m_iadd hc dL_law_1039 ?_
                                                            obtain ⟨b_288, h⟩ := ck_o h
                                                            refine m_xald hc hX hbl hbA b_288 dL_law_1040 ?_
                                                            refine m_aload_n hc dL_law_1041 rfl ?_
                                                            refine m_iload_n hc dL_law_1042 rfl ?_
                                                            refine m_iconst hc (v := 3) dL_law_1043 (by decide) ?_
                                                            refine m_iadd hc dL_law_1044 ?_
                                                            obtain ⟨b_289, h⟩ := ck_o h
                                                            refine m_xald hc hX hbl hbA b_289 dL_law_1045 ?_
                                                            refine m_aload_n hc dL_law_1046 rfl ?_
                                                            refine m_iload_n hc dL_law_1047 rfl ?_
                                                            refine m_iconst hc (v := 4) dL_law_1048 (by decide) ?_
                                                            refine m_iadd hc dL_law_1049 ?_
                                                            obtain ⟨b_290, h⟩ := ck_o h
                                                            refine m_xald hc hX hbl hbA b_290 dL_law_1050 ?_
                                                            refine m_aload_n hc dL_law_1051 rfl ?_
                                                            refine m_iload_n hc dL_law_1052 rfl ?_
                                                            refine m_iconst hc (v := 5) dL_law_1053 (by decide) ?_
                                                            refine m_iadd hc dL_law_1054 ?_
                                                            obtain ⟨b_291, h⟩ := ck_o h
                                                            refine m_xald hc hX hbl hbA b_291 dL_law_1055 ?_
                                                            obtain ⟨q_292, c_293, h⟩ := bd_o h
                                                            refine m_callVi hc yO_212 rfl (c_X7_copy (d + 5) c_293) (by omega) (by decide) wm_L_124 wi_X7_copy we_X7_copy wn_X7 wc_X7_copy wy_X7_copy rfl (st := [.int q_285.1]) rfl rfl (Nat.le_of_ble_eq_true rfl) dL_law_1056 ?_
                                                            refine m_iceq hc (tgt := 1123) dL_law_1059 (by decide) (fun b_294 => ?_) (fun b_294 => ?_)
                                                            · replace h := (if_pos b_294).symm.trans h
                                                              refine m_iinc hc (v := x3_1 + 6) (lv' := [some (.ref b), some (.ref (gR G 0)), some (.ref (gR G 212)), some (.int (x3_1 + 6))]) dL_law_1123 rfl rfl rfl rfl ?_
                                                              refine m_goto hc (tgt := 18) dL_law_1126 (by decide) ?_
                                                              exact m_fg [] rfl (i_9 _ _ h)
                                                            · replace h := (if_neg b_294).symm.trans h
                                                              refine m_iconst hc (v := 0) dL_law_1062 (by decide) ?_
                                                              cases h
                                                              have g_7 : some (0 : Int32) = some (1 : Int32) := g_7
                                                              exact absurd (Option.some.inj g_7) (by decide)
                                                          · replace h := (if_neg b_279).symm.trans h
                                                            by_cases b_295 : ((sx x3_1.toNatClampNeg) &&& (31 : Int32)) = (26 : Int32)
                                                            · replace h := (if_pos b_295).symm.trans h
                                                              refine m_tsK hc (tgt := 1064) b_295 dL_law_33 (by decide) (by decide) rfl (by decide) ?_
                                                              refine m_aload_n hc dL_law_1064 rfl ?_
                                                              refine m_aload_n hc dL_law_1065 rfl ?_
                                                              refine m_iload_n hc dL_law_1066 rfl ?_
                                                              refine m_iconst hc (v := 1) dL_law_1067 (by decide) ?_
                                                              refine m_iadd hc dL_law_1068 ?_
                                                              obtain ⟨b_296, h⟩ := ck_o h
                                                              refine m_xald hc hX hbl hbA b_296 dL_law_1069 ?_
                                                              obtain ⟨q_297, c_298, h⟩ := bd_o h
                                                              refine m_callVi hc yO_0 rfl (c_X6_tune (d + 4) c_298) (by omega) (by decide) wm_L_125 wi_X6_tune we_X6_tune wn_X6 wc_X6_tune wy_X6_tune rfl (st := []) rfl rfl (Nat.le_of_ble_eq_true rfl) dL_law_1070 ?_
                                                              refine m_aload_n hc dL_law_1073 rfl ?_
                                                              refine m_aload_n hc dL_law_1074 rfl ?_
                                                              refine m_iload_n hc dL_law_1075 rfl ?_
                                                              refine m_iconst hc (v := 1) dL_law_1076 (by decide) ?_
                                                              refine m_iadd hc dL_law_1077 ?_
                                                              obtain ⟨b_299, h⟩ := ck_o h
                                                              refine m_xald hc hX hbl hbA b_299 dL_law_1078 ?_
                                                              obtain ⟨q_300, c_301, h⟩ := bd_o h
                                                              refine m_callVi hc yO_212 rfl (c_X7_tune (d + 5) c_301) (by omega) (by decide) wm_L_128 wi_X7_tune we_X7_tune wn_X7 wc_X7_tune wy_X7_tune rfl (st := [.int q_297.1]) rfl rfl (Nat.le_of_ble_eq_true rfl) dL_law_1079 ?_
                                                              refine m_iceq hc (tgt := 1123) dL_law_1082 (by decide) (fun b_302 => ?_) (fun b_302 => ?_)
                                                              · replace h := (if_pos b_302).symm.trans h
                                                                refine m_iinc hc (v := x3_1 + 6) (lv' := [some (.ref b), some (.ref (gR G 0)), some (.ref (gR G 212)), some (.int (x3_1 + 6))]) dL_law_1123 rfl rfl rfl rfl ?_
                                                                refine m_goto hc (tgt := 18) dL_law_1126 (by decide) ?_
                                                                exact m_fg [] rfl (i_9 _ _ h)
                                                              · replace h := (if_neg b_302).symm.trans h
                                                                refine m_iconst hc (v := 0) dL_law_1085 (by decide) ?_
                                                                cases h
                                                                have g_7 : some (0 : Int32) = some (1 : Int32) := g_7
                                                                exact absurd (Option.some.inj g_7) (by decide)
                                                            · replace h := (if_neg b_295).symm.trans h
                                                              by_cases b_303 : ((sx x3_1.toNatClampNeg) &&& (31 : Int32)) = (27 : Int32)
                                                              · replace h := (if_pos b_303).symm.trans h
                                                                refine m_tsK hc (tgt := 1087) b_303 dL_law_33 (by decide) (by decide) rfl (by decide) ?_
                                                                refine m_aload_n hc dL_law_1087 rfl ?_
                                                                obtain ⟨q_304, c_305, h⟩ := bd_o h
                                                                refine m_callVi hc yO_0 rfl (c_X6_undo (d + 4) c_305) (by omega) (by decide) wm_L_129 wi_X6_undo we_X6_undo wn_X6 wc_X6_undo wy_X6_undo rfl (st := []) rfl rfl (Nat.le_of_ble_eq_true rfl) dL_law_1088 ?_
                                                                refine m_aload_n hc dL_law_1091 rfl ?_
                                                                obtain ⟨q_306, c_307, h⟩ := bd_o h
                                                                refine m_callVi hc yO_212 rfl (c_X7_undo (d + 6) c_307) (by omega) (by decide) wm_L_132 wi_X7_undo we_X7_undo wn_X7 wc_X7_undo wy_X7_undo rfl (st := [.int q_304.1]) rfl rfl (Nat.le_of_ble_eq_true rfl) dL_law_1092 ?_
                                                                refine m_iceq hc (tgt := 1123) dL_law_1095 (by decide) (fun b_308 => ?_) (fun b_308 => ?_)
                                                                · replace h := (if_pos b_308).symm.trans h
                                                                  refine m_iinc hc (v := x3_1 + 6) (lv' := [some (.ref b), some (.ref (gR G 0)), some (.ref (gR G 212)), some (.int (x3_1 + 6))]) dL_law_1123 rfl rfl rfl rfl ?_
                                                                  refine m_goto hc (tgt := 18) dL_law_1126 (by decide) ?_
                                                                  exact m_fg [] rfl (i_9 _ _ h)
                                                                · replace h := (if_neg b_308).symm.trans h
                                                                  refine m_iconst hc (v := 0) dL_law_1098 (by decide) ?_
                                                                  cases h
                                                                  have g_7 : some (0 : Int32) = some (1 : Int32) := g_7
                                                                  exact absurd (Option.some.inj g_7) (by decide)
                                                              · replace h := (if_neg b_303).symm.trans h
                                                                by_cases b_309 : ((sx x3_1.toNatClampNeg) &&& (31 : Int32)) = (28 : Int32)
                                                                · replace h := (if_pos b_309).symm.trans h
                                                                  refine m_tsK hc (tgt := 1100) b_309 dL_law_33 (by decide) (by decide) rfl (by decide) ?_
                                                                  refine m_aload_n hc dL_law_1100 rfl ?_
                                                                  refine m_aload_n hc dL_law_1101 rfl ?_
                                                                  refine m_iload_n hc dL_law_1102 rfl ?_
                                                                  refine m_iconst hc (v := 1) dL_law_1103 (by decide) ?_
                                                                  refine m_iadd hc dL_law_1104 ?_
                                                                  obtain ⟨b_310, h⟩ := ck_o h
                                                                  refine m_xald hc hX hbl hbA b_310 dL_law_1105 ?_
                                                                  obtain ⟨q_311, c_312, h⟩ := bd_o h
                                                                  refine m_callVi hc yO_0 rfl (c_X6_all (d + 6) c_312) (by omega) (by decide) wm_L_133 wi_X6_all we_X6_all wn_X6 wc_X6_all wy_X6_all rfl (st := []) rfl rfl (Nat.le_of_ble_eq_true rfl) dL_law_1106 ?_
                                                                  refine m_aload_n hc dL_law_1109 rfl ?_
                                                                  refine m_aload_n hc dL_law_1110 rfl ?_
                                                                  refine m_iload_n hc dL_law_1111 rfl ?_
                                                                  refine m_iconst hc (v := 1) dL_law_1112 (by decide) ?_
                                                                  refine m_iadd hc dL_law_1113 ?_
                                                                  obtain ⟨b_313, h⟩ := ck_o h
                                                                  refine m_xald hc hX hbl hbA b_313 dL_law_1114 ?_
                                                                  obtain ⟨q_314, c_315, h⟩ := bd_o h
                                                                  refine m_callVi hc yO_212 rfl (c_X7_all (d + 6) c_315) (by omega) (by decide) wm_L_136 wi_X7_all we_X7_all wn_X7 wc_X7_all wy_X7_all rfl (st := [.int q_311.1]) rfl rfl (Nat.le_of_ble_eq_true rfl) dL_law_1115 ?_
                                                                  refine m_iceq hc (tgt := 1123) dL_law_1118 (by decide) (fun b_316 => ?_) (fun b_316 => ?_)
                                                                  · replace h := (if_pos b_316).symm.trans h
                                                                    refine m_iinc hc (v := x3_1 + 6) (lv' := [some (.ref b), some (.ref (gR G 0)), some (.ref (gR G 212)), some (.int (x3_1 + 6))]) dL_law_1123 rfl rfl rfl rfl ?_
                                                                    refine m_goto hc (tgt := 18) dL_law_1126 (by decide) ?_
                                                                    exact m_fg [] rfl (i_9 _ _ h)
                                                                  · replace h := (if_neg b_316).symm.trans h
                                                                    refine m_iconst hc (v := 0) dL_law_1121 (by decide) ?_
                                                                    cases h
                                                                    have g_7 : some (0 : Int32) = some (1 : Int32) := g_7
                                                                    exact absurd (Option.some.inj g_7) (by decide)
                                                                · replace h := (if_neg b_309).symm.trans h
                                                                  refine m_tsOut hc (tgt := 1123) dL_law_33 (by have nb_13 := sw_ne (a := 0) b_13 (by decide); have nb_21 := sw_ne (a := 1) b_21 (by decide); have nb_45 := sw_ne (a := 2) b_45 (by decide); have nb_53 := sw_ne (a := 3) b_53 (by decide); have nb_65 := sw_ne (a := 4) b_65 (by decide); have nb_77 := sw_ne (a := 5) b_77 (by decide); have nb_85 := sw_ne (a := 6) b_85 (by decide); have nb_97 := sw_ne (a := 7) b_97 (by decide); have nb_107 := sw_ne (a := 8) b_107 (by decide); have nb_117 := sw_ne (a := 9) b_117 (by decide); have nb_129 := sw_ne (a := 10) b_129 (by decide); have nb_139 := sw_ne (a := 11) b_139 (by decide); have nb_147 := sw_ne (a := 12) b_147 (by decide); have nb_153 := sw_ne (a := 13) b_153 (by decide); have nb_161 := sw_ne (a := 14) b_161 (by decide); have nb_171 := sw_ne (a := 15) b_171 (by decide); have nb_191 := sw_ne (a := 16) b_191 (by decide); have nb_197 := sw_ne (a := 17) b_197 (by decide); have nb_203 := sw_ne (a := 18) b_203 (by decide); have nb_213 := sw_ne (a := 19) b_213 (by decide); have nb_223 := sw_ne (a := 20) b_223 (by decide); have nb_229 := sw_ne (a := 21) b_229 (by decide); have nb_243 := sw_ne (a := 22) b_243 (by decide); have nb_255 := sw_ne (a := 23) b_255 (by decide); have nb_267 := sw_ne (a := 24) b_267 (by decide); have nb_279 := sw_ne (a := 25) b_279 (by decide); have nb_295 := sw_ne (a := 26) b_295 (by decide); have nb_303 := sw_ne (a := 27) b_303 (by decide); have nb_309 := sw_ne (a := 28) b_309 (by decide); omega) (by decide) ?_
                                                                  refine m_iinc hc (v := x3_1 + 6) (lv' := [some (.ref b), some (.ref (gR G 0)), some (.ref (gR G 212)), some (.int (x3_1 + 6))]) dL_law_1123 rfl rfl rfl rfl ?_
                                                                  refine m_goto hc (tgt := 18) dL_law_1126 (by decide) ?_
                                                                  exact m_fg [] rfl (i_9 _ _ h)
  exact m_fg [] rfl (L_6 _ _ _ c_4)
