/-! ===== what each stretch of each method does (by program wip/gen) ===== -/
-- LastStirredModel.in(III)Z
set_option maxRecDepth 1000000 in
set_option maxHeartbeats 8000000 in
theorem t_127_0 (call : Nat → List Value → Sto → Option Rr) (again : Nat → j_L → List Value → Sto → Option Rr) (σ : Sto) (v0 : Int32) (v1 : Int32) (v2 : Int32) :
    j_seg k_127 h_127 call again 2000 0 [some (.int v0), some (.int v1), some (.int v2)] [] σ =
    if v0 < v1 then (if (j_k 0) = 0 ∨ (j_k 0) = 1 then some (some (.int (j_k 0)), σ) else none)
    else if v2 < v0 then (if (j_k 0) = 0 ∨ (j_k 0) = 1 then some (some (.int (j_k 0)), σ) else none)
    else if (j_k 1) = 0 ∨ (j_k 1) = 1 then some (some (.int (j_k 1)), σ) else none := rfl

-- LastStirredModel.has(II)Z
set_option maxRecDepth 1000000 in
set_option maxHeartbeats 8000000 in
theorem t_128_0 (call : Nat → List Value → Sto → Option Rr) (again : Nat → j_L → List Value → Sto → Option Rr) (σ : Sto) (v0 : Int32) (v1 : Int32) :
    j_seg k_128 h_128 call again 2000 0 [some (.int v0), some (.int v1)] [] σ =
    if ((v0 >>> (v1 &&& 31)) &&& (j_k 1)) = (j_k 1) then (if (j_k 1) = 0 ∨ (j_k 1) = 1 then some (some (.int (j_k 1)), σ) else none)
    else if (j_k 0) = 0 ∨ (j_k 0) = 1 then some (some (.int (j_k 0)), σ) else none := rfl

-- LastStirredModel.bits(I)I
set_option maxRecDepth 1000000 in
set_option maxHeartbeats 8000000 in
theorem t_129_0 (call : Nat → List Value → Sto → Option Rr) (again : Nat → j_L → List Value → Sto → Option Rr) (σ : Sto) (v0 : Int32) :
    j_seg k_129 h_129 call again 2000 0 [some (.int v0), none, none] [] σ =
    again 4 [some (.int v0), some (.int (j_k 0)), some (.int v0)] [] σ := rfl

set_option maxRecDepth 1000000 in
set_option maxHeartbeats 8000000 in
theorem t_129_4 (call : Nat → List Value → Sto → Option Rr) (again : Nat → j_L → List Value → Sto → Option Rr) (σ : Sto) (v0 : Int32) (v1 : Int32) (v2 : Int32) :
    j_seg k_129 h_129 call again 2000 4 [some (.int v0), some (.int v1), some (.int v2)] [] σ =
    if v2 = 0 then (some (some (.int v1), σ))
    else again 4 [some (.int v0), some (.int (v1 + (j_k 1))), some (.int (v2 &&& (v2 - (j_k 1))))] [] σ := rfl

-- LastStirredModel.size(I)I
set_option maxRecDepth 1000000 in
set_option maxHeartbeats 8000000 in
theorem t_130_0 (call : Nat → List Value → Sto → Option Rr) (again : Nat → j_L → List Value → Sto → Option Rr) (σ : Sto) (v0 : Int32) :
    j_seg k_130 h_130 call again 2000 0 [some (.int v0)] [] σ =
    if v0 < 0 then (some (some (.int (-v0)), σ))
    else some (some (.int v0), σ) := rfl

-- LastStirredModel.meets(I)I
set_option maxRecDepth 1000000 in
set_option maxHeartbeats 8000000 in
theorem t_131_0 (call : Nat → List Value → Sto → Option Rr) (again : Nat → j_L → List Value → Sto → Option Rr) (σ : Sto) (v0 : Nat) (v1 : Int32) :
    j_seg k_131 h_131 call again 2000 0 [some (.ref v0), some (.int v1)] [] σ =
    if v0 < j_b then j_oc σ 7 v0 (let τ1 : Sto := s_uI σ v0 0 v1;
    j_gP τ1 7 v0 1 (fun a2 =>
    j_ia τ1 a2 v1 (
    j_is τ1 a2 v1 (let τ3 : Sto := s_uI τ1 a2 v1.toNatClampNeg ((s_I τ1 a2 v1.toNatClampNeg) + (j_k 1));
    some (some (.int (j_k (-3))), τ3))))) else none := rfl

-- LastStirredModel.finding()I
set_option maxRecDepth 1000000 in
set_option maxHeartbeats 8000000 in
theorem t_132_0 (call : Nat → List Value → Sto → Option Rr) (again : Nat → j_L → List Value → Sto → Option Rr) (σ : Sto) (v0 : Nat) :
    j_seg k_132 h_132 call again 2000 0 [some (.ref v0)] [] σ =
    j_oc σ 7 v0 (some (some (.int (s_I σ v0 0)), σ)) := rfl

-- LastStirredModel.findings(I)I
set_option maxRecDepth 1000000 in
set_option maxHeartbeats 8000000 in
theorem t_133_0 (call : Nat → List Value → Sto → Option Rr) (again : Nat → j_L → List Value → Sto → Option Rr) (σ : Sto) (v0 : Nat) (v1 : Int32) :
    j_seg k_133 h_133 call again 2000 0 [some (.ref v0), some (.int v1)] [] σ =
    j_c1 call 127 [.int v1, .int (j_k 1), .int (j_k 5)] σ (fun x2 τ1 =>
    if x2 = 0 then (some (some (.int (j_k (-1))), τ1))
    else j_gP τ1 7 v0 1 (fun a3 =>
    j_ia τ1 a3 v1 (
    some (some (.int (s_I τ1 a3 v1.toNatClampNeg)), τ1)))) := rfl

-- LastStirredModel.tells(II)I
set_option maxRecDepth 1000000 in
set_option maxHeartbeats 8000000 in
theorem t_134_0 (call : Nat → List Value → Sto → Option Rr) (again : Nat → j_L → List Value → Sto → Option Rr) (σ : Sto) (v0 : Nat) (v1 : Int32) (v2 : Int32) :
    j_seg k_134 h_134 call again 2000 0 [some (.ref v0), some (.int v1), some (.int v2)] [] σ =
    if v0 < j_b then j_oc σ 7 v0 (let τ1 : Sto := s_uI σ v0 2 v1;
    some (some (.int v2), τ1)) else none := rfl

-- LastStirredModel.asked()I
set_option maxRecDepth 1000000 in
set_option maxHeartbeats 8000000 in
theorem t_135_0 (call : Nat → List Value → Sto → Option Rr) (again : Nat → j_L → List Value → Sto → Option Rr) (σ : Sto) (v0 : Nat) :
    j_seg k_135 h_135 call again 2000 0 [some (.ref v0)] [] σ =
    j_oc σ 7 v0 (some (some (.int (s_I σ v0 2)), σ)) := rfl

-- LastStirredModel.fraction(JJI)I
set_option maxRecDepth 1000000 in
set_option maxHeartbeats 8000000 in
theorem t_136_0 (call : Nat → List Value → Sto → Option Rr) (again : Nat → j_L → List Value → Sto → Option Rr) (σ : Sto) (v0 : Nat) (v1 : Int64) (v3 : Int64) (v5 : Int32) :
    j_seg k_136 h_136 call again 2000 0 [some (.ref v0), some (.long v1), none, some (.long v3), none, some (.int v5), none, none, none, none, none, none] [] σ =
    again 6 [some (.ref v0), some (.long v1), none, some (.long v3), none, some (.int v5), some (.long v1), none, some (.long v3), none, none, none] [] σ := rfl

set_option maxRecDepth 1000000 in
set_option maxHeartbeats 8000000 in
theorem t_136_6 (call : Nat → List Value → Sto → Option Rr) (again : Nat → j_L → List Value → Sto → Option Rr) (σ : Sto) (v0 : Nat) (v1 : Int64) (v3 : Int64) (v5 : Int32) (v6 : Int64) (v8 : Int64) :
    j_seg k_136 h_136 call again 2000 6 [some (.ref v0), some (.long v1), none, some (.long v3), none, some (.int v5), some (.long v6), none, some (.long v8), none, none, none] [] σ =
    if (lg_cmp v8 (Int64.ofNat 0)) = 0 then (if v6 = 0 then none else
     if v0 < j_b then j_oc σ 7 v0 (let τ1 : Sto := s_uJ σ v0 3 (v1 / v6);
     if v6 = 0 then none else
     if v0 < j_b then j_oc τ1 7 v0 (let τ2 : Sto := s_uJ τ1 v0 4 (v3 / v6);
     some (some (.int v5), τ2)) else none) else none)
    else if v8 = 0 then none else
    again 6 [some (.ref v0), some (.long v1), none, some (.long v3), none, some (.int v5), some (.long v8), none, some (.long (v6 - v6 / v8 * v8)), none, none, none] [] σ := rfl

-- LastStirredModel.upper()J
set_option maxRecDepth 1000000 in
set_option maxHeartbeats 8000000 in
theorem t_137_0 (call : Nat → List Value → Sto → Option Rr) (again : Nat → j_L → List Value → Sto → Option Rr) (σ : Sto) (v0 : Nat) :
    j_seg k_137 h_137 call again 2000 0 [some (.ref v0)] [] σ =
    j_oc σ 7 v0 (some (some (.long (s_J σ v0 3)), σ)) := rfl

-- LastStirredModel.lower()J
set_option maxRecDepth 1000000 in
set_option maxHeartbeats 8000000 in
theorem t_138_0 (call : Nat → List Value → Sto → Option Rr) (again : Nat → j_L → List Value → Sto → Option Rr) (σ : Sto) (v0 : Nat) :
    j_seg k_138 h_138 call again 2000 0 [some (.ref v0)] [] σ =
    j_oc σ 7 v0 (some (some (.long (s_J σ v0 4)), σ)) := rfl

-- LastStirredModel.isRow(I)Z
set_option maxRecDepth 1000000 in
set_option maxHeartbeats 8000000 in
theorem t_139_0 (call : Nat → List Value → Sto → Option Rr) (again : Nat → j_L → List Value → Sto → Option Rr) (σ : Sto) (v0 : Int32) :
    j_seg k_139 h_139 call again 2000 0 [some (.int v0)] [] σ =
    j_c1 call 127 [.int v0, .int (j_k 0), .int (j_k 5)] σ (fun x2 τ1 =>
    if x2 = 0 ∨ x2 = 1 then some (some (.int x2), τ1) else none) := rfl

-- LastStirredModel.rowAt(II)I
set_option maxRecDepth 1000000 in
set_option maxHeartbeats 8000000 in
theorem t_140_0 (call : Nat → List Value → Sto → Option Rr) (again : Nat → j_L → List Value → Sto → Option Rr) (σ : Sto) (v0 : Nat) (v1 : Int32) (v2 : Int32) :
    j_seg k_140 h_140 call again 2000 0 [some (.ref v0), some (.int v1), some (.int v2)] [] σ =
    j_gP σ 7 v0 6 (fun a1 =>
    j_ia σ a1 (((j_k 60) * v1) + v2) (
    some (some (.int (s_I σ a1 (((j_k 60) * v1) + v2).toNatClampNeg)), σ))) := rfl

-- LastStirredModel.row(II)I
set_option maxRecDepth 1000000 in
set_option maxHeartbeats 8000000 in
theorem t_141_0 (call : Nat → List Value → Sto → Option Rr) (again : Nat → j_L → List Value → Sto → Option Rr) (σ : Sto) (v0 : Nat) (v1 : Int32) (v2 : Int32) :
    j_seg k_141 h_141 call again 2000 0 [some (.ref v0), some (.int v1), some (.int v2), none] [] σ =
    j_c1 call 139 [.int v1] σ (fun x2 τ1 =>
    if x2 = 0 then (some (some (.int (j_k (-1))), τ1))
    else if (j_k 60) < v2 then (some (some (.int (j_k (-1))), τ1))
    else if v2 < 0 then (j_oc τ1 7 v0 (j_c1 call 131 [.ref v0, .int (j_k 5)] τ1 (fun x4 τ3 =>
     some (some (.int x4), τ3))))
    else j_gP τ1 7 v0 5 (fun a5 =>
    j_is τ1 a5 v1 (let τ6 : Sto := s_uI τ1 a5 v1.toNatClampNeg v2;
    again 34 [some (.ref v0), some (.int v1), some (.int v2), some (.int (j_k 0))] [] τ6))) := rfl

set_option maxRecDepth 1000000 in
set_option maxHeartbeats 8000000 in
theorem t_141_34 (call : Nat → List Value → Sto → Option Rr) (again : Nat → j_L → List Value → Sto → Option Rr) (σ : Sto) (v0 : Nat) (v1 : Int32) (v2 : Int32) (v3 : Int32) :
    j_seg k_141 h_141 call again 2000 34 [some (.ref v0), some (.int v1), some (.int v2), some (.int v3)] [] σ =
    if v3 < (j_k 60) then (j_gP σ 7 v0 6 (fun a1 =>
     j_is σ a1 (((j_k 60) * v1) + v3) (let τ2 : Sto := s_uI σ a1 (((j_k 60) * v1) + v3).toNatClampNeg (j_k 0);
     again 34 [some (.ref v0), some (.int v1), some (.int v2), some (.int (v3 + (j_k 1)))] [] τ2)))
    else some (some (.int v2), σ) := rfl

-- LastStirredModel.lay(III)I
set_option maxRecDepth 1000000 in
set_option maxHeartbeats 8000000 in
theorem t_142_0 (call : Nat → List Value → Sto → Option Rr) (again : Nat → j_L → List Value → Sto → Option Rr) (σ : Sto) (v0 : Nat) (v1 : Int32) (v2 : Int32) (v3 : Int32) :
    j_seg k_142 h_142 call again 2000 0 [some (.ref v0), some (.int v1), some (.int v2), some (.int v3), none] [] σ =
    j_c1 call 139 [.int v1] σ (fun x2 τ1 =>
    if x2 = 0 then (some (some (.int (j_k (-1))), τ1))
    else j_gP τ1 7 v0 5 (fun a3 =>
    j_ia τ1 a3 v1 (
    if (s_I τ1 a3 v1.toNatClampNeg) < 0 then (j_oc τ1 7 v0 (j_c1 call 131 [.ref v0, .int (j_k 1)] τ1 (fun x5 τ4 =>
     some (some (.int x5), τ4))))
    else j_gP τ1 7 v0 5 (fun a6 =>
    j_ia τ1 a6 v1 (
    j_c1 call 127 [.int v2, .int (j_k 0), .int ((s_I τ1 a6 v1.toNatClampNeg) - (j_k 1))] τ1 (fun x8 τ7 =>
    if x8 = 0 then (j_oc τ7 7 v0 (j_c1 call 131 [.ref v0, .int (j_k 2)] τ7 (fun x10 τ9 =>
     some (some (.int x10), τ9))))
    else j_oc τ7 7 v0 (j_c1 call 140 [.ref v0, .int v1, .int v2] τ7 (fun x12 τ11 =>
    j_gP τ11 7 v0 6 (fun a13 =>
    j_is τ11 a13 (((j_k 60) * v1) + v2) (let τ14 : Sto := s_uI τ11 a13 (((j_k 60) * v1) + v2).toNatClampNeg v3;
    j_oc τ14 7 v0 (j_c1 call 134 [.ref v0, .int x12, .int (j_k 1)] τ14 (fun x16 τ15 =>
    some (some (.int x16), τ15))))))))))))) := rfl

-- LastStirredModel.at(II)I
set_option maxRecDepth 1000000 in
set_option maxHeartbeats 8000000 in
theorem t_143_0 (call : Nat → List Value → Sto → Option Rr) (again : Nat → j_L → List Value → Sto → Option Rr) (σ : Sto) (v0 : Nat) (v1 : Int32) (v2 : Int32) :
    j_seg k_143 h_143 call again 2000 0 [some (.ref v0), some (.int v1), some (.int v2)] [] σ =
    j_c1 call 139 [.int v1] σ (fun x2 τ1 =>
    if x2 = 0 then (some (some (.int (j_k (-1))), τ1))
    else j_gP τ1 7 v0 5 (fun a3 =>
    j_ia τ1 a3 v1 (
    if (s_I τ1 a3 v1.toNatClampNeg) < 0 then (j_oc τ1 7 v0 (j_c1 call 131 [.ref v0, .int (j_k 1)] τ1 (fun x5 τ4 =>
     some (some (.int x5), τ4))))
    else j_gP τ1 7 v0 5 (fun a6 =>
    j_ia τ1 a6 v1 (
    j_c1 call 127 [.int v2, .int (j_k 0), .int ((s_I τ1 a6 v1.toNatClampNeg) - (j_k 1))] τ1 (fun x8 τ7 =>
    if x8 = 0 then (j_oc τ7 7 v0 (j_c1 call 131 [.ref v0, .int (j_k 2)] τ7 (fun x10 τ9 =>
     some (some (.int x10), τ9))))
    else j_oc τ7 7 v0 (j_c1 call 140 [.ref v0, .int v1, .int v2] τ7 (fun x12 τ11 =>
    j_oc τ11 7 v0 (j_c1 call 134 [.ref v0, .int x12, .int (j_k 1)] τ11 (fun x14 τ13 =>
    some (some (.int x14), τ13))))))))))) := rfl

-- LastStirredModel.tear(I)I
set_option maxRecDepth 1000000 in
set_option maxHeartbeats 8000000 in
theorem t_144_0 (call : Nat → List Value → Sto → Option Rr) (again : Nat → j_L → List Value → Sto → Option Rr) (σ : Sto) (v0 : Nat) (v1 : Int32) :
    j_seg k_144 h_144 call again 2000 0 [some (.ref v0), some (.int v1)] [] σ =
    j_c1 call 139 [.int v1] σ (fun x2 τ1 =>
    if x2 = 0 then (some (some (.int (j_k (-1))), τ1))
    else j_gP τ1 7 v0 5 (fun a3 =>
    j_ia τ1 a3 v1 (
    if (s_I τ1 a3 v1.toNatClampNeg) < 0 then (j_oc τ1 7 v0 (j_c1 call 131 [.ref v0, .int (j_k 1)] τ1 (fun x5 τ4 =>
     some (some (.int x5), τ4))))
    else j_gP τ1 7 v0 5 (fun a6 =>
    j_is τ1 a6 v1 (let τ7 : Sto := s_uI τ1 a6 v1.toNatClampNeg (j_k (-1));
    some (some (.int (j_k 1)), τ7)))))) := rfl

-- LastStirredModel.copy(IIIII)I
set_option maxRecDepth 1000000 in
set_option maxHeartbeats 8000000 in
theorem t_145_0 (call : Nat → List Value → Sto → Option Rr) (again : Nat → j_L → List Value → Sto → Option Rr) (σ : Sto) (v0 : Nat) (v1 : Int32) (v2 : Int32) (v3 : Int32) (v4 : Int32) (v5 : Int32) :
    j_seg k_145 h_145 call again 2000 0 [some (.ref v0), some (.int v1), some (.int v2), some (.int v3), some (.int v4), some (.int v5), none] [] σ =
    j_c1 call 139 [.int v1] σ (fun x2 τ1 =>
    if x2 = 0 then (some (some (.int (j_k (-1))), τ1))
    else j_c1 call 139 [.int v3] τ1 (fun x4 τ3 =>
    if x4 = 0 then (some (some (.int (j_k (-1))), τ3))
    else if v5 < 0 then (j_oc τ3 7 v0 (j_c1 call 131 [.ref v0, .int (j_k 5)] τ3 (fun x6 τ5 =>
     some (some (.int x6), τ5))))
    else j_gP τ3 7 v0 5 (fun a7 =>
    j_ia τ3 a7 v1 (
    if (s_I τ3 a7 v1.toNatClampNeg) < 0 then (j_oc τ3 7 v0 (j_c1 call 131 [.ref v0, .int (j_k 1)] τ3 (fun x9 τ8 =>
     some (some (.int x9), τ8))))
    else j_gP τ3 7 v0 5 (fun a10 =>
    j_ia τ3 a10 v3 (
    if (s_I τ3 a10 v3.toNatClampNeg) < 0 then (j_oc τ3 7 v0 (j_c1 call 131 [.ref v0, .int (j_k 1)] τ3 (fun x12 τ11 =>
     some (some (.int x12), τ11))))
    else if v2 < 0 then (j_oc τ3 7 v0 (j_c1 call 131 [.ref v0, .int (j_k 2)] τ3 (fun x14 τ13 =>
     some (some (.int x14), τ13))))
    else if v4 < 0 then (j_oc τ3 7 v0 (j_c1 call 131 [.ref v0, .int (j_k 2)] τ3 (fun x16 τ15 =>
     some (some (.int x16), τ15))))
    else j_gP τ3 7 v0 5 (fun a17 =>
    j_ia τ3 a17 v1 (
    if 0 < (lg_cmp (v2.toInt64 + v5.toInt64) ((s_I τ3 a17 v1.toNatClampNeg).toInt64)) then (j_oc τ3 7 v0 (j_c1 call 131 [.ref v0, .int (j_k 2)] τ3 (fun x19 τ18 =>
     some (some (.int x19), τ18))))
    else j_gP τ3 7 v0 5 (fun a20 =>
    j_ia τ3 a20 v3 (
    if 0 < (lg_cmp (v4.toInt64 + v5.toInt64) ((s_I τ3 a20 v3.toNatClampNeg).toInt64)) then (j_oc τ3 7 v0 (j_c1 call 131 [.ref v0, .int (j_k 2)] τ3 (fun x22 τ21 =>
     some (some (.int x22), τ21))))
    else again 104 [some (.ref v0), some (.int v1), some (.int v2), some (.int v3), some (.int v4), some (.int v5), some (.int (j_k 0))] [] τ3)))))))))) := rfl

set_option maxRecDepth 1000000 in
set_option maxHeartbeats 8000000 in
theorem t_145_104 (call : Nat → List Value → Sto → Option Rr) (again : Nat → j_L → List Value → Sto → Option Rr) (σ : Sto) (v0 : Nat) (v1 : Int32) (v2 : Int32) (v3 : Int32) (v4 : Int32) (v5 : Int32) (v6 : Int32) :
    j_seg k_145 h_145 call again 2000 104 [some (.ref v0), some (.int v1), some (.int v2), some (.int v3), some (.int v4), some (.int v5), some (.int v6)] [] σ =
    if v6 < v5 then (j_gP σ 7 v0 7 (fun a1 =>
     j_oc σ 7 v0 (j_c1 call 140 [.ref v0, .int v1, .int (v2 + v6)] σ (fun x3 τ2 =>
     j_is τ2 a1 v6 (let τ4 : Sto := s_uI τ2 a1 v6.toNatClampNeg x3;
     again 104 [some (.ref v0), some (.int v1), some (.int v2), some (.int v3), some (.int v4), some (.int v5), some (.int (v6 + (j_k 1)))] [] τ4)))))
    else again 136 [some (.ref v0), some (.int v1), some (.int v2), some (.int v3), some (.int v4), some (.int v5), some (.int (j_k 0))] [] σ := rfl

set_option maxRecDepth 1000000 in
set_option maxHeartbeats 8000000 in
theorem t_145_136 (call : Nat → List Value → Sto → Option Rr) (again : Nat → j_L → List Value → Sto → Option Rr) (σ : Sto) (v0 : Nat) (v1 : Int32) (v2 : Int32) (v3 : Int32) (v4 : Int32) (v5 : Int32) (v6 : Int32) :
    j_seg k_145 h_145 call again 2000 136 [some (.ref v0), some (.int v1), some (.int v2), some (.int v3), some (.int v4), some (.int v5), some (.int v6)] [] σ =
    if v6 < v5 then (j_gP σ 7 v0 6 (fun a1 =>
     j_gP σ 7 v0 7 (fun a2 =>
     j_ia σ a2 v6 (
     j_is σ a1 ((((j_k 60) * v3) + v4) + v6) (let τ3 : Sto := s_uI σ a1 ((((j_k 60) * v3) + v4) + v6).toNatClampNeg (s_I σ a2 v6.toNatClampNeg);
     again 136 [some (.ref v0), some (.int v1), some (.int v2), some (.int v3), some (.int v4), some (.int v5), some (.int (v6 + (j_k 1)))] [] τ3)))))
    else some (some (.int (j_k 1)), σ) := rfl

-- LastStirredModel.mean(I)I
set_option maxRecDepth 1000000 in
set_option maxHeartbeats 8000000 in
theorem t_146_0 (call : Nat → List Value → Sto → Option Rr) (again : Nat → j_L → List Value → Sto → Option Rr) (σ : Sto) (v0 : Nat) (v1 : Int32) :
    j_seg k_146 h_146 call again 2000 0 [some (.ref v0), some (.int v1), none, none, none] [] σ =
    j_c1 call 139 [.int v1] σ (fun x2 τ1 =>
    if x2 = 0 then (some (some (.int (j_k (-1))), τ1))
    else j_gP τ1 7 v0 5 (fun a3 =>
    j_ia τ1 a3 v1 (
    if (s_I τ1 a3 v1.toNatClampNeg) < 0 then (j_oc τ1 7 v0 (j_c1 call 131 [.ref v0, .int (j_k 1)] τ1 (fun x5 τ4 =>
     some (some (.int x5), τ4))))
    else j_gP τ1 7 v0 5 (fun a6 =>
    j_ia τ1 a6 v1 (
    if (s_I τ1 a6 v1.toNatClampNeg) = 0 then (j_oc τ1 7 v0 (j_c1 call 131 [.ref v0, .int (j_k 4)] τ1 (fun x8 τ7 =>
     some (some (.int x8), τ7))))
    else again 44 [some (.ref v0), some (.int v1), some (.long (Int64.ofNat 0)), none, some (.int (j_k 0))] [] τ1))))) := rfl

set_option maxRecDepth 1000000 in
set_option maxHeartbeats 8000000 in
theorem t_146_44 (call : Nat → List Value → Sto → Option Rr) (again : Nat → j_L → List Value → Sto → Option Rr) (σ : Sto) (v0 : Nat) (v1 : Int32) (v2 : Int64) (v4 : Int32) :
    j_seg k_146 h_146 call again 2000 44 [some (.ref v0), some (.int v1), some (.long v2), none, some (.int v4)] [] σ =
    j_gP σ 7 v0 5 (fun a1 =>
    j_ia σ a1 v1 (
    if v4 < (s_I σ a1 v1.toNatClampNeg) then (j_oc σ 7 v0 (j_c1 call 140 [.ref v0, .int v1, .int v4] σ (fun x3 τ2 =>
     again 44 [some (.ref v0), some (.int v1), some (.long (v2 + x3.toInt64)), none, some (.int (v4 + (j_k 1)))] [] τ2)))
    else j_gP σ 7 v0 5 (fun a4 =>
    j_ia σ a4 v1 (
    if (s_I σ a4 v1.toNatClampNeg).toInt64 = 0 then none else
    j_oc σ 7 v0 (j_c1 call 134 [.ref v0, .int ((v2 / (s_I σ a4 v1.toNatClampNeg).toInt64).toInt32), .int (j_k 1)] σ (fun x6 τ5 =>
    some (some (.int x6), τ5))))))) := rfl

-- LastStirredModel.isText(I)Z
set_option maxRecDepth 1000000 in
set_option maxHeartbeats 8000000 in
theorem t_147_0 (call : Nat → List Value → Sto → Option Rr) (again : Nat → j_L → List Value → Sto → Option Rr) (σ : Sto) (v0 : Int32) :
    j_seg k_147 h_147 call again 2000 0 [some (.int v0)] [] σ =
    j_c1 call 127 [.int v0, .int (j_k 0), .int (j_k 3)] σ (fun x2 τ1 =>
    if x2 = 0 ∨ x2 = 1 then some (some (.int x2), τ1) else none) := rfl

-- LastStirredModel.text(II)I
set_option maxRecDepth 1000000 in
set_option maxHeartbeats 8000000 in
theorem t_148_0 (call : Nat → List Value → Sto → Option Rr) (again : Nat → j_L → List Value → Sto → Option Rr) (σ : Sto) (v0 : Nat) (v1 : Int32) (v2 : Int32) :
    j_seg k_148 h_148 call again 2000 0 [some (.ref v0), some (.int v1), some (.int v2), none] [] σ =
    j_c1 call 147 [.int v1] σ (fun x2 τ1 =>
    if x2 = 0 then (some (some (.int (j_k (-1))), τ1))
    else if (j_k 80) < v2 then (some (some (.int (j_k (-1))), τ1))
    else if v2 < 0 then (j_oc τ1 7 v0 (j_c1 call 131 [.ref v0, .int (j_k 5)] τ1 (fun x4 τ3 =>
     some (some (.int x4), τ3))))
    else j_gP τ1 7 v0 8 (fun a5 =>
    j_is τ1 a5 v1 (let τ6 : Sto := s_uI τ1 a5 v1.toNatClampNeg v2;
    again 34 [some (.ref v0), some (.int v1), some (.int v2), some (.int (j_k 0))] [] τ6))) := rfl

set_option maxRecDepth 1000000 in
set_option maxHeartbeats 8000000 in
theorem t_148_34 (call : Nat → List Value → Sto → Option Rr) (again : Nat → j_L → List Value → Sto → Option Rr) (σ : Sto) (v0 : Nat) (v1 : Int32) (v2 : Int32) (v3 : Int32) :
    j_seg k_148 h_148 call again 2000 34 [some (.ref v0), some (.int v1), some (.int v2), some (.int v3)] [] σ =
    if v3 < (j_k 80) then (j_gP σ 7 v0 9 (fun a1 =>
     j_bs σ a1 (((j_k 80) * v1) + v3) (j_k 32) (fun τ2 =>
     again 34 [some (.ref v0), some (.int v1), some (.int v2), some (.int (v3 + (j_k 1)))] [] τ2)))
    else some (some (.int v2), σ) := rfl

-- LastStirredModel.put(III)I
set_option maxRecDepth 1000000 in
set_option maxHeartbeats 8000000 in
theorem t_149_0 (call : Nat → List Value → Sto → Option Rr) (again : Nat → j_L → List Value → Sto → Option Rr) (σ : Sto) (v0 : Nat) (v1 : Int32) (v2 : Int32) (v3 : Int32) :
    j_seg k_149 h_149 call again 2000 0 [some (.ref v0), some (.int v1), some (.int v2), some (.int v3), none] [] σ =
    j_c1 call 147 [.int v1] σ (fun x2 τ1 =>
    if x2 = 0 then (some (some (.int (j_k (-1))), τ1))
    else j_gP τ1 7 v0 8 (fun a3 =>
    j_ia τ1 a3 v1 (
    if (s_I τ1 a3 v1.toNatClampNeg) < 0 then (j_oc τ1 7 v0 (j_c1 call 131 [.ref v0, .int (j_k 1)] τ1 (fun x5 τ4 =>
     some (some (.int x5), τ4))))
    else j_gP τ1 7 v0 8 (fun a6 =>
    j_ia τ1 a6 v1 (
    j_c1 call 127 [.int v2, .int (j_k 0), .int ((s_I τ1 a6 v1.toNatClampNeg) - (j_k 1))] τ1 (fun x8 τ7 =>
    if x8 = 0 then (j_oc τ7 7 v0 (j_c1 call 131 [.ref v0, .int (j_k 2)] τ7 (fun x10 τ9 =>
     some (some (.int x10), τ9))))
    else j_gP τ7 7 v0 9 (fun a11 =>
    j_ba τ7 a11 (((j_k 80) * v1) + v2) (
    j_gP τ7 7 v0 9 (fun a12 =>
    j_bs τ7 a12 (((j_k 80) * v1) + v2) v3.toInt8.toInt32 (fun τ13 =>
    some (some (.int ((j_k 1000) + (s_I τ7 a11 (((j_k 80) * v1) + v2).toNatClampNeg))), τ13))))))))))) := rfl

-- LastStirredModel.byteAt(II)I
set_option maxRecDepth 1000000 in
set_option maxHeartbeats 8000000 in
theorem t_150_0 (call : Nat → List Value → Sto → Option Rr) (again : Nat → j_L → List Value → Sto → Option Rr) (σ : Sto) (v0 : Nat) (v1 : Int32) (v2 : Int32) :
    j_seg k_150 h_150 call again 2000 0 [some (.ref v0), some (.int v1), some (.int v2)] [] σ =
    j_gP σ 7 v0 8 (fun a1 =>
    j_ia σ a1 v1 (
    if v2 < (s_I σ a1 v1.toNatClampNeg) then (j_gP σ 7 v0 9 (fun a2 =>
     j_ba σ a2 (((j_k 80) * v1) + v2) (
     some (some (.int (s_I σ a2 (((j_k 80) * v1) + v2).toNatClampNeg)), σ))))
    else some (some (.int (j_k 0)), σ))) := rfl

-- LastStirredModel.signOf(I)I
set_option maxRecDepth 1000000 in
set_option maxHeartbeats 8000000 in
theorem t_151_0 (call : Nat → List Value → Sto → Option Rr) (again : Nat → j_L → List Value → Sto → Option Rr) (σ : Sto) (v0 : Int32) :
    j_seg k_151 h_151 call again 2000 0 [some (.int v0)] [] σ =
    if v0 = (j_k 46) then (some (some (.int (j_k 0)), σ))
    else if v0 = (j_k 35) then (some (some (.int (j_k 1)), σ))
    else if v0 = (j_k 126) then (some (some (.int (j_k 2)), σ))
    else if v0 = (j_k 111) then (some (some (.int (j_k 3)), σ))
    else if v0 = (j_k 61) then (some (some (.int (j_k 4)), σ))
    else some (some (.int (j_k (-9))), σ) := rfl

-- LastStirredModel.kindOf(I)I
set_option maxRecDepth 1000000 in
set_option maxHeartbeats 8000000 in
theorem t_152_0 (call : Nat → List Value → Sto → Option Rr) (again : Nat → j_L → List Value → Sto → Option Rr) (σ : Sto) (v0 : Int32) :
    j_seg k_152 h_152 call again 2000 0 [some (.int v0)] [] σ =
    if v0 = (j_k 98) then (some (some (.int (j_k 0)), σ))
    else if v0 = (j_k 99) then (some (some (.int (j_k 3)), σ))
    else if v0 = (j_k 100) then (some (some (.int (j_k (-9))), σ))
    else if v0 = (j_k 101) then (some (some (.int (j_k (-9))), σ))
    else if v0 = (j_k 102) then (some (some (.int (j_k (-9))), σ))
    else if v0 = (j_k 103) then (some (some (.int (j_k (-9))), σ))
    else if v0 = (j_k 104) then (some (some (.int (j_k (-9))), σ))
    else if v0 = (j_k 105) then (some (some (.int (j_k (-9))), σ))
    else if v0 = (j_k 106) then (some (some (.int (j_k (-9))), σ))
    else if v0 = (j_k 107) then (some (some (.int (j_k (-9))), σ))
    else if v0 = (j_k 108) then (some (some (.int (j_k 2)), σ))
    else if v0 = (j_k 109) then (some (some (.int (j_k 4)), σ))
    else if v0 = (j_k 110) then (some (some (.int (j_k (-9))), σ))
    else if v0 = (j_k 111) then (some (some (.int (j_k (-9))), σ))
    else if v0 = (j_k 112) then (some (some (.int (j_k (-9))), σ))
    else if v0 = (j_k 113) then (some (some (.int (j_k (-9))), σ))
    else if v0 = (j_k 114) then (some (some (.int (j_k (-9))), σ))
    else if v0 = (j_k 115) then (some (some (.int (j_k 1)), σ))
    else if v0 = (j_k 116) then (some (some (.int (j_k 5)), σ))
    else some (some (.int (j_k (-9))), σ) := rfl

-- LastStirredModel.figure(III)Z
set_option maxRecDepth 1000000 in
set_option maxHeartbeats 8000000 in
theorem t_153_0 (call : Nat → List Value → Sto → Option Rr) (again : Nat → j_L → List Value → Sto → Option Rr) (σ : Sto) (v0 : Nat) (v1 : Int32) (v2 : Int32) (v3 : Int32) :
    j_seg k_153 h_153 call again 2000 0 [some (.ref v0), some (.int v1), some (.int v2), some (.int v3), none] [] σ =
    j_oc σ 7 v0 (j_oc σ 7 v0 (j_c1 call 150 [.ref v0, .int v1, .int (s_I σ v0 15)] σ (fun x2 τ1 =>
    if v0 < j_b then j_oc τ1 7 v0 (let τ3 : Sto := s_uI τ1 v0 16 (x2 - (j_k 48));
    j_oc τ3 7 v0 (j_c1 call 127 [.int (s_I τ3 v0 16), .int v2, .int v3] τ3 (fun x5 τ4 =>
    j_oc τ4 7 v0 (if x5 = 0 then (if v0 < j_b then j_oc τ4 7 v0 (let τ6 : Sto := s_uI τ4 v0 15 ((s_I τ4 v0 15) + (j_k 0));
     if x5 = 0 ∨ x5 = 1 then some (some (.int x5), τ6) else none) else none)
    else if v0 < j_b then j_oc τ4 7 v0 (let τ7 : Sto := s_uI τ4 v0 15 ((s_I τ4 v0 15) + (j_k 1));
    if x5 = 0 ∨ x5 = 1 then some (some (.int x5), τ7) else none) else none)))) else none))) := rfl

-- LastStirredModel.readsGrid(I)Z
set_option maxRecDepth 1000000 in
set_option maxHeartbeats 8000000 in
theorem t_154_0 (call : Nat → List Value → Sto → Option Rr) (again : Nat → j_L → List Value → Sto → Option Rr) (σ : Sto) (v0 : Nat) (v1 : Int32) :
    j_seg k_154 h_154 call again 2000 0 [some (.ref v0), some (.int v1), none] [] σ =
    j_oc σ 7 v0 (j_oc σ 7 v0 (j_c1 call 150 [.ref v0, .int v1, .int (s_I σ v0 15)] σ (fun x2 τ1 =>
    if x2 = (j_k 103) then (j_oc τ1 7 v0 (if v0 < j_b then j_oc τ1 7 v0 (let τ3 : Sto := s_uI τ1 v0 15 ((s_I τ1 v0 15) + (j_k 1));
     j_oc τ3 7 v0 (j_c1 call 153 [.ref v0, .int v1, .int (j_k 2), .int (j_k 6)] τ3 (fun x5 τ4 =>
     if x5 = 0 then (if (j_k 0) = 0 ∨ (j_k 0) = 1 then some (some (.int (j_k 0)), τ4) else none)
     else j_oc τ4 7 v0 (j_oc τ4 7 v0 (j_c1 call 153 [.ref v0, .int v1, .int (j_k 1), .int (j_k 5)] τ4 (fun x7 τ6 =>
     if x7 = 0 then (if (j_k 0) = 0 ∨ (j_k 0) = 1 then some (some (.int (j_k 0)), τ6) else none)
     else if v0 < j_b then j_oc τ6 7 v0 (let τ8 : Sto := s_uI τ6 v0 17 (s_I τ4 v0 16);
     j_oc τ8 7 v0 (if v0 < j_b then j_oc τ8 7 v0 (let τ9 : Sto := s_uI τ8 v0 18 (s_I τ8 v0 16);
     if (j_k 1) = 0 ∨ (j_k 1) = 1 then some (some (.int (j_k 1)), τ9) else none) else none)) else none)))))) else none))
    else if (j_k 0) = 0 ∨ (j_k 0) = 1 then some (some (.int (j_k 0)), τ1) else none))) := rfl

-- LastStirredModel.readsSign(I)Z
set_option maxRecDepth 1000000 in
set_option maxHeartbeats 8000000 in
theorem t_155_0 (call : Nat → List Value → Sto → Option Rr) (again : Nat → j_L → List Value → Sto → Option Rr) (σ : Sto) (v0 : Nat) (v1 : Int32) :
    j_seg k_155 h_155 call again 2000 0 [some (.ref v0), some (.int v1), none] [] σ =
    j_oc σ 7 v0 (j_oc σ 7 v0 (j_c1 call 150 [.ref v0, .int v1, .int (s_I σ v0 15)] σ (fun x2 τ1 =>
    j_c1 call 151 [.int x2] τ1 (fun x4 τ3 =>
    if x4 = (j_k (-9)) then (if (j_k 0) = 0 ∨ (j_k 0) = 1 then some (some (.int (j_k 0)), τ3) else none)
    else j_gP τ3 7 v0 21 (fun a5 =>
    j_oc τ3 7 v0 (j_is τ3 a5 (s_I τ3 v0 19) (let τ6 : Sto := s_uI τ3 a5 (s_I τ3 v0 19).toNatClampNeg x4;
    j_oc τ6 7 v0 (if v0 < j_b then j_oc τ6 7 v0 (let τ7 : Sto := s_uI τ6 v0 19 ((s_I τ6 v0 19) + (j_k 1));
    j_oc τ7 7 v0 (if v0 < j_b then j_oc τ7 7 v0 (let τ8 : Sto := s_uI τ7 v0 15 ((s_I τ7 v0 15) + (j_k 1));
    if (j_k 1) = 0 ∨ (j_k 1) = 1 then some (some (.int (j_k 1)), τ8) else none) else none)) else none)))))))) := rfl

-- LastStirredModel.readsBeast(I)Z
set_option maxRecDepth 1000000 in
set_option maxHeartbeats 8000000 in
theorem t_156_0 (call : Nat → List Value → Sto → Option Rr) (again : Nat → j_L → List Value → Sto → Option Rr) (σ : Sto) (v0 : Nat) (v1 : Int32) :
    j_seg k_156 h_156 call again 2000 0 [some (.ref v0), some (.int v1), none, none, none, none, none] [] σ =
    j_oc σ 7 v0 (j_oc σ 7 v0 (j_c1 call 150 [.ref v0, .int v1, .int (s_I σ v0 15)] σ (fun x2 τ1 =>
    j_c1 call 152 [.int x2] τ1 (fun x4 τ3 =>
    if x4 = (j_k (-9)) then (if (j_k 0) = 0 ∨ (j_k 0) = 1 then some (some (.int (j_k 0)), τ3) else none)
    else j_oc τ3 7 v0 (if (s_I τ3 v0 20) = (j_k 4) then (if (j_k 0) = 0 ∨ (j_k 0) = 1 then some (some (.int (j_k 0)), τ3) else none)
    else j_oc τ3 7 v0 (if v0 < j_b then j_oc τ3 7 v0 (let τ5 : Sto := s_uI τ3 v0 15 ((s_I τ3 v0 15) + (j_k 1));
    j_oc τ5 7 v0 (j_oc τ5 7 v0 (j_c1 call 153 [.ref v0, .int v1, .int (j_k 0), .int ((s_I τ5 v0 17) - (j_k 1))] τ5 (fun x7 τ6 =>
    if x7 = 0 then (if (j_k 0) = 0 ∨ (j_k 0) = 1 then some (some (.int (j_k 0)), τ6) else none)
    else j_oc τ6 7 v0 (j_oc τ6 7 v0 (j_oc τ6 7 v0 (j_c1 call 150 [.ref v0, .int v1, .int (s_I τ6 v0 15)] τ6 (fun x9 τ8 =>
    j_oc τ8 7 v0 (j_c1 call 127 [.int (x9 - (j_k 48)), .int (j_k 0), .int ((s_I τ8 v0 18) - (j_k 1))] τ8 (fun x11 τ10 =>
    if x11 = 0 then (again 136 [some (.ref v0), some (.int v1), some (.int x4), some (.int (s_I τ6 v0 16)), some (.int (x9 - (j_k 48))), some (.int (j_k 0)), some (.int (j_k 0))] [] τ10)
    else j_gP τ10 7 v0 21 (fun a12 =>
    j_oc τ10 7 v0 (j_ia τ10 a12 (((s_I τ10 v0 17) * (x9 - (j_k 48))) + (s_I τ6 v0 16)) (
    if (s_I τ10 a12 (((s_I τ10 v0 17) * (x9 - (j_k 48))) + (s_I τ6 v0 16)).toNatClampNeg) = (j_k 1) then (again 136 [some (.ref v0), some (.int v1), some (.int x4), some (.int (s_I τ6 v0 16)), some (.int (x9 - (j_k 48))), some (.int (j_k 0)), some (.int (j_k 0))] [] τ10)
    else j_gP τ10 7 v0 21 (fun a13 =>
    j_oc τ10 7 v0 (j_ia τ10 a13 (((s_I τ10 v0 17) * (x9 - (j_k 48))) + (s_I τ6 v0 16)) (
    if (s_I τ10 a13 (((s_I τ10 v0 17) * (x9 - (j_k 48))) + (s_I τ6 v0 16)).toNatClampNeg) = (j_k 2) then (again 136 [some (.ref v0), some (.int v1), some (.int x4), some (.int (s_I τ6 v0 16)), some (.int (x9 - (j_k 48))), some (.int (j_k 0)), some (.int (j_k 0))] [] τ10)
    else again 136 [some (.ref v0), some (.int v1), some (.int x4), some (.int (s_I τ6 v0 16)), some (.int (x9 - (j_k 48))), some (.int (j_k 1)), some (.int (j_k 0))] [] τ10)))))))))))))))) else none)))))) := rfl

set_option maxRecDepth 1000000 in
set_option maxHeartbeats 8000000 in
theorem t_156_136 (call : Nat → List Value → Sto → Option Rr) (again : Nat → j_L → List Value → Sto → Option Rr) (σ : Sto) (v0 : Nat) (v1 : Int32) (v2 : Int32) (v3 : Int32) (v4 : Int32) (v5 : Int32) (v6 : Int32) :
    j_seg k_156 h_156 call again 2000 136 [some (.ref v0), some (.int v1), some (.int v2), some (.int v3), some (.int v4), some (.int v5), some (.int v6)] [] σ =
    j_oc σ 7 v0 (if v6 < (s_I σ v0 20) then (if v5 = 0 then (if v5 = 0 then (if (j_k 0) = 0 ∨ (j_k 0) = 1 then some (some (.int (j_k 0)), σ) else none)
      else j_oc σ 7 v0 (if v0 < j_b then j_oc σ 7 v0 (let τ1 : Sto := s_uI σ v0 15 ((s_I σ v0 15) + (j_k 1));
      j_gP τ1 7 v0 22 (fun a2 =>
      j_oc τ1 7 v0 (j_is τ1 a2 (s_I τ1 v0 20) (let τ3 : Sto := s_uI τ1 a2 (s_I τ1 v0 20).toNatClampNeg v2;
      j_gP τ3 7 v0 23 (fun a4 =>
      j_oc τ3 7 v0 (j_oc τ3 7 v0 (j_is τ3 a4 (s_I τ3 v0 20) (let τ5 : Sto := s_uI τ3 a4 (s_I τ3 v0 20).toNatClampNeg (((s_I τ3 v0 17) * v4) + v3);
      j_oc τ5 7 v0 (if v0 < j_b then j_oc τ5 7 v0 (let τ6 : Sto := s_uI τ5 v0 20 ((s_I τ5 v0 20) + (j_k 1));
      if (j_k 1) = 0 ∨ (j_k 1) = 1 then some (some (.int (j_k 1)), τ6) else none) else none))))))))) else none))
     else j_gP σ 7 v0 23 (fun a7 =>
     j_ia σ a7 v6 (
     j_oc σ 7 v0 (if (s_I σ a7 v6.toNatClampNeg) = (((s_I σ v0 17) * v4) + v3) then (again 136 [some (.ref v0), some (.int v1), some (.int v2), some (.int v3), some (.int v4), some (.int (j_k 0)), some (.int (v6 + (j_k 1)))] [] σ)
     else again 136 [some (.ref v0), some (.int v1), some (.int v2), some (.int v3), some (.int v4), some (.int (j_k 1)), some (.int (v6 + (j_k 1)))] [] σ))))
    else if v5 = 0 then (if (j_k 0) = 0 ∨ (j_k 0) = 1 then some (some (.int (j_k 0)), σ) else none)
    else j_oc σ 7 v0 (if v0 < j_b then j_oc σ 7 v0 (let τ8 : Sto := s_uI σ v0 15 ((s_I σ v0 15) + (j_k 1));
    j_gP τ8 7 v0 22 (fun a9 =>
    j_oc τ8 7 v0 (j_is τ8 a9 (s_I τ8 v0 20) (let τ10 : Sto := s_uI τ8 a9 (s_I τ8 v0 20).toNatClampNeg v2;
    j_gP τ10 7 v0 23 (fun a11 =>
    j_oc τ10 7 v0 (j_oc τ10 7 v0 (j_is τ10 a11 (s_I τ10 v0 20) (let τ12 : Sto := s_uI τ10 a11 (s_I τ10 v0 20).toNatClampNeg (((s_I τ10 v0 17) * v4) + v3);
    j_oc τ12 7 v0 (if v0 < j_b then j_oc τ12 7 v0 (let τ13 : Sto := s_uI τ12 v0 20 ((s_I τ12 v0 20) + (j_k 1));
    if (j_k 1) = 0 ∨ (j_k 1) = 1 then some (some (.int (j_k 1)), τ13) else none) else none))))))))) else none)) := rfl

-- LastStirredModel.faultOf(I)I
set_option maxRecDepth 1000000 in
set_option maxHeartbeats 8000000 in
theorem t_157_0 (call : Nat → List Value → Sto → Option Rr) (again : Nat → j_L → List Value → Sto → Option Rr) (σ : Sto) (v0 : Nat) (v1 : Int32) :
    j_seg k_157 h_157 call again 2000 0 [some (.ref v0), some (.int v1)] [] σ =
    if v0 < j_b then j_oc σ 7 v0 (let τ1 : Sto := s_uI σ v0 15 (j_k 0);
    if v0 < j_b then j_oc τ1 7 v0 (let τ2 : Sto := s_uI τ1 v0 17 (j_k 0);
    if v0 < j_b then j_oc τ2 7 v0 (let τ3 : Sto := s_uI τ2 v0 18 (j_k 0);
    if v0 < j_b then j_oc τ3 7 v0 (let τ4 : Sto := s_uI τ3 v0 19 (j_k 0);
    if v0 < j_b then j_oc τ4 7 v0 (let τ5 : Sto := s_uI τ4 v0 20 (j_k 0);
    again 25 [some (.ref v0), some (.int v1)] [] τ5) else none) else none) else none) else none) else none := rfl

set_option maxRecDepth 1000000 in
set_option maxHeartbeats 8000000 in
theorem t_157_25 (call : Nat → List Value → Sto → Option Rr) (again : Nat → j_L → List Value → Sto → Option Rr) (σ : Sto) (v0 : Nat) (v1 : Int32) :
    j_seg k_157 h_157 call again 2000 25 [some (.ref v0), some (.int v1)] [] σ =
    j_oc σ 7 v0 (j_gP σ 7 v0 8 (fun a1 =>
    j_ia σ a1 v1 (
    if (s_I σ v0 15) < (s_I σ a1 v1.toNatClampNeg) then (j_oc σ 7 v0 (j_oc σ 7 v0 (j_c1 call 150 [.ref v0, .int v1, .int (s_I σ v0 15)] σ (fun x3 τ2 =>
     if x3 = (j_k 32) then (j_oc τ2 7 v0 (if v0 < j_b then j_oc τ2 7 v0 (let τ4 : Sto := s_uI τ2 v0 15 ((s_I τ2 v0 15) + (j_k 1));
      again 25 [some (.ref v0), some (.int v1)] [] τ4) else none))
     else j_oc τ2 7 v0 (if (s_I τ2 v0 17) = 0 then (j_oc τ2 7 v0 (j_c1 call 154 [.ref v0, .int v1] τ2 (fun x6 τ5 =>
      if x6 = 0 then (j_oc τ5 7 v0 (some (some (.int (s_I τ5 v0 15)), τ5)))
      else again 25 [some (.ref v0), some (.int v1)] [] τ5)))
     else j_oc τ2 7 v0 (j_oc τ2 7 v0 (j_oc τ2 7 v0 (if (s_I τ2 v0 19) < ((s_I τ2 v0 17) * (s_I τ2 v0 18)) then (j_oc τ2 7 v0 (j_c1 call 155 [.ref v0, .int v1] τ2 (fun x8 τ7 =>
      if x8 = 0 then (j_oc τ7 7 v0 (some (some (.int (s_I τ7 v0 15)), τ7)))
      else again 25 [some (.ref v0), some (.int v1)] [] τ7)))
     else j_oc τ2 7 v0 (j_c1 call 156 [.ref v0, .int v1] τ2 (fun x10 τ9 =>
     if x10 = 0 then (j_oc τ9 7 v0 (some (some (.int (s_I τ9 v0 15)), τ9)))
     else again 25 [some (.ref v0), some (.int v1)] [] τ9))))))))))
    else j_oc σ 7 v0 (if (s_I σ v0 17) = 0 then (j_gP σ 7 v0 8 (fun a11 =>
     j_ia σ a11 v1 (
     some (some (.int (s_I σ a11 v1.toNatClampNeg)), σ))))
    else j_oc σ 7 v0 (j_oc σ 7 v0 (j_oc σ 7 v0 (if (s_I σ v0 19) < ((s_I σ v0 17) * (s_I σ v0 18)) then (j_gP σ 7 v0 8 (fun a12 =>
     j_ia σ a12 v1 (
     some (some (.int (s_I σ a12 v1.toNatClampNeg)), σ))))
    else some (some (.int (j_k (-9))), σ)))))))) := rfl

-- LastStirredModel.fault(I)I
set_option maxRecDepth 1000000 in
set_option maxHeartbeats 8000000 in
theorem t_158_0 (call : Nat → List Value → Sto → Option Rr) (again : Nat → j_L → List Value → Sto → Option Rr) (σ : Sto) (v0 : Nat) (v1 : Int32) :
    j_seg k_158 h_158 call again 2000 0 [some (.ref v0), some (.int v1)] [] σ =
    j_c1 call 147 [.int v1] σ (fun x2 τ1 =>
    if x2 = 0 then (some (some (.int (j_k (-1))), τ1))
    else j_gP τ1 7 v0 8 (fun a3 =>
    j_ia τ1 a3 v1 (
    if (s_I τ1 a3 v1.toNatClampNeg) < 0 then (j_oc τ1 7 v0 (j_c1 call 131 [.ref v0, .int (j_k 1)] τ1 (fun x5 τ4 =>
     some (some (.int x5), τ4))))
    else j_oc τ1 7 v0 (j_c1 call 157 [.ref v0, .int v1] τ1 (fun x7 τ6 =>
    some (some (.int x7), τ6)))))) := rfl

-- LastStirredModel.ground(I)I
set_option maxRecDepth 1000000 in
set_option maxHeartbeats 8000000 in
theorem t_159_0 (call : Nat → List Value → Sto → Option Rr) (again : Nat → j_L → List Value → Sto → Option Rr) (σ : Sto) (v0 : Nat) (v1 : Int32) :
    j_seg k_159 h_159 call again 2000 0 [some (.ref v0), some (.int v1), none] [] σ =
    j_c1 call 147 [.int v1] σ (fun x2 τ1 =>
    if x2 = 0 then (some (some (.int (j_k (-1))), τ1))
    else j_gP τ1 7 v0 8 (fun a3 =>
    j_ia τ1 a3 v1 (
    if (s_I τ1 a3 v1.toNatClampNeg) < 0 then (j_oc τ1 7 v0 (j_c1 call 131 [.ref v0, .int (j_k 1)] τ1 (fun x5 τ4 =>
     some (some (.int x5), τ4))))
    else j_oc τ1 7 v0 (j_c1 call 157 [.ref v0, .int v1] τ1 (fun x7 τ6 =>
    if x7 = (j_k (-9)) then (j_oc τ6 7 v0 (if v0 < j_b then j_oc τ6 7 v0 (let τ8 : Sto := s_uI τ6 v0 10 (s_I τ6 v0 17);
     j_oc τ8 7 v0 (if v0 < j_b then j_oc τ8 7 v0 (let τ9 : Sto := s_uI τ8 v0 11 (s_I τ8 v0 19);
     j_oc τ9 7 v0 (if v0 < j_b then j_oc τ9 7 v0 (let τ10 : Sto := s_uI τ9 v0 13 (s_I τ9 v0 20);
     again 63 [some (.ref v0), some (.int v1), some (.int (j_k 0))] [] τ10) else none)) else none)) else none))
    else some (some (.int (j_k (-4))), τ6)))))) := rfl

set_option maxRecDepth 1000000 in
set_option maxHeartbeats 8000000 in
theorem t_159_63 (call : Nat → List Value → Sto → Option Rr) (again : Nat → j_L → List Value → Sto → Option Rr) (σ : Sto) (v0 : Nat) (v1 : Int32) (v2 : Int32) :
    j_seg k_159 h_159 call again 2000 63 [some (.ref v0), some (.int v1), some (.int v2)] [] σ =
    j_oc σ 7 v0 (if v2 < (s_I σ v0 11) then (j_gP σ 7 v0 12 (fun a1 =>
     j_gP σ 7 v0 21 (fun a2 =>
     j_ia σ a2 v2 (
     j_is σ a1 v2 (let τ3 : Sto := s_uI σ a1 v2.toNatClampNeg (s_I σ a2 v2.toNatClampNeg);
     again 63 [some (.ref v0), some (.int v1), some (.int (v2 + (j_k 1)))] [] τ3)))))
    else j_oc σ 7 v0 (j_c0 call 163 [.ref v0, .int (j_k 0), .int (j_k 0), .int (j_k 0)] σ (fun τ4 =>
    j_oc τ4 7 v0 (j_c0 call 163 [.ref v0, .int (j_k 0), .int (j_k 1), .int (j_k (-9))] τ4 (fun τ5 =>
    j_oc τ5 7 v0 (j_c0 call 163 [.ref v0, .int (j_k 0), .int (j_k 2), .int (j_k (-9))] τ5 (fun τ6 =>
    j_oc τ6 7 v0 (j_c0 call 163 [.ref v0, .int (j_k 0), .int (j_k 3), .int (j_k (-9))] τ6 (fun τ7 =>
    j_oc τ7 7 v0 (j_c0 call 163 [.ref v0, .int (j_k 0), .int (j_k 4), .int (j_k (-9))] τ7 (fun τ8 =>
    again 130 [some (.ref v0), some (.int v1), some (.int (j_k 0))] [] τ8))))))))))) := rfl

set_option maxRecDepth 1000000 in
set_option maxHeartbeats 8000000 in
theorem t_159_130 (call : Nat → List Value → Sto → Option Rr) (again : Nat → j_L → List Value → Sto → Option Rr) (σ : Sto) (v0 : Nat) (v1 : Int32) (v2 : Int32) :
    j_seg k_159 h_159 call again 2000 130 [some (.ref v0), some (.int v1), some (.int v2)] [] σ =
    if v2 < (j_k 4) then (j_gP σ 7 v0 14 (fun a1 =>
     j_gP σ 7 v0 22 (fun a2 =>
     j_ia σ a2 v2 (
     j_is σ a1 v2 (let τ3 : Sto := s_uI σ a1 v2.toNatClampNeg (s_I σ a2 v2.toNatClampNeg);
     j_oc τ3 7 v0 (if v2 < (s_I τ3 v0 13) then (j_gP τ3 7 v0 23 (fun a4 =>
      j_ia τ3 a4 v2 (
      j_oc τ3 7 v0 (j_c0 call 163 [.ref v0, .int (j_k 0), .int ((j_k 5) + v2), .int (s_I τ3 a4 v2.toNatClampNeg)] τ3 (fun τ5 =>
      j_oc τ5 7 v0 (j_c0 call 163 [.ref v0, .int (j_k 0), .int ((j_k 9) + v2), .int (j_k 0)] τ5 (fun τ6 =>
      again 130 [some (.ref v0), some (.int v1), some (.int (v2 + (j_k 1)))] [] τ6)))))))
     else j_oc τ3 7 v0 (j_c0 call 163 [.ref v0, .int (j_k 0), .int ((j_k 5) + v2), .int (j_k (-9))] τ3 (fun τ7 =>
     j_oc τ7 7 v0 (j_c0 call 163 [.ref v0, .int (j_k 0), .int ((j_k 9) + v2), .int (j_k 0)] τ7 (fun τ8 =>
     again 130 [some (.ref v0), some (.int v1), some (.int (v2 + (j_k 1)))] [] τ8))))))))))
    else again 192 [some (.ref v0), some (.int v1), some (.int (j_k 0))] [] σ := rfl

set_option maxRecDepth 1000000 in
set_option maxHeartbeats 8000000 in
theorem t_159_192 (call : Nat → List Value → Sto → Option Rr) (again : Nat → j_L → List Value → Sto → Option Rr) (σ : Sto) (v0 : Nat) (v1 : Int32) (v2 : Int32) :
    j_seg k_159 h_159 call again 2000 192 [some (.ref v0), some (.int v1), some (.int v2)] [] σ =
    if v2 < (j_k 3) then (j_gP σ 7 v0 25 (fun a1 =>
     j_bs σ a1 v2 (j_k 0) (fun τ2 =>
     again 192 [some (.ref v0), some (.int v1), some (.int (v2 + (j_k 1)))] [] τ2)))
    else j_oc σ 7 v0 (some (some (.int (s_I σ v0 13)), σ)) := rfl

-- LastStirredModel.isCell(I)Z
set_option maxRecDepth 1000000 in
set_option maxHeartbeats 8000000 in
theorem t_160_0 (call : Nat → List Value → Sto → Option Rr) (again : Nat → j_L → List Value → Sto → Option Rr) (σ : Sto) (v0 : Nat) (v1 : Int32) :
    j_seg k_160 h_160 call again 2000 0 [some (.ref v0), some (.int v1)] [] σ =
    j_oc σ 7 v0 (j_c1 call 127 [.int v1, .int (j_k 0), .int ((s_I σ v0 11) - (j_k 1))] σ (fun x2 τ1 =>
    if x2 = 0 ∨ x2 = 1 then some (some (.int x2), τ1) else none)) := rfl

-- LastStirredModel.isBeast(I)Z
set_option maxRecDepth 1000000 in
set_option maxHeartbeats 8000000 in
theorem t_161_0 (call : Nat → List Value → Sto → Option Rr) (again : Nat → j_L → List Value → Sto → Option Rr) (σ : Sto) (v0 : Nat) (v1 : Int32) :
    j_seg k_161 h_161 call again 2000 0 [some (.ref v0), some (.int v1)] [] σ =
    j_oc σ 7 v0 (j_c1 call 127 [.int v1, .int (j_k 0), .int ((s_I σ v0 13) - (j_k 1))] σ (fun x2 τ1 =>
    if x2 = 0 ∨ x2 = 1 then some (some (.int x2), τ1) else none)) := rfl

-- LastStirredModel.v(II)I
set_option maxRecDepth 1000000 in
set_option maxHeartbeats 8000000 in
theorem t_162_0 (call : Nat → List Value → Sto → Option Rr) (again : Nat → j_L → List Value → Sto → Option Rr) (σ : Sto) (v0 : Nat) (v1 : Int32) (v2 : Int32) :
    j_seg k_162 h_162 call again 2000 0 [some (.ref v0), some (.int v1), some (.int v2)] [] σ =
    j_gP σ 7 v0 24 (fun a1 =>
    j_ia σ a1 (((j_k 13) * v1) + v2) (
    some (some (.int (s_I σ a1 (((j_k 13) * v1) + v2).toNatClampNeg)), σ))) := rfl

-- LastStirredModel.place(III)V
set_option maxRecDepth 1000000 in
set_option maxHeartbeats 8000000 in
theorem t_163_0 (call : Nat → List Value → Sto → Option Rr) (again : Nat → j_L → List Value → Sto → Option Rr) (σ : Sto) (v0 : Nat) (v1 : Int32) (v2 : Int32) (v3 : Int32) :
    j_seg k_163 h_163 call again 2000 0 [some (.ref v0), some (.int v1), some (.int v2), some (.int v3)] [] σ =
    j_gP σ 7 v0 24 (fun a1 =>
    j_is σ a1 (((j_k 13) * v1) + v2) (let τ2 : Sto := s_uI σ a1 (((j_k 13) * v1) + v2).toNatClampNeg v3;
    some (none, τ2))) := rfl

-- LastStirredModel.copyFlock(II)V
set_option maxRecDepth 1000000 in
set_option maxHeartbeats 8000000 in
theorem t_164_0 (call : Nat → List Value → Sto → Option Rr) (again : Nat → j_L → List Value → Sto → Option Rr) (σ : Sto) (v0 : Nat) (v1 : Int32) (v2 : Int32) :
    j_seg k_164 h_164 call again 2000 0 [some (.ref v0), some (.int v1), some (.int v2), none] [] σ =
    again 2 [some (.ref v0), some (.int v1), some (.int v2), some (.int (j_k 0))] [] σ := rfl

set_option maxRecDepth 1000000 in
set_option maxHeartbeats 8000000 in
theorem t_164_2 (call : Nat → List Value → Sto → Option Rr) (again : Nat → j_L → List Value → Sto → Option Rr) (σ : Sto) (v0 : Nat) (v1 : Int32) (v2 : Int32) (v3 : Int32) :
    j_seg k_164 h_164 call again 2000 2 [some (.ref v0), some (.int v1), some (.int v2), some (.int v3)] [] σ =
    if v3 < (j_k 13) then (j_oc σ 7 v0 (j_c1 call 162 [.ref v0, .int v1, .int v3] σ (fun x2 τ1 =>
     j_oc τ1 7 v0 (j_c0 call 163 [.ref v0, .int v2, .int v3, .int x2] τ1 (fun τ3 =>
     again 2 [some (.ref v0), some (.int v1), some (.int v2), some (.int (v3 + (j_k 1)))] [] τ3)))))
    else some (none, σ) := rfl

-- LastStirredModel.isLost(II)Z
set_option maxRecDepth 1000000 in
set_option maxHeartbeats 8000000 in
theorem t_165_0 (call : Nat → List Value → Sto → Option Rr) (again : Nat → j_L → List Value → Sto → Option Rr) (σ : Sto) (v0 : Nat) (v1 : Int32) (v2 : Int32) :
    j_seg k_165 h_165 call again 2000 0 [some (.ref v0), some (.int v1), some (.int v2)] [] σ =
    j_oc σ 7 v0 (j_c1 call 162 [.ref v0, .int v1, .int ((j_k 5) + v2)] σ (fun x2 τ1 =>
    if x2 = (j_k (-9)) then (if (j_k 1) = 0 ∨ (j_k 1) = 1 then some (some (.int (j_k 1)), τ1) else none)
    else if (j_k 0) = 0 ∨ (j_k 0) = 1 then some (some (.int (j_k 0)), τ1) else none)) := rfl

-- LastStirredModel.lostMany(I)I
set_option maxRecDepth 1000000 in
set_option maxHeartbeats 8000000 in
theorem t_166_0 (call : Nat → List Value → Sto → Option Rr) (again : Nat → j_L → List Value → Sto → Option Rr) (σ : Sto) (v0 : Nat) (v1 : Int32) :
    j_seg k_166 h_166 call again 2000 0 [some (.ref v0), some (.int v1), none, none] [] σ =
    again 4 [some (.ref v0), some (.int v1), some (.int (j_k 0)), some (.int (j_k 0))] [] σ := rfl

set_option maxRecDepth 1000000 in
set_option maxHeartbeats 8000000 in
theorem t_166_4 (call : Nat → List Value → Sto → Option Rr) (again : Nat → j_L → List Value → Sto → Option Rr) (σ : Sto) (v0 : Nat) (v1 : Int32) (v2 : Int32) (v3 : Int32) :
    j_seg k_166 h_166 call again 2000 4 [some (.ref v0), some (.int v1), some (.int v2), some (.int v3)] [] σ =
    j_oc σ 7 v0 (if v3 < (s_I σ v0 13) then (j_oc σ 7 v0 (j_c1 call 165 [.ref v0, .int v1, .int v3] σ (fun x2 τ1 =>
     if x2 = 0 then (again 4 [some (.ref v0), some (.int v1), some (.int (v2 + (j_k 0))), some (.int (v3 + (j_k 1)))] [] τ1)
     else again 4 [some (.ref v0), some (.int v1), some (.int (v2 + (j_k 1))), some (.int (v3 + (j_k 1)))] [] τ1)))
    else some (some (.int v2), σ)) := rfl

-- LastStirredModel.whoIn(III)I
set_option maxRecDepth 1000000 in
set_option maxHeartbeats 8000000 in
theorem t_167_0 (call : Nat → List Value → Sto → Option Rr) (again : Nat → j_L → List Value → Sto → Option Rr) (σ : Sto) (v0 : Nat) (v1 : Int32) (v2 : Int32) (v3 : Int32) :
    j_seg k_167 h_167 call again 2000 0 [some (.ref v0), some (.int v1), some (.int v2), some (.int v3), none] [] σ =
    again 3 [some (.ref v0), some (.int v1), some (.int v2), some (.int v3), some (.int (j_k 0))] [] σ := rfl

set_option maxRecDepth 1000000 in
set_option maxHeartbeats 8000000 in
theorem t_167_3 (call : Nat → List Value → Sto → Option Rr) (again : Nat → j_L → List Value → Sto → Option Rr) (σ : Sto) (v0 : Nat) (v1 : Int32) (v2 : Int32) (v3 : Int32) (v4 : Int32) :
    j_seg k_167 h_167 call again 2000 3 [some (.ref v0), some (.int v1), some (.int v2), some (.int v3), some (.int v4)] [] σ =
    j_oc σ 7 v0 (if v4 < (s_I σ v0 13) then (if v4 = v3 then (again 3 [some (.ref v0), some (.int v1), some (.int v2), some (.int v3), some (.int (v4 + (j_k 1)))] [] σ)
     else j_oc σ 7 v0 (j_c1 call 162 [.ref v0, .int v1, .int ((j_k 5) + v4)] σ (fun x2 τ1 =>
     if x2 = v2 then (some (some (.int v4), τ1))
     else again 3 [some (.ref v0), some (.int v1), some (.int v2), some (.int v3), some (.int (v4 + (j_k 1)))] [] τ1)))
    else some (some (.int (j_k (-9))), σ)) := rfl

-- LastStirredModel.off(II)I
set_option maxRecDepth 1000000 in
set_option maxHeartbeats 8000000 in
theorem t_168_0 (call : Nat → List Value → Sto → Option Rr) (again : Nat → j_L → List Value → Sto → Option Rr) (σ : Sto) (v0 : Nat) (v1 : Int32) (v2 : Int32) :
    j_seg k_168 h_168 call again 2000 0 [some (.ref v0), some (.int v1), some (.int v2)] [] σ =
    j_oc σ 7 v0 (if (s_I σ v0 10) = 0 then none else
    j_oc σ 7 v0 (if (s_I σ v0 10) = 0 then none else
    j_c1 call 130 [.int ((v1 - v1 / (s_I σ v0 10) * (s_I σ v0 10)) - (v2 - v2 / (s_I σ v0 10) * (s_I σ v0 10)))] σ (fun x2 τ1 =>
    j_oc τ1 7 v0 (if (s_I τ1 v0 10) = 0 then none else
    j_oc τ1 7 v0 (if (s_I τ1 v0 10) = 0 then none else
    j_c1 call 130 [.int ((v1 / (s_I τ1 v0 10)) - (v2 / (s_I τ1 v0 10)))] τ1 (fun x4 τ3 =>
    some (some (.int (x2 + x4)), τ3))))))) := rfl

-- LastStirredModel.cell(I)I
set_option maxRecDepth 1000000 in
set_option maxHeartbeats 8000000 in
theorem t_169_0 (call : Nat → List Value → Sto → Option Rr) (again : Nat → j_L → List Value → Sto → Option Rr) (σ : Sto) (v0 : Nat) (v1 : Int32) :
    j_seg k_169 h_169 call again 2000 0 [some (.ref v0), some (.int v1)] [] σ =
    j_oc σ 7 v0 (j_c1 call 160 [.ref v0, .int v1] σ (fun x2 τ1 =>
    if x2 = 0 then (some (some (.int (j_k (-1))), τ1))
    else j_oc τ1 7 v0 (j_c1 call 167 [.ref v0, .int (j_k 0), .int v1, .int (j_k (-9))] τ1 (fun x4 τ3 =>
    j_gP τ3 7 v0 12 (fun a5 =>
    j_ia τ3 a5 v1 (
    j_oc τ3 7 v0 (j_c1 call 134 [.ref v0, .int x4, .int (s_I τ3 a5 v1.toNatClampNeg)] τ3 (fun x7 τ6 =>
    some (some (.int x7), τ6))))))))) := rfl

-- LastStirredModel.build(II)I
set_option maxRecDepth 1000000 in
set_option maxHeartbeats 8000000 in
theorem t_170_0 (call : Nat → List Value → Sto → Option Rr) (again : Nat → j_L → List Value → Sto → Option Rr) (σ : Sto) (v0 : Nat) (v1 : Int32) (v2 : Int32) :
    j_seg k_170 h_170 call again 2000 0 [some (.ref v0), some (.int v1), some (.int v2), none] [] σ =
    j_oc σ 7 v0 (j_c1 call 160 [.ref v0, .int v1] σ (fun x2 τ1 =>
    if x2 = 0 then (some (some (.int (j_k (-1))), τ1))
    else j_c1 call 127 [.int v2, .int (j_k 0), .int (j_k 4)] τ1 (fun x4 τ3 =>
    if x4 = 0 then (some (some (.int (j_k (-1))), τ3))
    else if v2 = (j_k 1) then (j_oc τ3 7 v0 (j_c1 call 167 [.ref v0, .int (j_k 0), .int v1, .int (j_k (-9))] τ3 (fun x6 τ5 =>
     if x6 = (j_k (-9)) then (j_gP τ5 7 v0 12 (fun a7 =>
      j_ia τ5 a7 v1 (
      j_gP τ5 7 v0 12 (fun a8 =>
      j_is τ5 a8 v1 (let τ9 : Sto := s_uI τ5 a8 v1.toNatClampNeg v2;
      some (some (.int (s_I τ5 a7 v1.toNatClampNeg)), τ9))))))
     else some (some (.int (j_k (-4))), τ5))))
    else if v2 = (j_k 2) then (j_oc τ3 7 v0 (j_c1 call 167 [.ref v0, .int (j_k 0), .int v1, .int (j_k (-9))] τ3 (fun x11 τ10 =>
     if x11 = (j_k (-9)) then (j_gP τ10 7 v0 12 (fun a12 =>
      j_ia τ10 a12 v1 (
      j_gP τ10 7 v0 12 (fun a13 =>
      j_is τ10 a13 v1 (let τ14 : Sto := s_uI τ10 a13 v1.toNatClampNeg v2;
      some (some (.int (s_I τ10 a12 v1.toNatClampNeg)), τ14))))))
     else some (some (.int (j_k (-4))), τ10))))
    else j_gP τ3 7 v0 12 (fun a15 =>
    j_ia τ3 a15 v1 (
    j_gP τ3 7 v0 12 (fun a16 =>
    j_is τ3 a16 v1 (let τ17 : Sto := s_uI τ3 a16 v1.toNatClampNeg v2;
    some (some (.int (s_I τ3 a15 v1.toNatClampNeg)), τ17)))))))) := rfl

-- LastStirredModel.beastTells(II)I
set_option maxRecDepth 1000000 in
set_option maxHeartbeats 8000000 in
theorem t_171_0 (call : Nat → List Value → Sto → Option Rr) (again : Nat → j_L → List Value → Sto → Option Rr) (σ : Sto) (v0 : Nat) (v1 : Int32) (v2 : Int32) :
    j_seg k_171 h_171 call again 2000 0 [some (.ref v0), some (.int v1), some (.int v2)] [] σ =
    if v2 = 0 then (j_gP σ 7 v0 14 (fun a1 =>
     j_ia σ a1 v1 (
     some (some (.int (s_I σ a1 v1.toNatClampNeg)), σ))))
    else if v2 = (j_k 1) then (j_oc σ 7 v0 (j_c1 call 162 [.ref v0, .int (j_k 0), .int ((j_k 5) + v1)] σ (fun x3 τ2 =>
     some (some (.int x3), τ2))))
    else j_oc σ 7 v0 (j_c1 call 162 [.ref v0, .int (j_k 0), .int ((j_k 9) + v1)] σ (fun x5 τ4 =>
    some (some (.int x5), τ4))) := rfl

-- LastStirredModel.beast(II)I
set_option maxRecDepth 1000000 in
set_option maxHeartbeats 8000000 in
theorem t_172_0 (call : Nat → List Value → Sto → Option Rr) (again : Nat → j_L → List Value → Sto → Option Rr) (σ : Sto) (v0 : Nat) (v1 : Int32) (v2 : Int32) :
    j_seg k_172 h_172 call again 2000 0 [some (.ref v0), some (.int v1), some (.int v2)] [] σ =
    j_oc σ 7 v0 (j_c1 call 161 [.ref v0, .int v1] σ (fun x2 τ1 =>
    if x2 = 0 then (some (some (.int (j_k (-1))), τ1))
    else j_c1 call 127 [.int v2, .int (j_k 0), .int (j_k 2)] τ1 (fun x4 τ3 =>
    if x4 = 0 then (some (some (.int (j_k (-1))), τ3))
    else j_oc τ3 7 v0 (j_c1 call 171 [.ref v0, .int v1, .int v2] τ3 (fun x6 τ5 =>
    j_oc τ5 7 v0 (j_c1 call 134 [.ref v0, .int x6, .int (j_k 1)] τ5 (fun x8 τ7 =>
    some (some (.int x8), τ7)))))))) := rfl

-- LastStirredModel.isShy(I)Z
set_option maxRecDepth 1000000 in
set_option maxHeartbeats 8000000 in
theorem t_173_0 (call : Nat → List Value → Sto → Option Rr) (again : Nat → j_L → List Value → Sto → Option Rr) (σ : Sto) (v0 : Nat) (v1 : Int32) :
    j_seg k_173 h_173 call again 2000 0 [some (.ref v0), some (.int v1)] [] σ =
    j_gP σ 7 v0 14 (fun a1 =>
    j_ia σ a1 v1 (
    if (s_I σ a1 v1.toNatClampNeg) = (j_k 1) then (if (j_k 1) = 0 ∨ (j_k 1) = 1 then some (some (.int (j_k 1)), σ) else none)
    else j_gP σ 7 v0 14 (fun a2 =>
    j_ia σ a2 v1 (
    if (s_I σ a2 v1.toNatClampNeg) = (j_k 5) then (if (j_k 1) = 0 ∨ (j_k 1) = 1 then some (some (.int (j_k 1)), σ) else none)
    else if (j_k 0) = 0 ∨ (j_k 0) = 1 then some (some (.int (j_k 0)), σ) else none)))) := rfl

-- LastStirredModel.isSlow(I)Z
set_option maxRecDepth 1000000 in
set_option maxHeartbeats 8000000 in
theorem t_174_0 (call : Nat → List Value → Sto → Option Rr) (again : Nat → j_L → List Value → Sto → Option Rr) (σ : Sto) (v0 : Nat) (v1 : Int32) :
    j_seg k_174 h_174 call again 2000 0 [some (.ref v0), some (.int v1)] [] σ =
    j_gP σ 7 v0 14 (fun a1 =>
    j_ia σ a1 v1 (
    if (s_I σ a1 v1.toNatClampNeg) = (j_k 2) then (if (j_k 1) = 0 ∨ (j_k 1) = 1 then some (some (.int (j_k 1)), σ) else none)
    else j_gP σ 7 v0 14 (fun a2 =>
    j_ia σ a2 v1 (
    if (s_I σ a2 v1.toNatClampNeg) = (j_k 4) then (if (j_k 1) = 0 ∨ (j_k 1) = 1 then some (some (.int (j_k 1)), σ) else none)
    else if (j_k 0) = 0 ∨ (j_k 0) = 1 then some (some (.int (j_k 0)), σ) else none)))) := rfl

-- LastStirredModel.aimOf(II)I
set_option maxRecDepth 1000000 in
set_option maxHeartbeats 8000000 in
theorem t_175_0 (call : Nat → List Value → Sto → Option Rr) (again : Nat → j_L → List Value → Sto → Option Rr) (σ : Sto) (v0 : Nat) (v1 : Int32) (v2 : Int32) :
    j_seg k_175 h_175 call again 2000 0 [some (.ref v0), some (.int v1), some (.int v2)] [] σ =
    j_gP σ 7 v0 14 (fun a1 =>
    j_ia σ a1 v2 (
    if (s_I σ a1 v2.toNatClampNeg) = (j_k 3) then (j_oc σ 7 v0 (j_c1 call 162 [.ref v0, .int v1, .int (j_k 4)] σ (fun x3 τ2 =>
     if x3 = (j_k (-9)) then (j_oc τ2 7 v0 (j_c1 call 162 [.ref v0, .int v1, .int (j_k 2)] τ2 (fun x5 τ4 =>
      some (some (.int x5), τ4))))
     else j_oc τ2 7 v0 (j_c1 call 162 [.ref v0, .int v1, .int (j_k 4)] τ2 (fun x7 τ6 =>
     some (some (.int x7), τ6))))))
    else j_oc σ 7 v0 (j_c1 call 162 [.ref v0, .int v1, .int (j_k 2)] σ (fun x9 τ8 =>
    some (some (.int x9), τ8))))) := rfl

-- LastStirredModel.near(I)I
set_option maxRecDepth 1000000 in
set_option maxHeartbeats 8000000 in
theorem t_176_0 (call : Nat → List Value → Sto → Option Rr) (again : Nat → j_L → List Value → Sto → Option Rr) (σ : Sto) (v0 : Nat) (v1 : Int32) :
    j_seg k_176 h_176 call again 2000 0 [some (.ref v0), some (.int v1), none, none] [] σ =
    again 4 [some (.ref v0), some (.int v1), some (.int (j_k 0)), some (.int (j_k 0))] [] σ := rfl

set_option maxRecDepth 1000000 in
set_option maxHeartbeats 8000000 in
theorem t_176_4 (call : Nat → List Value → Sto → Option Rr) (again : Nat → j_L → List Value → Sto → Option Rr) (σ : Sto) (v0 : Nat) (v1 : Int32) (v2 : Int32) (v3 : Int32) :
    j_seg k_176 h_176 call again 2000 4 [some (.ref v0), some (.int v1), some (.int v2), some (.int v3)] [] σ =
    j_oc σ 7 v0 (if v3 < (s_I σ v0 13) then (if v3 = v1 then (again 4 [some (.ref v0), some (.int v1), some (.int (v2 + (j_k 0))), some (.int (v3 + (j_k 1)))] [] σ)
     else j_oc σ 7 v0 (j_c1 call 165 [.ref v0, .int (j_k 0), .int v3] σ (fun x2 τ1 =>
     if x2 = 0 then (j_oc τ1 7 v0 (j_c1 call 162 [.ref v0, .int (j_k 0), .int ((j_k 5) + v3)] τ1 (fun x4 τ3 =>
      j_oc τ3 7 v0 (j_c1 call 162 [.ref v0, .int (j_k 0), .int ((j_k 5) + v1)] τ3 (fun x6 τ5 =>
      j_oc τ5 7 v0 (j_c1 call 168 [.ref v0, .int x4, .int x6] τ5 (fun x8 τ7 =>
      if x8 < (j_k 3) then (again 4 [some (.ref v0), some (.int v1), some (.int (v2 + (j_k 1))), some (.int (v3 + (j_k 1)))] [] τ7)
      else again 4 [some (.ref v0), some (.int v1), some (.int (v2 + (j_k 0))), some (.int (v3 + (j_k 1)))] [] τ7)))))))
     else again 4 [some (.ref v0), some (.int v1), some (.int (v2 + (j_k 0))), some (.int (v3 + (j_k 1)))] [] τ1)))
    else some (some (.int v2), σ)) := rfl

-- LastStirredModel.gates()I
set_option maxRecDepth 1000000 in
set_option maxHeartbeats 8000000 in
theorem t_177_0 (call : Nat → List Value → Sto → Option Rr) (again : Nat → j_L → List Value → Sto → Option Rr) (σ : Sto) (v0 : Nat) :
    j_seg k_177 h_177 call again 2000 0 [some (.ref v0), none, none] [] σ =
    again 4 [some (.ref v0), some (.int (j_k 0)), some (.int (j_k 0))] [] σ := rfl

set_option maxRecDepth 1000000 in
set_option maxHeartbeats 8000000 in
theorem t_177_4 (call : Nat → List Value → Sto → Option Rr) (again : Nat → j_L → List Value → Sto → Option Rr) (σ : Sto) (v0 : Nat) (v1 : Int32) (v2 : Int32) :
    j_seg k_177 h_177 call again 2000 4 [some (.ref v0), some (.int v1), some (.int v2)] [] σ =
    j_oc σ 7 v0 (if v2 < (s_I σ v0 11) then (j_gP σ 7 v0 12 (fun a1 =>
     j_ia σ a1 v2 (
     if (s_I σ a1 v2.toNatClampNeg) = (j_k 4) then (again 4 [some (.ref v0), some (.int (v1 + (j_k 1))), some (.int (v2 + (j_k 1)))] [] σ)
     else again 4 [some (.ref v0), some (.int (v1 + (j_k 0))), some (.int (v2 + (j_k 1)))] [] σ)))
    else some (some (.int v1), σ)) := rfl

-- LastStirredModel.mark(II)I
set_option maxRecDepth 1000000 in
set_option maxHeartbeats 8000000 in
theorem t_178_0 (call : Nat → List Value → Sto → Option Rr) (again : Nat → j_L → List Value → Sto → Option Rr) (σ : Sto) (v0 : Nat) (v1 : Int32) (v2 : Int32) :
    j_seg k_178 h_178 call again 2000 0 [some (.ref v0), some (.int v1), some (.int v2)] [] σ =
    j_oc σ 7 v0 (j_c1 call 161 [.ref v0, .int v1] σ (fun x2 τ1 =>
    if x2 = 0 then (some (some (.int (j_k (-1))), τ1))
    else j_c1 call 127 [.int v2, .int (j_k 1), .int (j_k 5)] τ1 (fun x4 τ3 =>
    if x4 = 0 then (some (some (.int (j_k (-1))), τ3))
    else j_gP τ3 7 v0 14 (fun a5 =>
    j_ia τ3 a5 v1 (
    if (s_I τ3 a5 v1.toNatClampNeg) = v2 then (if v2 = (j_k 1) then (j_oc τ3 7 v0 (j_c1 call 165 [.ref v0, .int (j_k 0), .int v1] τ3 (fun x7 τ6 =>
      if x7 = 0 then (j_oc τ6 7 v0 (j_c1 call 162 [.ref v0, .int (j_k 0), .int (j_k 1)] τ6 (fun x9 τ8 =>
       if x9 = (j_k (-9)) then (some (some (.int (j_k (-9))), τ8))
       else j_oc τ8 7 v0 (j_c1 call 162 [.ref v0, .int (j_k 0), .int ((j_k 5) + v1)] τ8 (fun x11 τ10 =>
       j_oc τ10 7 v0 (j_c1 call 162 [.ref v0, .int (j_k 0), .int (j_k 2)] τ10 (fun x13 τ12 =>
       j_oc τ12 7 v0 (j_c1 call 168 [.ref v0, .int x11, .int x13] τ12 (fun x15 τ14 =>
       some (some (.int x15), τ14))))))))))
      else some (some (.int (j_k (-9))), τ6))))
     else if v2 = (j_k 2) then (j_oc τ3 7 v0 (j_c1 call 162 [.ref v0, .int (j_k 0), .int (j_k 0)] τ3 (fun x17 τ16 =>
      if (j_k 2) = 0 then none else
      some (some (.int (x17 - x17 / (j_k 2) * (j_k 2))), τ16))))
     else if v2 = (j_k 3) then (j_oc τ3 7 v0 (j_c1 call 175 [.ref v0, .int (j_k 0), .int v1] τ3 (fun x19 τ18 =>
      some (some (.int x19), τ18))))
     else if v2 = (j_k 4) then (j_oc τ3 7 v0 (j_c1 call 177 [.ref v0] τ3 (fun x21 τ20 =>
      some (some (.int x21), τ20))))
     else j_oc τ3 7 v0 (j_c1 call 165 [.ref v0, .int (j_k 0), .int v1] τ3 (fun x23 τ22 =>
     if x23 = 0 then (j_oc τ22 7 v0 (j_c1 call 176 [.ref v0, .int v1] τ22 (fun x25 τ24 =>
      some (some (.int x25), τ24))))
     else some (some (.int (j_k (-9))), τ22))))
    else if v2 = (j_k 1) then (j_oc τ3 7 v0 (j_c1 call 173 [.ref v0, .int v1] τ3 (fun x27 τ26 =>
     if x27 = 0 then (if v2 = (j_k 2) then (j_oc τ26 7 v0 (j_c1 call 174 [.ref v0, .int v1] τ26 (fun x29 τ28 =>
       if x29 = 0 then (j_oc τ28 7 v0 (j_c1 call 131 [.ref v0, .int (j_k 3)] τ28 (fun x31 τ30 =>
        some (some (.int x31), τ30))))
       else if v2 = (j_k 1) then (j_oc τ28 7 v0 (j_c1 call 165 [.ref v0, .int (j_k 0), .int v1] τ28 (fun x33 τ32 =>
        if x33 = 0 then (j_oc τ32 7 v0 (j_c1 call 162 [.ref v0, .int (j_k 0), .int (j_k 1)] τ32 (fun x35 τ34 =>
         if x35 = (j_k (-9)) then (some (some (.int (j_k (-9))), τ34))
         else j_oc τ34 7 v0 (j_c1 call 162 [.ref v0, .int (j_k 0), .int ((j_k 5) + v1)] τ34 (fun x37 τ36 =>
         j_oc τ36 7 v0 (j_c1 call 162 [.ref v0, .int (j_k 0), .int (j_k 2)] τ36 (fun x39 τ38 =>
         j_oc τ38 7 v0 (j_c1 call 168 [.ref v0, .int x37, .int x39] τ38 (fun x41 τ40 =>
         some (some (.int x41), τ40))))))))))
        else some (some (.int (j_k (-9))), τ32))))
       else if v2 = (j_k 2) then (j_oc τ28 7 v0 (j_c1 call 162 [.ref v0, .int (j_k 0), .int (j_k 0)] τ28 (fun x43 τ42 =>
        if (j_k 2) = 0 then none else
        some (some (.int (x43 - x43 / (j_k 2) * (j_k 2))), τ42))))
       else if v2 = (j_k 3) then (j_oc τ28 7 v0 (j_c1 call 175 [.ref v0, .int (j_k 0), .int v1] τ28 (fun x45 τ44 =>
        some (some (.int x45), τ44))))
       else if v2 = (j_k 4) then (j_oc τ28 7 v0 (j_c1 call 177 [.ref v0] τ28 (fun x47 τ46 =>
        some (some (.int x47), τ46))))
       else j_oc τ28 7 v0 (j_c1 call 165 [.ref v0, .int (j_k 0), .int v1] τ28 (fun x49 τ48 =>
       if x49 = 0 then (j_oc τ48 7 v0 (j_c1 call 176 [.ref v0, .int v1] τ48 (fun x51 τ50 =>
        some (some (.int x51), τ50))))
       else some (some (.int (j_k (-9))), τ48))))))
      else j_oc τ26 7 v0 (j_c1 call 131 [.ref v0, .int (j_k 3)] τ26 (fun x53 τ52 =>
      some (some (.int x53), τ52))))
     else if v2 = (j_k 1) then (j_oc τ26 7 v0 (j_c1 call 165 [.ref v0, .int (j_k 0), .int v1] τ26 (fun x55 τ54 =>
      if x55 = 0 then (j_oc τ54 7 v0 (j_c1 call 162 [.ref v0, .int (j_k 0), .int (j_k 1)] τ54 (fun x57 τ56 =>
       if x57 = (j_k (-9)) then (some (some (.int (j_k (-9))), τ56))
       else j_oc τ56 7 v0 (j_c1 call 162 [.ref v0, .int (j_k 0), .int ((j_k 5) + v1)] τ56 (fun x59 τ58 =>
       j_oc τ58 7 v0 (j_c1 call 162 [.ref v0, .int (j_k 0), .int (j_k 2)] τ58 (fun x61 τ60 =>
       j_oc τ60 7 v0 (j_c1 call 168 [.ref v0, .int x59, .int x61] τ60 (fun x63 τ62 =>
       some (some (.int x63), τ62))))))))))
      else some (some (.int (j_k (-9))), τ54))))
     else if v2 = (j_k 2) then (j_oc τ26 7 v0 (j_c1 call 162 [.ref v0, .int (j_k 0), .int (j_k 0)] τ26 (fun x65 τ64 =>
      if (j_k 2) = 0 then none else
      some (some (.int (x65 - x65 / (j_k 2) * (j_k 2))), τ64))))
     else if v2 = (j_k 3) then (j_oc τ26 7 v0 (j_c1 call 175 [.ref v0, .int (j_k 0), .int v1] τ26 (fun x67 τ66 =>
      some (some (.int x67), τ66))))
     else if v2 = (j_k 4) then (j_oc τ26 7 v0 (j_c1 call 177 [.ref v0] τ26 (fun x69 τ68 =>
      some (some (.int x69), τ68))))
     else j_oc τ26 7 v0 (j_c1 call 165 [.ref v0, .int (j_k 0), .int v1] τ26 (fun x71 τ70 =>
     if x71 = 0 then (j_oc τ70 7 v0 (j_c1 call 176 [.ref v0, .int v1] τ70 (fun x73 τ72 =>
      some (some (.int x73), τ72))))
     else some (some (.int (j_k (-9))), τ70))))))
    else if v2 = (j_k 2) then (j_oc τ3 7 v0 (j_c1 call 174 [.ref v0, .int v1] τ3 (fun x75 τ74 =>
     if x75 = 0 then (j_oc τ74 7 v0 (j_c1 call 131 [.ref v0, .int (j_k 3)] τ74 (fun x77 τ76 =>
      some (some (.int x77), τ76))))
     else if v2 = (j_k 1) then (j_oc τ74 7 v0 (j_c1 call 165 [.ref v0, .int (j_k 0), .int v1] τ74 (fun x79 τ78 =>
      if x79 = 0 then (j_oc τ78 7 v0 (j_c1 call 162 [.ref v0, .int (j_k 0), .int (j_k 1)] τ78 (fun x81 τ80 =>
       if x81 = (j_k (-9)) then (some (some (.int (j_k (-9))), τ80))
       else j_oc τ80 7 v0 (j_c1 call 162 [.ref v0, .int (j_k 0), .int ((j_k 5) + v1)] τ80 (fun x83 τ82 =>
       j_oc τ82 7 v0 (j_c1 call 162 [.ref v0, .int (j_k 0), .int (j_k 2)] τ82 (fun x85 τ84 =>
       j_oc τ84 7 v0 (j_c1 call 168 [.ref v0, .int x83, .int x85] τ84 (fun x87 τ86 =>
       some (some (.int x87), τ86))))))))))
      else some (some (.int (j_k (-9))), τ78))))
     else if v2 = (j_k 2) then (j_oc τ74 7 v0 (j_c1 call 162 [.ref v0, .int (j_k 0), .int (j_k 0)] τ74 (fun x89 τ88 =>
      if (j_k 2) = 0 then none else
      some (some (.int (x89 - x89 / (j_k 2) * (j_k 2))), τ88))))
     else if v2 = (j_k 3) then (j_oc τ74 7 v0 (j_c1 call 175 [.ref v0, .int (j_k 0), .int v1] τ74 (fun x91 τ90 =>
      some (some (.int x91), τ90))))
     else if v2 = (j_k 4) then (j_oc τ74 7 v0 (j_c1 call 177 [.ref v0] τ74 (fun x93 τ92 =>
      some (some (.int x93), τ92))))
     else j_oc τ74 7 v0 (j_c1 call 165 [.ref v0, .int (j_k 0), .int v1] τ74 (fun x95 τ94 =>
     if x95 = 0 then (j_oc τ94 7 v0 (j_c1 call 176 [.ref v0, .int v1] τ94 (fun x97 τ96 =>
      some (some (.int x97), τ96))))
     else some (some (.int (j_k (-9))), τ94))))))
    else j_oc τ3 7 v0 (j_c1 call 131 [.ref v0, .int (j_k 3)] τ3 (fun x99 τ98 =>
    some (some (.int x99), τ98)))))))) := rfl

-- LastStirredModel.last()I
set_option maxRecDepth 1000000 in
set_option maxHeartbeats 8000000 in
theorem t_179_0 (call : Nat → List Value → Sto → Option Rr) (again : Nat → j_L → List Value → Sto → Option Rr) (σ : Sto) (v0 : Nat) :
    j_seg k_179 h_179 call again 2000 0 [some (.ref v0)] [] σ =
    j_oc σ 7 v0 (j_c1 call 162 [.ref v0, .int (j_k 0), .int (j_k 2)] σ (fun x2 τ1 =>
    j_oc τ1 7 v0 (j_c1 call 162 [.ref v0, .int (j_k 0), .int (j_k 1)] τ1 (fun x4 τ3 =>
    j_oc τ3 7 v0 (j_c1 call 134 [.ref v0, .int x2, .int x4] τ3 (fun x6 τ5 =>
    some (some (.int x6), τ5))))))) := rfl

-- LastStirredModel.can(III)Z
set_option maxRecDepth 1000000 in
set_option maxHeartbeats 8000000 in
theorem t_180_0 (call : Nat → List Value → Sto → Option Rr) (again : Nat → j_L → List Value → Sto → Option Rr) (σ : Sto) (v0 : Nat) (v1 : Int32) (v2 : Int32) (v3 : Int32) :
    j_seg k_180 h_180 call again 2000 0 [some (.ref v0), some (.int v1), some (.int v2), some (.int v3)] [] σ =
    j_gP σ 7 v0 12 (fun a1 =>
    j_ia σ a1 v3 (
    if (s_I σ a1 v3.toNatClampNeg) = (j_k 1) then (if (j_k 0) = 0 ∨ (j_k 0) = 1 then some (some (.int (j_k 0)), σ) else none)
    else j_oc σ 7 v0 (j_c1 call 167 [.ref v0, .int v1, .int v3, .int v2] σ (fun x3 τ2 =>
    if x3 = (j_k (-9)) then (j_gP τ2 7 v0 12 (fun a4 =>
     j_ia τ2 a4 v3 (
     if (s_I τ2 a4 v3.toNatClampNeg) = (j_k 4) then (j_gP τ2 7 v0 14 (fun a5 =>
      j_ia τ2 a5 v2 (
      if (s_I τ2 a5 v2.toNatClampNeg) = (j_k 4) then (if (j_k 0) = 0 ∨ (j_k 0) = 1 then some (some (.int (j_k 0)), τ2) else none)
      else j_oc τ2 7 v0 (if (s_I τ2 v0 26) = 0 then (if (j_k 1) = 0 ∨ (j_k 1) = 1 then some (some (.int (j_k 1)), τ2) else none)
      else if (j_k 0) = 0 ∨ (j_k 0) = 1 then some (some (.int (j_k 0)), τ2) else none))))
     else if (j_k 1) = 0 ∨ (j_k 1) = 1 then some (some (.int (j_k 1)), τ2) else none)))
    else if (j_k 0) = 0 ∨ (j_k 0) = 1 then some (some (.int (j_k 0)), τ2) else none)))) := rfl

-- LastStirredModel.by(III)I
set_option maxRecDepth 1000000 in
set_option maxHeartbeats 8000000 in
theorem t_181_0 (call : Nat → List Value → Sto → Option Rr) (again : Nat → j_L → List Value → Sto → Option Rr) (σ : Sto) (v0 : Nat) (v1 : Int32) (v2 : Int32) (v3 : Int32) :
    j_seg k_181 h_181 call again 2000 0 [some (.ref v0), some (.int v1), some (.int v2), some (.int v3), none, none] [] σ =
    j_oc σ 7 v0 (if (s_I σ v0 10) = 0 then none else
    j_oc σ 7 v0 (if (s_I σ v0 10) = 0 then none else
    j_oc σ 7 v0 (j_c1 call 127 [.int ((v1 - v1 / (s_I σ v0 10) * (s_I σ v0 10)) + v2), .int (j_k 0), .int ((s_I σ v0 10) - (j_k 1))] σ (fun x2 τ1 =>
    if x2 = 0 then (some (some (.int (j_k (-9))), τ1))
    else j_oc τ1 7 v0 (j_oc τ1 7 v0 (if (s_I τ1 v0 10) = 0 then none else
    j_c1 call 127 [.int ((v1 / (s_I σ v0 10)) + v3), .int (j_k 0), .int (((s_I τ1 v0 11) / (s_I τ1 v0 10)) - (j_k 1))] τ1 (fun x4 τ3 =>
    if x4 = 0 then (some (some (.int (j_k (-9))), τ3))
    else j_oc τ3 7 v0 (some (some (.int (((s_I τ3 v0 10) * ((v1 / (s_I σ v0 10)) + v3)) + ((v1 - v1 / (s_I σ v0 10) * (s_I σ v0 10)) + v2))), τ3))))))))) := rfl

