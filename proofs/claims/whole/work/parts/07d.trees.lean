/-! ===== what each stretch of each method does (by program wip/gen) ===== -/
-- LastStirredModel.goesTo(III)Z
set_option maxRecDepth 1000000 in
set_option maxHeartbeats 8000000 in
theorem t_182_0 (call : Nat → List Value → Sto → Option Rr) (again : Nat → j_L → List Value → Sto → Option Rr) (σ : Sto) (v0 : Nat) (v1 : Int32) (v2 : Int32) (v3 : Int32) :
    j_seg k_182 h_182 call again 2000 0 [some (.ref v0), some (.int v1), some (.int v2), some (.int v3)] [] σ =
    if v3 = (j_k (-9)) then (if (j_k 0) = 0 ∨ (j_k 0) = 1 then some (some (.int (j_k 0)), σ) else none)
    else j_oc σ 7 v0 (j_c1 call 180 [.ref v0, .int v1, .int v2, .int v3] σ (fun x2 τ1 =>
    if x2 = 0 then (if (j_k 0) = 0 ∨ (j_k 0) = 1 then some (some (.int (j_k 0)), τ1) else none)
    else j_oc τ1 7 v0 (if (s_I τ1 v0 26) = 0 then (j_gP τ1 7 v0 12 (fun a3 =>
     j_ia τ1 a3 v3 (
     if (s_I τ1 a3 v3.toNatClampNeg) = (j_k 4) then (if (j_k 1) = 0 ∨ (j_k 1) = 1 then (if v0 < j_b then j_oc τ1 7 v0 (let τ4 : Sto := s_uI τ1 v0 26 (j_k 1);
      j_gP τ4 7 v0 12 (fun a5 =>
      j_ia τ4 a5 v3 (
      if (s_I τ4 a5 v3.toNatClampNeg) = (j_k 2) then (j_oc τ4 7 v0 (j_c0 call 163 [.ref v0, .int v1, .int ((j_k 5) + v2), .int (j_k (-9))] τ4 (fun τ6 =>
       j_oc τ6 7 v0 (j_c1 call 162 [.ref v0, .int v1, .int ((j_k 9) + v2)] τ6 (fun x8 τ7 =>
       j_oc τ7 7 v0 (j_c0 call 163 [.ref v0, .int v1, .int ((j_k 9) + v2), .int (x8 + (j_k 1))] τ7 (fun τ9 =>
       if v0 < j_b then j_oc τ9 7 v0 (let τ10 : Sto := s_uI τ9 v0 27 v3;
       if (j_k 1) = 0 ∨ (j_k 1) = 1 then some (some (.int (j_k 1)), τ10) else none) else none)))))))
      else j_oc τ4 7 v0 (j_c0 call 163 [.ref v0, .int v1, .int ((j_k 5) + v2), .int v3] τ4 (fun τ11 =>
      j_oc τ11 7 v0 (j_c1 call 162 [.ref v0, .int v1, .int ((j_k 9) + v2)] τ11 (fun x13 τ12 =>
      j_oc τ12 7 v0 (j_c0 call 163 [.ref v0, .int v1, .int ((j_k 9) + v2), .int (x13 + (j_k 1))] τ12 (fun τ14 =>
      if v0 < j_b then j_oc τ14 7 v0 (let τ15 : Sto := s_uI τ14 v0 27 v3;
      if (j_k 1) = 0 ∨ (j_k 1) = 1 then some (some (.int (j_k 1)), τ15) else none) else none))))))))) else none) else none)
     else if (j_k 0) = 0 ∨ (j_k 0) = 1 then (if v0 < j_b then j_oc τ1 7 v0 (let τ16 : Sto := s_uI τ1 v0 26 (j_k 0);
     j_gP τ16 7 v0 12 (fun a17 =>
     j_ia τ16 a17 v3 (
     if (s_I τ16 a17 v3.toNatClampNeg) = (j_k 2) then (j_oc τ16 7 v0 (j_c0 call 163 [.ref v0, .int v1, .int ((j_k 5) + v2), .int (j_k (-9))] τ16 (fun τ18 =>
      j_oc τ18 7 v0 (j_c1 call 162 [.ref v0, .int v1, .int ((j_k 9) + v2)] τ18 (fun x20 τ19 =>
      j_oc τ19 7 v0 (j_c0 call 163 [.ref v0, .int v1, .int ((j_k 9) + v2), .int (x20 + (j_k 1))] τ19 (fun τ21 =>
      if v0 < j_b then j_oc τ21 7 v0 (let τ22 : Sto := s_uI τ21 v0 27 v3;
      if (j_k 1) = 0 ∨ (j_k 1) = 1 then some (some (.int (j_k 1)), τ22) else none) else none)))))))
     else j_oc τ16 7 v0 (j_c0 call 163 [.ref v0, .int v1, .int ((j_k 5) + v2), .int v3] τ16 (fun τ23 =>
     j_oc τ23 7 v0 (j_c1 call 162 [.ref v0, .int v1, .int ((j_k 9) + v2)] τ23 (fun x25 τ24 =>
     j_oc τ24 7 v0 (j_c0 call 163 [.ref v0, .int v1, .int ((j_k 9) + v2), .int (x25 + (j_k 1))] τ24 (fun τ26 =>
     if v0 < j_b then j_oc τ26 7 v0 (let τ27 : Sto := s_uI τ26 v0 27 v3;
     if (j_k 1) = 0 ∨ (j_k 1) = 1 then some (some (.int (j_k 1)), τ27) else none) else none))))))))) else none) else none)))
    else if (j_k 1) = 0 ∨ (j_k 1) = 1 then (if v0 < j_b then j_oc τ1 7 v0 (let τ28 : Sto := s_uI τ1 v0 26 (j_k 1);
    j_gP τ28 7 v0 12 (fun a29 =>
    j_ia τ28 a29 v3 (
    if (s_I τ28 a29 v3.toNatClampNeg) = (j_k 2) then (j_oc τ28 7 v0 (j_c0 call 163 [.ref v0, .int v1, .int ((j_k 5) + v2), .int (j_k (-9))] τ28 (fun τ30 =>
     j_oc τ30 7 v0 (j_c1 call 162 [.ref v0, .int v1, .int ((j_k 9) + v2)] τ30 (fun x32 τ31 =>
     j_oc τ31 7 v0 (j_c0 call 163 [.ref v0, .int v1, .int ((j_k 9) + v2), .int (x32 + (j_k 1))] τ31 (fun τ33 =>
     if v0 < j_b then j_oc τ33 7 v0 (let τ34 : Sto := s_uI τ33 v0 27 v3;
     if (j_k 1) = 0 ∨ (j_k 1) = 1 then some (some (.int (j_k 1)), τ34) else none) else none)))))))
    else j_oc τ28 7 v0 (j_c0 call 163 [.ref v0, .int v1, .int ((j_k 5) + v2), .int v3] τ28 (fun τ35 =>
    j_oc τ35 7 v0 (j_c1 call 162 [.ref v0, .int v1, .int ((j_k 9) + v2)] τ35 (fun x37 τ36 =>
    j_oc τ36 7 v0 (j_c0 call 163 [.ref v0, .int v1, .int ((j_k 9) + v2), .int (x37 + (j_k 1))] τ36 (fun τ38 =>
    if v0 < j_b then j_oc τ38 7 v0 (let τ39 : Sto := s_uI τ38 v0 27 v3;
    if (j_k 1) = 0 ∨ (j_k 1) = 1 then some (some (.int (j_k 1)), τ39) else none) else none))))))))) else none) else none))) := rfl

-- LastStirredModel.becomesLast(III)V
set_option maxRecDepth 1000000 in
set_option maxHeartbeats 8000000 in
theorem t_183_0 (call : Nat → List Value → Sto → Option Rr) (again : Nat → j_L → List Value → Sto → Option Rr) (σ : Sto) (v0 : Nat) (v1 : Int32) (v2 : Int32) (v3 : Int32) :
    j_seg k_183 h_183 call again 2000 0 [some (.ref v0), some (.int v1), some (.int v2), some (.int v3)] [] σ =
    j_oc σ 7 v0 (j_c1 call 162 [.ref v0, .int v1, .int (j_k 1)] σ (fun x2 τ1 =>
    j_oc τ1 7 v0 (j_c0 call 163 [.ref v0, .int v1, .int (j_k 3), .int x2] τ1 (fun τ3 =>
    j_oc τ3 7 v0 (j_c1 call 162 [.ref v0, .int v1, .int (j_k 2)] τ3 (fun x5 τ4 =>
    j_oc τ4 7 v0 (j_c0 call 163 [.ref v0, .int v1, .int (j_k 4), .int x5] τ4 (fun τ6 =>
    j_oc τ6 7 v0 (j_c0 call 163 [.ref v0, .int v1, .int (j_k 1), .int v2] τ6 (fun τ7 =>
    j_oc τ7 7 v0 (j_c0 call 163 [.ref v0, .int v1, .int (j_k 2), .int v3] τ7 (fun τ8 =>
    some (none, τ8))))))))))))) := rfl

-- LastStirredModel.sign(I)I
set_option maxRecDepth 1000000 in
set_option maxHeartbeats 8000000 in
theorem t_184_0 (call : Nat → List Value → Sto → Option Rr) (again : Nat → j_L → List Value → Sto → Option Rr) (σ : Sto) (v0 : Int32) :
    j_seg k_184 h_184 call again 2000 0 [some (.int v0)] [] σ =
    if v0 < 0 then (some (some (.int (j_k (-1))), σ))
    else if 0 < v0 then (some (some (.int (j_k 1)), σ))
    else some (some (.int (j_k 0)), σ) := rfl

-- LastStirredModel.goes(III)Z
set_option maxRecDepth 1000000 in
set_option maxHeartbeats 8000000 in
theorem t_185_0 (call : Nat → List Value → Sto → Option Rr) (again : Nat → j_L → List Value → Sto → Option Rr) (σ : Sto) (v0 : Nat) (v1 : Int32) (v2 : Int32) (v3 : Int32) :
    j_seg k_185 h_185 call again 2000 0 [some (.ref v0), some (.int v1), some (.int v2), some (.int v3), none, none, none, none, none, none, none, none, none] [] σ =
    j_oc σ 7 v0 (j_c1 call 162 [.ref v0, .int v1, .int ((j_k 5) + v2)] σ (fun x2 τ1 =>
    j_oc τ1 7 v0 (if (s_I τ1 v0 10) = 0 then none else
    j_oc τ1 7 v0 (if (s_I τ1 v0 10) = 0 then none else
    j_oc τ1 7 v0 (if (s_I τ1 v0 10) = 0 then none else
    j_oc τ1 7 v0 (if (s_I τ1 v0 10) = 0 then none else
    j_c1 call 130 [.int ((v3 - v3 / (s_I τ1 v0 10) * (s_I τ1 v0 10)) - (x2 - x2 / (s_I τ1 v0 10) * (s_I τ1 v0 10)))] τ1 (fun x4 τ3 =>
    j_c1 call 130 [.int ((v3 / (s_I τ1 v0 10)) - (x2 / (s_I τ1 v0 10)))] τ3 (fun x6 τ5 =>
    j_oc τ5 7 v0 (j_c1 call 174 [.ref v0, .int v2] τ5 (fun x8 τ7 =>
    if x8 = 0 then (again 77 [some (.ref v0), some (.int v1), some (.int v2), some (.int v3), some (.int x2), some (.int ((v3 - v3 / (s_I τ1 v0 10) * (s_I τ1 v0 10)) - (x2 - x2 / (s_I τ1 v0 10) * (s_I τ1 v0 10)))), some (.int ((v3 / (s_I τ1 v0 10)) - (x2 / (s_I τ1 v0 10)))), some (.int (x4 + x6)), none, none, none, none, none] [] τ7)
    else j_oc τ7 7 v0 (j_c1 call 162 [.ref v0, .int v1, .int (j_k 0)] τ7 (fun x10 τ9 =>
    if (j_k 2) = 0 then none else
    if (x10 - x10 / (j_k 2) * (j_k 2)) = (j_k 1) then (if (j_k 0) = 0 ∨ (j_k 0) = 1 then some (some (.int (j_k 0)), τ9) else none)
    else again 77 [some (.ref v0), some (.int v1), some (.int v2), some (.int v3), some (.int x2), some (.int ((v3 - v3 / (s_I τ1 v0 10) * (s_I τ1 v0 10)) - (x2 - x2 / (s_I τ1 v0 10) * (s_I τ1 v0 10)))), some (.int ((v3 / (s_I τ1 v0 10)) - (x2 / (s_I τ1 v0 10)))), some (.int (x4 + x6)), none, none, none, none, none] [] τ9)))))))))))) := rfl

set_option maxRecDepth 1000000 in
set_option maxHeartbeats 8000000 in
theorem t_185_77 (call : Nat → List Value → Sto → Option Rr) (again : Nat → j_L → List Value → Sto → Option Rr) (σ : Sto) (v0 : Nat) (v1 : Int32) (v2 : Int32) (v3 : Int32) (v4 : Int32) (v5 : Int32) (v6 : Int32) (v7 : Int32) :
    j_seg k_185 h_185 call again 2000 77 [some (.ref v0), some (.int v1), some (.int v2), some (.int v3), some (.int v4), some (.int v5), some (.int v6), some (.int v7), none, none, none, none, none] [] σ =
    j_oc σ 7 v0 (j_c1 call 173 [.ref v0, .int v2] σ (fun x2 τ1 =>
    if x2 = 0 then (if v7 < (j_k 2) then (if (j_k 0) = 0 ∨ (j_k 0) = 1 then some (some (.int (j_k 0)), τ1) else none)
     else again 112 [some (.ref v0), some (.int v1), some (.int v2), some (.int v3), some (.int v4), some (.int v5), some (.int v6), some (.int v7), none, none, none, none, none] [] τ1)
    else j_gP τ1 7 v0 14 (fun a3 =>
    j_ia τ1 a3 v2 (
    if (s_I τ1 a3 v2.toNatClampNeg) = (j_k 5) then (if (j_k 2) < v7 then (if (j_k 0) = 0 ∨ (j_k 0) = 1 then some (some (.int (j_k 0)), τ1) else none)
     else again 112 [some (.ref v0), some (.int v1), some (.int v2), some (.int v3), some (.int v4), some (.int v5), some (.int v6), some (.int v7), none, none, none, none, none] [] τ1)
    else again 112 [some (.ref v0), some (.int v1), some (.int v2), some (.int v3), some (.int v4), some (.int v5), some (.int v6), some (.int v7), none, none, none, none, none] [] τ1)))) := rfl

set_option maxRecDepth 1000000 in
set_option maxHeartbeats 8000000 in
theorem t_185_112 (call : Nat → List Value → Sto → Option Rr) (again : Nat → j_L → List Value → Sto → Option Rr) (σ : Sto) (v0 : Nat) (v1 : Int32) (v2 : Int32) (v3 : Int32) (v4 : Int32) (v5 : Int32) (v6 : Int32) (v7 : Int32) :
    j_seg k_185 h_185 call again 2000 112 [some (.ref v0), some (.int v1), some (.int v2), some (.int v3), some (.int v4), some (.int v5), some (.int v6), some (.int v7), none, none, none, none, none] [] σ =
    j_oc σ 7 v0 (j_c1 call 173 [.ref v0, .int v2] σ (fun x2 τ1 =>
    if x2 = 0 then (again 127 [some (.ref v0), some (.int v1), some (.int v2), some (.int v3), some (.int v4), some (.int v5), some (.int v6), some (.int v7), some (.int (j_k 1)), none, none, none, none] [] τ1)
    else again 127 [some (.ref v0), some (.int v1), some (.int v2), some (.int v3), some (.int v4), some (.int v5), some (.int v6), some (.int v7), some (.int (j_k (-1))), none, none, none, none] [] τ1)) := rfl

set_option maxRecDepth 1000000 in
set_option maxHeartbeats 8000000 in
theorem t_185_127 (call : Nat → List Value → Sto → Option Rr) (again : Nat → j_L → List Value → Sto → Option Rr) (σ : Sto) (v0 : Nat) (v1 : Int32) (v2 : Int32) (v3 : Int32) (v4 : Int32) (v5 : Int32) (v6 : Int32) (v7 : Int32) (v8 : Int32) :
    j_seg k_185 h_185 call again 2000 127 [some (.ref v0), some (.int v1), some (.int v2), some (.int v3), some (.int v4), some (.int v5), some (.int v6), some (.int v7), some (.int v8), none, none, none, none] [] σ =
    j_c1 call 130 [.int v5] σ (fun x2 τ1 =>
    j_c1 call 130 [.int v6] τ1 (fun x4 τ3 =>
    if x2 < x4 then (again 147 [some (.ref v0), some (.int v1), some (.int v2), some (.int v3), some (.int v4), some (.int v5), some (.int v6), some (.int v7), some (.int v8), some (.int (j_k 0)), none, none, none] [] τ3)
    else again 147 [some (.ref v0), some (.int v1), some (.int v2), some (.int v3), some (.int v4), some (.int v5), some (.int v6), some (.int v7), some (.int v8), some (.int (j_k 1)), none, none, none] [] τ3)) := rfl

set_option maxRecDepth 1000000 in
set_option maxHeartbeats 8000000 in
theorem t_185_147 (call : Nat → List Value → Sto → Option Rr) (again : Nat → j_L → List Value → Sto → Option Rr) (σ : Sto) (v0 : Nat) (v1 : Int32) (v2 : Int32) (v3 : Int32) (v4 : Int32) (v5 : Int32) (v6 : Int32) (v7 : Int32) (v8 : Int32) (v9 : Int32) :
    j_seg k_185 h_185 call again 2000 147 [some (.ref v0), some (.int v1), some (.int v2), some (.int v3), some (.int v4), some (.int v5), some (.int v6), some (.int v7), some (.int v8), some (.int v9), none, none, none] [] σ =
    j_c1 call 184 [.int v5] σ (fun x2 τ1 =>
    j_c1 call 184 [.int v6] τ1 (fun x4 τ3 =>
    if v9 = 0 then (j_oc τ3 7 v0 (j_c1 call 181 [.ref v0, .int v4, .int (j_k 0), .int (v8 * x4)] τ3 (fun x6 τ5 =>
     j_oc τ5 7 v0 (j_c1 call 182 [.ref v0, .int v1, .int v2, .int x6] τ5 (fun x8 τ7 =>
     again 220 [some (.ref v0), some (.int v1), some (.int v2), some (.int v3), some (.int v4), some (.int v5), some (.int v6), some (.int v7), some (.int v8), some (.int v9), some (.int (v8 * x2)), some (.int (v8 * x4)), some (.int x8)] [] τ7)))))
    else if (v8 * x2) = 0 then (again 220 [some (.ref v0), some (.int v1), some (.int v2), some (.int v3), some (.int v4), some (.int v5), some (.int v6), some (.int v7), some (.int v8), some (.int v9), some (.int (v8 * x2)), some (.int (v8 * x4)), some (.int (j_k 0))] [] τ3)
    else j_oc τ3 7 v0 (j_c1 call 181 [.ref v0, .int v4, .int (v8 * x2), .int (j_k 0)] τ3 (fun x10 τ9 =>
    j_oc τ9 7 v0 (j_c1 call 182 [.ref v0, .int v1, .int v2, .int x10] τ9 (fun x12 τ11 =>
    if x12 = 0 then (again 220 [some (.ref v0), some (.int v1), some (.int v2), some (.int v3), some (.int v4), some (.int v5), some (.int v6), some (.int v7), some (.int v8), some (.int v9), some (.int (v8 * x2)), some (.int (v8 * x4)), some (.int (j_k 0))] [] τ11)
    else again 220 [some (.ref v0), some (.int v1), some (.int v2), some (.int v3), some (.int v4), some (.int v5), some (.int v6), some (.int v7), some (.int v8), some (.int v9), some (.int (v8 * x2)), some (.int (v8 * x4)), some (.int (j_k 1))] [] τ11)))))) := rfl

set_option maxRecDepth 1000000 in
set_option maxHeartbeats 8000000 in
theorem t_185_220 (call : Nat → List Value → Sto → Option Rr) (again : Nat → j_L → List Value → Sto → Option Rr) (σ : Sto) (v0 : Nat) (v1 : Int32) (v2 : Int32) (v3 : Int32) (v4 : Int32) (v5 : Int32) (v6 : Int32) (v7 : Int32) (v8 : Int32) (v9 : Int32) (v10 : Int32) (v11 : Int32) (v12 : Int32) :
    j_seg k_185 h_185 call again 2000 220 [some (.ref v0), some (.int v1), some (.int v2), some (.int v3), some (.int v4), some (.int v5), some (.int v6), some (.int v7), some (.int v8), some (.int v9), some (.int v10), some (.int v11), some (.int v12)] [] σ =
    if v12 = 0 then (if v9 = 0 then (if v10 = 0 then (if (j_k 0) = 0 ∨ (j_k 0) = 1 then some (some (.int (j_k 0)), σ) else none)
      else j_oc σ 7 v0 (j_c1 call 181 [.ref v0, .int v4, .int v10, .int (j_k 0)] σ (fun x2 τ1 =>
      j_oc τ1 7 v0 (j_c1 call 182 [.ref v0, .int v1, .int v2, .int x2] τ1 (fun x4 τ3 =>
      if x4 = 0 then (if (j_k 0) = 0 ∨ (j_k 0) = 1 then some (some (.int (j_k 0)), τ3) else none)
      else if (j_k 1) = 0 ∨ (j_k 1) = 1 then some (some (.int (j_k 1)), τ3) else none)))))
     else if v11 = 0 then (if (j_k 0) = 0 ∨ (j_k 0) = 1 then some (some (.int (j_k 0)), σ) else none)
     else j_oc σ 7 v0 (j_c1 call 181 [.ref v0, .int v4, .int (j_k 0), .int v11] σ (fun x6 τ5 =>
     j_oc τ5 7 v0 (j_c1 call 182 [.ref v0, .int v1, .int v2, .int x6] τ5 (fun x8 τ7 =>
     if x8 = 0 then (if (j_k 0) = 0 ∨ (j_k 0) = 1 then some (some (.int (j_k 0)), τ7) else none)
     else if (j_k 1) = 0 ∨ (j_k 1) = 1 then some (some (.int (j_k 1)), τ7) else none)))))
    else if (j_k 1) = 0 ∨ (j_k 1) = 1 then some (some (.int (j_k 1)), σ) else none := rfl

-- LastStirredModel.stepOf(I)I
set_option maxRecDepth 1000000 in
set_option maxHeartbeats 8000000 in
theorem t_186_0 (call : Nat → List Value → Sto → Option Rr) (again : Nat → j_L → List Value → Sto → Option Rr) (σ : Sto) (v0 : Nat) (v1 : Int32) :
    j_seg k_186 h_186 call again 2000 0 [some (.ref v0), some (.int v1), none, none, none, none] [] σ =
    j_oc σ 7 v0 (j_c1 call 162 [.ref v0, .int v1, .int (j_k 1)] σ (fun x2 τ1 =>
    if x2 = (j_k (-9)) then (j_oc τ1 7 v0 (j_c1 call 162 [.ref v0, .int v1, .int (j_k 0)] τ1 (fun x4 τ3 =>
     j_oc τ3 7 v0 (j_c0 call 163 [.ref v0, .int v1, .int (j_k 0), .int (x4 + (j_k 1))] τ3 (fun τ5 =>
     some (some (.int (j_k 0)), τ5))))))
    else again 23 [some (.ref v0), some (.int v1), some (.int (j_k 0)), some (.int (j_k (-9))), some (.int (j_k (-9))), some (.int (j_k 0))] [] τ1)) := rfl

set_option maxRecDepth 1000000 in
set_option maxHeartbeats 8000000 in
theorem t_186_23 (call : Nat → List Value → Sto → Option Rr) (again : Nat → j_L → List Value → Sto → Option Rr) (σ : Sto) (v0 : Nat) (v1 : Int32) (v2 : Int32) (v3 : Int32) (v4 : Int32) (v5 : Int32) :
    j_seg k_186 h_186 call again 2000 23 [some (.ref v0), some (.int v1), some (.int v2), some (.int v3), some (.int v4), some (.int v5)] [] σ =
    j_oc σ 7 v0 (if v5 < (s_I σ v0 13) then (j_gP σ 7 v0 28 (fun a1 =>
     j_oc σ 7 v0 (j_c1 call 175 [.ref v0, .int v1, .int v5] σ (fun x3 τ2 =>
     j_is τ2 a1 v5 (let τ4 : Sto := s_uI τ2 a1 v5.toNatClampNeg x3;
     again 23 [some (.ref v0), some (.int v1), some (.int v2), some (.int v3), some (.int v4), some (.int (v5 + (j_k 1)))] [] τ4)))))
    else if (j_k 0) = 0 ∨ (j_k 0) = 1 then (if v0 < j_b then j_oc σ 7 v0 (let τ5 : Sto := s_uI σ v0 26 (j_k 0);
    again 60 [some (.ref v0), some (.int v1), some (.int v2), some (.int v3), some (.int v4), some (.int (j_k 0))] [] τ5) else none) else none) := rfl

set_option maxRecDepth 1000000 in
set_option maxHeartbeats 8000000 in
theorem t_186_60 (call : Nat → List Value → Sto → Option Rr) (again : Nat → j_L → List Value → Sto → Option Rr) (σ : Sto) (v0 : Nat) (v1 : Int32) (v2 : Int32) (v3 : Int32) (v4 : Int32) (v5 : Int32) :
    j_seg k_186 h_186 call again 2000 60 [some (.ref v0), some (.int v1), some (.int v2), some (.int v3), some (.int v4), some (.int v5)] [] σ =
    j_oc σ 7 v0 (if v5 < (s_I σ v0 13) then (j_oc σ 7 v0 (j_c1 call 165 [.ref v0, .int v1, .int v5] σ (fun x2 τ1 =>
     if x2 = 0 then (j_oc τ1 7 v0 (j_c1 call 162 [.ref v0, .int v1, .int (j_k 1)] τ1 (fun x4 τ3 =>
      if v5 = x4 then (again 60 [some (.ref v0), some (.int v1), some (.int v2), some (.int v3), some (.int v4), some (.int (v5 + (j_k 1)))] [] τ3)
      else j_gP τ3 7 v0 28 (fun a5 =>
      j_ia τ3 a5 v5 (
      j_oc τ3 7 v0 (j_c1 call 185 [.ref v0, .int v1, .int v5, .int (s_I τ3 a5 v5.toNatClampNeg)] τ3 (fun x7 τ6 =>
      if x7 = 0 then (again 60 [some (.ref v0), some (.int v1), some (.int v2), some (.int v3), some (.int v4), some (.int (v5 + (j_k 1)))] [] τ6)
      else j_oc τ6 7 v0 (again 60 [some (.ref v0), some (.int v1), some (.int (v2 ||| ((j_k 1) <<< (v5 &&& 31)))), some (.int (s_I τ6 v0 27)), some (.int v5), some (.int (v5 + (j_k 1)))] [] τ6))))))))
     else again 60 [some (.ref v0), some (.int v1), some (.int v2), some (.int v3), some (.int v4), some (.int (v5 + (j_k 1)))] [] τ1)))
    else if v4 = (j_k (-9)) then (j_oc σ 7 v0 (j_c1 call 162 [.ref v0, .int v1, .int (j_k 0)] σ (fun x9 τ8 =>
     j_oc τ8 7 v0 (j_c0 call 163 [.ref v0, .int v1, .int (j_k 0), .int (x9 + (j_k 1))] τ8 (fun τ10 =>
     some (some (.int v2), τ10))))))
    else j_oc σ 7 v0 (j_c0 call 183 [.ref v0, .int v1, .int v4, .int v3] σ (fun τ11 =>
    j_oc τ11 7 v0 (j_c1 call 162 [.ref v0, .int v1, .int (j_k 0)] τ11 (fun x13 τ12 =>
    j_oc τ12 7 v0 (j_c0 call 163 [.ref v0, .int v1, .int (j_k 0), .int (x13 + (j_k 1))] τ12 (fun τ14 =>
    some (some (.int v2), τ14)))))))) := rfl

-- LastStirredModel.runs(I)I
set_option maxRecDepth 1000000 in
set_option maxHeartbeats 8000000 in
theorem t_187_0 (call : Nat → List Value → Sto → Option Rr) (again : Nat → j_L → List Value → Sto → Option Rr) (σ : Sto) (v0 : Nat) (v1 : Int32) :
    j_seg k_187 h_187 call again 2000 0 [some (.ref v0), some (.int v1), none, none, none] [] σ =
    if v0 < j_b then j_oc σ 7 v0 (let τ1 : Sto := s_uI σ v0 30 (j_k 0);
    again 9 [some (.ref v0), some (.int v1), some (.int (j_k 0)), some (.int (j_k 0)), none] [] τ1) else none := rfl

set_option maxRecDepth 1000000 in
set_option maxHeartbeats 8000000 in
theorem t_187_9 (call : Nat → List Value → Sto → Option Rr) (again : Nat → j_L → List Value → Sto → Option Rr) (σ : Sto) (v0 : Nat) (v1 : Int32) (v2 : Int32) (v3 : Int32) :
    j_seg k_187 h_187 call again 2000 9 [some (.ref v0), some (.int v1), some (.int v2), some (.int v3), none] [] σ =
    if v2 < (j_k 2) then (if v3 < (j_k 40) then (j_oc σ 7 v0 (j_c1 call 186 [.ref v0, .int v1] σ (fun x2 τ1 =>
      j_oc τ1 7 v0 (if v0 < j_b then j_oc τ1 7 v0 (let τ3 : Sto := s_uI τ1 v0 30 ((s_I τ1 v0 30) ||| x2);
      if x2 = 0 then (again 9 [some (.ref v0), some (.int v1), some (.int (v2 + (j_k 1))), some (.int (v3 + (j_k 1))), none] [] τ3)
      else again 9 [some (.ref v0), some (.int v1), some (.int (j_k 0)), some (.int (v3 + (j_k 1))), none] [] τ3) else none))))
     else if v2 = (j_k 2) then (if (j_k 1) = 0 ∨ (j_k 1) = 1 then (if v0 < j_b then j_oc σ 7 v0 (let τ4 : Sto := s_uI σ v0 29 (j_k 1);
      some (some (.int v3), τ4)) else none) else none)
     else if (j_k 0) = 0 ∨ (j_k 0) = 1 then (if v0 < j_b then j_oc σ 7 v0 (let τ5 : Sto := s_uI σ v0 29 (j_k 0);
     some (some (.int v3), τ5)) else none) else none)
    else if v2 = (j_k 2) then (if (j_k 1) = 0 ∨ (j_k 1) = 1 then (if v0 < j_b then j_oc σ 7 v0 (let τ6 : Sto := s_uI σ v0 29 (j_k 1);
     some (some (.int v3), τ6)) else none) else none)
    else if (j_k 0) = 0 ∨ (j_k 0) = 1 then (if v0 < j_b then j_oc σ 7 v0 (let τ7 : Sto := s_uI σ v0 29 (j_k 0);
    some (some (.int v3), τ7)) else none) else none := rfl

-- LastStirredModel.stirs(III)Z
set_option maxRecDepth 1000000 in
set_option maxHeartbeats 8000000 in
theorem t_188_0 (call : Nat → List Value → Sto → Option Rr) (again : Nat → j_L → List Value → Sto → Option Rr) (σ : Sto) (v0 : Nat) (v1 : Int32) (v2 : Int32) (v3 : Int32) :
    j_seg k_188 h_188 call again 2000 0 [some (.ref v0), some (.int v1), some (.int v2), some (.int v3), none] [] σ =
    j_oc σ 7 v0 (j_c1 call 165 [.ref v0, .int v1, .int v2] σ (fun x2 τ1 =>
    if x2 = 0 then (if (j_k 0) = 0 ∨ (j_k 0) = 1 then (if v0 < j_b then j_oc τ1 7 v0 (let τ3 : Sto := s_uI τ1 v0 26 (j_k 0);
     j_oc τ3 7 v0 (j_c1 call 162 [.ref v0, .int v1, .int ((j_k 5) + v2)] τ3 (fun x5 τ4 =>
     if v3 = (j_k 1) then (if v3 = 0 then (j_oc τ4 7 v0 (j_c1 call 181 [.ref v0, .int x5, .int (j_k 1), .int (j_k (-1))] τ4 (fun x7 τ6 =>
       j_oc τ6 7 v0 (j_c1 call 182 [.ref v0, .int v1, .int v2, .int x7] τ6 (fun x9 τ8 =>
       if x9 = 0 then (if (j_k 0) = 0 ∨ (j_k 0) = 1 then some (some (.int (j_k 0)), τ8) else none)
       else j_oc τ8 7 v0 (j_c0 call 183 [.ref v0, .int v1, .int v2, .int x7] τ8 (fun τ10 =>
       if (j_k 1) = 0 ∨ (j_k 1) = 1 then some (some (.int (j_k 1)), τ10) else none)))))))
      else if v3 = (j_k 2) then (j_oc τ4 7 v0 (j_c1 call 181 [.ref v0, .int x5, .int (j_k 1), .int (j_k 1)] τ4 (fun x12 τ11 =>
       j_oc τ11 7 v0 (j_c1 call 182 [.ref v0, .int v1, .int v2, .int x12] τ11 (fun x14 τ13 =>
       if x14 = 0 then (if (j_k 0) = 0 ∨ (j_k 0) = 1 then some (some (.int (j_k 0)), τ13) else none)
       else j_oc τ13 7 v0 (j_c0 call 183 [.ref v0, .int v1, .int v2, .int x12] τ13 (fun τ15 =>
       if (j_k 1) = 0 ∨ (j_k 1) = 1 then some (some (.int (j_k 1)), τ15) else none)))))))
      else j_oc τ4 7 v0 (j_c1 call 181 [.ref v0, .int x5, .int (j_k 1), .int (j_k 0)] τ4 (fun x17 τ16 =>
      j_oc τ16 7 v0 (j_c1 call 182 [.ref v0, .int v1, .int v2, .int x17] τ16 (fun x19 τ18 =>
      if x19 = 0 then (if (j_k 0) = 0 ∨ (j_k 0) = 1 then some (some (.int (j_k 0)), τ18) else none)
      else j_oc τ18 7 v0 (j_c0 call 183 [.ref v0, .int v1, .int v2, .int x17] τ18 (fun τ20 =>
      if (j_k 1) = 0 ∨ (j_k 1) = 1 then some (some (.int (j_k 1)), τ20) else none)))))))
     else if v3 = (j_k 3) then (if v3 = 0 then (j_oc τ4 7 v0 (j_c1 call 181 [.ref v0, .int x5, .int (j_k (-1)), .int (j_k (-1))] τ4 (fun x22 τ21 =>
       j_oc τ21 7 v0 (j_c1 call 182 [.ref v0, .int v1, .int v2, .int x22] τ21 (fun x24 τ23 =>
       if x24 = 0 then (if (j_k 0) = 0 ∨ (j_k 0) = 1 then some (some (.int (j_k 0)), τ23) else none)
       else j_oc τ23 7 v0 (j_c0 call 183 [.ref v0, .int v1, .int v2, .int x22] τ23 (fun τ25 =>
       if (j_k 1) = 0 ∨ (j_k 1) = 1 then some (some (.int (j_k 1)), τ25) else none)))))))
      else if v3 = (j_k 2) then (j_oc τ4 7 v0 (j_c1 call 181 [.ref v0, .int x5, .int (j_k (-1)), .int (j_k 1)] τ4 (fun x27 τ26 =>
       j_oc τ26 7 v0 (j_c1 call 182 [.ref v0, .int v1, .int v2, .int x27] τ26 (fun x29 τ28 =>
       if x29 = 0 then (if (j_k 0) = 0 ∨ (j_k 0) = 1 then some (some (.int (j_k 0)), τ28) else none)
       else j_oc τ28 7 v0 (j_c0 call 183 [.ref v0, .int v1, .int v2, .int x27] τ28 (fun τ30 =>
       if (j_k 1) = 0 ∨ (j_k 1) = 1 then some (some (.int (j_k 1)), τ30) else none)))))))
      else j_oc τ4 7 v0 (j_c1 call 181 [.ref v0, .int x5, .int (j_k (-1)), .int (j_k 0)] τ4 (fun x32 τ31 =>
      j_oc τ31 7 v0 (j_c1 call 182 [.ref v0, .int v1, .int v2, .int x32] τ31 (fun x34 τ33 =>
      if x34 = 0 then (if (j_k 0) = 0 ∨ (j_k 0) = 1 then some (some (.int (j_k 0)), τ33) else none)
      else j_oc τ33 7 v0 (j_c0 call 183 [.ref v0, .int v1, .int v2, .int x32] τ33 (fun τ35 =>
      if (j_k 1) = 0 ∨ (j_k 1) = 1 then some (some (.int (j_k 1)), τ35) else none)))))))
     else if v3 = 0 then (j_oc τ4 7 v0 (j_c1 call 181 [.ref v0, .int x5, .int (j_k 0), .int (j_k (-1))] τ4 (fun x37 τ36 =>
      j_oc τ36 7 v0 (j_c1 call 182 [.ref v0, .int v1, .int v2, .int x37] τ36 (fun x39 τ38 =>
      if x39 = 0 then (if (j_k 0) = 0 ∨ (j_k 0) = 1 then some (some (.int (j_k 0)), τ38) else none)
      else j_oc τ38 7 v0 (j_c0 call 183 [.ref v0, .int v1, .int v2, .int x37] τ38 (fun τ40 =>
      if (j_k 1) = 0 ∨ (j_k 1) = 1 then some (some (.int (j_k 1)), τ40) else none)))))))
     else if v3 = (j_k 2) then (j_oc τ4 7 v0 (j_c1 call 181 [.ref v0, .int x5, .int (j_k 0), .int (j_k 1)] τ4 (fun x42 τ41 =>
      j_oc τ41 7 v0 (j_c1 call 182 [.ref v0, .int v1, .int v2, .int x42] τ41 (fun x44 τ43 =>
      if x44 = 0 then (if (j_k 0) = 0 ∨ (j_k 0) = 1 then some (some (.int (j_k 0)), τ43) else none)
      else j_oc τ43 7 v0 (j_c0 call 183 [.ref v0, .int v1, .int v2, .int x42] τ43 (fun τ45 =>
      if (j_k 1) = 0 ∨ (j_k 1) = 1 then some (some (.int (j_k 1)), τ45) else none)))))))
     else j_oc τ4 7 v0 (j_c1 call 181 [.ref v0, .int x5, .int (j_k 0), .int (j_k 0)] τ4 (fun x47 τ46 =>
     j_oc τ46 7 v0 (j_c1 call 182 [.ref v0, .int v1, .int v2, .int x47] τ46 (fun x49 τ48 =>
     if x49 = 0 then (if (j_k 0) = 0 ∨ (j_k 0) = 1 then some (some (.int (j_k 0)), τ48) else none)
     else j_oc τ48 7 v0 (j_c0 call 183 [.ref v0, .int v1, .int v2, .int x47] τ48 (fun τ50 =>
     if (j_k 1) = 0 ∨ (j_k 1) = 1 then some (some (.int (j_k 1)), τ50) else none))))))))) else none) else none)
    else if (j_k 0) = 0 ∨ (j_k 0) = 1 then some (some (.int (j_k 0)), τ1) else none)) := rfl

-- LastStirredModel.drives(II)Z
set_option maxRecDepth 1000000 in
set_option maxHeartbeats 8000000 in
theorem t_189_0 (call : Nat → List Value → Sto → Option Rr) (again : Nat → j_L → List Value → Sto → Option Rr) (σ : Sto) (v0 : Nat) (v1 : Int32) (v2 : Int32) :
    j_seg k_189 h_189 call again 2000 0 [some (.ref v0), some (.int v1), some (.int v2)] [] σ =
    if (j_k 4) = 0 then none else
    if (j_k 4) = 0 then none else
    j_oc σ 7 v0 (j_c1 call 188 [.ref v0, .int v1, .int (v2 / (j_k 4)), .int (v2 - v2 / (j_k 4) * (j_k 4))] σ (fun x2 τ1 =>
    if x2 = 0 then (if (j_k 0) = 0 ∨ (j_k 0) = 1 then some (some (.int (j_k 0)), τ1) else none)
    else j_oc τ1 7 v0 (j_c1 call 187 [.ref v0, .int v1] τ1 (fun x4 τ3 =>
    if (j_k 1) = 0 ∨ (j_k 1) = 1 then some (some (.int (j_k 1)), τ3) else none)))) := rfl

-- LastStirredModel.stir(II)I
set_option maxRecDepth 1000000 in
set_option maxHeartbeats 8000000 in
theorem t_190_0 (call : Nat → List Value → Sto → Option Rr) (again : Nat → j_L → List Value → Sto → Option Rr) (σ : Sto) (v0 : Nat) (v1 : Int32) (v2 : Int32) :
    j_seg k_190 h_190 call again 2000 0 [some (.ref v0), some (.int v1), some (.int v2)] [] σ =
    j_oc σ 7 v0 (j_c1 call 161 [.ref v0, .int v1] σ (fun x2 τ1 =>
    if x2 = 0 then (some (some (.int (j_k (-1))), τ1))
    else j_c1 call 127 [.int v2, .int (j_k 0), .int (j_k 3)] τ1 (fun x4 τ3 =>
    if x4 = 0 then (some (some (.int (j_k (-1))), τ3))
    else j_oc τ3 7 v0 (j_c1 call 188 [.ref v0, .int (j_k 0), .int v1, .int v2] τ3 (fun x6 τ5 =>
    if x6 = 0 then (some (some (.int (j_k (-4))), τ5))
    else j_oc τ5 7 v0 (some (some (.int (s_I τ5 v0 27)), τ5))))))) := rfl

-- LastStirredModel.go(I)I
set_option maxRecDepth 1000000 in
set_option maxHeartbeats 8000000 in
theorem t_191_0 (call : Nat → List Value → Sto → Option Rr) (again : Nat → j_L → List Value → Sto → Option Rr) (σ : Sto) (v0 : Nat) (v1 : Int32) :
    j_seg k_191 h_191 call again 2000 0 [some (.ref v0), some (.int v1), none, none] [] σ =
    j_c1 call 127 [.int v1, .int (j_k 0), .int (j_k 40)] σ (fun x2 τ1 =>
    if x2 = 0 then (some (some (.int (j_k (-1))), τ1))
    else j_oc τ1 7 v0 (if (s_I τ1 v0 11) = 0 then (some (some (.int (j_k (-4))), τ1))
    else j_oc τ1 7 v0 (j_c1 call 162 [.ref v0, .int (j_k 0), .int (j_k 0)] τ1 (fun x4 τ3 =>
    if (j_k 10000) < (x4 + v1) then (some (some (.int (j_k (-6))), τ3))
    else again 43 [some (.ref v0), some (.int v1), some (.int (j_k 0)), some (.int (j_k 0))] [] τ3)))) := rfl

set_option maxRecDepth 1000000 in
set_option maxHeartbeats 8000000 in
theorem t_191_43 (call : Nat → List Value → Sto → Option Rr) (again : Nat → j_L → List Value → Sto → Option Rr) (σ : Sto) (v0 : Nat) (v1 : Int32) (v2 : Int32) (v3 : Int32) :
    j_seg k_191 h_191 call again 2000 43 [some (.ref v0), some (.int v1), some (.int v2), some (.int v3)] [] σ =
    if v3 < v1 then (j_oc σ 7 v0 (j_c1 call 186 [.ref v0, .int (j_k 0)] σ (fun x2 τ1 =>
     again 43 [some (.ref v0), some (.int v1), some (.int x2), some (.int (v3 + (j_k 1)))] [] τ1)))
    else some (some (.int v2), σ) := rfl

-- LastStirredModel.run()I
set_option maxRecDepth 1000000 in
set_option maxHeartbeats 8000000 in
theorem t_192_0 (call : Nat → List Value → Sto → Option Rr) (again : Nat → j_L → List Value → Sto → Option Rr) (σ : Sto) (v0 : Nat) :
    j_seg k_192 h_192 call again 2000 0 [some (.ref v0), none] [] σ =
    j_oc σ 7 v0 (if (s_I σ v0 11) = 0 then (some (some (.int (j_k (-4))), σ))
    else j_oc σ 7 v0 (j_c1 call 162 [.ref v0, .int (j_k 0), .int (j_k 0)] σ (fun x2 τ1 =>
    if (j_k 9960) < x2 then (some (some (.int (j_k (-6))), τ1))
    else j_oc τ1 7 v0 (j_c1 call 187 [.ref v0, .int (j_k 0)] τ1 (fun x4 τ3 =>
    j_oc τ3 7 v0 (if (s_I τ3 v0 29) = 0 then (j_oc τ3 7 v0 (j_c1 call 134 [.ref v0, .int (j_k 0), .int x4] τ3 (fun x6 τ5 =>
     some (some (.int x6), τ5))))
    else j_oc τ3 7 v0 (j_c1 call 134 [.ref v0, .int (j_k 1), .int x4] τ3 (fun x8 τ7 =>
    some (some (.int x8), τ7))))))))) := rfl

-- LastStirredModel.stateOf(I)J
set_option maxRecDepth 1000000 in
set_option maxHeartbeats 8000000 in
theorem t_193_0 (call : Nat → List Value → Sto → Option Rr) (again : Nat → j_L → List Value → Sto → Option Rr) (σ : Sto) (v0 : Nat) (v1 : Int32) :
    j_seg k_193 h_193 call again 2000 0 [some (.ref v0), some (.int v1), none, none, none] [] σ =
    j_oc σ 7 v0 (j_c1 call 162 [.ref v0, .int v1, .int (j_k 0)] σ (fun x2 τ1 =>
    if (j_k 2) = 0 then none else
    again 13 [some (.ref v0), some (.int v1), some (.long ((x2 - x2 / (j_k 2) * (j_k 2)).toInt64)), none, some (.int (j_k 1))] [] τ1)) := rfl

set_option maxRecDepth 1000000 in
set_option maxHeartbeats 8000000 in
theorem t_193_13 (call : Nat → List Value → Sto → Option Rr) (again : Nat → j_L → List Value → Sto → Option Rr) (σ : Sto) (v0 : Nat) (v1 : Int32) (v2 : Int64) (v4 : Int32) :
    j_seg k_193 h_193 call again 2000 13 [some (.ref v0), some (.int v1), some (.long v2), none, some (.int v4)] [] σ =
    if v4 < (j_k 9) then (j_oc σ 7 v0 (j_c1 call 162 [.ref v0, .int v1, .int v4] σ (fun x2 τ1 =>
     again 13 [some (.ref v0), some (.int v1), some (.long ((((j_cJ 4) * v2) + x2.toInt64) + (j_cJ 5))), none, some (.int (v4 + (j_k 1)))] [] τ1)))
    else some (some (.long v2), σ) := rfl

-- LastStirredModel.ring()I
set_option maxRecDepth 1000000 in
set_option maxHeartbeats 8000000 in
theorem t_194_0 (call : Nat → List Value → Sto → Option Rr) (again : Nat → j_L → List Value → Sto → Option Rr) (σ : Sto) (v0 : Nat) :
    j_seg k_194 h_194 call again 2000 0 [some (.ref v0), none, none] [] σ =
    j_oc σ 7 v0 (if (s_I σ v0 11) = 0 then (some (some (.int (j_k (-4))), σ))
    else j_oc σ 7 v0 (j_c0 call 164 [.ref v0, .int (j_k 0), .int (j_k 4)] σ (fun τ1 =>
    again 18 [some (.ref v0), some (.int (j_k 0)), none] [] τ1))) := rfl

set_option maxRecDepth 1000000 in
set_option maxHeartbeats 8000000 in
theorem t_194_18 (call : Nat → List Value → Sto → Option Rr) (again : Nat → j_L → List Value → Sto → Option Rr) (σ : Sto) (v0 : Nat) (v1 : Int32) :
    j_seg k_194 h_194 call again 2000 18 [some (.ref v0), some (.int v1), none] [] σ =
    if (j_k 200) < v1 then (some (some (.int (j_k (-9))), σ))
    else j_gP σ 7 v0 31 (fun a1 =>
    j_oc σ 7 v0 (j_c2 call 193 [.ref v0, .int (j_k 4)] σ (fun x3 τ2 =>
    if a1 < j_b then j_la τ2 a1 v1 (let τ4 : Sto := s_uJ τ2 a1 v1.toNatClampNeg x3;
    again 38 [some (.ref v0), some (.int v1), some (.int (j_k 0))] [] τ4) else none))) := rfl

set_option maxRecDepth 1000000 in
set_option maxHeartbeats 8000000 in
theorem t_194_38 (call : Nat → List Value → Sto → Option Rr) (again : Nat → j_L → List Value → Sto → Option Rr) (σ : Sto) (v0 : Nat) (v1 : Int32) (v2 : Int32) :
    j_seg k_194 h_194 call again 2000 38 [some (.ref v0), some (.int v1), some (.int v2)] [] σ =
    if v2 < v1 then (j_gP σ 7 v0 31 (fun a1 =>
     j_la σ a1 v2 (
     j_gP σ 7 v0 31 (fun a2 =>
     j_la σ a2 v1 (
     if (lg_cmp (s_J σ a1 v2.toNatClampNeg) (s_J σ a2 v1.toNatClampNeg)) = 0 then (j_oc σ 7 v0 (j_c1 call 134 [.ref v0, .int (v1 - v2), .int v1] σ (fun x4 τ3 =>
      some (some (.int x4), τ3))))
     else again 38 [some (.ref v0), some (.int v1), some (.int (v2 + (j_k 1)))] [] σ)))))
    else j_oc σ 7 v0 (j_c1 call 186 [.ref v0, .int (j_k 4)] σ (fun x6 τ5 =>
    again 18 [some (.ref v0), some (.int (v1 + (j_k 1))), none] [] τ5)) := rfl

-- LastStirredModel.where(I)I
set_option maxRecDepth 1000000 in
set_option maxHeartbeats 8000000 in
theorem t_195_0 (call : Nat → List Value → Sto → Option Rr) (again : Nat → j_L → List Value → Sto → Option Rr) (σ : Sto) (v0 : Nat) (v1 : Int32) :
    j_seg k_195 h_195 call again 2000 0 [some (.ref v0), some (.int v1), none] [] σ =
    j_c1 call 139 [.int v1] σ (fun x2 τ1 =>
    if x2 = 0 then (some (some (.int (j_k (-1))), τ1))
    else j_gP τ1 7 v0 5 (fun a3 =>
    j_oc τ1 7 v0 (j_is τ1 a3 v1 (let τ4 : Sto := s_uI τ1 a3 v1.toNatClampNeg (s_I τ1 v0 13);
    again 21 [some (.ref v0), some (.int v1), some (.int (j_k 0))] [] τ4)))) := rfl

set_option maxRecDepth 1000000 in
set_option maxHeartbeats 8000000 in
theorem t_195_21 (call : Nat → List Value → Sto → Option Rr) (again : Nat → j_L → List Value → Sto → Option Rr) (σ : Sto) (v0 : Nat) (v1 : Int32) (v2 : Int32) :
    j_seg k_195 h_195 call again 2000 21 [some (.ref v0), some (.int v1), some (.int v2)] [] σ =
    if v2 < (j_k 60) then (j_gP σ 7 v0 6 (fun a1 =>
     j_oc σ 7 v0 (if v2 < (s_I σ v0 13) then (j_oc σ 7 v0 (j_c1 call 162 [.ref v0, .int (j_k 0), .int ((j_k 5) + v2)] σ (fun x3 τ2 =>
      j_is τ2 a1 (((j_k 60) * v1) + v2) (let τ4 : Sto := s_uI τ2 a1 (((j_k 60) * v1) + v2).toNatClampNeg x3;
      again 21 [some (.ref v0), some (.int v1), some (.int (v2 + (j_k 1)))] [] τ4))))
     else j_is σ a1 (((j_k 60) * v1) + v2) (let τ5 : Sto := s_uI σ a1 (((j_k 60) * v1) + v2).toNatClampNeg (j_k 0);
     again 21 [some (.ref v0), some (.int v1), some (.int (v2 + (j_k 1)))] [] τ5))))
    else j_oc σ 7 v0 (j_c1 call 166 [.ref v0, .int (j_k 0)] σ (fun x7 τ6 =>
    some (some (.int x7), τ6))) := rfl

-- LastStirredModel.apartOf(I)I
set_option maxRecDepth 1000000 in
set_option maxHeartbeats 8000000 in
theorem t_196_0 (call : Nat → List Value → Sto → Option Rr) (again : Nat → j_L → List Value → Sto → Option Rr) (σ : Sto) (v0 : Nat) (v1 : Int32) :
    j_seg k_196 h_196 call again 2000 0 [some (.ref v0), some (.int v1), none, none, none] [] σ =
    again 4 [some (.ref v0), some (.int v1), some (.int (j_k 0)), some (.int (j_k 0)), none] [] σ := rfl

set_option maxRecDepth 1000000 in
set_option maxHeartbeats 8000000 in
theorem t_196_4 (call : Nat → List Value → Sto → Option Rr) (again : Nat → j_L → List Value → Sto → Option Rr) (σ : Sto) (v0 : Nat) (v1 : Int32) (v2 : Int32) (v3 : Int32) :
    j_seg k_196 h_196 call again 2000 4 [some (.ref v0), some (.int v1), some (.int v2), some (.int v3), none] [] σ =
    j_oc σ 7 v0 (if v3 < (s_I σ v0 13) then (again 17 [some (.ref v0), some (.int v1), some (.int v2), some (.int v3), some (.int (v3 + (j_k 1)))] [] σ)
    else some (some (.int v2), σ)) := rfl

set_option maxRecDepth 1000000 in
set_option maxHeartbeats 8000000 in
theorem t_196_17 (call : Nat → List Value → Sto → Option Rr) (again : Nat → j_L → List Value → Sto → Option Rr) (σ : Sto) (v0 : Nat) (v1 : Int32) (v2 : Int32) (v3 : Int32) (v4 : Int32) :
    j_seg k_196 h_196 call again 2000 17 [some (.ref v0), some (.int v1), some (.int v2), some (.int v3), some (.int v4)] [] σ =
    j_oc σ 7 v0 (if v4 < (s_I σ v0 13) then (j_oc σ 7 v0 (j_c1 call 165 [.ref v0, .int v1, .int v3] σ (fun x2 τ1 =>
     if x2 = 0 then (j_oc τ1 7 v0 (j_c1 call 165 [.ref v0, .int v1, .int v4] τ1 (fun x4 τ3 =>
      if x4 = 0 then (j_oc τ3 7 v0 (j_c1 call 162 [.ref v0, .int v1, .int ((j_k 5) + v3)] τ3 (fun x6 τ5 =>
       j_oc τ5 7 v0 (j_c1 call 162 [.ref v0, .int v1, .int ((j_k 5) + v4)] τ5 (fun x8 τ7 =>
       j_oc τ7 7 v0 (j_c1 call 168 [.ref v0, .int x6, .int x8] τ7 (fun x10 τ9 =>
       again 17 [some (.ref v0), some (.int v1), some (.int (v2 + x10)), some (.int v3), some (.int (v4 + (j_k 1)))] [] τ9)))))))
      else again 17 [some (.ref v0), some (.int v1), some (.int (v2 + (j_k 0))), some (.int v3), some (.int (v4 + (j_k 1)))] [] τ3)))
     else again 17 [some (.ref v0), some (.int v1), some (.int (v2 + (j_k 0))), some (.int v3), some (.int (v4 + (j_k 1)))] [] τ1)))
    else again 4 [some (.ref v0), some (.int v1), some (.int v2), some (.int (v3 + (j_k 1))), none] [] σ) := rfl

-- LastStirredModel.apart()I
set_option maxRecDepth 1000000 in
set_option maxHeartbeats 8000000 in
theorem t_197_0 (call : Nat → List Value → Sto → Option Rr) (again : Nat → j_L → List Value → Sto → Option Rr) (σ : Sto) (v0 : Nat) :
    j_seg k_197 h_197 call again 2000 0 [some (.ref v0)] [] σ =
    j_oc σ 7 v0 (j_c1 call 196 [.ref v0, .int (j_k 0)] σ (fun x2 τ1 =>
    some (some (.int x2), τ1))) := rfl

-- LastStirredModel.keep(I)I
set_option maxRecDepth 1000000 in
set_option maxHeartbeats 8000000 in
theorem t_198_0 (call : Nat → List Value → Sto → Option Rr) (again : Nat → j_L → List Value → Sto → Option Rr) (σ : Sto) (v0 : Nat) (v1 : Int32) :
    j_seg k_198 h_198 call again 2000 0 [some (.ref v0), some (.int v1)] [] σ =
    j_c1 call 127 [.int v1, .int (j_k 0), .int (j_k 2)] σ (fun x2 τ1 =>
    if x2 = 0 then (some (some (.int (j_k (-1))), τ1))
    else j_oc τ1 7 v0 (if (s_I τ1 v0 11) = 0 then (some (some (.int (j_k (-4))), τ1))
    else j_oc τ1 7 v0 (j_c0 call 164 [.ref v0, .int (j_k 0), .int ((j_k 1) + v1)] τ1 (fun τ3 =>
    j_gP τ3 7 v0 25 (fun a4 =>
    j_bs τ3 a4 v1 (j_k 1) (fun τ5 =>
    j_oc τ5 7 v0 (j_c1 call 162 [.ref v0, .int (j_k 0), .int (j_k 0)] τ5 (fun x7 τ6 =>
    some (some (.int x7), τ6))))))))) := rfl

-- LastStirredModel.on(I)I
set_option maxRecDepth 1000000 in
set_option maxHeartbeats 8000000 in
theorem t_199_0 (call : Nat → List Value → Sto → Option Rr) (again : Nat → j_L → List Value → Sto → Option Rr) (σ : Sto) (v0 : Nat) (v1 : Int32) :
    j_seg k_199 h_199 call again 2000 0 [some (.ref v0), some (.int v1)] [] σ =
    j_c1 call 127 [.int v1, .int (j_k 0), .int (j_k 2)] σ (fun x2 τ1 =>
    if x2 = 0 then (some (some (.int (j_k (-1))), τ1))
    else j_gP τ1 7 v0 25 (fun a3 =>
    j_ba τ1 a3 v1 (
    if (s_I τ1 a3 v1.toNatClampNeg) = 0 then (j_oc τ1 7 v0 (j_c1 call 131 [.ref v0, .int (j_k 1)] τ1 (fun x5 τ4 =>
     some (some (.int x5), τ4))))
    else j_oc τ1 7 v0 (j_c0 call 164 [.ref v0, .int ((j_k 1) + v1), .int (j_k 0)] τ1 (fun τ6 =>
    j_oc τ6 7 v0 (j_c1 call 162 [.ref v0, .int (j_k 0), .int (j_k 0)] τ6 (fun x8 τ7 =>
    some (some (.int x8), τ7)))))))) := rfl

-- LastStirredModel.isSafe(I)Z
set_option maxRecDepth 1000000 in
set_option maxHeartbeats 8000000 in
theorem t_200_0 (call : Nat → List Value → Sto → Option Rr) (again : Nat → j_L → List Value → Sto → Option Rr) (σ : Sto) (v0 : Nat) (v1 : Int32) :
    j_seg k_200 h_200 call again 2000 0 [some (.ref v0), some (.int v1), none, none] [] σ =
    j_oc σ 7 v0 (if 0 < (s_I σ v0 13) then (again 15 [some (.ref v0), some (.int v1), some (.int (j_k 1)), some (.int (j_k 0))] [] σ)
    else again 15 [some (.ref v0), some (.int v1), some (.int (j_k 0)), some (.int (j_k 0))] [] σ) := rfl

set_option maxRecDepth 1000000 in
set_option maxHeartbeats 8000000 in
theorem t_200_15 (call : Nat → List Value → Sto → Option Rr) (again : Nat → j_L → List Value → Sto → Option Rr) (σ : Sto) (v0 : Nat) (v1 : Int32) (v2 : Int32) (v3 : Int32) :
    j_seg k_200 h_200 call again 2000 15 [some (.ref v0), some (.int v1), some (.int v2), some (.int v3)] [] σ =
    j_oc σ 7 v0 (if v3 < (s_I σ v0 13) then (if v2 = 0 then (again 15 [some (.ref v0), some (.int v1), some (.int (j_k 0)), some (.int (v3 + (j_k 1)))] [] σ)
     else j_oc σ 7 v0 (j_c1 call 165 [.ref v0, .int v1, .int v3] σ (fun x2 τ1 =>
     if x2 = 0 then (j_gP τ1 7 v0 12 (fun a3 =>
      j_oc τ1 7 v0 (j_c1 call 162 [.ref v0, .int v1, .int ((j_k 5) + v3)] τ1 (fun x5 τ4 =>
      j_ia τ4 a3 x5 (
      if (s_I τ4 a3 x5.toNatClampNeg) = (j_k 3) then (again 15 [some (.ref v0), some (.int v1), some (.int (j_k 1)), some (.int (v3 + (j_k 1)))] [] τ4)
      else again 15 [some (.ref v0), some (.int v1), some (.int (j_k 0)), some (.int (v3 + (j_k 1)))] [] τ4)))))
     else again 15 [some (.ref v0), some (.int v1), some (.int (j_k 0)), some (.int (v3 + (j_k 1)))] [] τ1)))
    else if v2 = 0 ∨ v2 = 1 then some (some (.int v2), σ) else none) := rfl

-- LastStirredModel.codes()I
set_option maxRecDepth 1000000 in
set_option maxHeartbeats 8000000 in
theorem t_201_0 (call : Nat → List Value → Sto → Option Rr) (again : Nat → j_L → List Value → Sto → Option Rr) (σ : Sto) (v0 : Nat) :
    j_seg k_201 h_201 call again 2000 0 [some (.ref v0)] [] σ =
    j_oc σ 7 v0 (some (some (.int ((j_k 4) * (s_I σ v0 13))), σ)) := rfl

-- LastStirredModel.driven(II)Z
set_option maxRecDepth 1000000 in
set_option maxHeartbeats 8000000 in
theorem t_202_0 (call : Nat → List Value → Sto → Option Rr) (again : Nat → j_L → List Value → Sto → Option Rr) (σ : Sto) (v0 : Nat) (v1 : Int32) (v2 : Int32) :
    j_seg k_202 h_202 call again 2000 0 [some (.ref v0), some (.int v1), some (.int v2)] [] σ =
    j_oc σ 7 v0 (j_c0 call 164 [.ref v0, .int v1, .int (v1 + (j_k 1))] σ (fun τ1 =>
    j_oc τ1 7 v0 (j_c1 call 189 [.ref v0, .int (v1 + (j_k 1)), .int v2] τ1 (fun x3 τ2 =>
    if x3 = 0 ∨ x3 = 1 then some (some (.int x3), τ2) else none)))) := rfl

-- LastStirredModel.isWanted(II)Z
set_option maxRecDepth 1000000 in
set_option maxHeartbeats 8000000 in
theorem t_203_0 (call : Nat → List Value → Sto → Option Rr) (again : Nat → j_L → List Value → Sto → Option Rr) (σ : Sto) (v0 : Nat) (v1 : Int32) (v2 : Int32) :
    j_seg k_203 h_203 call again 2000 0 [some (.ref v0), some (.int v1), some (.int v2), none, none] [] σ =
    if v2 < 0 then (j_oc σ 7 v0 (j_c1 call 200 [.ref v0, .int v1] σ (fun x2 τ1 =>
     if x2 = 0 ∨ x2 = 1 then some (some (.int x2), τ1) else none)))
    else again 15 [some (.ref v0), some (.int v1), some (.int v2), some (.int (j_k 1)), some (.int (j_k 0))] [] σ := rfl

set_option maxRecDepth 1000000 in
set_option maxHeartbeats 8000000 in
theorem t_203_15 (call : Nat → List Value → Sto → Option Rr) (again : Nat → j_L → List Value → Sto → Option Rr) (σ : Sto) (v0 : Nat) (v1 : Int32) (v2 : Int32) (v3 : Int32) (v4 : Int32) :
    j_seg k_203 h_203 call again 2000 15 [some (.ref v0), some (.int v1), some (.int v2), some (.int v3), some (.int v4)] [] σ =
    j_oc σ 7 v0 (if v4 < (s_I σ v0 13) then (if v3 = 0 then (again 15 [some (.ref v0), some (.int v1), some (.int v2), some (.int (j_k 0)), some (.int (v4 + (j_k 1)))] [] σ)
     else j_oc σ 7 v0 (j_c1 call 162 [.ref v0, .int v1, .int ((j_k 5) + v4)] σ (fun x2 τ1 =>
     j_oc τ1 7 v0 (j_c1 call 140 [.ref v0, .int v2, .int v4] τ1 (fun x4 τ3 =>
     if x2 = x4 then (again 15 [some (.ref v0), some (.int v1), some (.int v2), some (.int (j_k 1)), some (.int (v4 + (j_k 1)))] [] τ3)
     else again 15 [some (.ref v0), some (.int v1), some (.int v2), some (.int (j_k 0)), some (.int (v4 + (j_k 1)))] [] τ3)))))
    else if v3 = 0 ∨ v3 = 1 then some (some (.int v3), σ) else none) := rfl

-- LastStirredModel.layRows(II)V
set_option maxRecDepth 1000000 in
set_option maxHeartbeats 8000000 in
theorem t_204_0 (call : Nat → List Value → Sto → Option Rr) (again : Nat → j_L → List Value → Sto → Option Rr) (σ : Sto) (v0 : Nat) (v1 : Int32) (v2 : Int32) :
    j_seg k_204 h_204 call again 2000 0 [some (.ref v0), some (.int v1), some (.int v2), none] [] σ =
    if v0 < j_b then j_oc σ 7 v0 (let τ1 : Sto := s_uI σ v0 32 (j_k 0);
    if v0 < j_b then j_oc τ1 7 v0 (let τ2 : Sto := s_uI τ1 v0 33 (j_k 0);
    if v0 < j_b then j_oc τ2 7 v0 (let τ3 : Sto := s_uI τ2 v0 34 (j_k (-9));
    if v0 < j_b then j_oc τ3 7 v0 (let τ4 : Sto := s_uI τ3 v0 35 (j_k 0);
    if v0 < j_b then j_oc τ4 7 v0 (let τ5 : Sto := s_uI τ4 v0 36 (j_k 0);
    j_oc τ5 7 v0 (j_c0 call 164 [.ref v0, .int (j_k 0), .int (j_k 4)] τ5 (fun τ6 =>
    if v1 = 0 then (j_oc τ6 7 v0 (j_c0 call 206 [.ref v0, .int (j_k 4), .int (j_k 0), .int v2, .int (j_k (-9))] τ6 (fun τ7 =>
     again 47 [some (.ref v0), some (.int v1), some (.int v2), some (.int (j_k 0))] [] τ7)))
    else again 47 [some (.ref v0), some (.int v1), some (.int v2), some (.int (j_k 0))] [] τ6))) else none) else none) else none) else none) else none := rfl

set_option maxRecDepth 1000000 in
set_option maxHeartbeats 8000000 in
theorem t_204_47 (call : Nat → List Value → Sto → Option Rr) (again : Nat → j_L → List Value → Sto → Option Rr) (σ : Sto) (v0 : Nat) (v1 : Int32) (v2 : Int32) (v3 : Int32) :
    j_seg k_204 h_204 call again 2000 47 [some (.ref v0), some (.int v1), some (.int v2), some (.int v3)] [] σ =
    j_oc σ 7 v0 (j_c1 call 201 [.ref v0] σ (fun x2 τ1 =>
    if v3 < x2 then (if 0 < v1 then (j_oc τ1 7 v0 (j_c1 call 202 [.ref v0, .int (j_k 4), .int v3] τ1 (fun x4 τ3 =>
      if x4 = 0 then (again 47 [some (.ref v0), some (.int v1), some (.int v2), some (.int (v3 + (j_k 1)))] [] τ3)
      else if v1 = (j_k 1) then (j_oc τ3 7 v0 (j_c0 call 206 [.ref v0, .int (j_k 5), .int v3, .int v2, .int v3] τ3 (fun τ5 =>
       again 47 [some (.ref v0), some (.int v1), some (.int v2), some (.int (v3 + (j_k 1)))] [] τ5)))
      else j_oc τ3 7 v0 (j_c0 call 205 [.ref v0, .int v3, .int v1, .int v2] τ3 (fun τ6 =>
      again 47 [some (.ref v0), some (.int v1), some (.int v2), some (.int (v3 + (j_k 1)))] [] τ6)))))
     else some (none, τ1))
    else some (none, τ1))) := rfl

-- LastStirredModel.layDeeper(III)V
set_option maxRecDepth 1000000 in
set_option maxHeartbeats 8000000 in
theorem t_205_0 (call : Nat → List Value → Sto → Option Rr) (again : Nat → j_L → List Value → Sto → Option Rr) (σ : Sto) (v0 : Nat) (v1 : Int32) (v2 : Int32) (v3 : Int32) :
    j_seg k_205 h_205 call again 2000 0 [some (.ref v0), some (.int v1), some (.int v2), some (.int v3), none, none] [] σ =
    again 3 [some (.ref v0), some (.int v1), some (.int v2), some (.int v3), some (.int (j_k 0)), none] [] σ := rfl

set_option maxRecDepth 1000000 in
set_option maxHeartbeats 8000000 in
theorem t_205_3 (call : Nat → List Value → Sto → Option Rr) (again : Nat → j_L → List Value → Sto → Option Rr) (σ : Sto) (v0 : Nat) (v1 : Int32) (v2 : Int32) (v3 : Int32) (v4 : Int32) :
    j_seg k_205 h_205 call again 2000 3 [some (.ref v0), some (.int v1), some (.int v2), some (.int v3), some (.int v4), none] [] σ =
    j_oc σ 7 v0 (j_c1 call 201 [.ref v0] σ (fun x2 τ1 =>
    if v4 < x2 then (j_oc τ1 7 v0 (j_c1 call 202 [.ref v0, .int (j_k 5), .int v4] τ1 (fun x4 τ3 =>
     if x4 = 0 then (again 3 [some (.ref v0), some (.int v1), some (.int v2), some (.int v3), some (.int (v4 + (j_k 1))), none] [] τ3)
     else if v2 = (j_k 2) then (j_oc τ3 7 v0 (j_c0 call 206 [.ref v0, .int (j_k 6), .int (((j_k 16) * v1) + v4), .int v3, .int v1] τ3 (fun τ5 =>
      again 45 [some (.ref v0), some (.int v1), some (.int v2), some (.int v3), some (.int v4), some (.int (j_k 0))] [] τ5)))
     else again 45 [some (.ref v0), some (.int v1), some (.int v2), some (.int v3), some (.int v4), some (.int (j_k 0))] [] τ3)))
    else some (none, τ1))) := rfl

set_option maxRecDepth 1000000 in
set_option maxHeartbeats 8000000 in
theorem t_205_45 (call : Nat → List Value → Sto → Option Rr) (again : Nat → j_L → List Value → Sto → Option Rr) (σ : Sto) (v0 : Nat) (v1 : Int32) (v2 : Int32) (v3 : Int32) (v4 : Int32) (v5 : Int32) :
    j_seg k_205 h_205 call again 2000 45 [some (.ref v0), some (.int v1), some (.int v2), some (.int v3), some (.int v4), some (.int v5)] [] σ =
    j_oc σ 7 v0 (j_c1 call 201 [.ref v0] σ (fun x2 τ1 =>
    if v5 < x2 then (if v2 = (j_k 3) then (j_oc τ1 7 v0 (j_c1 call 202 [.ref v0, .int (j_k 6), .int v5] τ1 (fun x4 τ3 =>
      if x4 = 0 then (again 45 [some (.ref v0), some (.int v1), some (.int v2), some (.int v3), some (.int v4), some (.int (v5 + (j_k 1)))] [] τ3)
      else j_oc τ3 7 v0 (j_c0 call 206 [.ref v0, .int (j_k 7), .int (((j_k 16) * (((j_k 16) * v1) + v4)) + v5), .int v3, .int v1] τ3 (fun τ5 =>
      again 45 [some (.ref v0), some (.int v1), some (.int v2), some (.int v3), some (.int v4), some (.int (v5 + (j_k 1)))] [] τ5)))))
     else again 3 [some (.ref v0), some (.int v1), some (.int v2), some (.int v3), some (.int (v4 + (j_k 1))), none] [] τ1)
    else again 3 [some (.ref v0), some (.int v1), some (.int v2), some (.int v3), some (.int (v4 + (j_k 1))), none] [] τ1)) := rfl

-- LastStirredModel.layRow(IIII)V
set_option maxRecDepth 1000000 in
set_option maxHeartbeats 8000000 in
theorem t_206_0 (call : Nat → List Value → Sto → Option Rr) (again : Nat → j_L → List Value → Sto → Option Rr) (σ : Sto) (v0 : Nat) (v1 : Int32) (v2 : Int32) (v3 : Int32) (v4 : Int32) :
    j_seg k_206 h_206 call again 2000 0 [some (.ref v0), some (.int v1), some (.int v2), some (.int v3), some (.int v4)] [] σ =
    j_oc σ 7 v0 (if v0 < j_b then j_oc σ 7 v0 (let τ1 : Sto := s_uI σ v0 32 ((s_I σ v0 32) + (j_k 1));
    j_oc τ1 7 v0 (j_c1 call 203 [.ref v0, .int v1, .int v3] τ1 (fun x3 τ2 =>
    if x3 = 0 then (some (none, τ2))
    else j_oc τ2 7 v0 (if (s_I τ2 v0 33) = 0 then (if v0 < j_b then j_oc τ2 7 v0 (let τ4 : Sto := s_uI τ2 v0 34 v2;
     j_oc τ4 7 v0 (if v0 < j_b then j_oc τ4 7 v0 (let τ5 : Sto := s_uI τ4 v0 33 ((s_I τ4 v0 33) + (j_k 1));
     j_oc τ5 7 v0 (if v4 = (j_k (-9)) then (if v0 < j_b then j_oc τ5 7 v0 (let τ6 : Sto := s_uI τ5 v0 35 ((s_I τ5 v0 35) ||| (j_k 0));
      j_oc τ6 7 v0 (if v4 = (j_k (-9)) then (if v0 < j_b then j_oc τ6 7 v0 (let τ7 : Sto := s_uI τ6 v0 36 ((s_I τ6 v0 36) ||| (j_k 0));
       some (none, τ7)) else none)
      else if (j_k 4) = 0 then none else
      if v0 < j_b then j_oc τ6 7 v0 (let τ8 : Sto := s_uI τ6 v0 36 ((s_I τ6 v0 36) ||| ((j_k 1) <<< ((v4 - v4 / (j_k 4) * (j_k 4)) &&& 31)));
      some (none, τ8)) else none)) else none)
     else if (j_k 4) = 0 then none else
     if v0 < j_b then j_oc τ5 7 v0 (let τ9 : Sto := s_uI τ5 v0 35 ((s_I τ5 v0 35) ||| ((j_k 1) <<< ((v4 / (j_k 4)) &&& 31)));
     j_oc τ9 7 v0 (if v4 = (j_k (-9)) then (if v0 < j_b then j_oc τ9 7 v0 (let τ10 : Sto := s_uI τ9 v0 36 ((s_I τ9 v0 36) ||| (j_k 0));
      some (none, τ10)) else none)
     else if (j_k 4) = 0 then none else
     if v0 < j_b then j_oc τ9 7 v0 (let τ11 : Sto := s_uI τ9 v0 36 ((s_I τ9 v0 36) ||| ((j_k 1) <<< ((v4 - v4 / (j_k 4) * (j_k 4)) &&& 31)));
     some (none, τ11)) else none)) else none)) else none)) else none)
    else j_oc τ2 7 v0 (if v0 < j_b then j_oc τ2 7 v0 (let τ12 : Sto := s_uI τ2 v0 34 (s_I τ2 v0 34);
    j_oc τ12 7 v0 (if v0 < j_b then j_oc τ12 7 v0 (let τ13 : Sto := s_uI τ12 v0 33 ((s_I τ12 v0 33) + (j_k 1));
    j_oc τ13 7 v0 (if v4 = (j_k (-9)) then (if v0 < j_b then j_oc τ13 7 v0 (let τ14 : Sto := s_uI τ13 v0 35 ((s_I τ13 v0 35) ||| (j_k 0));
     j_oc τ14 7 v0 (if v4 = (j_k (-9)) then (if v0 < j_b then j_oc τ14 7 v0 (let τ15 : Sto := s_uI τ14 v0 36 ((s_I τ14 v0 36) ||| (j_k 0));
      some (none, τ15)) else none)
     else if (j_k 4) = 0 then none else
     if v0 < j_b then j_oc τ14 7 v0 (let τ16 : Sto := s_uI τ14 v0 36 ((s_I τ14 v0 36) ||| ((j_k 1) <<< ((v4 - v4 / (j_k 4) * (j_k 4)) &&& 31)));
     some (none, τ16)) else none)) else none)
    else if (j_k 4) = 0 then none else
    if v0 < j_b then j_oc τ13 7 v0 (let τ17 : Sto := s_uI τ13 v0 35 ((s_I τ13 v0 35) ||| ((j_k 1) <<< ((v4 / (j_k 4)) &&& 31)));
    j_oc τ17 7 v0 (if v4 = (j_k (-9)) then (if v0 < j_b then j_oc τ17 7 v0 (let τ18 : Sto := s_uI τ17 v0 36 ((s_I τ17 v0 36) ||| (j_k 0));
     some (none, τ18)) else none)
    else if (j_k 4) = 0 then none else
    if v0 < j_b then j_oc τ17 7 v0 (let τ19 : Sto := s_uI τ17 v0 36 ((s_I τ17 v0 36) ||| ((j_k 1) <<< ((v4 - v4 / (j_k 4) * (j_k 4)) &&& 31)));
    some (none, τ19)) else none)) else none)) else none)) else none))))) else none) := rfl

-- LastStirredModel.fewestOf(II)I
set_option maxRecDepth 1000000 in
set_option maxHeartbeats 8000000 in
theorem t_207_0 (call : Nat → List Value → Sto → Option Rr) (again : Nat → j_L → List Value → Sto → Option Rr) (σ : Sto) (v0 : Nat) (v1 : Int32) (v2 : Int32) :
    j_seg k_207 h_207 call again 2000 0 [some (.ref v0), some (.int v1), some (.int v2), none] [] σ =
    again 2 [some (.ref v0), some (.int v1), some (.int v2), some (.int (j_k 0))] [] σ := rfl

set_option maxRecDepth 1000000 in
set_option maxHeartbeats 8000000 in
theorem t_207_2 (call : Nat → List Value → Sto → Option Rr) (again : Nat → j_L → List Value → Sto → Option Rr) (σ : Sto) (v0 : Nat) (v1 : Int32) (v2 : Int32) (v3 : Int32) :
    j_seg k_207 h_207 call again 2000 2 [some (.ref v0), some (.int v1), some (.int v2), some (.int v3)] [] σ =
    if v1 < v3 then (some (some (.int (j_k (-9))), σ))
    else j_oc σ 7 v0 (j_c0 call 204 [.ref v0, .int v3, .int v2] σ (fun τ1 =>
    j_oc τ1 7 v0 (if 0 < (s_I τ1 v0 33) then (some (some (.int v3), τ1))
    else again 2 [some (.ref v0), some (.int v1), some (.int v2), some (.int (v3 + (j_k 1)))] [] τ1))) := rfl

-- LastStirredModel.fewest()I
set_option maxRecDepth 1000000 in
set_option maxHeartbeats 8000000 in
theorem t_208_0 (call : Nat → List Value → Sto → Option Rr) (again : Nat → j_L → List Value → Sto → Option Rr) (σ : Sto) (v0 : Nat) :
    j_seg k_208 h_208 call again 2000 0 [some (.ref v0), none] [] σ =
    j_oc σ 7 v0 (if (s_I σ v0 11) = 0 then (some (some (.int (j_k (-4))), σ))
    else j_oc σ 7 v0 (j_c1 call 207 [.ref v0, .int (j_k 3), .int (j_k (-1))] σ (fun x2 τ1 =>
    if x2 = (j_k (-9)) then (some (some (.int (j_k (-9))), τ1))
    else j_oc τ1 7 v0 (j_oc τ1 7 v0 (j_c1 call 134 [.ref v0, .int (s_I τ1 v0 34), .int x2] τ1 (fun x4 τ3 =>
    some (some (.int x4), τ3))))))) := rfl

-- LastStirredModel.ways(I)I
set_option maxRecDepth 1000000 in
set_option maxHeartbeats 8000000 in
theorem t_209_0 (call : Nat → List Value → Sto → Option Rr) (again : Nat → j_L → List Value → Sto → Option Rr) (σ : Sto) (v0 : Nat) (v1 : Int32) :
    j_seg k_209 h_209 call again 2000 0 [some (.ref v0), some (.int v1)] [] σ =
    j_c1 call 127 [.int v1, .int (j_k 1), .int (j_k 2)] σ (fun x2 τ1 =>
    if x2 = 0 then (some (some (.int (j_k (-1))), τ1))
    else j_oc τ1 7 v0 (j_c0 call 204 [.ref v0, .int v1, .int (j_k (-1))] τ1 (fun τ3 =>
    j_oc τ3 7 v0 (if (s_I τ3 v0 32) = 0 then (j_oc τ3 7 v0 (j_c1 call 131 [.ref v0, .int (j_k 4)] τ3 (fun x5 τ4 =>
     some (some (.int x5), τ4))))
    else j_oc τ3 7 v0 (j_oc τ3 7 v0 (j_oc τ3 7 v0 (j_oc τ3 7 v0 (j_c1 call 136 [.ref v0, .long ((s_I τ3 v0 33).toInt64), .long ((s_I τ3 v0 32).toInt64), .int (s_I τ3 v0 33)] τ3 (fun x7 τ6 =>
    some (some (.int x7), τ6)))))))))) := rfl

-- LastStirredModel.gather()I
set_option maxRecDepth 1000000 in
set_option maxHeartbeats 8000000 in
theorem t_210_0 (call : Nat → List Value → Sto → Option Rr) (again : Nat → j_L → List Value → Sto → Option Rr) (σ : Sto) (v0 : Nat) :
    j_seg k_210 h_210 call again 2000 0 [some (.ref v0), none, none, none, none] [] σ =
    j_oc σ 7 v0 (j_c0 call 164 [.ref v0, .int (j_k 0), .int (j_k 4)] σ (fun τ1 =>
    again 13 [some (.ref v0), some (.int (j_k (-9))), some (.int (j_k 0)), some (.int (j_k 0)), none] [] τ1)) := rfl

set_option maxRecDepth 1000000 in
set_option maxHeartbeats 8000000 in
theorem t_210_13 (call : Nat → List Value → Sto → Option Rr) (again : Nat → j_L → List Value → Sto → Option Rr) (σ : Sto) (v0 : Nat) (v1 : Int32) (v2 : Int32) (v3 : Int32) :
    j_seg k_210 h_210 call again 2000 13 [some (.ref v0), some (.int v1), some (.int v2), some (.int v3), none] [] σ =
    j_oc σ 7 v0 (j_c1 call 201 [.ref v0] σ (fun x2 τ1 =>
    if v3 < x2 then (j_oc τ1 7 v0 (j_c1 call 202 [.ref v0, .int (j_k 4), .int v3] τ1 (fun x4 τ3 =>
     if x4 = 0 then (again 13 [some (.ref v0), some (.int v1), some (.int v2), some (.int (v3 + (j_k 1))), none] [] τ3)
     else j_oc τ3 7 v0 (j_c1 call 166 [.ref v0, .int (j_k 5)] τ3 (fun x6 τ5 =>
     j_oc τ5 7 v0 (j_c1 call 166 [.ref v0, .int (j_k 0)] τ5 (fun x8 τ7 =>
     if x8 < x6 then (again 13 [some (.ref v0), some (.int v1), some (.int v2), some (.int (v3 + (j_k 1))), none] [] τ7)
     else j_oc τ7 7 v0 (j_c1 call 196 [.ref v0, .int (j_k 5)] τ7 (fun x10 τ9 =>
     if v1 = (j_k (-9)) then (again 13 [some (.ref v0), some (.int v3), some (.int x10), some (.int (v3 + (j_k 1))), none] [] τ9)
     else if x10 < v2 then (again 13 [some (.ref v0), some (.int v3), some (.int x10), some (.int (v3 + (j_k 1))), none] [] τ9)
     else again 13 [some (.ref v0), some (.int v1), some (.int v2), some (.int (v3 + (j_k 1))), none] [] τ9)))))))))
    else if v1 = (j_k (-9)) then (some (some (.int (j_k (-9))), τ1))
    else j_oc τ1 7 v0 (j_c1 call 134 [.ref v0, .int v2, .int v1] τ1 (fun x12 τ11 =>
    some (some (.int x12), τ11))))) := rfl

-- LastStirredModel.part(II)I
set_option maxRecDepth 1000000 in
set_option maxHeartbeats 8000000 in
theorem t_211_0 (call : Nat → List Value → Sto → Option Rr) (again : Nat → j_L → List Value → Sto → Option Rr) (σ : Sto) (v0 : Nat) (v1 : Int32) (v2 : Int32) :
    j_seg k_211 h_211 call again 2000 0 [some (.ref v0), some (.int v1), some (.int v2), none, none, none, none, none] [] σ =
    j_oc σ 7 v0 (j_c1 call 161 [.ref v0, .int v1] σ (fun x2 τ1 =>
    if x2 = 0 then (some (some (.int (j_k (-1))), τ1))
    else j_oc τ1 7 v0 (j_c1 call 161 [.ref v0, .int v2] τ1 (fun x4 τ3 =>
    if x4 = 0 then (some (some (.int (j_k (-1))), τ3))
    else if v1 = v2 then (some (some (.int (j_k (-1))), τ3))
    else j_oc τ3 7 v0 (j_c0 call 164 [.ref v0, .int (j_k 0), .int (j_k 4)] τ3 (fun τ5 =>
    again 41 [some (.ref v0), some (.int v1), some (.int v2), some (.int (j_k (-9))), some (.int (j_k 0)), some (.int (j_k 5)), some (.int (j_k 0)), none] [] τ5)))))) := rfl

set_option maxRecDepth 1000000 in
set_option maxHeartbeats 8000000 in
theorem t_211_41 (call : Nat → List Value → Sto → Option Rr) (again : Nat → j_L → List Value → Sto → Option Rr) (σ : Sto) (v0 : Nat) (v1 : Int32) (v2 : Int32) (v3 : Int32) (v4 : Int32) (v5 : Int32) (v6 : Int32) :
    j_seg k_211 h_211 call again 2000 41 [some (.ref v0), some (.int v1), some (.int v2), some (.int v3), some (.int v4), some (.int v5), some (.int v6), none] [] σ =
    j_oc σ 7 v0 (j_c1 call 201 [.ref v0] σ (fun x2 τ1 =>
    if v6 < x2 then (j_oc τ1 7 v0 (j_c1 call 202 [.ref v0, .int (j_k 4), .int v6] τ1 (fun x4 τ3 =>
     if x4 = 0 then (again 41 [some (.ref v0), some (.int v1), some (.int v2), some (.int v3), some (.int v4), some (.int v5), some (.int (v6 + (j_k 1))), none] [] τ3)
     else j_oc τ3 7 v0 (j_c1 call 165 [.ref v0, .int v5, .int v1] τ3 (fun x6 τ5 =>
     if x6 = 0 then (j_oc τ5 7 v0 (j_c1 call 165 [.ref v0, .int v5, .int v2] τ5 (fun x8 τ7 =>
      if x8 = 0 then (j_oc τ7 7 v0 (j_c1 call 162 [.ref v0, .int v5, .int ((j_k 5) + v1)] τ7 (fun x10 τ9 =>
       j_oc τ9 7 v0 (j_c1 call 162 [.ref v0, .int v5, .int ((j_k 5) + v2)] τ9 (fun x12 τ11 =>
       j_oc τ11 7 v0 (j_c1 call 168 [.ref v0, .int x10, .int x12] τ11 (fun x14 τ13 =>
       if v3 = (j_k (-9)) then (again 41 [some (.ref v0), some (.int v1), some (.int v2), some (.int v6), some (.int x14), some (.int v5), some (.int (v6 + (j_k 1))), none] [] τ13)
       else if v4 < x14 then (again 41 [some (.ref v0), some (.int v1), some (.int v2), some (.int v6), some (.int x14), some (.int v5), some (.int (v6 + (j_k 1))), none] [] τ13)
       else again 41 [some (.ref v0), some (.int v1), some (.int v2), some (.int v3), some (.int v4), some (.int v5), some (.int (v6 + (j_k 1))), none] [] τ13)))))))
      else again 41 [some (.ref v0), some (.int v1), some (.int v2), some (.int v3), some (.int v4), some (.int v5), some (.int (v6 + (j_k 1))), none] [] τ7)))
     else again 41 [some (.ref v0), some (.int v1), some (.int v2), some (.int v3), some (.int v4), some (.int v5), some (.int (v6 + (j_k 1))), none] [] τ5)))))
    else if v3 = (j_k (-9)) then (some (some (.int (j_k (-9))), τ1))
    else j_oc τ1 7 v0 (j_c1 call 134 [.ref v0, .int v4, .int v3] τ1 (fun x16 τ15 =>
    some (some (.int x16), τ15))))) := rfl

-- LastStirredModel.wentIn(I)I
set_option maxRecDepth 1000000 in
set_option maxHeartbeats 8000000 in
theorem t_212_0 (call : Nat → List Value → Sto → Option Rr) (again : Nat → j_L → List Value → Sto → Option Rr) (σ : Sto) (v0 : Nat) (v1 : Int32) :
    j_seg k_212 h_212 call again 2000 0 [some (.ref v0), some (.int v1), none, none] [] σ =
    again 4 [some (.ref v0), some (.int v1), some (.int (j_k 0)), some (.int (j_k 0))] [] σ := rfl

set_option maxRecDepth 1000000 in
set_option maxHeartbeats 8000000 in
theorem t_212_4 (call : Nat → List Value → Sto → Option Rr) (again : Nat → j_L → List Value → Sto → Option Rr) (σ : Sto) (v0 : Nat) (v1 : Int32) (v2 : Int32) (v3 : Int32) :
    j_seg k_212 h_212 call again 2000 4 [some (.ref v0), some (.int v1), some (.int v2), some (.int v3)] [] σ =
    j_oc σ 7 v0 (if v3 < (s_I σ v0 13) then (j_oc σ 7 v0 (j_c1 call 162 [.ref v0, .int v1, .int ((j_k 9) + v3)] σ (fun x2 τ1 =>
     again 4 [some (.ref v0), some (.int v1), some (.int (v2 + x2)), some (.int (v3 + (j_k 1)))] [] τ1)))
    else some (some (.int v2), σ)) := rfl

-- LastStirredModel.worth(II)I
set_option maxRecDepth 1000000 in
set_option maxHeartbeats 8000000 in
theorem t_213_0 (call : Nat → List Value → Sto → Option Rr) (again : Nat → j_L → List Value → Sto → Option Rr) (σ : Sto) (v0 : Nat) (v1 : Int32) (v2 : Int32) :
    j_seg k_213 h_213 call again 2000 0 [some (.ref v0), some (.int v1), some (.int v2), none] [] σ =
    j_oc σ 7 v0 (j_c1 call 161 [.ref v0, .int v1] σ (fun x2 τ1 =>
    if x2 = 0 then (some (some (.int (j_k (-1))), τ1))
    else j_c1 call 127 [.int v2, .int (j_k 0), .int (j_k 3)] τ1 (fun x4 τ3 =>
    if x4 = 0 then (some (some (.int (j_k (-1))), τ3))
    else j_oc τ3 7 v0 (j_c0 call 164 [.ref v0, .int (j_k 0), .int (j_k 4)] τ3 (fun τ5 =>
    j_oc τ5 7 v0 (j_c1 call 188 [.ref v0, .int (j_k 4), .int v1, .int v2] τ5 (fun x7 τ6 =>
    if x7 = 0 then (some (some (.int (j_k (-4))), τ6))
    else j_oc τ6 7 v0 (j_c1 call 212 [.ref v0, .int (j_k 4)] τ6 (fun x9 τ8 =>
    j_oc τ8 7 v0 (j_c1 call 187 [.ref v0, .int (j_k 4)] τ8 (fun x11 τ10 =>
    j_oc τ10 7 v0 (j_c1 call 212 [.ref v0, .int (j_k 4)] τ10 (fun x13 τ12 =>
    j_oc τ12 7 v0 (j_c1 call 129 [.int (s_I τ12 v0 30)] τ12 (fun x15 τ14 =>
    j_oc τ14 7 v0 (j_c1 call 134 [.ref v0, .int (x13 - x9), .int x15] τ14 (fun x17 τ16 =>
    some (some (.int x17), τ16)))))))))))))))))) := rfl

-- LastStirredModel.stone(I)I
set_option maxRecDepth 1000000 in
set_option maxHeartbeats 8000000 in
theorem t_214_0 (call : Nat → List Value → Sto → Option Rr) (again : Nat → j_L → List Value → Sto → Option Rr) (σ : Sto) (v0 : Nat) (v1 : Int32) :
    j_seg k_214 h_214 call again 2000 0 [some (.ref v0), some (.int v1), none, none, none, none, none] [] σ =
    j_oc σ 7 v0 (j_c1 call 160 [.ref v0, .int v1] σ (fun x2 τ1 =>
    if x2 = 0 then (some (some (.int (j_k (-1))), τ1))
    else j_gP τ1 7 v0 12 (fun a3 =>
    j_ia τ1 a3 v1 (
    if (s_I τ1 a3 v1.toNatClampNeg) = (j_k 1) then (some (some (.int (j_k (-1))), τ1))
    else again 32 [some (.ref v0), some (.int v1), some (.int (j_k 0)), some (.int (j_k (-9))), some (.int (j_k (-9))), some (.int (j_k 0)), none] [] τ1)))) := rfl

set_option maxRecDepth 1000000 in
set_option maxHeartbeats 8000000 in
theorem t_214_32 (call : Nat → List Value → Sto → Option Rr) (again : Nat → j_L → List Value → Sto → Option Rr) (σ : Sto) (v0 : Nat) (v1 : Int32) (v2 : Int32) (v3 : Int32) (v4 : Int32) (v5 : Int32) :
    j_seg k_214 h_214 call again 2000 32 [some (.ref v0), some (.int v1), some (.int v2), some (.int v3), some (.int v4), some (.int v5), none] [] σ =
    j_oc σ 7 v0 (if v5 < (s_I σ v0 13) then (j_oc σ 7 v0 (j_c1 call 162 [.ref v0, .int (j_k 0), .int ((j_k 5) + v5)] σ (fun x2 τ1 =>
     if x2 = (j_k (-9)) then (again 32 [some (.ref v0), some (.int v1), some (.int v2), some (.int v3), some (.int v4), some (.int (v5 + (j_k 1))), none] [] τ1)
     else j_oc τ1 7 v0 (j_c1 call 168 [.ref v0, .int x2, .int v1] τ1 (fun x4 τ3 =>
     if x4 = (j_k 1) then (if (j_k 0) = 0 ∨ (j_k 0) = 1 then (if v0 < j_b then j_oc τ3 7 v0 (let τ5 : Sto := s_uI τ3 v0 26 (j_k 0);
      j_oc τ5 7 v0 (if (s_I τ5 v0 10) = 0 then none else
      j_oc τ5 7 v0 (if (s_I τ5 v0 10) = 0 then none else
      j_oc τ5 7 v0 (if (s_I τ5 v0 10) = 0 then none else
      j_oc τ5 7 v0 (if (s_I τ5 v0 10) = 0 then none else
      j_oc τ5 7 v0 (j_c1 call 181 [.ref v0, .int x2, .int ((x2 - x2 / (s_I τ5 v0 10) * (s_I τ5 v0 10)) - (v1 - v1 / (s_I τ5 v0 10) * (s_I τ5 v0 10))), .int ((x2 / (s_I τ5 v0 10)) - (v1 / (s_I τ5 v0 10)))] τ5 (fun x7 τ6 =>
      j_oc τ6 7 v0 (j_c1 call 182 [.ref v0, .int (j_k 0), .int v5, .int x7] τ6 (fun x9 τ8 =>
      if x9 = 0 then (again 32 [some (.ref v0), some (.int v1), some (.int v2), some (.int v3), some (.int v4), some (.int (v5 + (j_k 1))), none] [] τ8)
      else j_oc τ8 7 v0 (again 32 [some (.ref v0), some (.int v1), some (.int (v2 + (j_k 1))), some (.int v5), some (.int (s_I τ8 v0 27)), some (.int (v5 + (j_k 1))), none] [] τ8)))))))))) else none) else none)
     else again 32 [some (.ref v0), some (.int v1), some (.int v2), some (.int v3), some (.int v4), some (.int (v5 + (j_k 1))), none] [] τ3)))))
    else if 0 < v2 then (j_oc σ 7 v0 (j_c0 call 183 [.ref v0, .int (j_k 0), .int v3, .int v4] σ (fun τ10 =>
     some (some (.int v2), τ10))))
    else some (some (.int v2), σ)) := rfl

-- LastStirredModel.drive(I)I
set_option maxRecDepth 1000000 in
set_option maxHeartbeats 8000000 in
theorem t_215_0 (call : Nat → List Value → Sto → Option Rr) (again : Nat → j_L → List Value → Sto → Option Rr) (σ : Sto) (v0 : Nat) (v1 : Int32) :
    j_seg k_215 h_215 call again 2000 0 [some (.ref v0), some (.int v1), none, none] [] σ =
    j_c1 call 139 [.int v1] σ (fun x2 τ1 =>
    if x2 = 0 then (some (some (.int (j_k (-1))), τ1))
    else j_oc τ1 7 v0 (if (s_I τ1 v0 11) = 0 then (some (some (.int (j_k (-4))), τ1))
    else j_gP τ1 7 v0 5 (fun a3 =>
    j_ia τ1 a3 v1 (
    if (s_I τ1 a3 v1.toNatClampNeg) < 0 then (j_oc τ1 7 v0 (j_c1 call 131 [.ref v0, .int (j_k 1)] τ1 (fun x5 τ4 =>
     some (some (.int x5), τ4))))
    else again 38 [some (.ref v0), some (.int v1), some (.int (j_k 1)), some (.int (j_k 0))] [] τ1)))) := rfl

set_option maxRecDepth 1000000 in
set_option maxHeartbeats 8000000 in
theorem t_215_38 (call : Nat → List Value → Sto → Option Rr) (again : Nat → j_L → List Value → Sto → Option Rr) (σ : Sto) (v0 : Nat) (v1 : Int32) (v2 : Int32) (v3 : Int32) :
    j_seg k_215 h_215 call again 2000 38 [some (.ref v0), some (.int v1), some (.int v2), some (.int v3)] [] σ =
    j_gP σ 7 v0 5 (fun a1 =>
    j_ia σ a1 v1 (
    if v3 < (s_I σ a1 v1.toNatClampNeg) then (if v2 = 0 then (again 38 [some (.ref v0), some (.int v1), some (.int (j_k 0)), some (.int (v3 + (j_k 1)))] [] σ)
     else j_oc σ 7 v0 (j_c1 call 140 [.ref v0, .int v1, .int v3] σ (fun x3 τ2 =>
     j_oc τ2 7 v0 (j_c1 call 201 [.ref v0] τ2 (fun x5 τ4 =>
     j_c1 call 127 [.int x3, .int (j_k 0), .int (x5 - (j_k 1))] τ4 (fun x7 τ6 =>
     if x7 = 0 then (again 38 [some (.ref v0), some (.int v1), some (.int (j_k 0)), some (.int (v3 + (j_k 1)))] [] τ6)
     else again 38 [some (.ref v0), some (.int v1), some (.int (j_k 1)), some (.int (v3 + (j_k 1)))] [] τ6))))))
    else if v2 = 0 then (j_oc σ 7 v0 (j_c1 call 131 [.ref v0, .int (j_k 3)] σ (fun x9 τ8 =>
     some (some (.int x9), τ8))))
    else j_oc σ 7 v0 (j_c1 call 162 [.ref v0, .int (j_k 0), .int (j_k 0)] σ (fun x11 τ10 =>
    j_gP τ10 7 v0 5 (fun a12 =>
    j_ia τ10 a12 v1 (
    if (j_k 10000) < (x11 + ((j_k 40) * (s_I τ10 a12 v1.toNatClampNeg))) then (some (some (.int (j_k (-6))), τ10))
    else again 120 [some (.ref v0), some (.int v1), some (.int v2), some (.int (j_k 0))] [] τ10)))))) := rfl

set_option maxRecDepth 1000000 in
set_option maxHeartbeats 8000000 in
theorem t_215_120 (call : Nat → List Value → Sto → Option Rr) (again : Nat → j_L → List Value → Sto → Option Rr) (σ : Sto) (v0 : Nat) (v1 : Int32) (v2 : Int32) (v3 : Int32) :
    j_seg k_215 h_215 call again 2000 120 [some (.ref v0), some (.int v1), some (.int v2), some (.int v3)] [] σ =
    j_gP σ 7 v0 5 (fun a1 =>
    j_ia σ a1 v1 (
    if v3 < (s_I σ a1 v1.toNatClampNeg) then (j_oc σ 7 v0 (j_c1 call 140 [.ref v0, .int v1, .int v3] σ (fun x3 τ2 =>
     j_oc τ2 7 v0 (j_c1 call 189 [.ref v0, .int (j_k 0), .int x3] τ2 (fun x5 τ4 =>
     if x5 = 0 then (j_oc τ4 7 v0 (j_c1 call 166 [.ref v0, .int (j_k 0)] τ4 (fun x7 τ6 =>
      j_oc τ6 7 v0 (j_c1 call 134 [.ref v0, .int x7, .int v3] τ6 (fun x9 τ8 =>
      some (some (.int x9), τ8))))))
     else again 120 [some (.ref v0), some (.int v1), some (.int v2), some (.int (v3 + (j_k 1)))] [] τ4)))))
    else j_oc σ 7 v0 (j_c1 call 166 [.ref v0, .int (j_k 0)] σ (fun x11 τ10 =>
    j_oc τ10 7 v0 (j_c1 call 134 [.ref v0, .int x11, .int v3] τ10 (fun x13 τ12 =>
    some (some (.int x13), τ12))))))) := rfl

-- LastStirredModel.isOpen(IZ)Z
set_option maxRecDepth 1000000 in
set_option maxHeartbeats 8000000 in
theorem t_216_0 (call : Nat → List Value → Sto → Option Rr) (again : Nat → j_L → List Value → Sto → Option Rr) (σ : Sto) (v0 : Nat) (v1 : Int32) (v2 : Int32) :
    j_seg k_216 h_216 call again 2000 0 [some (.ref v0), some (.int v1), some (.int v2)] [] σ =
    j_gP σ 7 v0 12 (fun a1 =>
    j_ia σ a1 v1 (
    if (s_I σ a1 v1.toNatClampNeg) = (j_k 1) then (if (j_k 0) = 0 ∨ (j_k 0) = 1 then some (some (.int (j_k 0)), σ) else none)
    else j_gP σ 7 v0 12 (fun a2 =>
    j_ia σ a2 v1 (
    if (s_I σ a2 v1.toNatClampNeg) = (j_k 2) then (if (j_k 0) = 0 ∨ (j_k 0) = 1 then some (some (.int (j_k 0)), σ) else none)
    else if v2 = 0 then (j_gP σ 7 v0 12 (fun a3 =>
     j_ia σ a3 v1 (
     if (s_I σ a3 v1.toNatClampNeg) = (j_k 4) then (if (j_k 0) = 0 ∨ (j_k 0) = 1 then some (some (.int (j_k 0)), σ) else none)
     else if (j_k 1) = 0 ∨ (j_k 1) = 1 then some (some (.int (j_k 1)), σ) else none)))
    else if (j_k 1) = 0 ∨ (j_k 1) = 1 then some (some (.int (j_k 1)), σ) else none)))) := rfl

-- LastStirredModel.reached(IZ)I
set_option maxRecDepth 1000000 in
set_option maxHeartbeats 8000000 in
theorem t_217_0 (call : Nat → List Value → Sto → Option Rr) (again : Nat → j_L → List Value → Sto → Option Rr) (σ : Sto) (v0 : Nat) (v1 : Int32) (v2 : Int32) :
    j_seg k_217 h_217 call again 2000 0 [some (.ref v0), some (.int v1), some (.int v2), none, none, none, none, none, none, none] [] σ =
    j_gP σ 7 v0 12 (fun a1 =>
    j_ia σ a1 v1 (
    if (s_I σ a1 v1.toNatClampNeg) = (j_k 1) then (some (some (.int (j_k 0)), σ))
    else j_gP σ 7 v0 12 (fun a2 =>
    j_ia σ a2 v1 (
    if (s_I σ a2 v1.toNatClampNeg) = (j_k 2) then (some (some (.int (j_k 0)), σ))
    else again 29 [some (.ref v0), some (.int v1), some (.int v2), some (.int ((j_k 1) <<< (v1 &&& 31))), some (.int (j_k 1)), none, none, none, none, none] [] σ)))) := rfl

set_option maxRecDepth 1000000 in
set_option maxHeartbeats 8000000 in
theorem t_217_29 (call : Nat → List Value → Sto → Option Rr) (again : Nat → j_L → List Value → Sto → Option Rr) (σ : Sto) (v0 : Nat) (v1 : Int32) (v2 : Int32) (v3 : Int32) (v4 : Int32) :
    j_seg k_217 h_217 call again 2000 29 [some (.ref v0), some (.int v1), some (.int v2), some (.int v3), some (.int v4), none, none, none, none, none] [] σ =
    if v4 = 0 then (some (some (.int v3), σ))
    else again 40 [some (.ref v0), some (.int v1), some (.int v2), some (.int v3), some (.int v4), some (.int v3), some (.int (j_k 0)), none, none, none] [] σ := rfl

set_option maxRecDepth 1000000 in
set_option maxHeartbeats 8000000 in
theorem t_217_40 (call : Nat → List Value → Sto → Option Rr) (again : Nat → j_L → List Value → Sto → Option Rr) (σ : Sto) (v0 : Nat) (v1 : Int32) (v2 : Int32) (v3 : Int32) (v4 : Int32) (v5 : Int32) (v6 : Int32) :
    j_seg k_217 h_217 call again 2000 40 [some (.ref v0), some (.int v1), some (.int v2), some (.int v3), some (.int v4), some (.int v5), some (.int v6), none, none, none] [] σ =
    j_oc σ 7 v0 (if v6 < (s_I σ v0 11) then (again 55 [some (.ref v0), some (.int v1), some (.int v2), some (.int v3), some (.int v4), some (.int v5), some (.int v6), some (.int (j_k 0)), some (.int (j_k 0)), none] [] σ)
    else if v3 = v5 then (again 29 [some (.ref v0), some (.int v1), some (.int v2), some (.int v3), some (.int (j_k 0)), none, none, none, none, none] [] σ)
    else again 29 [some (.ref v0), some (.int v1), some (.int v2), some (.int v3), some (.int (j_k 1)), none, none, none, none, none] [] σ) := rfl

set_option maxRecDepth 1000000 in
set_option maxHeartbeats 8000000 in
theorem t_217_55 (call : Nat → List Value → Sto → Option Rr) (again : Nat → j_L → List Value → Sto → Option Rr) (σ : Sto) (v0 : Nat) (v1 : Int32) (v2 : Int32) (v3 : Int32) (v4 : Int32) (v5 : Int32) (v6 : Int32) (v7 : Int32) (v8 : Int32) :
    j_seg k_217 h_217 call again 2000 55 [some (.ref v0), some (.int v1), some (.int v2), some (.int v3), some (.int v4), some (.int v5), some (.int v6), some (.int v7), some (.int v8), none] [] σ =
    if v8 < (j_k 4) then (if v8 = (j_k 1) then (if v8 = 0 then (j_oc σ 7 v0 (j_c1 call 181 [.ref v0, .int v6, .int (j_k 1), .int (j_k (-1))] σ (fun x2 τ1 =>
       if v7 = 0 then (if x2 = (j_k (-9)) then (again 55 [some (.ref v0), some (.int v1), some (.int v2), some (.int v3), some (.int v4), some (.int v5), some (.int v6), some (.int (j_k 0)), some (.int (v8 + (j_k 1))), none] [] τ1)
        else j_c1 call 128 [.int v3, .int x2] τ1 (fun x4 τ3 =>
        if x4 = 0 then (again 55 [some (.ref v0), some (.int v1), some (.int v2), some (.int v3), some (.int v4), some (.int v5), some (.int v6), some (.int (j_k 0)), some (.int (v8 + (j_k 1))), none] [] τ3)
        else again 55 [some (.ref v0), some (.int v1), some (.int v2), some (.int v3), some (.int v4), some (.int v5), some (.int v6), some (.int (j_k 1)), some (.int (v8 + (j_k 1))), none] [] τ3))
       else again 55 [some (.ref v0), some (.int v1), some (.int v2), some (.int v3), some (.int v4), some (.int v5), some (.int v6), some (.int (j_k 1)), some (.int (v8 + (j_k 1))), none] [] τ1)))
      else if v8 = (j_k 2) then (j_oc σ 7 v0 (j_c1 call 181 [.ref v0, .int v6, .int (j_k 1), .int (j_k 1)] σ (fun x6 τ5 =>
       if v7 = 0 then (if x6 = (j_k (-9)) then (again 55 [some (.ref v0), some (.int v1), some (.int v2), some (.int v3), some (.int v4), some (.int v5), some (.int v6), some (.int (j_k 0)), some (.int (v8 + (j_k 1))), none] [] τ5)
        else j_c1 call 128 [.int v3, .int x6] τ5 (fun x8 τ7 =>
        if x8 = 0 then (again 55 [some (.ref v0), some (.int v1), some (.int v2), some (.int v3), some (.int v4), some (.int v5), some (.int v6), some (.int (j_k 0)), some (.int (v8 + (j_k 1))), none] [] τ7)
        else again 55 [some (.ref v0), some (.int v1), some (.int v2), some (.int v3), some (.int v4), some (.int v5), some (.int v6), some (.int (j_k 1)), some (.int (v8 + (j_k 1))), none] [] τ7))
       else again 55 [some (.ref v0), some (.int v1), some (.int v2), some (.int v3), some (.int v4), some (.int v5), some (.int v6), some (.int (j_k 1)), some (.int (v8 + (j_k 1))), none] [] τ5)))
      else j_oc σ 7 v0 (j_c1 call 181 [.ref v0, .int v6, .int (j_k 1), .int (j_k 0)] σ (fun x10 τ9 =>
      if v7 = 0 then (if x10 = (j_k (-9)) then (again 55 [some (.ref v0), some (.int v1), some (.int v2), some (.int v3), some (.int v4), some (.int v5), some (.int v6), some (.int (j_k 0)), some (.int (v8 + (j_k 1))), none] [] τ9)
       else j_c1 call 128 [.int v3, .int x10] τ9 (fun x12 τ11 =>
       if x12 = 0 then (again 55 [some (.ref v0), some (.int v1), some (.int v2), some (.int v3), some (.int v4), some (.int v5), some (.int v6), some (.int (j_k 0)), some (.int (v8 + (j_k 1))), none] [] τ11)
       else again 55 [some (.ref v0), some (.int v1), some (.int v2), some (.int v3), some (.int v4), some (.int v5), some (.int v6), some (.int (j_k 1)), some (.int (v8 + (j_k 1))), none] [] τ11))
      else again 55 [some (.ref v0), some (.int v1), some (.int v2), some (.int v3), some (.int v4), some (.int v5), some (.int v6), some (.int (j_k 1)), some (.int (v8 + (j_k 1))), none] [] τ9)))
     else if v8 = (j_k 3) then (if v8 = 0 then (j_oc σ 7 v0 (j_c1 call 181 [.ref v0, .int v6, .int (j_k (-1)), .int (j_k (-1))] σ (fun x14 τ13 =>
       if v7 = 0 then (if x14 = (j_k (-9)) then (again 55 [some (.ref v0), some (.int v1), some (.int v2), some (.int v3), some (.int v4), some (.int v5), some (.int v6), some (.int (j_k 0)), some (.int (v8 + (j_k 1))), none] [] τ13)
        else j_c1 call 128 [.int v3, .int x14] τ13 (fun x16 τ15 =>
        if x16 = 0 then (again 55 [some (.ref v0), some (.int v1), some (.int v2), some (.int v3), some (.int v4), some (.int v5), some (.int v6), some (.int (j_k 0)), some (.int (v8 + (j_k 1))), none] [] τ15)
        else again 55 [some (.ref v0), some (.int v1), some (.int v2), some (.int v3), some (.int v4), some (.int v5), some (.int v6), some (.int (j_k 1)), some (.int (v8 + (j_k 1))), none] [] τ15))
       else again 55 [some (.ref v0), some (.int v1), some (.int v2), some (.int v3), some (.int v4), some (.int v5), some (.int v6), some (.int (j_k 1)), some (.int (v8 + (j_k 1))), none] [] τ13)))
      else if v8 = (j_k 2) then (j_oc σ 7 v0 (j_c1 call 181 [.ref v0, .int v6, .int (j_k (-1)), .int (j_k 1)] σ (fun x18 τ17 =>
       if v7 = 0 then (if x18 = (j_k (-9)) then (again 55 [some (.ref v0), some (.int v1), some (.int v2), some (.int v3), some (.int v4), some (.int v5), some (.int v6), some (.int (j_k 0)), some (.int (v8 + (j_k 1))), none] [] τ17)
        else j_c1 call 128 [.int v3, .int x18] τ17 (fun x20 τ19 =>
        if x20 = 0 then (again 55 [some (.ref v0), some (.int v1), some (.int v2), some (.int v3), some (.int v4), some (.int v5), some (.int v6), some (.int (j_k 0)), some (.int (v8 + (j_k 1))), none] [] τ19)
        else again 55 [some (.ref v0), some (.int v1), some (.int v2), some (.int v3), some (.int v4), some (.int v5), some (.int v6), some (.int (j_k 1)), some (.int (v8 + (j_k 1))), none] [] τ19))
       else again 55 [some (.ref v0), some (.int v1), some (.int v2), some (.int v3), some (.int v4), some (.int v5), some (.int v6), some (.int (j_k 1)), some (.int (v8 + (j_k 1))), none] [] τ17)))
      else j_oc σ 7 v0 (j_c1 call 181 [.ref v0, .int v6, .int (j_k (-1)), .int (j_k 0)] σ (fun x22 τ21 =>
      if v7 = 0 then (if x22 = (j_k (-9)) then (again 55 [some (.ref v0), some (.int v1), some (.int v2), some (.int v3), some (.int v4), some (.int v5), some (.int v6), some (.int (j_k 0)), some (.int (v8 + (j_k 1))), none] [] τ21)
       else j_c1 call 128 [.int v3, .int x22] τ21 (fun x24 τ23 =>
       if x24 = 0 then (again 55 [some (.ref v0), some (.int v1), some (.int v2), some (.int v3), some (.int v4), some (.int v5), some (.int v6), some (.int (j_k 0)), some (.int (v8 + (j_k 1))), none] [] τ23)
       else again 55 [some (.ref v0), some (.int v1), some (.int v2), some (.int v3), some (.int v4), some (.int v5), some (.int v6), some (.int (j_k 1)), some (.int (v8 + (j_k 1))), none] [] τ23))
      else again 55 [some (.ref v0), some (.int v1), some (.int v2), some (.int v3), some (.int v4), some (.int v5), some (.int v6), some (.int (j_k 1)), some (.int (v8 + (j_k 1))), none] [] τ21)))
     else if v8 = 0 then (j_oc σ 7 v0 (j_c1 call 181 [.ref v0, .int v6, .int (j_k 0), .int (j_k (-1))] σ (fun x26 τ25 =>
      if v7 = 0 then (if x26 = (j_k (-9)) then (again 55 [some (.ref v0), some (.int v1), some (.int v2), some (.int v3), some (.int v4), some (.int v5), some (.int v6), some (.int (j_k 0)), some (.int (v8 + (j_k 1))), none] [] τ25)
       else j_c1 call 128 [.int v3, .int x26] τ25 (fun x28 τ27 =>
       if x28 = 0 then (again 55 [some (.ref v0), some (.int v1), some (.int v2), some (.int v3), some (.int v4), some (.int v5), some (.int v6), some (.int (j_k 0)), some (.int (v8 + (j_k 1))), none] [] τ27)
       else again 55 [some (.ref v0), some (.int v1), some (.int v2), some (.int v3), some (.int v4), some (.int v5), some (.int v6), some (.int (j_k 1)), some (.int (v8 + (j_k 1))), none] [] τ27))
      else again 55 [some (.ref v0), some (.int v1), some (.int v2), some (.int v3), some (.int v4), some (.int v5), some (.int v6), some (.int (j_k 1)), some (.int (v8 + (j_k 1))), none] [] τ25)))
     else if v8 = (j_k 2) then (j_oc σ 7 v0 (j_c1 call 181 [.ref v0, .int v6, .int (j_k 0), .int (j_k 1)] σ (fun x30 τ29 =>
      if v7 = 0 then (if x30 = (j_k (-9)) then (again 55 [some (.ref v0), some (.int v1), some (.int v2), some (.int v3), some (.int v4), some (.int v5), some (.int v6), some (.int (j_k 0)), some (.int (v8 + (j_k 1))), none] [] τ29)
       else j_c1 call 128 [.int v3, .int x30] τ29 (fun x32 τ31 =>
       if x32 = 0 then (again 55 [some (.ref v0), some (.int v1), some (.int v2), some (.int v3), some (.int v4), some (.int v5), some (.int v6), some (.int (j_k 0)), some (.int (v8 + (j_k 1))), none] [] τ31)
       else again 55 [some (.ref v0), some (.int v1), some (.int v2), some (.int v3), some (.int v4), some (.int v5), some (.int v6), some (.int (j_k 1)), some (.int (v8 + (j_k 1))), none] [] τ31))
      else again 55 [some (.ref v0), some (.int v1), some (.int v2), some (.int v3), some (.int v4), some (.int v5), some (.int v6), some (.int (j_k 1)), some (.int (v8 + (j_k 1))), none] [] τ29)))
     else j_oc σ 7 v0 (j_c1 call 181 [.ref v0, .int v6, .int (j_k 0), .int (j_k 0)] σ (fun x34 τ33 =>
     if v7 = 0 then (if x34 = (j_k (-9)) then (again 55 [some (.ref v0), some (.int v1), some (.int v2), some (.int v3), some (.int v4), some (.int v5), some (.int v6), some (.int (j_k 0)), some (.int (v8 + (j_k 1))), none] [] τ33)
      else j_c1 call 128 [.int v3, .int x34] τ33 (fun x36 τ35 =>
      if x36 = 0 then (again 55 [some (.ref v0), some (.int v1), some (.int v2), some (.int v3), some (.int v4), some (.int v5), some (.int v6), some (.int (j_k 0)), some (.int (v8 + (j_k 1))), none] [] τ35)
      else again 55 [some (.ref v0), some (.int v1), some (.int v2), some (.int v3), some (.int v4), some (.int v5), some (.int v6), some (.int (j_k 1)), some (.int (v8 + (j_k 1))), none] [] τ35))
     else again 55 [some (.ref v0), some (.int v1), some (.int v2), some (.int v3), some (.int v4), some (.int v5), some (.int v6), some (.int (j_k 1)), some (.int (v8 + (j_k 1))), none] [] τ33)))
    else if v7 = 0 then (again 40 [some (.ref v0), some (.int v1), some (.int v2), some (.int (v3 ||| (j_k 0))), some (.int v4), some (.int v5), some (.int (v6 + (j_k 1))), none, none, none] [] σ)
    else j_oc σ 7 v0 (j_c1 call 216 [.ref v0, .int v6, .int v2] σ (fun x38 τ37 =>
    if x38 = 0 then (again 40 [some (.ref v0), some (.int v1), some (.int v2), some (.int (v3 ||| (j_k 0))), some (.int v4), some (.int v5), some (.int (v6 + (j_k 1))), none, none, none] [] τ37)
    else again 40 [some (.ref v0), some (.int v1), some (.int v2), some (.int (v3 ||| ((j_k 1) <<< (v6 &&& 31)))), some (.int v4), some (.int v5), some (.int (v6 + (j_k 1))), none, none, none] [] τ37)) := rfl

-- LastStirredModel.reach(II)I
set_option maxRecDepth 1000000 in
set_option maxHeartbeats 8000000 in
theorem t_218_0 (call : Nat → List Value → Sto → Option Rr) (again : Nat → j_L → List Value → Sto → Option Rr) (σ : Sto) (v0 : Nat) (v1 : Int32) (v2 : Int32) :
    j_seg k_218 h_218 call again 2000 0 [some (.ref v0), some (.int v1), some (.int v2)] [] σ =
    j_oc σ 7 v0 (j_c1 call 160 [.ref v0, .int v1] σ (fun x2 τ1 =>
    if x2 = 0 then (some (some (.int (j_k (-1))), τ1))
    else j_c1 call 127 [.int v2, .int (j_k 0), .int (j_k 1)] τ1 (fun x4 τ3 =>
    if x4 = 0 then (some (some (.int (j_k (-1))), τ3))
    else if v2 = (j_k 1) then (j_oc τ3 7 v0 (j_c1 call 217 [.ref v0, .int v1, .int (j_k 1)] τ3 (fun x6 τ5 =>
     some (some (.int x6), τ5))))
    else j_oc τ3 7 v0 (j_c1 call 217 [.ref v0, .int v1, .int (j_k 0)] τ3 (fun x8 τ7 =>
    some (some (.int x8), τ7)))))) := rfl

-- LastStirredModel.never()I
set_option maxRecDepth 1000000 in
set_option maxHeartbeats 8000000 in
theorem t_219_0 (call : Nat → List Value → Sto → Option Rr) (again : Nat → j_L → List Value → Sto → Option Rr) (σ : Sto) (v0 : Nat) :
    j_seg k_219 h_219 call again 2000 0 [some (.ref v0), none, none, none, none] [] σ =
    again 7 [some (.ref v0), some (.int (j_k 0)), some (.int (j_k (-9))), some (.int (j_k 0)), none] [] σ := rfl

set_option maxRecDepth 1000000 in
set_option maxHeartbeats 8000000 in
theorem t_219_7 (call : Nat → List Value → Sto → Option Rr) (again : Nat → j_L → List Value → Sto → Option Rr) (σ : Sto) (v0 : Nat) (v1 : Int32) (v2 : Int32) (v3 : Int32) :
    j_seg k_219 h_219 call again 2000 7 [some (.ref v0), some (.int v1), some (.int v2), some (.int v3), none] [] σ =
    j_oc σ 7 v0 (if v3 < (s_I σ v0 13) then (again 20 [some (.ref v0), some (.int v1), some (.int v2), some (.int v3), some (.int (v3 + (j_k 1)))] [] σ)
    else j_oc σ 7 v0 (j_c1 call 134 [.ref v0, .int v2, .int v1] σ (fun x2 τ1 =>
    some (some (.int x2), τ1)))) := rfl

set_option maxRecDepth 1000000 in
set_option maxHeartbeats 8000000 in
theorem t_219_20 (call : Nat → List Value → Sto → Option Rr) (again : Nat → j_L → List Value → Sto → Option Rr) (σ : Sto) (v0 : Nat) (v1 : Int32) (v2 : Int32) (v3 : Int32) (v4 : Int32) :
    j_seg k_219 h_219 call again 2000 20 [some (.ref v0), some (.int v1), some (.int v2), some (.int v3), some (.int v4)] [] σ =
    j_oc σ 7 v0 (if v4 < (s_I σ v0 13) then (j_oc σ 7 v0 (j_c1 call 165 [.ref v0, .int (j_k 0), .int v3] σ (fun x2 τ1 =>
     if x2 = 0 then (j_oc τ1 7 v0 (j_c1 call 165 [.ref v0, .int (j_k 0), .int v4] τ1 (fun x4 τ3 =>
      if x4 = 0 then (j_oc τ3 7 v0 (j_c1 call 162 [.ref v0, .int (j_k 0), .int ((j_k 5) + v3)] τ3 (fun x6 τ5 =>
       j_oc τ5 7 v0 (j_c1 call 217 [.ref v0, .int x6, .int (j_k 1)] τ5 (fun x8 τ7 =>
       j_oc τ7 7 v0 (j_c1 call 162 [.ref v0, .int (j_k 0), .int ((j_k 5) + v4)] τ7 (fun x10 τ9 =>
       j_c1 call 128 [.int x8, .int x10] τ9 (fun x12 τ11 =>
       if x12 = 0 then (if v1 = 0 then (again 20 [some (.ref v0), some (.int (v1 + (j_k 1))), some (.int (((j_k 10) * v3) + v4)), some (.int v3), some (.int (v4 + (j_k 1)))] [] τ11)
        else again 20 [some (.ref v0), some (.int (v1 + (j_k 1))), some (.int v2), some (.int v3), some (.int (v4 + (j_k 1)))] [] τ11)
       else again 20 [some (.ref v0), some (.int v1), some (.int v2), some (.int v3), some (.int (v4 + (j_k 1)))] [] τ11))))))))
      else again 20 [some (.ref v0), some (.int v1), some (.int v2), some (.int v3), some (.int (v4 + (j_k 1)))] [] τ3)))
     else again 20 [some (.ref v0), some (.int v1), some (.int v2), some (.int v3), some (.int (v4 + (j_k 1)))] [] τ1)))
    else again 7 [some (.ref v0), some (.int v1), some (.int v2), some (.int (v3 + (j_k 1))), none] [] σ) := rfl

-- LastStirredModel.wolfTo(II)I
set_option maxRecDepth 1000000 in
set_option maxHeartbeats 8000000 in
theorem t_220_0 (call : Nat → List Value → Sto → Option Rr) (again : Nat → j_L → List Value → Sto → Option Rr) (σ : Sto) (v0 : Nat) (v1 : Int32) (v2 : Int32) :
    j_seg k_220 h_220 call again 2000 0 [some (.ref v0), some (.int v1), some (.int v2), none] [] σ =
    if v2 = (j_k 4) then (again 52 [some (.ref v0), some (.int v1), some (.int v2), some (.int v1)] [] σ)
    else if v2 = (j_k 1) then (if v2 = 0 then (j_oc σ 7 v0 (j_c1 call 181 [.ref v0, .int v1, .int (j_k 1), .int (j_k (-1))] σ (fun x2 τ1 =>
      again 52 [some (.ref v0), some (.int v1), some (.int v2), some (.int x2)] [] τ1)))
     else if v2 = (j_k 2) then (j_oc σ 7 v0 (j_c1 call 181 [.ref v0, .int v1, .int (j_k 1), .int (j_k 1)] σ (fun x4 τ3 =>
      again 52 [some (.ref v0), some (.int v1), some (.int v2), some (.int x4)] [] τ3)))
     else j_oc σ 7 v0 (j_c1 call 181 [.ref v0, .int v1, .int (j_k 1), .int (j_k 0)] σ (fun x6 τ5 =>
     again 52 [some (.ref v0), some (.int v1), some (.int v2), some (.int x6)] [] τ5)))
    else if v2 = (j_k 3) then (if v2 = 0 then (j_oc σ 7 v0 (j_c1 call 181 [.ref v0, .int v1, .int (j_k (-1)), .int (j_k (-1))] σ (fun x8 τ7 =>
      again 52 [some (.ref v0), some (.int v1), some (.int v2), some (.int x8)] [] τ7)))
     else if v2 = (j_k 2) then (j_oc σ 7 v0 (j_c1 call 181 [.ref v0, .int v1, .int (j_k (-1)), .int (j_k 1)] σ (fun x10 τ9 =>
      again 52 [some (.ref v0), some (.int v1), some (.int v2), some (.int x10)] [] τ9)))
     else j_oc σ 7 v0 (j_c1 call 181 [.ref v0, .int v1, .int (j_k (-1)), .int (j_k 0)] σ (fun x12 τ11 =>
     again 52 [some (.ref v0), some (.int v1), some (.int v2), some (.int x12)] [] τ11)))
    else if v2 = 0 then (j_oc σ 7 v0 (j_c1 call 181 [.ref v0, .int v1, .int (j_k 0), .int (j_k (-1))] σ (fun x14 τ13 =>
     again 52 [some (.ref v0), some (.int v1), some (.int v2), some (.int x14)] [] τ13)))
    else if v2 = (j_k 2) then (j_oc σ 7 v0 (j_c1 call 181 [.ref v0, .int v1, .int (j_k 0), .int (j_k 1)] σ (fun x16 τ15 =>
     again 52 [some (.ref v0), some (.int v1), some (.int v2), some (.int x16)] [] τ15)))
    else j_oc σ 7 v0 (j_c1 call 181 [.ref v0, .int v1, .int (j_k 0), .int (j_k 0)] σ (fun x18 τ17 =>
    again 52 [some (.ref v0), some (.int v1), some (.int v2), some (.int x18)] [] τ17)) := rfl

set_option maxRecDepth 1000000 in
set_option maxHeartbeats 8000000 in
theorem t_220_52 (call : Nat → List Value → Sto → Option Rr) (again : Nat → j_L → List Value → Sto → Option Rr) (σ : Sto) (v0 : Nat) (v1 : Int32) (v2 : Int32) (v3 : Int32) :
    j_seg k_220 h_220 call again 2000 52 [some (.ref v0), some (.int v1), some (.int v2), some (.int v3)] [] σ =
    if v3 = (j_k (-9)) then (some (some (.int (j_k (-9))), σ))
    else if v2 = (j_k 4) then (some (some (.int v3), σ))
    else j_gP σ 7 v0 12 (fun a1 =>
    j_ia σ a1 v3 (
    if (s_I σ a1 v3.toNatClampNeg) = (j_k 1) then (some (some (.int (j_k (-9))), σ))
    else j_gP σ 7 v0 12 (fun a2 =>
    j_ia σ a2 v3 (
    if (s_I σ a2 v3.toNatClampNeg) = (j_k 2) then (some (some (.int (j_k (-9))), σ))
    else some (some (.int v3), σ))))) := rfl

-- LastStirredModel.keeps(IIII)Z
set_option maxRecDepth 1000000 in
set_option maxHeartbeats 8000000 in
theorem t_221_0 (call : Nat → List Value → Sto → Option Rr) (again : Nat → j_L → List Value → Sto → Option Rr) (σ : Sto) (v0 : Nat) (v1 : Int32) (v2 : Int32) (v3 : Int32) (v4 : Int32) :
    j_seg k_221 h_221 call again 2000 0 [some (.ref v0), some (.int v1), some (.int v2), some (.int v3), some (.int v4), none, none, none] [] σ =
    j_oc σ 7 v0 (j_c0 call 164 [.ref v0, .int v1, .int (v1 + (j_k 1))] σ (fun τ1 =>
    if v2 = (j_k (-9)) then (j_oc τ1 7 v0 (j_c1 call 166 [.ref v0, .int (v1 + (j_k 1))] τ1 (fun x3 τ2 =>
     j_oc τ2 7 v0 (j_c1 call 166 [.ref v0, .int v1] τ2 (fun x5 τ4 =>
     if x5 < x3 then (if (j_k 0) = 0 ∨ (j_k 0) = 1 then some (some (.int (j_k 0)), τ4) else none)
     else again 48 [some (.ref v0), some (.int v1), some (.int v2), some (.int v3), some (.int v4), some (.int (j_k 1)), some (.int (j_k 0)), none] [] τ4)))))
    else j_oc τ1 7 v0 (j_c1 call 189 [.ref v0, .int (v1 + (j_k 1)), .int v2] τ1 (fun x7 τ6 =>
    if x7 = 0 then (if (j_k 0) = 0 ∨ (j_k 0) = 1 then some (some (.int (j_k 0)), τ6) else none)
    else j_oc τ6 7 v0 (j_c1 call 166 [.ref v0, .int (v1 + (j_k 1))] τ6 (fun x9 τ8 =>
    j_oc τ8 7 v0 (j_c1 call 166 [.ref v0, .int v1] τ8 (fun x11 τ10 =>
    if x11 < x9 then (if (j_k 0) = 0 ∨ (j_k 0) = 1 then some (some (.int (j_k 0)), τ10) else none)
    else again 48 [some (.ref v0), some (.int v1), some (.int v2), some (.int v3), some (.int v4), some (.int (j_k 1)), some (.int (j_k 0)), none] [] τ10)))))))) := rfl

set_option maxRecDepth 1000000 in
set_option maxHeartbeats 8000000 in
theorem t_221_48 (call : Nat → List Value → Sto → Option Rr) (again : Nat → j_L → List Value → Sto → Option Rr) (σ : Sto) (v0 : Nat) (v1 : Int32) (v2 : Int32) (v3 : Int32) (v4 : Int32) (v5 : Int32) (v6 : Int32) :
    j_seg k_221 h_221 call again 2000 48 [some (.ref v0), some (.int v1), some (.int v2), some (.int v3), some (.int v4), some (.int v5), some (.int v6), none] [] σ =
    if v6 < (j_k 5) then (if v5 = 0 then (if v5 = 0 ∨ v5 = 1 then some (some (.int v5), σ) else none)
     else j_oc σ 7 v0 (j_c1 call 220 [.ref v0, .int v3, .int v6] σ (fun x2 τ1 =>
     if x2 = (j_k (-9)) then (again 48 [some (.ref v0), some (.int v1), some (.int v2), some (.int v3), some (.int v4), some (.int v5), some (.int (v6 + (j_k 1))), none] [] τ1)
     else j_oc τ1 7 v0 (j_c1 call 167 [.ref v0, .int (v1 + (j_k 1)), .int x2, .int (j_k (-9))] τ1 (fun x4 τ3 =>
     if x4 = (j_k (-9)) then (if v4 = (j_k 1) then (again 48 [some (.ref v0), some (.int v1), some (.int v2), some (.int v3), some (.int v4), some (.int (j_k 1)), some (.int (v6 + (j_k 1))), none] [] τ3)
      else j_oc τ3 7 v0 (j_c1 call 222 [.ref v0, .int (v1 + (j_k 1)), .int x2] τ3 (fun x6 τ5 =>
      if x6 = 0 then (again 48 [some (.ref v0), some (.int v1), some (.int v2), some (.int v3), some (.int v4), some (.int (j_k 0)), some (.int (v6 + (j_k 1))), none] [] τ5)
      else again 48 [some (.ref v0), some (.int v1), some (.int v2), some (.int v3), some (.int v4), some (.int (j_k 1)), some (.int (v6 + (j_k 1))), none] [] τ5)))
     else again 48 [some (.ref v0), some (.int v1), some (.int v2), some (.int v3), some (.int v4), some (.int (j_k 0)), some (.int (v6 + (j_k 1))), none] [] τ3)))))
    else if v5 = 0 ∨ v5 = 1 then some (some (.int v5), σ) else none := rfl

-- LastStirredModel.canKeep(II)Z
set_option maxRecDepth 1000000 in
set_option maxHeartbeats 8000000 in
theorem t_222_0 (call : Nat → List Value → Sto → Option Rr) (again : Nat → j_L → List Value → Sto → Option Rr) (σ : Sto) (v0 : Nat) (v1 : Int32) (v2 : Int32) :
    j_seg k_222 h_222 call again 2000 0 [some (.ref v0), some (.int v1), some (.int v2), none, none] [] σ =
    again 5 [some (.ref v0), some (.int v1), some (.int v2), some (.int (j_k 0)), some (.int (j_k (-1)))] [] σ := rfl

set_option maxRecDepth 1000000 in
set_option maxHeartbeats 8000000 in
theorem t_222_5 (call : Nat → List Value → Sto → Option Rr) (again : Nat → j_L → List Value → Sto → Option Rr) (σ : Sto) (v0 : Nat) (v1 : Int32) (v2 : Int32) (v3 : Int32) (v4 : Int32) :
    j_seg k_222 h_222 call again 2000 5 [some (.ref v0), some (.int v1), some (.int v2), some (.int v3), some (.int v4)] [] σ =
    j_oc σ 7 v0 (j_c1 call 201 [.ref v0] σ (fun x2 τ1 =>
    if v4 < x2 then (if v3 = 0 then (if v4 < 0 then (j_oc τ1 7 v0 (j_c1 call 223 [.ref v0, .int v1, .int (j_k (-9)), .int v2] τ1 (fun x4 τ3 =>
       again 5 [some (.ref v0), some (.int v1), some (.int v2), some (.int x4), some (.int (v4 + (j_k 1)))] [] τ3)))
      else j_oc τ1 7 v0 (j_c1 call 223 [.ref v0, .int v1, .int v4, .int v2] τ1 (fun x6 τ5 =>
      again 5 [some (.ref v0), some (.int v1), some (.int v2), some (.int x6), some (.int (v4 + (j_k 1)))] [] τ5)))
     else if v3 = 0 ∨ v3 = 1 then some (some (.int v3), τ1) else none)
    else if v3 = 0 ∨ v3 = 1 then some (some (.int v3), τ1) else none)) := rfl

-- LastStirredModel.keepsLast(III)Z
set_option maxRecDepth 1000000 in
set_option maxHeartbeats 8000000 in
theorem t_223_0 (call : Nat → List Value → Sto → Option Rr) (again : Nat → j_L → List Value → Sto → Option Rr) (σ : Sto) (v0 : Nat) (v1 : Int32) (v2 : Int32) (v3 : Int32) :
    j_seg k_223 h_223 call again 2000 0 [some (.ref v0), some (.int v1), some (.int v2), some (.int v3), none, none, none] [] σ =
    j_oc σ 7 v0 (j_c0 call 164 [.ref v0, .int v1, .int (v1 + (j_k 1))] σ (fun τ1 =>
    if v2 = (j_k (-9)) then (j_oc τ1 7 v0 (j_c1 call 166 [.ref v0, .int (v1 + (j_k 1))] τ1 (fun x3 τ2 =>
     j_oc τ2 7 v0 (j_c1 call 166 [.ref v0, .int v1] τ2 (fun x5 τ4 =>
     if x5 < x3 then (if (j_k 0) = 0 ∨ (j_k 0) = 1 then some (some (.int (j_k 0)), τ4) else none)
     else again 48 [some (.ref v0), some (.int v1), some (.int v2), some (.int v3), some (.int (j_k 1)), some (.int (j_k 0)), none] [] τ4)))))
    else j_oc τ1 7 v0 (j_c1 call 189 [.ref v0, .int (v1 + (j_k 1)), .int v2] τ1 (fun x7 τ6 =>
    if x7 = 0 then (if (j_k 0) = 0 ∨ (j_k 0) = 1 then some (some (.int (j_k 0)), τ6) else none)
    else j_oc τ6 7 v0 (j_c1 call 166 [.ref v0, .int (v1 + (j_k 1))] τ6 (fun x9 τ8 =>
    j_oc τ8 7 v0 (j_c1 call 166 [.ref v0, .int v1] τ8 (fun x11 τ10 =>
    if x11 < x9 then (if (j_k 0) = 0 ∨ (j_k 0) = 1 then some (some (.int (j_k 0)), τ10) else none)
    else again 48 [some (.ref v0), some (.int v1), some (.int v2), some (.int v3), some (.int (j_k 1)), some (.int (j_k 0)), none] [] τ10)))))))) := rfl

set_option maxRecDepth 1000000 in
set_option maxHeartbeats 8000000 in
theorem t_223_48 (call : Nat → List Value → Sto → Option Rr) (again : Nat → j_L → List Value → Sto → Option Rr) (σ : Sto) (v0 : Nat) (v1 : Int32) (v2 : Int32) (v3 : Int32) (v4 : Int32) (v5 : Int32) :
    j_seg k_223 h_223 call again 2000 48 [some (.ref v0), some (.int v1), some (.int v2), some (.int v3), some (.int v4), some (.int v5), none] [] σ =
    if v5 < (j_k 5) then (j_oc σ 7 v0 (j_c1 call 220 [.ref v0, .int v3, .int v5] σ (fun x2 τ1 =>
     if v4 = 0 then (again 48 [some (.ref v0), some (.int v1), some (.int v2), some (.int v3), some (.int (j_k 0)), some (.int (v5 + (j_k 1))), none] [] τ1)
     else if x2 = (j_k (-9)) then (again 48 [some (.ref v0), some (.int v1), some (.int v2), some (.int v3), some (.int (j_k 1)), some (.int (v5 + (j_k 1))), none] [] τ1)
     else j_oc τ1 7 v0 (j_c1 call 167 [.ref v0, .int (v1 + (j_k 1)), .int x2, .int (j_k (-9))] τ1 (fun x4 τ3 =>
     if x4 = (j_k (-9)) then (again 48 [some (.ref v0), some (.int v1), some (.int v2), some (.int v3), some (.int (j_k 1)), some (.int (v5 + (j_k 1))), none] [] τ3)
     else again 48 [some (.ref v0), some (.int v1), some (.int v2), some (.int v3), some (.int (j_k 0)), some (.int (v5 + (j_k 1))), none] [] τ3)))))
    else if v4 = 0 ∨ v4 = 1 then some (some (.int v4), σ) else none := rfl

-- LastStirredModel.wolf(II)I
set_option maxRecDepth 1000000 in
set_option maxHeartbeats 8000000 in
theorem t_224_0 (call : Nat → List Value → Sto → Option Rr) (again : Nat → j_L → List Value → Sto → Option Rr) (σ : Sto) (v0 : Nat) (v1 : Int32) (v2 : Int32) :
    j_seg k_224 h_224 call again 2000 0 [some (.ref v0), some (.int v1), some (.int v2), none] [] σ =
    j_oc σ 7 v0 (j_c1 call 160 [.ref v0, .int v1] σ (fun x2 τ1 =>
    if x2 = 0 then (some (some (.int (j_k (-1))), τ1))
    else j_c1 call 127 [.int v2, .int (j_k 1), .int (j_k 2)] τ1 (fun x4 τ3 =>
    if x4 = 0 then (some (some (.int (j_k (-1))), τ3))
    else j_gP τ3 7 v0 12 (fun a5 =>
    j_ia τ3 a5 v1 (
    if (s_I τ3 a5 v1.toNatClampNeg) = (j_k 1) then (some (some (.int (j_k (-1))), τ3))
    else j_gP τ3 7 v0 12 (fun a6 =>
    j_ia τ3 a6 v1 (
    if (s_I τ3 a6 v1.toNatClampNeg) = (j_k 2) then (some (some (.int (j_k (-1))), τ3))
    else j_oc τ3 7 v0 (j_c1 call 167 [.ref v0, .int (j_k 0), .int v1, .int (j_k (-9))] τ3 (fun x8 τ7 =>
    if x8 = (j_k (-9)) then (j_oc τ7 7 v0 (j_c0 call 164 [.ref v0, .int (j_k 0), .int (j_k 4)] τ7 (fun τ9 =>
     again 63 [some (.ref v0), some (.int v1), some (.int v2), some (.int (j_k (-1)))] [] τ9)))
    else some (some (.int (j_k (-4))), τ7)))))))))) := rfl

set_option maxRecDepth 1000000 in
set_option maxHeartbeats 8000000 in
theorem t_224_63 (call : Nat → List Value → Sto → Option Rr) (again : Nat → j_L → List Value → Sto → Option Rr) (σ : Sto) (v0 : Nat) (v1 : Int32) (v2 : Int32) (v3 : Int32) :
    j_seg k_224 h_224 call again 2000 63 [some (.ref v0), some (.int v1), some (.int v2), some (.int v3)] [] σ =
    j_oc σ 7 v0 (j_c1 call 201 [.ref v0] σ (fun x2 τ1 =>
    if v3 < x2 then (if v3 < 0 then (j_oc τ1 7 v0 (j_c1 call 221 [.ref v0, .int (j_k 4), .int (j_k (-9)), .int v1, .int v2] τ1 (fun x4 τ3 =>
      if x4 = 0 then (again 63 [some (.ref v0), some (.int v1), some (.int v2), some (.int (v3 + (j_k 1)))] [] τ3)
      else if v3 < 0 then (j_oc τ3 7 v0 (j_c1 call 134 [.ref v0, .int (j_k (-9)), .int (j_k 1)] τ3 (fun x6 τ5 =>
       some (some (.int x6), τ5))))
      else j_oc τ3 7 v0 (j_c1 call 134 [.ref v0, .int v3, .int (j_k 1)] τ3 (fun x8 τ7 =>
      some (some (.int x8), τ7))))))
     else j_oc τ1 7 v0 (j_c1 call 221 [.ref v0, .int (j_k 4), .int v3, .int v1, .int v2] τ1 (fun x10 τ9 =>
     if x10 = 0 then (again 63 [some (.ref v0), some (.int v1), some (.int v2), some (.int (v3 + (j_k 1)))] [] τ9)
     else if v3 < 0 then (j_oc τ9 7 v0 (j_c1 call 134 [.ref v0, .int (j_k (-9)), .int (j_k 1)] τ9 (fun x12 τ11 =>
      some (some (.int x12), τ11))))
     else j_oc τ9 7 v0 (j_c1 call 134 [.ref v0, .int v3, .int (j_k 1)] τ9 (fun x14 τ13 =>
     some (some (.int x14), τ13))))))
    else j_oc τ1 7 v0 (j_c1 call 134 [.ref v0, .int (j_k (-9)), .int (j_k 0)] τ1 (fun x16 τ15 =>
    some (some (.int x16), τ15))))) := rfl

-- LastStirredModel.needDawn(I)I
set_option maxRecDepth 1000000 in
set_option maxHeartbeats 8000000 in
theorem t_225_0 (call : Nat → List Value → Sto → Option Rr) (again : Nat → j_L → List Value → Sto → Option Rr) (σ : Sto) (v0 : Nat) (v1 : Int32) :
    j_seg k_225 h_225 call again 2000 0 [some (.ref v0), some (.int v1), none, none] [] σ =
    j_gP σ 7 v0 5 (fun a1 =>
    j_ia σ a1 v1 (
    if (s_I σ a1 v1.toNatClampNeg) < 0 then (j_oc σ 7 v0 (j_c1 call 131 [.ref v0, .int (j_k 1)] σ (fun x3 τ2 =>
     some (some (.int x3), τ2))))
    else j_gP σ 7 v0 5 (fun a4 =>
    j_ia σ a4 v1 (
    j_oc σ 7 v0 (if (s_I σ a4 v1.toNatClampNeg) = (s_I σ v0 13) then (again 38 [some (.ref v0), some (.int v1), some (.int (j_k 1)), some (.int (j_k 0))] [] σ)
    else j_oc σ 7 v0 (j_c1 call 131 [.ref v0, .int (j_k 5)] σ (fun x6 τ5 =>
    some (some (.int x6), τ5)))))))) := rfl

set_option maxRecDepth 1000000 in
set_option maxHeartbeats 8000000 in
theorem t_225_38 (call : Nat → List Value → Sto → Option Rr) (again : Nat → j_L → List Value → Sto → Option Rr) (σ : Sto) (v0 : Nat) (v1 : Int32) (v2 : Int32) (v3 : Int32) :
    j_seg k_225 h_225 call again 2000 38 [some (.ref v0), some (.int v1), some (.int v2), some (.int v3)] [] σ =
    j_oc σ 7 v0 (if v3 < (s_I σ v0 13) then (if v2 = 0 then (again 38 [some (.ref v0), some (.int v1), some (.int (j_k 0)), some (.int (v3 + (j_k 1)))] [] σ)
     else j_oc σ 7 v0 (j_c1 call 140 [.ref v0, .int v1, .int v3] σ (fun x2 τ1 =>
     j_oc τ1 7 v0 (j_c1 call 160 [.ref v0, .int x2] τ1 (fun x4 τ3 =>
     if x4 = 0 then (j_oc τ3 7 v0 (j_c1 call 140 [.ref v0, .int v1, .int v3] τ3 (fun x6 τ5 =>
      if x6 = (j_k (-9)) then (again 38 [some (.ref v0), some (.int v1), some (.int (j_k 1)), some (.int (v3 + (j_k 1)))] [] τ5)
      else again 38 [some (.ref v0), some (.int v1), some (.int (j_k 0)), some (.int (v3 + (j_k 1)))] [] τ5)))
     else again 38 [some (.ref v0), some (.int v1), some (.int (j_k 1)), some (.int (v3 + (j_k 1)))] [] τ3)))))
    else if v2 = 0 then (j_oc σ 7 v0 (j_c1 call 131 [.ref v0, .int (j_k 3)] σ (fun x8 τ7 =>
     some (some (.int x8), τ7))))
    else some (some (.int (j_k 0)), σ)) := rfl

-- LastStirredModel.dawn(I)I
set_option maxRecDepth 1000000 in
set_option maxHeartbeats 8000000 in
theorem t_226_0 (call : Nat → List Value → Sto → Option Rr) (again : Nat → j_L → List Value → Sto → Option Rr) (σ : Sto) (v0 : Nat) (v1 : Int32) :
    j_seg k_226 h_226 call again 2000 0 [some (.ref v0), some (.int v1), none, none] [] σ =
    j_c1 call 139 [.int v1] σ (fun x2 τ1 =>
    if x2 = 0 then (some (some (.int (j_k (-1))), τ1))
    else j_oc τ1 7 v0 (j_c1 call 225 [.ref v0, .int v1] τ1 (fun x4 τ3 =>
    if x4 < 0 then (some (some (.int x4), τ3))
    else j_oc τ3 7 v0 (j_c1 call 207 [.ref v0, .int (j_k 2), .int v1] τ3 (fun x6 τ5 =>
    if x6 = (j_k (-9)) then (some (some (.int (j_k (-9))), τ5))
    else j_oc τ5 7 v0 (j_oc τ5 7 v0 (j_c1 call 134 [.ref v0, .int (s_I τ5 v0 33), .int x6] τ5 (fun x8 τ7 =>
    some (some (.int x8), τ7))))))))) := rfl

-- LastStirredModel.who(I)I
set_option maxRecDepth 1000000 in
set_option maxHeartbeats 8000000 in
theorem t_227_0 (call : Nat → List Value → Sto → Option Rr) (again : Nat → j_L → List Value → Sto → Option Rr) (σ : Sto) (v0 : Nat) (v1 : Int32) :
    j_seg k_227 h_227 call again 2000 0 [some (.ref v0), some (.int v1), none, none] [] σ =
    j_c1 call 139 [.int v1] σ (fun x2 τ1 =>
    if x2 = 0 then (some (some (.int (j_k (-1))), τ1))
    else j_oc τ1 7 v0 (j_c1 call 225 [.ref v0, .int v1] τ1 (fun x4 τ3 =>
    if x4 < 0 then (some (some (.int x4), τ3))
    else j_oc τ3 7 v0 (j_c1 call 207 [.ref v0, .int (j_k 2), .int v1] τ3 (fun x6 τ5 =>
    if x6 = (j_k (-9)) then (some (some (.int (j_k (-9))), τ5))
    else if x6 = 0 then (some (some (.int (j_k (-9))), τ5))
    else j_oc τ5 7 v0 (j_oc τ5 7 v0 (j_oc τ5 7 v0 (j_c1 call 134 [.ref v0, .int (s_I τ5 v0 36), .int (s_I τ5 v0 35)] τ5 (fun x8 τ7 =>
    some (some (.int x8), τ7)))))))))) := rfl

-- LastStirredModel.breed(I)I
set_option maxRecDepth 1000000 in
set_option maxHeartbeats 8000000 in
theorem t_228_0 (call : Nat → List Value → Sto → Option Rr) (again : Nat → j_L → List Value → Sto → Option Rr) (σ : Sto) (v0 : Nat) (v1 : Int32) :
    j_seg k_228 h_228 call again 2000 0 [some (.ref v0), some (.int v1), none, none] [] σ =
    j_c1 call 127 [.int v1, .int (j_k 0), .int (j_k 5)] σ (fun x2 τ1 =>
    if x2 = 0 then (some (some (.int (j_k (-1))), τ1))
    else j_oc τ1 7 v0 (if (s_I τ1 v0 11) = 0 then (some (some (.int (j_k (-4))), τ1))
    else again 23 [some (.ref v0), some (.int v1), some (.int (j_k 0)), none] [] τ1)) := rfl

set_option maxRecDepth 1000000 in
set_option maxHeartbeats 8000000 in
theorem t_228_23 (call : Nat → List Value → Sto → Option Rr) (again : Nat → j_L → List Value → Sto → Option Rr) (σ : Sto) (v0 : Nat) (v1 : Int32) (v2 : Int32) :
    j_seg k_228 h_228 call again 2000 23 [some (.ref v0), some (.int v1), some (.int v2), none] [] σ =
    j_oc σ 7 v0 (if v2 < (s_I σ v0 13) then (j_gP σ 7 v0 37 (fun a1 =>
     j_gP σ 7 v0 14 (fun a2 =>
     j_ia σ a2 v2 (
     j_is σ a1 v2 (let τ3 : Sto := s_uI σ a1 v2.toNatClampNeg (s_I σ a2 v2.toNatClampNeg);
     j_gP τ3 7 v0 14 (fun a4 =>
     j_is τ3 a4 v2 (let τ5 : Sto := s_uI τ3 a4 v2.toNatClampNeg v1;
     again 23 [some (.ref v0), some (.int v1), some (.int (v2 + (j_k 1))), none] [] τ5)))))))
    else j_oc σ 7 v0 (j_c1 call 207 [.ref v0, .int (j_k 2), .int (j_k (-1))] σ (fun x7 τ6 =>
    again 65 [some (.ref v0), some (.int v1), some (.int x7), some (.int (j_k 0))] [] τ6))) := rfl

set_option maxRecDepth 1000000 in
set_option maxHeartbeats 8000000 in
theorem t_228_65 (call : Nat → List Value → Sto → Option Rr) (again : Nat → j_L → List Value → Sto → Option Rr) (σ : Sto) (v0 : Nat) (v1 : Int32) (v2 : Int32) (v3 : Int32) :
    j_seg k_228 h_228 call again 2000 65 [some (.ref v0), some (.int v1), some (.int v2), some (.int v3)] [] σ =
    j_oc σ 7 v0 (if v3 < (s_I σ v0 13) then (j_gP σ 7 v0 14 (fun a1 =>
     j_gP σ 7 v0 37 (fun a2 =>
     j_ia σ a2 v3 (
     j_is σ a1 v3 (let τ3 : Sto := s_uI σ a1 v3.toNatClampNeg (s_I σ a2 v3.toNatClampNeg);
     again 65 [some (.ref v0), some (.int v1), some (.int v2), some (.int (v3 + (j_k 1)))] [] τ3)))))
    else some (some (.int v2), σ)) := rfl

-- LastStirredModel.counted(I)I
set_option maxRecDepth 1000000 in
set_option maxHeartbeats 8000000 in
theorem t_229_0 (call : Nat → List Value → Sto → Option Rr) (again : Nat → j_L → List Value → Sto → Option Rr) (σ : Sto) (v0 : Nat) (v1 : Int32) :
    j_seg k_229 h_229 call again 2000 0 [some (.ref v0), some (.int v1), none, none] [] σ =
    again 4 [some (.ref v0), some (.int v1), some (.int (j_k 0)), some (.int (j_k 0))] [] σ := rfl

set_option maxRecDepth 1000000 in
set_option maxHeartbeats 8000000 in
theorem t_229_4 (call : Nat → List Value → Sto → Option Rr) (again : Nat → j_L → List Value → Sto → Option Rr) (σ : Sto) (v0 : Nat) (v1 : Int32) (v2 : Int32) (v3 : Int32) :
    j_seg k_229 h_229 call again 2000 4 [some (.ref v0), some (.int v1), some (.int v2), some (.int v3)] [] σ =
    j_oc σ 7 v0 (if v3 < (s_I σ v0 13) then (if v1 = (j_k 4) then (j_oc σ 7 v0 (j_c1 call 173 [.ref v0, .int v3] σ (fun x2 τ1 =>
      if x2 = 0 then (again 4 [some (.ref v0), some (.int v1), some (.int (v2 + (j_k 0))), some (.int (v3 + (j_k 1)))] [] τ1)
      else again 4 [some (.ref v0), some (.int v1), some (.int (v2 + (j_k 1))), some (.int (v3 + (j_k 1)))] [] τ1)))
     else again 4 [some (.ref v0), some (.int v1), some (.int (v2 + (j_k 0))), some (.int (v3 + (j_k 1)))] [] σ)
    else again 41 [some (.ref v0), some (.int v1), some (.int v2), some (.int (j_k 0))] [] σ) := rfl

set_option maxRecDepth 1000000 in
set_option maxHeartbeats 8000000 in
theorem t_229_41 (call : Nat → List Value → Sto → Option Rr) (again : Nat → j_L → List Value → Sto → Option Rr) (σ : Sto) (v0 : Nat) (v1 : Int32) (v2 : Int32) (v3 : Int32) :
    j_seg k_229 h_229 call again 2000 41 [some (.ref v0), some (.int v1), some (.int v2), some (.int v3)] [] σ =
    if v3 < (j_k 3) then (if v1 = (j_k 5) then (j_gP σ 7 v0 25 (fun a1 =>
      j_ba σ a1 v3 (
      if (s_I σ a1 v3.toNatClampNeg) = 0 then (again 41 [some (.ref v0), some (.int v1), some (.int (v2 + (j_k 0))), some (.int (v3 + (j_k 1)))] [] σ)
      else again 41 [some (.ref v0), some (.int v1), some (.int (v2 + (j_k 1))), some (.int (v3 + (j_k 1)))] [] σ)))
     else again 41 [some (.ref v0), some (.int v1), some (.int (v2 + (j_k 0))), some (.int (v3 + (j_k 1)))] [] σ)
    else again 76 [some (.ref v0), some (.int v1), some (.int v2), some (.int (j_k 0))] [] σ := rfl

set_option maxRecDepth 1000000 in
set_option maxHeartbeats 8000000 in
theorem t_229_76 (call : Nat → List Value → Sto → Option Rr) (again : Nat → j_L → List Value → Sto → Option Rr) (σ : Sto) (v0 : Nat) (v1 : Int32) (v2 : Int32) (v3 : Int32) :
    j_seg k_229 h_229 call again 2000 76 [some (.ref v0), some (.int v1), some (.int v2), some (.int v3)] [] σ =
    if v3 < (j_k 6) then (if v1 = (j_k 6) then (j_gP σ 7 v0 5 (fun a1 =>
      j_ia σ a1 v3 (
      if (s_I σ a1 v3.toNatClampNeg) < 0 then (again 76 [some (.ref v0), some (.int v1), some (.int (v2 + (j_k 0))), some (.int (v3 + (j_k 1)))] [] σ)
      else again 76 [some (.ref v0), some (.int v1), some (.int (v2 + (j_k 1))), some (.int (v3 + (j_k 1)))] [] σ)))
     else again 76 [some (.ref v0), some (.int v1), some (.int (v2 + (j_k 0))), some (.int (v3 + (j_k 1)))] [] σ)
    else again 113 [some (.ref v0), some (.int v1), some (.int v2), some (.int (j_k 0))] [] σ := rfl

set_option maxRecDepth 1000000 in
set_option maxHeartbeats 8000000 in
theorem t_229_113 (call : Nat → List Value → Sto → Option Rr) (again : Nat → j_L → List Value → Sto → Option Rr) (σ : Sto) (v0 : Nat) (v1 : Int32) (v2 : Int32) (v3 : Int32) :
    j_seg k_229 h_229 call again 2000 113 [some (.ref v0), some (.int v1), some (.int v2), some (.int v3)] [] σ =
    if v3 < (j_k 4) then (if v1 = (j_k 7) then (j_gP σ 7 v0 8 (fun a1 =>
      j_ia σ a1 v3 (
      if (s_I σ a1 v3.toNatClampNeg) < 0 then (again 113 [some (.ref v0), some (.int v1), some (.int (v2 + (j_k 0))), some (.int (v3 + (j_k 1)))] [] σ)
      else again 113 [some (.ref v0), some (.int v1), some (.int (v2 + (j_k 1))), some (.int (v3 + (j_k 1)))] [] σ)))
     else again 113 [some (.ref v0), some (.int v1), some (.int (v2 + (j_k 0))), some (.int (v3 + (j_k 1)))] [] σ)
    else if v1 = (j_k 0) then (j_oc σ 7 v0 (some (some (.int (s_I σ v0 11)), σ)))
    else if v1 = (j_k 1) then (j_oc σ 7 v0 (some (some (.int (s_I σ v0 13)), σ)))
    else if v1 = (j_k 2) then (j_oc σ 7 v0 (j_c1 call 166 [.ref v0, .int (j_k 0)] σ (fun x3 τ2 =>
     some (some (.int x3), τ2))))
    else if v1 = (j_k 3) then (j_oc σ 7 v0 (j_c1 call 162 [.ref v0, .int (j_k 0), .int (j_k 0)] σ (fun x5 τ4 =>
     some (some (.int x5), τ4))))
    else some (some (.int v2), σ) := rfl

-- LastStirredModel.count(I)I
set_option maxRecDepth 1000000 in
set_option maxHeartbeats 8000000 in
theorem t_230_0 (call : Nat → List Value → Sto → Option Rr) (again : Nat → j_L → List Value → Sto → Option Rr) (σ : Sto) (v0 : Nat) (v1 : Int32) :
    j_seg k_230 h_230 call again 2000 0 [some (.ref v0), some (.int v1)] [] σ =
    j_c1 call 127 [.int v1, .int (j_k 0), .int (j_k 7)] σ (fun x2 τ1 =>
    if x2 = 0 then (some (some (.int (j_k (-1))), τ1))
    else j_oc τ1 7 v0 (j_c1 call 229 [.ref v0, .int v1] τ1 (fun x4 τ3 =>
    some (some (.int x4), τ3)))) := rfl

-- LastStirredModel.mix(J)V
set_option maxRecDepth 1000000 in
set_option maxHeartbeats 8000000 in
theorem t_231_0 (call : Nat → List Value → Sto → Option Rr) (again : Nat → j_L → List Value → Sto → Option Rr) (σ : Sto) (v0 : Nat) (v1 : Int64) :
    j_seg k_231 h_231 call again 2000 0 [some (.ref v0), some (.long v1), none] [] σ =
    j_oc σ 7 v0 (if v0 < j_b then j_oc σ 7 v0 (let τ1 : Sto := s_uJ σ v0 38 (((j_cJ 7) * (s_J σ v0 38)) + v1);
    some (none, τ1)) else none) := rfl

-- LastStirredModel.mixFlock()V
set_option maxRecDepth 1000000 in
set_option maxHeartbeats 8000000 in
theorem t_232_0 (call : Nat → List Value → Sto → Option Rr) (again : Nat → j_L → List Value → Sto → Option Rr) (σ : Sto) (v0 : Nat) :
    j_seg k_232 h_232 call again 2000 0 [some (.ref v0), none, none] [] σ =
    again 2 [some (.ref v0), some (.int (j_k 0)), none] [] σ := rfl

set_option maxRecDepth 1000000 in
set_option maxHeartbeats 8000000 in
theorem t_232_2 (call : Nat → List Value → Sto → Option Rr) (again : Nat → j_L → List Value → Sto → Option Rr) (σ : Sto) (v0 : Nat) (v1 : Int32) :
    j_seg k_232 h_232 call again 2000 2 [some (.ref v0), some (.int v1), none] [] σ =
    j_oc σ 7 v0 (if v1 < (s_I σ v0 11) then (j_gP σ 7 v0 12 (fun a1 =>
     j_ia σ a1 v1 (
     j_oc σ 7 v0 (j_c0 call 231 [.ref v0, .long ((s_I σ a1 v1.toNatClampNeg).toInt64)] σ (fun τ2 =>
     again 2 [some (.ref v0), some (.int (v1 + (j_k 1))), none] [] τ2)))))
    else again 29 [some (.ref v0), some (.int (j_k 0)), none] [] σ) := rfl

set_option maxRecDepth 1000000 in
set_option maxHeartbeats 8000000 in
theorem t_232_29 (call : Nat → List Value → Sto → Option Rr) (again : Nat → j_L → List Value → Sto → Option Rr) (σ : Sto) (v0 : Nat) (v1 : Int32) :
    j_seg k_232 h_232 call again 2000 29 [some (.ref v0), some (.int v1), none] [] σ =
    j_oc σ 7 v0 (if v1 < (s_I σ v0 13) then (again 39 [some (.ref v0), some (.int v1), some (.int (j_k 0))] [] σ)
    else again 69 [some (.ref v0), some (.int (j_k 1)), none] [] σ) := rfl

set_option maxRecDepth 1000000 in
set_option maxHeartbeats 8000000 in
theorem t_232_39 (call : Nat → List Value → Sto → Option Rr) (again : Nat → j_L → List Value → Sto → Option Rr) (σ : Sto) (v0 : Nat) (v1 : Int32) (v2 : Int32) :
    j_seg k_232 h_232 call again 2000 39 [some (.ref v0), some (.int v1), some (.int v2)] [] σ =
    if v2 < (j_k 3) then (j_oc σ 7 v0 (j_c1 call 171 [.ref v0, .int v1, .int v2] σ (fun x2 τ1 =>
     j_oc τ1 7 v0 (j_c0 call 231 [.ref v0, .long x2.toInt64] τ1 (fun τ3 =>
     again 39 [some (.ref v0), some (.int v1), some (.int (v2 + (j_k 1)))] [] τ3)))))
    else again 29 [some (.ref v0), some (.int (v1 + (j_k 1))), none] [] σ := rfl

set_option maxRecDepth 1000000 in
set_option maxHeartbeats 8000000 in
theorem t_232_69 (call : Nat → List Value → Sto → Option Rr) (again : Nat → j_L → List Value → Sto → Option Rr) (σ : Sto) (v0 : Nat) (v1 : Int32) :
    j_seg k_232 h_232 call again 2000 69 [some (.ref v0), some (.int v1), none] [] σ =
    if (j_k 4) < v1 then (again 93 [some (.ref v0), some (.int (j_k 0)), none] [] σ)
    else j_oc σ 7 v0 (j_c1 call 162 [.ref v0, .int (j_k 0), .int v1] σ (fun x2 τ1 =>
    j_oc τ1 7 v0 (j_c0 call 231 [.ref v0, .long x2.toInt64] τ1 (fun τ3 =>
    again 69 [some (.ref v0), some (.int (v1 + (j_k 1))), none] [] τ3)))) := rfl

set_option maxRecDepth 1000000 in
set_option maxHeartbeats 8000000 in
theorem t_232_93 (call : Nat → List Value → Sto → Option Rr) (again : Nat → j_L → List Value → Sto → Option Rr) (σ : Sto) (v0 : Nat) (v1 : Int32) :
    j_seg k_232 h_232 call again 2000 93 [some (.ref v0), some (.int v1), none] [] σ =
    if v1 < (j_k 3) then (j_gP σ 7 v0 25 (fun a1 =>
     j_ba σ a1 v1 (
     if (s_I σ a1 v1.toNatClampNeg) = 0 then (j_oc σ 7 v0 (j_c0 call 231 [.ref v0, .long (j_cJ 8)] σ (fun τ2 =>
      again 93 [some (.ref v0), some (.int (v1 + (j_k 1))), none] [] τ2)))
     else j_oc σ 7 v0 (j_c1 call 162 [.ref v0, .int ((j_k 1) + v1), .int (j_k 0)] σ (fun x4 τ3 =>
     j_oc τ3 7 v0 (j_c0 call 231 [.ref v0, .long x4.toInt64] τ3 (fun τ5 =>
     again 93 [some (.ref v0), some (.int (v1 + (j_k 1))), none] [] τ5)))))))
    else some (none, σ) := rfl

-- LastStirredModel.digest()J
set_option maxRecDepth 1000000 in
set_option maxHeartbeats 8000000 in
theorem t_233_0 (call : Nat → List Value → Sto → Option Rr) (again : Nat → j_L → List Value → Sto → Option Rr) (σ : Sto) (v0 : Nat) :
    j_seg k_233 h_233 call again 2000 0 [some (.ref v0), none, none] [] σ =
    if v0 < j_b then j_oc σ 7 v0 (let τ1 : Sto := s_uJ σ v0 38 (j_cJ 6);
    again 9 [some (.ref v0), some (.int (j_k 0)), none] [] τ1) else none := rfl

set_option maxRecDepth 1000000 in
set_option maxHeartbeats 8000000 in
theorem t_233_9 (call : Nat → List Value → Sto → Option Rr) (again : Nat → j_L → List Value → Sto → Option Rr) (σ : Sto) (v0 : Nat) (v1 : Int32) :
    j_seg k_233 h_233 call again 2000 9 [some (.ref v0), some (.int v1), none] [] σ =
    if v1 < (j_k 8) then (j_oc σ 7 v0 (j_c1 call 229 [.ref v0, .int v1] σ (fun x2 τ1 =>
     j_oc τ1 7 v0 (j_c0 call 231 [.ref v0, .long x2.toInt64] τ1 (fun τ3 =>
     again 9 [some (.ref v0), some (.int (v1 + (j_k 1))), none] [] τ3)))))
    else j_oc σ 7 v0 (j_c0 call 232 [.ref v0] σ (fun τ4 =>
    again 37 [some (.ref v0), some (.int (j_k 0)), none] [] τ4)) := rfl

set_option maxRecDepth 1000000 in
set_option maxHeartbeats 8000000 in
theorem t_233_37 (call : Nat → List Value → Sto → Option Rr) (again : Nat → j_L → List Value → Sto → Option Rr) (σ : Sto) (v0 : Nat) (v1 : Int32) :
    j_seg k_233 h_233 call again 2000 37 [some (.ref v0), some (.int v1), none] [] σ =
    if v1 < (j_k 6) then (j_gP σ 7 v0 5 (fun a1 =>
     j_ia σ a1 v1 (
     j_oc σ 7 v0 (j_c0 call 231 [.ref v0, .long ((s_I σ a1 v1.toNatClampNeg).toInt64)] σ (fun τ2 =>
     again 56 [some (.ref v0), some (.int v1), some (.int (j_k 0))] [] τ2)))))
    else again 91 [some (.ref v0), some (.int (j_k 0)), none] [] σ := rfl

set_option maxRecDepth 1000000 in
set_option maxHeartbeats 8000000 in
theorem t_233_56 (call : Nat → List Value → Sto → Option Rr) (again : Nat → j_L → List Value → Sto → Option Rr) (σ : Sto) (v0 : Nat) (v1 : Int32) (v2 : Int32) :
    j_seg k_233 h_233 call again 2000 56 [some (.ref v0), some (.int v1), some (.int v2)] [] σ =
    j_gP σ 7 v0 5 (fun a1 =>
    j_ia σ a1 v1 (
    if v2 < (s_I σ a1 v1.toNatClampNeg) then (j_oc σ 7 v0 (j_c1 call 140 [.ref v0, .int v1, .int v2] σ (fun x3 τ2 =>
     j_oc τ2 7 v0 (j_c0 call 231 [.ref v0, .long x3.toInt64] τ2 (fun τ4 =>
     again 56 [some (.ref v0), some (.int v1), some (.int (v2 + (j_k 1)))] [] τ4)))))
    else again 37 [some (.ref v0), some (.int (v1 + (j_k 1))), none] [] σ)) := rfl

set_option maxRecDepth 1000000 in
set_option maxHeartbeats 8000000 in
theorem t_233_91 (call : Nat → List Value → Sto → Option Rr) (again : Nat → j_L → List Value → Sto → Option Rr) (σ : Sto) (v0 : Nat) (v1 : Int32) :
    j_seg k_233 h_233 call again 2000 91 [some (.ref v0), some (.int v1), none] [] σ =
    if v1 < (j_k 4) then (j_gP σ 7 v0 8 (fun a1 =>
     j_ia σ a1 v1 (
     j_oc σ 7 v0 (j_c0 call 231 [.ref v0, .long ((s_I σ a1 v1.toNatClampNeg).toInt64)] σ (fun τ2 =>
     again 109 [some (.ref v0), some (.int v1), some (.int (j_k 0))] [] τ2)))))
    else j_oc σ 7 v0 (some (some (.long (s_J σ v0 38)), σ)) := rfl

set_option maxRecDepth 1000000 in
set_option maxHeartbeats 8000000 in
theorem t_233_109 (call : Nat → List Value → Sto → Option Rr) (again : Nat → j_L → List Value → Sto → Option Rr) (σ : Sto) (v0 : Nat) (v1 : Int32) (v2 : Int32) :
    j_seg k_233 h_233 call again 2000 109 [some (.ref v0), some (.int v1), some (.int v2)] [] σ =
    j_gP σ 7 v0 8 (fun a1 =>
    j_ia σ a1 v1 (
    if v2 < (s_I σ a1 v1.toNatClampNeg) then (j_oc σ 7 v0 (j_c1 call 150 [.ref v0, .int v1, .int v2] σ (fun x3 τ2 =>
     j_oc τ2 7 v0 (j_c0 call 231 [.ref v0, .long x3.toInt64] τ2 (fun τ4 =>
     again 109 [some (.ref v0), some (.int v1), some (.int (v2 + (j_k 1)))] [] τ4)))))
    else again 91 [some (.ref v0), some (.int (v1 + (j_k 1))), none] [] σ)) := rfl

