section
theorem Cn_pi_j0 {A : Nat → Nat} {h : MH} (hA : inj40 A) {k : Nat} {v : Int32} : Cn A (p_i h (A 0) k v) = Cn A h := Cn_pi hA (j := 0) (by decide)
theorem Cn_pi_j15 {A : Nat → Nat} {h : MH} (hA : inj40 A) {k : Nat} {v : Int32} : Cn A (p_i h (A 15) k v) = Cn A h := Cn_pi hA (j := 15) (by decide)
theorem Cn_pi_j16 {A : Nat → Nat} {h : MH} (hA : inj40 A) {k : Nat} {v : Int32} : Cn A (p_i h (A 16) k v) = Cn A h := Cn_pi hA (j := 16) (by decide)
theorem Cn_pi_j18 {A : Nat → Nat} {h : MH} (hA : inj40 A) {k : Nat} {v : Int32} : Cn A (p_i h (A 18) k v) = Cn A h := Cn_pi hA (j := 18) (by decide)
theorem Cn_pi_j22 {A : Nat → Nat} {h : MH} (hA : inj40 A) {k : Nat} {v : Int32} : Cn A (p_i h (A 22) k v) = Cn A h := Cn_pi hA (j := 22) (by decide)
theorem Cn_pi_j24 {A : Nat → Nat} {h : MH} (hA : inj40 A) {k : Nat} {v : Int32} : Cn A (p_i h (A 24) k v) = Cn A h := Cn_pi hA (j := 24) (by decide)
theorem Cn_pi_j30 {A : Nat → Nat} {h : MH} (hA : inj40 A) {k : Nat} {v : Int32} : Cn A (p_i h (A 30) k v) = Cn A h := Cn_pi hA (j := 30) (by decide)
theorem Cn_pi_j37 {A : Nat → Nat} {h : MH} (hA : inj40 A) {k : Nat} {v : Int32} : Cn A (p_i h (A 37) k v) = Cn A h := Cn_pi hA (j := 37) (by decide)
theorem Cn_pi_j38 {A : Nat → Nat} {h : MH} (hA : inj40 A) {k : Nat} {v : Int32} : Cn A (p_i h (A 38) k v) = Cn A h := Cn_pi hA (j := 38) (by decide)
theorem Tx_pi_j0 {A : Nat → Nat} {h : MH} (hA : inj40 A) {k : Nat} {v : Int32} : Tx A (p_i h (A 0) k v) = Tx A h := Tx_pi hA (j := 0) (by decide)
theorem Tx_pi_j14 {A : Nat → Nat} {h : MH} (hA : inj40 A) {k : Nat} {v : Int32} : Tx A (p_i h (A 14) k v) = Tx A h := Tx_pi hA (j := 14) (by decide)
theorem Tx_pi_j15 {A : Nat → Nat} {h : MH} (hA : inj40 A) {k : Nat} {v : Int32} : Tx A (p_i h (A 15) k v) = Tx A h := Tx_pi hA (j := 15) (by decide)
theorem Tx_pi_j16 {A : Nat → Nat} {h : MH} (hA : inj40 A) {k : Nat} {v : Int32} : Tx A (p_i h (A 16) k v) = Tx A h := Tx_pi hA (j := 16) (by decide)
theorem Tx_pi_j18 {A : Nat → Nat} {h : MH} (hA : inj40 A) {k : Nat} {v : Int32} : Tx A (p_i h (A 18) k v) = Tx A h := Tx_pi hA (j := 18) (by decide)
theorem Tx_pi_j22 {A : Nat → Nat} {h : MH} (hA : inj40 A) {k : Nat} {v : Int32} : Tx A (p_i h (A 22) k v) = Tx A h := Tx_pi hA (j := 22) (by decide)
theorem Tx_pi_j24 {A : Nat → Nat} {h : MH} (hA : inj40 A) {k : Nat} {v : Int32} : Tx A (p_i h (A 24) k v) = Tx A h := Tx_pi hA (j := 24) (by decide)
theorem Tx_pi_j28 {A : Nat → Nat} {h : MH} (hA : inj40 A) {k : Nat} {v : Int32} : Tx A (p_i h (A 28) k v) = Tx A h := Tx_pi hA (j := 28) (by decide)
theorem Tx_pi_j30 {A : Nat → Nat} {h : MH} (hA : inj40 A) {k : Nat} {v : Int32} : Tx A (p_i h (A 30) k v) = Tx A h := Tx_pi hA (j := 30) (by decide)
theorem Tx_pi_j33 {A : Nat → Nat} {h : MH} (hA : inj40 A) {k : Nat} {v : Int32} : Tx A (p_i h (A 33) k v) = Tx A h := Tx_pi hA (j := 33) (by decide)
theorem Tx_pi_j36 {A : Nat → Nat} {h : MH} (hA : inj40 A) {k : Nat} {v : Int32} : Tx A (p_i h (A 36) k v) = Tx A h := Tx_pi hA (j := 36) (by decide)
theorem Tx_pi_j37 {A : Nat → Nat} {h : MH} (hA : inj40 A) {k : Nat} {v : Int32} : Tx A (p_i h (A 37) k v) = Tx A h := Tx_pi hA (j := 37) (by decide)
theorem Tx_pi_j38 {A : Nat → Nat} {h : MH} (hA : inj40 A) {k : Nat} {v : Int32} : Tx A (p_i h (A 38) k v) = Tx A h := Tx_pi hA (j := 38) (by decide)
theorem Vc_pi_j22 {A : Nat → Nat} {h : MH} (hA : inj40 A) {k : Nat} {v : Int32} : Vc A (p_i h (A 22) k v) = Vc A h := Vc_pi hA (j := 22) (by decide)
theorem Vl0_pi_j0 {A : Nat → Nat} {h : MH} (hA : inj40 A) {k : Nat} {v : Int32} : Vl0 A (p_i h (A 0) k v) = Vl0 A h := Vl0_pi hA (j := 0) (by decide)
theorem Vl0_pi_j14 {A : Nat → Nat} {h : MH} (hA : inj40 A) {k : Nat} {v : Int32} : Vl0 A (p_i h (A 14) k v) = Vl0 A h := Vl0_pi hA (j := 14) (by decide)
theorem Vl0_pi_j16 {A : Nat → Nat} {h : MH} (hA : inj40 A) {k : Nat} {v : Int32} : Vl0 A (p_i h (A 16) k v) = Vl0 A h := Vl0_pi hA (j := 16) (by decide)
theorem Vl0_pi_j18 {A : Nat → Nat} {h : MH} (hA : inj40 A) {k : Nat} {v : Int32} : Vl0 A (p_i h (A 18) k v) = Vl0 A h := Vl0_pi hA (j := 18) (by decide)
theorem Vl0_pi_j22 {A : Nat → Nat} {h : MH} (hA : inj40 A) {k : Nat} {v : Int32} : Vl0 A (p_i h (A 22) k v) = Vl0 A h := Vl0_pi hA (j := 22) (by decide)
theorem Vl0_pi_j24 {A : Nat → Nat} {h : MH} (hA : inj40 A) {k : Nat} {v : Int32} : Vl0 A (p_i h (A 24) k v) = Vl0 A h := Vl0_pi hA (j := 24) (by decide)
theorem Vl0_pi_j27 {A : Nat → Nat} {h : MH} (hA : inj40 A) {k : Nat} {v : Int32} : Vl0 A (p_i h (A 27) k v) = Vl0 A h := Vl0_pi hA (j := 27) (by decide)
theorem Vl0_pi_j28 {A : Nat → Nat} {h : MH} (hA : inj40 A) {k : Nat} {v : Int32} : Vl0 A (p_i h (A 28) k v) = Vl0 A h := Vl0_pi hA (j := 28) (by decide)
theorem Vl0_pi_j30 {A : Nat → Nat} {h : MH} (hA : inj40 A) {k : Nat} {v : Int32} : Vl0 A (p_i h (A 30) k v) = Vl0 A h := Vl0_pi hA (j := 30) (by decide)
theorem Vl0_pi_j33 {A : Nat → Nat} {h : MH} (hA : inj40 A) {k : Nat} {v : Int32} : Vl0 A (p_i h (A 33) k v) = Vl0 A h := Vl0_pi hA (j := 33) (by decide)
theorem Vl0_pi_j36 {A : Nat → Nat} {h : MH} (hA : inj40 A) {k : Nat} {v : Int32} : Vl0 A (p_i h (A 36) k v) = Vl0 A h := Vl0_pi hA (j := 36) (by decide)
theorem Vl0_pi_j38 {A : Nat → Nat} {h : MH} (hA : inj40 A) {k : Nat} {v : Int32} : Vl0 A (p_i h (A 38) k v) = Vl0 A h := Vl0_pi hA (j := 38) (by decide)
theorem Vl1_pi_j0 {A : Nat → Nat} {h : MH} (hA : inj40 A) {k : Nat} {v : Int32} : Vl1 A (p_i h (A 0) k v) = Vl1 A h := Vl1_pi hA (j := 0) (by decide)
theorem Vl1_pi_j14 {A : Nat → Nat} {h : MH} (hA : inj40 A) {k : Nat} {v : Int32} : Vl1 A (p_i h (A 14) k v) = Vl1 A h := Vl1_pi hA (j := 14) (by decide)
theorem Vl1_pi_j15 {A : Nat → Nat} {h : MH} (hA : inj40 A) {k : Nat} {v : Int32} : Vl1 A (p_i h (A 15) k v) = Vl1 A h := Vl1_pi hA (j := 15) (by decide)
theorem Vl1_pi_j18 {A : Nat → Nat} {h : MH} (hA : inj40 A) {k : Nat} {v : Int32} : Vl1 A (p_i h (A 18) k v) = Vl1 A h := Vl1_pi hA (j := 18) (by decide)
theorem Vl1_pi_j22 {A : Nat → Nat} {h : MH} (hA : inj40 A) {k : Nat} {v : Int32} : Vl1 A (p_i h (A 22) k v) = Vl1 A h := Vl1_pi hA (j := 22) (by decide)
theorem Vl1_pi_j24 {A : Nat → Nat} {h : MH} (hA : inj40 A) {k : Nat} {v : Int32} : Vl1 A (p_i h (A 24) k v) = Vl1 A h := Vl1_pi hA (j := 24) (by decide)
theorem Vl1_pi_j27 {A : Nat → Nat} {h : MH} (hA : inj40 A) {k : Nat} {v : Int32} : Vl1 A (p_i h (A 27) k v) = Vl1 A h := Vl1_pi hA (j := 27) (by decide)
theorem Vl1_pi_j28 {A : Nat → Nat} {h : MH} (hA : inj40 A) {k : Nat} {v : Int32} : Vl1 A (p_i h (A 28) k v) = Vl1 A h := Vl1_pi hA (j := 28) (by decide)
theorem Vl1_pi_j30 {A : Nat → Nat} {h : MH} (hA : inj40 A) {k : Nat} {v : Int32} : Vl1 A (p_i h (A 30) k v) = Vl1 A h := Vl1_pi hA (j := 30) (by decide)
theorem Vl1_pi_j33 {A : Nat → Nat} {h : MH} (hA : inj40 A) {k : Nat} {v : Int32} : Vl1 A (p_i h (A 33) k v) = Vl1 A h := Vl1_pi hA (j := 33) (by decide)
theorem Vl1_pi_j36 {A : Nat → Nat} {h : MH} (hA : inj40 A) {k : Nat} {v : Int32} : Vl1 A (p_i h (A 36) k v) = Vl1 A h := Vl1_pi hA (j := 36) (by decide)
theorem Vl1_pi_j37 {A : Nat → Nat} {h : MH} (hA : inj40 A) {k : Nat} {v : Int32} : Vl1 A (p_i h (A 37) k v) = Vl1 A h := Vl1_pi hA (j := 37) (by decide)
theorem Vlr_pi_j0 {A : Nat → Nat} {h : MH} (hA : inj40 A) {k : Nat} {v : Int32} : Vlr A (p_i h (A 0) k v) = Vlr A h := Vlr_pi hA (j := 0) (by decide)
theorem Vlr_pi_j14 {A : Nat → Nat} {h : MH} (hA : inj40 A) {k : Nat} {v : Int32} : Vlr A (p_i h (A 14) k v) = Vlr A h := Vlr_pi hA (j := 14) (by decide)
theorem Vlr_pi_j15 {A : Nat → Nat} {h : MH} (hA : inj40 A) {k : Nat} {v : Int32} : Vlr A (p_i h (A 15) k v) = Vlr A h := Vlr_pi hA (j := 15) (by decide)
theorem Vlr_pi_j16 {A : Nat → Nat} {h : MH} (hA : inj40 A) {k : Nat} {v : Int32} : Vlr A (p_i h (A 16) k v) = Vlr A h := Vlr_pi hA (j := 16) (by decide)
theorem Vlr_pi_j18 {A : Nat → Nat} {h : MH} (hA : inj40 A) {k : Nat} {v : Int32} : Vlr A (p_i h (A 18) k v) = Vlr A h := Vlr_pi hA (j := 18) (by decide)
theorem Vlr_pi_j22 {A : Nat → Nat} {h : MH} (hA : inj40 A) {k : Nat} {v : Int32} : Vlr A (p_i h (A 22) k v) = Vlr A h := Vlr_pi hA (j := 22) (by decide)
theorem Vlr_pi_j24 {A : Nat → Nat} {h : MH} (hA : inj40 A) {k : Nat} {v : Int32} : Vlr A (p_i h (A 24) k v) = Vlr A h := Vlr_pi hA (j := 24) (by decide)
theorem Vlr_pi_j27 {A : Nat → Nat} {h : MH} (hA : inj40 A) {k : Nat} {v : Int32} : Vlr A (p_i h (A 27) k v) = Vlr A h := Vlr_pi hA (j := 27) (by decide)
theorem Vlr_pi_j28 {A : Nat → Nat} {h : MH} (hA : inj40 A) {k : Nat} {v : Int32} : Vlr A (p_i h (A 28) k v) = Vlr A h := Vlr_pi hA (j := 28) (by decide)
theorem Vlr_pi_j30 {A : Nat → Nat} {h : MH} (hA : inj40 A) {k : Nat} {v : Int32} : Vlr A (p_i h (A 30) k v) = Vlr A h := Vlr_pi hA (j := 30) (by decide)
theorem Vlr_pi_j37 {A : Nat → Nat} {h : MH} (hA : inj40 A) {k : Nat} {v : Int32} : Vlr A (p_i h (A 37) k v) = Vlr A h := Vlr_pi hA (j := 37) (by decide)
theorem Vlr_pi_j38 {A : Nat → Nat} {h : MH} (hA : inj40 A) {k : Nat} {v : Int32} : Vlr A (p_i h (A 38) k v) = Vlr A h := Vlr_pi hA (j := 38) (by decide)
theorem Vlr_pl_j4 {A : Nat → Nat} {h : MH} (hA : inj40 A) {k : Nat} {v : Int64} : Vlr A (p_l h (A 4) k v) = Vlr A h := Vlr_pl hA (j := 4) (by decide)
theorem Vlr_pl_j39 {A : Nat → Nat} {h : MH} (hA : inj40 A) {k : Nat} {v : Int64} : Vlr A (p_l h (A 39) k v) = Vlr A h := Vlr_pl hA (j := 39) (by decide)
theorem Vp_pi_j15 {A : Nat → Nat} {h : MH} (hA : inj40 A) {k : Nat} {v : Int32} : Vp A (p_i h (A 15) k v) = Vp A h := Vp_pi hA (j := 15) (by decide)
theorem Vp_pi_j16 {A : Nat → Nat} {h : MH} (hA : inj40 A) {k : Nat} {v : Int32} : Vp A (p_i h (A 16) k v) = Vp A h := Vp_pi hA (j := 16) (by decide)
theorem Vp_pi_j18 {A : Nat → Nat} {h : MH} (hA : inj40 A) {k : Nat} {v : Int32} : Vp A (p_i h (A 18) k v) = Vp A h := Vp_pi hA (j := 18) (by decide)
theorem Vp_pi_j24 {A : Nat → Nat} {h : MH} (hA : inj40 A) {k : Nat} {v : Int32} : Vp A (p_i h (A 24) k v) = Vp A h := Vp_pi hA (j := 24) (by decide)
theorem Vp_pi_j27 {A : Nat → Nat} {h : MH} (hA : inj40 A) {k : Nat} {v : Int32} : Vp A (p_i h (A 27) k v) = Vp A h := Vp_pi hA (j := 27) (by decide)
theorem Vp_pi_j30 {A : Nat → Nat} {h : MH} (hA : inj40 A) {k : Nat} {v : Int32} : Vp A (p_i h (A 30) k v) = Vp A h := Vp_pi hA (j := 30) (by decide)
theorem Vp_pi_j33 {A : Nat → Nat} {h : MH} (hA : inj40 A) {k : Nat} {v : Int32} : Vp A (p_i h (A 33) k v) = Vp A h := Vp_pi hA (j := 33) (by decide)
theorem Vp_pi_j36 {A : Nat → Nat} {h : MH} (hA : inj40 A) {k : Nat} {v : Int32} : Vp A (p_i h (A 36) k v) = Vp A h := Vp_pi hA (j := 36) (by decide)
theorem Vp_pi_j37 {A : Nat → Nat} {h : MH} (hA : inj40 A) {k : Nat} {v : Int32} : Vp A (p_i h (A 37) k v) = Vp A h := Vp_pi hA (j := 37) (by decide)
theorem Vp_pi_j38 {A : Nat → Nat} {h : MH} (hA : inj40 A) {k : Nat} {v : Int32} : Vp A (p_i h (A 38) k v) = Vp A h := Vp_pi hA (j := 38) (by decide)
theorem Vq0_pi_j0 {A : Nat → Nat} {h : MH} (hA : inj40 A) {k : Nat} {v : Int32} : Vq0 A (p_i h (A 0) k v) = Vq0 A h := Vq0_pi hA (j := 0) (by decide)
theorem Vq0_pi_j14 {A : Nat → Nat} {h : MH} (hA : inj40 A) {k : Nat} {v : Int32} : Vq0 A (p_i h (A 14) k v) = Vq0 A h := Vq0_pi hA (j := 14) (by decide)
theorem Vq0_pi_j15 {A : Nat → Nat} {h : MH} (hA : inj40 A) {k : Nat} {v : Int32} : Vq0 A (p_i h (A 15) k v) = Vq0 A h := Vq0_pi hA (j := 15) (by decide)
theorem Vq0_pi_j16 {A : Nat → Nat} {h : MH} (hA : inj40 A) {k : Nat} {v : Int32} : Vq0 A (p_i h (A 16) k v) = Vq0 A h := Vq0_pi hA (j := 16) (by decide)
theorem Vq0_pi_j18 {A : Nat → Nat} {h : MH} (hA : inj40 A) {k : Nat} {v : Int32} : Vq0 A (p_i h (A 18) k v) = Vq0 A h := Vq0_pi hA (j := 18) (by decide)
theorem Vq0_pi_j22 {A : Nat → Nat} {h : MH} (hA : inj40 A) {k : Nat} {v : Int32} : Vq0 A (p_i h (A 22) k v) = Vq0 A h := Vq0_pi hA (j := 22) (by decide)
theorem Vq0_pi_j24 {A : Nat → Nat} {h : MH} (hA : inj40 A) {k : Nat} {v : Int32} : Vq0 A (p_i h (A 24) k v) = Vq0 A h := Vq0_pi hA (j := 24) (by decide)
theorem Vq0_pi_j28 {A : Nat → Nat} {h : MH} (hA : inj40 A) {k : Nat} {v : Int32} : Vq0 A (p_i h (A 28) k v) = Vq0 A h := Vq0_pi hA (j := 28) (by decide)
theorem Vq0_pi_j30 {A : Nat → Nat} {h : MH} (hA : inj40 A) {k : Nat} {v : Int32} : Vq0 A (p_i h (A 30) k v) = Vq0 A h := Vq0_pi hA (j := 30) (by decide)
theorem Vq0_pi_j33 {A : Nat → Nat} {h : MH} (hA : inj40 A) {k : Nat} {v : Int32} : Vq0 A (p_i h (A 33) k v) = Vq0 A h := Vq0_pi hA (j := 33) (by decide)
theorem Vq0_pi_j36 {A : Nat → Nat} {h : MH} (hA : inj40 A) {k : Nat} {v : Int32} : Vq0 A (p_i h (A 36) k v) = Vq0 A h := Vq0_pi hA (j := 36) (by decide)
theorem Vq0_pi_j37 {A : Nat → Nat} {h : MH} (hA : inj40 A) {k : Nat} {v : Int32} : Vq0 A (p_i h (A 37) k v) = Vq0 A h := Vq0_pi hA (j := 37) (by decide)
theorem Vq0_pi_j38 {A : Nat → Nat} {h : MH} (hA : inj40 A) {k : Nat} {v : Int32} : Vq0 A (p_i h (A 38) k v) = Vq0 A h := Vq0_pi hA (j := 38) (by decide)
theorem Vq1_pi_j0 {A : Nat → Nat} {h : MH} (hA : inj40 A) {k : Nat} {v : Int32} : Vq1 A (p_i h (A 0) k v) = Vq1 A h := Vq1_pi hA (j := 0) (by decide)
theorem Vq1_pi_j14 {A : Nat → Nat} {h : MH} (hA : inj40 A) {k : Nat} {v : Int32} : Vq1 A (p_i h (A 14) k v) = Vq1 A h := Vq1_pi hA (j := 14) (by decide)
theorem Vq1_pi_j15 {A : Nat → Nat} {h : MH} (hA : inj40 A) {k : Nat} {v : Int32} : Vq1 A (p_i h (A 15) k v) = Vq1 A h := Vq1_pi hA (j := 15) (by decide)
theorem Vq1_pi_j16 {A : Nat → Nat} {h : MH} (hA : inj40 A) {k : Nat} {v : Int32} : Vq1 A (p_i h (A 16) k v) = Vq1 A h := Vq1_pi hA (j := 16) (by decide)
theorem Vq1_pi_j18 {A : Nat → Nat} {h : MH} (hA : inj40 A) {k : Nat} {v : Int32} : Vq1 A (p_i h (A 18) k v) = Vq1 A h := Vq1_pi hA (j := 18) (by decide)
theorem Vq1_pi_j22 {A : Nat → Nat} {h : MH} (hA : inj40 A) {k : Nat} {v : Int32} : Vq1 A (p_i h (A 22) k v) = Vq1 A h := Vq1_pi hA (j := 22) (by decide)
theorem Vq1_pi_j24 {A : Nat → Nat} {h : MH} (hA : inj40 A) {k : Nat} {v : Int32} : Vq1 A (p_i h (A 24) k v) = Vq1 A h := Vq1_pi hA (j := 24) (by decide)
theorem Vq1_pi_j28 {A : Nat → Nat} {h : MH} (hA : inj40 A) {k : Nat} {v : Int32} : Vq1 A (p_i h (A 28) k v) = Vq1 A h := Vq1_pi hA (j := 28) (by decide)
theorem Vq1_pi_j30 {A : Nat → Nat} {h : MH} (hA : inj40 A) {k : Nat} {v : Int32} : Vq1 A (p_i h (A 30) k v) = Vq1 A h := Vq1_pi hA (j := 30) (by decide)
theorem Vq1_pi_j33 {A : Nat → Nat} {h : MH} (hA : inj40 A) {k : Nat} {v : Int32} : Vq1 A (p_i h (A 33) k v) = Vq1 A h := Vq1_pi hA (j := 33) (by decide)
theorem Vq1_pi_j36 {A : Nat → Nat} {h : MH} (hA : inj40 A) {k : Nat} {v : Int32} : Vq1 A (p_i h (A 36) k v) = Vq1 A h := Vq1_pi hA (j := 36) (by decide)
theorem Vq1_pi_j37 {A : Nat → Nat} {h : MH} (hA : inj40 A) {k : Nat} {v : Int32} : Vq1 A (p_i h (A 37) k v) = Vq1 A h := Vq1_pi hA (j := 37) (by decide)
theorem Vq1_pi_j38 {A : Nat → Nat} {h : MH} (hA : inj40 A) {k : Nat} {v : Int32} : Vq1 A (p_i h (A 38) k v) = Vq1 A h := Vq1_pi hA (j := 38) (by decide)
theorem Vq2_pi_j0 {A : Nat → Nat} {h : MH} (hA : inj40 A) {k : Nat} {v : Int32} : Vq2 A (p_i h (A 0) k v) = Vq2 A h := Vq2_pi hA (j := 0) (by decide)
theorem Vq2_pi_j14 {A : Nat → Nat} {h : MH} (hA : inj40 A) {k : Nat} {v : Int32} : Vq2 A (p_i h (A 14) k v) = Vq2 A h := Vq2_pi hA (j := 14) (by decide)
theorem Vq2_pi_j15 {A : Nat → Nat} {h : MH} (hA : inj40 A) {k : Nat} {v : Int32} : Vq2 A (p_i h (A 15) k v) = Vq2 A h := Vq2_pi hA (j := 15) (by decide)
theorem Vq2_pi_j16 {A : Nat → Nat} {h : MH} (hA : inj40 A) {k : Nat} {v : Int32} : Vq2 A (p_i h (A 16) k v) = Vq2 A h := Vq2_pi hA (j := 16) (by decide)
theorem Vq2_pi_j18 {A : Nat → Nat} {h : MH} (hA : inj40 A) {k : Nat} {v : Int32} : Vq2 A (p_i h (A 18) k v) = Vq2 A h := Vq2_pi hA (j := 18) (by decide)
theorem Vq2_pi_j22 {A : Nat → Nat} {h : MH} (hA : inj40 A) {k : Nat} {v : Int32} : Vq2 A (p_i h (A 22) k v) = Vq2 A h := Vq2_pi hA (j := 22) (by decide)
theorem Vq2_pi_j24 {A : Nat → Nat} {h : MH} (hA : inj40 A) {k : Nat} {v : Int32} : Vq2 A (p_i h (A 24) k v) = Vq2 A h := Vq2_pi hA (j := 24) (by decide)
theorem Vq2_pi_j28 {A : Nat → Nat} {h : MH} (hA : inj40 A) {k : Nat} {v : Int32} : Vq2 A (p_i h (A 28) k v) = Vq2 A h := Vq2_pi hA (j := 28) (by decide)
theorem Vq2_pi_j30 {A : Nat → Nat} {h : MH} (hA : inj40 A) {k : Nat} {v : Int32} : Vq2 A (p_i h (A 30) k v) = Vq2 A h := Vq2_pi hA (j := 30) (by decide)
theorem Vq2_pi_j37 {A : Nat → Nat} {h : MH} (hA : inj40 A) {k : Nat} {v : Int32} : Vq2 A (p_i h (A 37) k v) = Vq2 A h := Vq2_pi hA (j := 37) (by decide)
theorem Vq2_pi_j38 {A : Nat → Nat} {h : MH} (hA : inj40 A) {k : Nat} {v : Int32} : Vq2 A (p_i h (A 38) k v) = Vq2 A h := Vq2_pi hA (j := 38) (by decide)
theorem Vsr_pi_j0 {A : Nat → Nat} {h : MH} (hA : inj40 A) {k : Nat} {v : Int32} : Vsr A (p_i h (A 0) k v) = Vsr A h := Vsr_pi hA (j := 0) (by decide)
theorem Vsr_pi_j14 {A : Nat → Nat} {h : MH} (hA : inj40 A) {k : Nat} {v : Int32} : Vsr A (p_i h (A 14) k v) = Vsr A h := Vsr_pi hA (j := 14) (by decide)
theorem Vsr_pi_j15 {A : Nat → Nat} {h : MH} (hA : inj40 A) {k : Nat} {v : Int32} : Vsr A (p_i h (A 15) k v) = Vsr A h := Vsr_pi hA (j := 15) (by decide)
theorem Vsr_pi_j16 {A : Nat → Nat} {h : MH} (hA : inj40 A) {k : Nat} {v : Int32} : Vsr A (p_i h (A 16) k v) = Vsr A h := Vsr_pi hA (j := 16) (by decide)
theorem Vsr_pi_j18 {A : Nat → Nat} {h : MH} (hA : inj40 A) {k : Nat} {v : Int32} : Vsr A (p_i h (A 18) k v) = Vsr A h := Vsr_pi hA (j := 18) (by decide)
theorem Vsr_pi_j22 {A : Nat → Nat} {h : MH} (hA : inj40 A) {k : Nat} {v : Int32} : Vsr A (p_i h (A 22) k v) = Vsr A h := Vsr_pi hA (j := 22) (by decide)
theorem Vsr_pi_j27 {A : Nat → Nat} {h : MH} (hA : inj40 A) {k : Nat} {v : Int32} : Vsr A (p_i h (A 27) k v) = Vsr A h := Vsr_pi hA (j := 27) (by decide)
theorem Vsr_pi_j28 {A : Nat → Nat} {h : MH} (hA : inj40 A) {k : Nat} {v : Int32} : Vsr A (p_i h (A 28) k v) = Vsr A h := Vsr_pi hA (j := 28) (by decide)
theorem Vsr_pi_j30 {A : Nat → Nat} {h : MH} (hA : inj40 A) {k : Nat} {v : Int32} : Vsr A (p_i h (A 30) k v) = Vsr A h := Vsr_pi hA (j := 30) (by decide)
theorem Vsr_pi_j33 {A : Nat → Nat} {h : MH} (hA : inj40 A) {k : Nat} {v : Int32} : Vsr A (p_i h (A 33) k v) = Vsr A h := Vsr_pi hA (j := 33) (by decide)
theorem Vsr_pi_j36 {A : Nat → Nat} {h : MH} (hA : inj40 A) {k : Nat} {v : Int32} : Vsr A (p_i h (A 36) k v) = Vsr A h := Vsr_pi hA (j := 36) (by decide)
theorem Vsr_pi_j37 {A : Nat → Nat} {h : MH} (hA : inj40 A) {k : Nat} {v : Int32} : Vsr A (p_i h (A 37) k v) = Vsr A h := Vsr_pi hA (j := 37) (by decide)
theorem Vsr_pi_j38 {A : Nat → Nat} {h : MH} (hA : inj40 A) {k : Nat} {v : Int32} : Vsr A (p_i h (A 38) k v) = Vsr A h := Vsr_pi hA (j := 38) (by decide)
theorem Vsr_pl_j3 {A : Nat → Nat} {h : MH} (hA : inj40 A) {k : Nat} {v : Int64} : Vsr A (p_l h (A 3) k v) = Vsr A h := Vsr_pl hA (j := 3) (by decide)
theorem Vsr_pl_j23 {A : Nat → Nat} {h : MH} (hA : inj40 A) {k : Nat} {v : Int64} : Vsr A (p_l h (A 23) k v) = Vsr A h := Vsr_pl hA (j := 23) (by decide)
theorem Vsr_pl_j39 {A : Nat → Nat} {h : MH} (hA : inj40 A) {k : Nat} {v : Int64} : Vsr A (p_l h (A 39) k v) = Vsr A h := Vsr_pl hA (j := 39) (by decide)
theorem cT0_pi_j18 {A : Nat → Nat} {h : MH} (hA : inj40 A) {k : Nat} {v : Int32} : cT (p_i h (A 18) k v) (A 5) (A 8) (A 9) = cT h (A 5) (A 8) (A 9) := cT0_pi hA (j := 18) (by decide)
theorem cT0_pi_j22 {A : Nat → Nat} {h : MH} (hA : inj40 A) {k : Nat} {v : Int32} : cT (p_i h (A 22) k v) (A 5) (A 8) (A 9) = cT h (A 5) (A 8) (A 9) := cT0_pi hA (j := 22) (by decide)
theorem cT1_pi_j18 {A : Nat → Nat} {h : MH} (hA : inj40 A) {k : Nat} {v : Int32} : cT (p_i h (A 18) k v) (A 6) (A 10) (A 11) = cT h (A 6) (A 10) (A 11) := cT1_pi hA (j := 18) (by decide)
theorem cT1_pi_j22 {A : Nat → Nat} {h : MH} (hA : inj40 A) {k : Nat} {v : Int32} : cT (p_i h (A 22) k v) (A 6) (A 10) (A 11) = cT h (A 6) (A 10) (A 11) := cT1_pi hA (j := 22) (by decide)
theorem cT2_pi_j18 {A : Nat → Nat} {h : MH} (hA : inj40 A) {k : Nat} {v : Int32} : cT (p_i h (A 18) k v) (A 7) (A 12) (A 13) = cT h (A 7) (A 12) (A 13) := cT2_pi hA (j := 18) (by decide)
theorem cT2_pi_j22 {A : Nat → Nat} {h : MH} (hA : inj40 A) {k : Nat} {v : Int32} : cT (p_i h (A 22) k v) (A 7) (A 12) (A 13) = cT h (A 7) (A 12) (A 13) := cT2_pi hA (j := 22) (by decide)
theorem mT0_pi_j18 {A : Nat → Nat} {h : MH} (hA : inj40 A) {k : Nat} {v : Int32} : mT (p_i h (A 18) k v) (A 27) 0 (A 31) (A 34) = mT h (A 27) 0 (A 31) (A 34) := mT0_pi hA (j := 18) (by decide)
theorem mT0_pi_j22 {A : Nat → Nat} {h : MH} (hA : inj40 A) {k : Nat} {v : Int32} : mT (p_i h (A 22) k v) (A 27) 0 (A 31) (A 34) = mT h (A 27) 0 (A 31) (A 34) := mT0_pi hA (j := 22) (by decide)
theorem mT0_pi_j24 {A : Nat → Nat} {h : MH} (hA : inj40 A) {k : Nat} {v : Int32} : mT (p_i h (A 24) k v) (A 27) 0 (A 31) (A 34) = mT h (A 27) 0 (A 31) (A 34) := mT0_pi hA (j := 24) (by decide)
theorem mT1_pi_j18 {A : Nat → Nat} {h : MH} (hA : inj40 A) {k : Nat} {v : Int32} : mT (p_i h (A 18) k v) (A 27) 1 (A 32) (A 35) = mT h (A 27) 1 (A 32) (A 35) := mT1_pi hA (j := 18) (by decide)
theorem mT1_pi_j22 {A : Nat → Nat} {h : MH} (hA : inj40 A) {k : Nat} {v : Int32} : mT (p_i h (A 22) k v) (A 27) 1 (A 32) (A 35) = mT h (A 27) 1 (A 32) (A 35) := mT1_pi hA (j := 22) (by decide)
theorem mT1_pi_j24 {A : Nat → Nat} {h : MH} (hA : inj40 A) {k : Nat} {v : Int32} : mT (p_i h (A 24) k v) (A 27) 1 (A 32) (A 35) = mT h (A 27) 1 (A 32) (A 35) := mT1_pi hA (j := 24) (by decide)
theorem mT2_pi_j18 {A : Nat → Nat} {h : MH} (hA : inj40 A) {k : Nat} {v : Int32} : mT (p_i h (A 18) k v) (A 27) 2 (A 33) (A 36) = mT h (A 27) 2 (A 33) (A 36) := mT2_pi hA (j := 18) (by decide)
theorem mT2_pi_j22 {A : Nat → Nat} {h : MH} (hA : inj40 A) {k : Nat} {v : Int32} : mT (p_i h (A 22) k v) (A 27) 2 (A 33) (A 36) = mT h (A 27) 2 (A 33) (A 36) := mT2_pi hA (j := 22) (by decide)
theorem mT2_pi_j24 {A : Nat → Nat} {h : MH} (hA : inj40 A) {k : Nat} {v : Int32} : mT (p_i h (A 24) k v) (A 27) 2 (A 33) (A 36) = mT h (A 27) 2 (A 33) (A 36) := mT2_pi hA (j := 24) (by decide)
theorem hA_0_20 {A : Nat → Nat} (hA : inj40 A) : (A 0 = A 20) = ((0 : Nat) = 20) := propext (hA 0 20 (by decide) (by decide))
theorem hA_0_21 {A : Nat → Nat} (hA : inj40 A) : (A 0 = A 21) = ((0 : Nat) = 21) := propext (hA 0 21 (by decide) (by decide))
theorem hA_0_24 {A : Nat → Nat} (hA : inj40 A) : (A 0 = A 24) = ((0 : Nat) = 24) := propext (hA 0 24 (by decide) (by decide))
theorem hA_3_4 {A : Nat → Nat} (hA : inj40 A) : (A 3 = A 4) = ((3 : Nat) = 4) := propext (hA 3 4 (by decide) (by decide))
theorem hA_3_20 {A : Nat → Nat} (hA : inj40 A) : (A 3 = A 20) = ((3 : Nat) = 20) := propext (hA 3 20 (by decide) (by decide))
theorem hA_3_21 {A : Nat → Nat} (hA : inj40 A) : (A 3 = A 21) = ((3 : Nat) = 21) := propext (hA 3 21 (by decide) (by decide))
theorem hA_4_3 {A : Nat → Nat} (hA : inj40 A) : (A 4 = A 3) = ((4 : Nat) = 3) := propext (hA 4 3 (by decide) (by decide))
theorem hA_4_20 {A : Nat → Nat} (hA : inj40 A) : (A 4 = A 20) = ((4 : Nat) = 20) := propext (hA 4 20 (by decide) (by decide))
theorem hA_4_21 {A : Nat → Nat} (hA : inj40 A) : (A 4 = A 21) = ((4 : Nat) = 21) := propext (hA 4 21 (by decide) (by decide))
theorem hA_4_23 {A : Nat → Nat} (hA : inj40 A) : (A 4 = A 23) = ((4 : Nat) = 23) := propext (hA 4 23 (by decide) (by decide))
theorem hA_5_6 {A : Nat → Nat} (hA : inj40 A) : (A 5 = A 6) = ((5 : Nat) = 6) := propext (hA 5 6 (by decide) (by decide))
theorem hA_5_7 {A : Nat → Nat} (hA : inj40 A) : (A 5 = A 7) = ((5 : Nat) = 7) := propext (hA 5 7 (by decide) (by decide))
theorem hA_5_8 {A : Nat → Nat} (hA : inj40 A) : (A 5 = A 8) = ((5 : Nat) = 8) := propext (hA 5 8 (by decide) (by decide))
theorem hA_5_9 {A : Nat → Nat} (hA : inj40 A) : (A 5 = A 9) = ((5 : Nat) = 9) := propext (hA 5 9 (by decide) (by decide))
theorem hA_5_10 {A : Nat → Nat} (hA : inj40 A) : (A 5 = A 10) = ((5 : Nat) = 10) := propext (hA 5 10 (by decide) (by decide))
theorem hA_5_11 {A : Nat → Nat} (hA : inj40 A) : (A 5 = A 11) = ((5 : Nat) = 11) := propext (hA 5 11 (by decide) (by decide))
theorem hA_5_12 {A : Nat → Nat} (hA : inj40 A) : (A 5 = A 12) = ((5 : Nat) = 12) := propext (hA 5 12 (by decide) (by decide))
theorem hA_5_13 {A : Nat → Nat} (hA : inj40 A) : (A 5 = A 13) = ((5 : Nat) = 13) := propext (hA 5 13 (by decide) (by decide))
theorem hA_5_14 {A : Nat → Nat} (hA : inj40 A) : (A 5 = A 14) = ((5 : Nat) = 14) := propext (hA 5 14 (by decide) (by decide))
theorem hA_5_20 {A : Nat → Nat} (hA : inj40 A) : (A 5 = A 20) = ((5 : Nat) = 20) := propext (hA 5 20 (by decide) (by decide))
theorem hA_5_21 {A : Nat → Nat} (hA : inj40 A) : (A 5 = A 21) = ((5 : Nat) = 21) := propext (hA 5 21 (by decide) (by decide))
theorem hA_5_24 {A : Nat → Nat} (hA : inj40 A) : (A 5 = A 24) = ((5 : Nat) = 24) := propext (hA 5 24 (by decide) (by decide))
theorem hA_5_27 {A : Nat → Nat} (hA : inj40 A) : (A 5 = A 27) = ((5 : Nat) = 27) := propext (hA 5 27 (by decide) (by decide))
theorem hA_5_28 {A : Nat → Nat} (hA : inj40 A) : (A 5 = A 28) = ((5 : Nat) = 28) := propext (hA 5 28 (by decide) (by decide))
theorem hA_5_33 {A : Nat → Nat} (hA : inj40 A) : (A 5 = A 33) = ((5 : Nat) = 33) := propext (hA 5 33 (by decide) (by decide))
theorem hA_5_36 {A : Nat → Nat} (hA : inj40 A) : (A 5 = A 36) = ((5 : Nat) = 36) := propext (hA 5 36 (by decide) (by decide))
theorem hA_6_5 {A : Nat → Nat} (hA : inj40 A) : (A 6 = A 5) = ((6 : Nat) = 5) := propext (hA 6 5 (by decide) (by decide))
theorem hA_6_7 {A : Nat → Nat} (hA : inj40 A) : (A 6 = A 7) = ((6 : Nat) = 7) := propext (hA 6 7 (by decide) (by decide))
theorem hA_6_8 {A : Nat → Nat} (hA : inj40 A) : (A 6 = A 8) = ((6 : Nat) = 8) := propext (hA 6 8 (by decide) (by decide))
theorem hA_6_9 {A : Nat → Nat} (hA : inj40 A) : (A 6 = A 9) = ((6 : Nat) = 9) := propext (hA 6 9 (by decide) (by decide))
theorem hA_6_10 {A : Nat → Nat} (hA : inj40 A) : (A 6 = A 10) = ((6 : Nat) = 10) := propext (hA 6 10 (by decide) (by decide))
theorem hA_6_11 {A : Nat → Nat} (hA : inj40 A) : (A 6 = A 11) = ((6 : Nat) = 11) := propext (hA 6 11 (by decide) (by decide))
theorem hA_6_12 {A : Nat → Nat} (hA : inj40 A) : (A 6 = A 12) = ((6 : Nat) = 12) := propext (hA 6 12 (by decide) (by decide))
theorem hA_6_13 {A : Nat → Nat} (hA : inj40 A) : (A 6 = A 13) = ((6 : Nat) = 13) := propext (hA 6 13 (by decide) (by decide))
theorem hA_6_14 {A : Nat → Nat} (hA : inj40 A) : (A 6 = A 14) = ((6 : Nat) = 14) := propext (hA 6 14 (by decide) (by decide))
theorem hA_6_20 {A : Nat → Nat} (hA : inj40 A) : (A 6 = A 20) = ((6 : Nat) = 20) := propext (hA 6 20 (by decide) (by decide))
theorem hA_6_21 {A : Nat → Nat} (hA : inj40 A) : (A 6 = A 21) = ((6 : Nat) = 21) := propext (hA 6 21 (by decide) (by decide))
theorem hA_6_24 {A : Nat → Nat} (hA : inj40 A) : (A 6 = A 24) = ((6 : Nat) = 24) := propext (hA 6 24 (by decide) (by decide))
theorem hA_6_27 {A : Nat → Nat} (hA : inj40 A) : (A 6 = A 27) = ((6 : Nat) = 27) := propext (hA 6 27 (by decide) (by decide))
theorem hA_6_28 {A : Nat → Nat} (hA : inj40 A) : (A 6 = A 28) = ((6 : Nat) = 28) := propext (hA 6 28 (by decide) (by decide))
theorem hA_6_33 {A : Nat → Nat} (hA : inj40 A) : (A 6 = A 33) = ((6 : Nat) = 33) := propext (hA 6 33 (by decide) (by decide))
theorem hA_6_36 {A : Nat → Nat} (hA : inj40 A) : (A 6 = A 36) = ((6 : Nat) = 36) := propext (hA 6 36 (by decide) (by decide))
theorem hA_7_5 {A : Nat → Nat} (hA : inj40 A) : (A 7 = A 5) = ((7 : Nat) = 5) := propext (hA 7 5 (by decide) (by decide))
theorem hA_7_6 {A : Nat → Nat} (hA : inj40 A) : (A 7 = A 6) = ((7 : Nat) = 6) := propext (hA 7 6 (by decide) (by decide))
theorem hA_7_8 {A : Nat → Nat} (hA : inj40 A) : (A 7 = A 8) = ((7 : Nat) = 8) := propext (hA 7 8 (by decide) (by decide))
theorem hA_7_9 {A : Nat → Nat} (hA : inj40 A) : (A 7 = A 9) = ((7 : Nat) = 9) := propext (hA 7 9 (by decide) (by decide))
theorem hA_7_10 {A : Nat → Nat} (hA : inj40 A) : (A 7 = A 10) = ((7 : Nat) = 10) := propext (hA 7 10 (by decide) (by decide))
theorem hA_7_11 {A : Nat → Nat} (hA : inj40 A) : (A 7 = A 11) = ((7 : Nat) = 11) := propext (hA 7 11 (by decide) (by decide))
theorem hA_7_12 {A : Nat → Nat} (hA : inj40 A) : (A 7 = A 12) = ((7 : Nat) = 12) := propext (hA 7 12 (by decide) (by decide))
theorem hA_7_13 {A : Nat → Nat} (hA : inj40 A) : (A 7 = A 13) = ((7 : Nat) = 13) := propext (hA 7 13 (by decide) (by decide))
theorem hA_7_14 {A : Nat → Nat} (hA : inj40 A) : (A 7 = A 14) = ((7 : Nat) = 14) := propext (hA 7 14 (by decide) (by decide))
theorem hA_7_20 {A : Nat → Nat} (hA : inj40 A) : (A 7 = A 20) = ((7 : Nat) = 20) := propext (hA 7 20 (by decide) (by decide))
theorem hA_7_21 {A : Nat → Nat} (hA : inj40 A) : (A 7 = A 21) = ((7 : Nat) = 21) := propext (hA 7 21 (by decide) (by decide))
theorem hA_7_24 {A : Nat → Nat} (hA : inj40 A) : (A 7 = A 24) = ((7 : Nat) = 24) := propext (hA 7 24 (by decide) (by decide))
theorem hA_7_27 {A : Nat → Nat} (hA : inj40 A) : (A 7 = A 27) = ((7 : Nat) = 27) := propext (hA 7 27 (by decide) (by decide))
theorem hA_7_28 {A : Nat → Nat} (hA : inj40 A) : (A 7 = A 28) = ((7 : Nat) = 28) := propext (hA 7 28 (by decide) (by decide))
theorem hA_7_33 {A : Nat → Nat} (hA : inj40 A) : (A 7 = A 33) = ((7 : Nat) = 33) := propext (hA 7 33 (by decide) (by decide))
theorem hA_7_36 {A : Nat → Nat} (hA : inj40 A) : (A 7 = A 36) = ((7 : Nat) = 36) := propext (hA 7 36 (by decide) (by decide))
theorem hA_8_5 {A : Nat → Nat} (hA : inj40 A) : (A 8 = A 5) = ((8 : Nat) = 5) := propext (hA 8 5 (by decide) (by decide))
theorem hA_8_6 {A : Nat → Nat} (hA : inj40 A) : (A 8 = A 6) = ((8 : Nat) = 6) := propext (hA 8 6 (by decide) (by decide))
theorem hA_8_7 {A : Nat → Nat} (hA : inj40 A) : (A 8 = A 7) = ((8 : Nat) = 7) := propext (hA 8 7 (by decide) (by decide))
theorem hA_8_9 {A : Nat → Nat} (hA : inj40 A) : (A 8 = A 9) = ((8 : Nat) = 9) := propext (hA 8 9 (by decide) (by decide))
theorem hA_8_10 {A : Nat → Nat} (hA : inj40 A) : (A 8 = A 10) = ((8 : Nat) = 10) := propext (hA 8 10 (by decide) (by decide))
theorem hA_8_11 {A : Nat → Nat} (hA : inj40 A) : (A 8 = A 11) = ((8 : Nat) = 11) := propext (hA 8 11 (by decide) (by decide))
theorem hA_8_12 {A : Nat → Nat} (hA : inj40 A) : (A 8 = A 12) = ((8 : Nat) = 12) := propext (hA 8 12 (by decide) (by decide))
theorem hA_8_13 {A : Nat → Nat} (hA : inj40 A) : (A 8 = A 13) = ((8 : Nat) = 13) := propext (hA 8 13 (by decide) (by decide))
theorem hA_8_14 {A : Nat → Nat} (hA : inj40 A) : (A 8 = A 14) = ((8 : Nat) = 14) := propext (hA 8 14 (by decide) (by decide))
theorem hA_8_20 {A : Nat → Nat} (hA : inj40 A) : (A 8 = A 20) = ((8 : Nat) = 20) := propext (hA 8 20 (by decide) (by decide))
theorem hA_8_21 {A : Nat → Nat} (hA : inj40 A) : (A 8 = A 21) = ((8 : Nat) = 21) := propext (hA 8 21 (by decide) (by decide))
theorem hA_8_24 {A : Nat → Nat} (hA : inj40 A) : (A 8 = A 24) = ((8 : Nat) = 24) := propext (hA 8 24 (by decide) (by decide))
theorem hA_8_27 {A : Nat → Nat} (hA : inj40 A) : (A 8 = A 27) = ((8 : Nat) = 27) := propext (hA 8 27 (by decide) (by decide))
theorem hA_8_28 {A : Nat → Nat} (hA : inj40 A) : (A 8 = A 28) = ((8 : Nat) = 28) := propext (hA 8 28 (by decide) (by decide))
theorem hA_8_33 {A : Nat → Nat} (hA : inj40 A) : (A 8 = A 33) = ((8 : Nat) = 33) := propext (hA 8 33 (by decide) (by decide))
theorem hA_8_36 {A : Nat → Nat} (hA : inj40 A) : (A 8 = A 36) = ((8 : Nat) = 36) := propext (hA 8 36 (by decide) (by decide))
theorem hA_9_5 {A : Nat → Nat} (hA : inj40 A) : (A 9 = A 5) = ((9 : Nat) = 5) := propext (hA 9 5 (by decide) (by decide))
theorem hA_9_6 {A : Nat → Nat} (hA : inj40 A) : (A 9 = A 6) = ((9 : Nat) = 6) := propext (hA 9 6 (by decide) (by decide))
theorem hA_9_7 {A : Nat → Nat} (hA : inj40 A) : (A 9 = A 7) = ((9 : Nat) = 7) := propext (hA 9 7 (by decide) (by decide))
theorem hA_9_8 {A : Nat → Nat} (hA : inj40 A) : (A 9 = A 8) = ((9 : Nat) = 8) := propext (hA 9 8 (by decide) (by decide))
theorem hA_9_10 {A : Nat → Nat} (hA : inj40 A) : (A 9 = A 10) = ((9 : Nat) = 10) := propext (hA 9 10 (by decide) (by decide))
theorem hA_9_11 {A : Nat → Nat} (hA : inj40 A) : (A 9 = A 11) = ((9 : Nat) = 11) := propext (hA 9 11 (by decide) (by decide))
theorem hA_9_12 {A : Nat → Nat} (hA : inj40 A) : (A 9 = A 12) = ((9 : Nat) = 12) := propext (hA 9 12 (by decide) (by decide))
theorem hA_9_13 {A : Nat → Nat} (hA : inj40 A) : (A 9 = A 13) = ((9 : Nat) = 13) := propext (hA 9 13 (by decide) (by decide))
theorem hA_9_14 {A : Nat → Nat} (hA : inj40 A) : (A 9 = A 14) = ((9 : Nat) = 14) := propext (hA 9 14 (by decide) (by decide))
theorem hA_9_20 {A : Nat → Nat} (hA : inj40 A) : (A 9 = A 20) = ((9 : Nat) = 20) := propext (hA 9 20 (by decide) (by decide))
theorem hA_9_21 {A : Nat → Nat} (hA : inj40 A) : (A 9 = A 21) = ((9 : Nat) = 21) := propext (hA 9 21 (by decide) (by decide))
theorem hA_9_24 {A : Nat → Nat} (hA : inj40 A) : (A 9 = A 24) = ((9 : Nat) = 24) := propext (hA 9 24 (by decide) (by decide))
theorem hA_9_27 {A : Nat → Nat} (hA : inj40 A) : (A 9 = A 27) = ((9 : Nat) = 27) := propext (hA 9 27 (by decide) (by decide))
theorem hA_9_28 {A : Nat → Nat} (hA : inj40 A) : (A 9 = A 28) = ((9 : Nat) = 28) := propext (hA 9 28 (by decide) (by decide))
theorem hA_9_33 {A : Nat → Nat} (hA : inj40 A) : (A 9 = A 33) = ((9 : Nat) = 33) := propext (hA 9 33 (by decide) (by decide))
theorem hA_9_36 {A : Nat → Nat} (hA : inj40 A) : (A 9 = A 36) = ((9 : Nat) = 36) := propext (hA 9 36 (by decide) (by decide))
theorem hA_10_5 {A : Nat → Nat} (hA : inj40 A) : (A 10 = A 5) = ((10 : Nat) = 5) := propext (hA 10 5 (by decide) (by decide))
theorem hA_10_6 {A : Nat → Nat} (hA : inj40 A) : (A 10 = A 6) = ((10 : Nat) = 6) := propext (hA 10 6 (by decide) (by decide))
theorem hA_10_7 {A : Nat → Nat} (hA : inj40 A) : (A 10 = A 7) = ((10 : Nat) = 7) := propext (hA 10 7 (by decide) (by decide))
theorem hA_10_8 {A : Nat → Nat} (hA : inj40 A) : (A 10 = A 8) = ((10 : Nat) = 8) := propext (hA 10 8 (by decide) (by decide))
theorem hA_10_9 {A : Nat → Nat} (hA : inj40 A) : (A 10 = A 9) = ((10 : Nat) = 9) := propext (hA 10 9 (by decide) (by decide))
theorem hA_10_11 {A : Nat → Nat} (hA : inj40 A) : (A 10 = A 11) = ((10 : Nat) = 11) := propext (hA 10 11 (by decide) (by decide))
theorem hA_10_12 {A : Nat → Nat} (hA : inj40 A) : (A 10 = A 12) = ((10 : Nat) = 12) := propext (hA 10 12 (by decide) (by decide))
theorem hA_10_13 {A : Nat → Nat} (hA : inj40 A) : (A 10 = A 13) = ((10 : Nat) = 13) := propext (hA 10 13 (by decide) (by decide))
theorem hA_10_14 {A : Nat → Nat} (hA : inj40 A) : (A 10 = A 14) = ((10 : Nat) = 14) := propext (hA 10 14 (by decide) (by decide))
theorem hA_10_20 {A : Nat → Nat} (hA : inj40 A) : (A 10 = A 20) = ((10 : Nat) = 20) := propext (hA 10 20 (by decide) (by decide))
theorem hA_10_21 {A : Nat → Nat} (hA : inj40 A) : (A 10 = A 21) = ((10 : Nat) = 21) := propext (hA 10 21 (by decide) (by decide))
theorem hA_10_24 {A : Nat → Nat} (hA : inj40 A) : (A 10 = A 24) = ((10 : Nat) = 24) := propext (hA 10 24 (by decide) (by decide))
theorem hA_10_27 {A : Nat → Nat} (hA : inj40 A) : (A 10 = A 27) = ((10 : Nat) = 27) := propext (hA 10 27 (by decide) (by decide))
theorem hA_10_28 {A : Nat → Nat} (hA : inj40 A) : (A 10 = A 28) = ((10 : Nat) = 28) := propext (hA 10 28 (by decide) (by decide))
theorem hA_10_33 {A : Nat → Nat} (hA : inj40 A) : (A 10 = A 33) = ((10 : Nat) = 33) := propext (hA 10 33 (by decide) (by decide))
theorem hA_10_36 {A : Nat → Nat} (hA : inj40 A) : (A 10 = A 36) = ((10 : Nat) = 36) := propext (hA 10 36 (by decide) (by decide))
theorem hA_11_5 {A : Nat → Nat} (hA : inj40 A) : (A 11 = A 5) = ((11 : Nat) = 5) := propext (hA 11 5 (by decide) (by decide))
theorem hA_11_6 {A : Nat → Nat} (hA : inj40 A) : (A 11 = A 6) = ((11 : Nat) = 6) := propext (hA 11 6 (by decide) (by decide))
theorem hA_11_7 {A : Nat → Nat} (hA : inj40 A) : (A 11 = A 7) = ((11 : Nat) = 7) := propext (hA 11 7 (by decide) (by decide))
theorem hA_11_8 {A : Nat → Nat} (hA : inj40 A) : (A 11 = A 8) = ((11 : Nat) = 8) := propext (hA 11 8 (by decide) (by decide))
theorem hA_11_9 {A : Nat → Nat} (hA : inj40 A) : (A 11 = A 9) = ((11 : Nat) = 9) := propext (hA 11 9 (by decide) (by decide))
theorem hA_11_10 {A : Nat → Nat} (hA : inj40 A) : (A 11 = A 10) = ((11 : Nat) = 10) := propext (hA 11 10 (by decide) (by decide))
theorem hA_11_12 {A : Nat → Nat} (hA : inj40 A) : (A 11 = A 12) = ((11 : Nat) = 12) := propext (hA 11 12 (by decide) (by decide))
theorem hA_11_13 {A : Nat → Nat} (hA : inj40 A) : (A 11 = A 13) = ((11 : Nat) = 13) := propext (hA 11 13 (by decide) (by decide))
theorem hA_11_14 {A : Nat → Nat} (hA : inj40 A) : (A 11 = A 14) = ((11 : Nat) = 14) := propext (hA 11 14 (by decide) (by decide))
theorem hA_11_20 {A : Nat → Nat} (hA : inj40 A) : (A 11 = A 20) = ((11 : Nat) = 20) := propext (hA 11 20 (by decide) (by decide))
theorem hA_11_21 {A : Nat → Nat} (hA : inj40 A) : (A 11 = A 21) = ((11 : Nat) = 21) := propext (hA 11 21 (by decide) (by decide))
theorem hA_11_24 {A : Nat → Nat} (hA : inj40 A) : (A 11 = A 24) = ((11 : Nat) = 24) := propext (hA 11 24 (by decide) (by decide))
theorem hA_11_27 {A : Nat → Nat} (hA : inj40 A) : (A 11 = A 27) = ((11 : Nat) = 27) := propext (hA 11 27 (by decide) (by decide))
theorem hA_11_28 {A : Nat → Nat} (hA : inj40 A) : (A 11 = A 28) = ((11 : Nat) = 28) := propext (hA 11 28 (by decide) (by decide))
theorem hA_11_33 {A : Nat → Nat} (hA : inj40 A) : (A 11 = A 33) = ((11 : Nat) = 33) := propext (hA 11 33 (by decide) (by decide))
theorem hA_11_36 {A : Nat → Nat} (hA : inj40 A) : (A 11 = A 36) = ((11 : Nat) = 36) := propext (hA 11 36 (by decide) (by decide))
theorem hA_12_5 {A : Nat → Nat} (hA : inj40 A) : (A 12 = A 5) = ((12 : Nat) = 5) := propext (hA 12 5 (by decide) (by decide))
theorem hA_12_6 {A : Nat → Nat} (hA : inj40 A) : (A 12 = A 6) = ((12 : Nat) = 6) := propext (hA 12 6 (by decide) (by decide))
theorem hA_12_7 {A : Nat → Nat} (hA : inj40 A) : (A 12 = A 7) = ((12 : Nat) = 7) := propext (hA 12 7 (by decide) (by decide))
theorem hA_12_8 {A : Nat → Nat} (hA : inj40 A) : (A 12 = A 8) = ((12 : Nat) = 8) := propext (hA 12 8 (by decide) (by decide))
theorem hA_12_9 {A : Nat → Nat} (hA : inj40 A) : (A 12 = A 9) = ((12 : Nat) = 9) := propext (hA 12 9 (by decide) (by decide))
theorem hA_12_10 {A : Nat → Nat} (hA : inj40 A) : (A 12 = A 10) = ((12 : Nat) = 10) := propext (hA 12 10 (by decide) (by decide))
theorem hA_12_11 {A : Nat → Nat} (hA : inj40 A) : (A 12 = A 11) = ((12 : Nat) = 11) := propext (hA 12 11 (by decide) (by decide))
theorem hA_12_13 {A : Nat → Nat} (hA : inj40 A) : (A 12 = A 13) = ((12 : Nat) = 13) := propext (hA 12 13 (by decide) (by decide))
theorem hA_12_14 {A : Nat → Nat} (hA : inj40 A) : (A 12 = A 14) = ((12 : Nat) = 14) := propext (hA 12 14 (by decide) (by decide))
theorem hA_12_20 {A : Nat → Nat} (hA : inj40 A) : (A 12 = A 20) = ((12 : Nat) = 20) := propext (hA 12 20 (by decide) (by decide))
theorem hA_12_21 {A : Nat → Nat} (hA : inj40 A) : (A 12 = A 21) = ((12 : Nat) = 21) := propext (hA 12 21 (by decide) (by decide))
theorem hA_12_24 {A : Nat → Nat} (hA : inj40 A) : (A 12 = A 24) = ((12 : Nat) = 24) := propext (hA 12 24 (by decide) (by decide))
theorem hA_12_27 {A : Nat → Nat} (hA : inj40 A) : (A 12 = A 27) = ((12 : Nat) = 27) := propext (hA 12 27 (by decide) (by decide))
theorem hA_12_28 {A : Nat → Nat} (hA : inj40 A) : (A 12 = A 28) = ((12 : Nat) = 28) := propext (hA 12 28 (by decide) (by decide))
theorem hA_12_33 {A : Nat → Nat} (hA : inj40 A) : (A 12 = A 33) = ((12 : Nat) = 33) := propext (hA 12 33 (by decide) (by decide))
theorem hA_12_36 {A : Nat → Nat} (hA : inj40 A) : (A 12 = A 36) = ((12 : Nat) = 36) := propext (hA 12 36 (by decide) (by decide))
theorem hA_13_5 {A : Nat → Nat} (hA : inj40 A) : (A 13 = A 5) = ((13 : Nat) = 5) := propext (hA 13 5 (by decide) (by decide))
theorem hA_13_6 {A : Nat → Nat} (hA : inj40 A) : (A 13 = A 6) = ((13 : Nat) = 6) := propext (hA 13 6 (by decide) (by decide))
theorem hA_13_7 {A : Nat → Nat} (hA : inj40 A) : (A 13 = A 7) = ((13 : Nat) = 7) := propext (hA 13 7 (by decide) (by decide))
theorem hA_13_8 {A : Nat → Nat} (hA : inj40 A) : (A 13 = A 8) = ((13 : Nat) = 8) := propext (hA 13 8 (by decide) (by decide))
theorem hA_13_9 {A : Nat → Nat} (hA : inj40 A) : (A 13 = A 9) = ((13 : Nat) = 9) := propext (hA 13 9 (by decide) (by decide))
theorem hA_13_10 {A : Nat → Nat} (hA : inj40 A) : (A 13 = A 10) = ((13 : Nat) = 10) := propext (hA 13 10 (by decide) (by decide))
theorem hA_13_11 {A : Nat → Nat} (hA : inj40 A) : (A 13 = A 11) = ((13 : Nat) = 11) := propext (hA 13 11 (by decide) (by decide))
theorem hA_13_12 {A : Nat → Nat} (hA : inj40 A) : (A 13 = A 12) = ((13 : Nat) = 12) := propext (hA 13 12 (by decide) (by decide))
theorem hA_13_14 {A : Nat → Nat} (hA : inj40 A) : (A 13 = A 14) = ((13 : Nat) = 14) := propext (hA 13 14 (by decide) (by decide))
theorem hA_13_20 {A : Nat → Nat} (hA : inj40 A) : (A 13 = A 20) = ((13 : Nat) = 20) := propext (hA 13 20 (by decide) (by decide))
theorem hA_13_21 {A : Nat → Nat} (hA : inj40 A) : (A 13 = A 21) = ((13 : Nat) = 21) := propext (hA 13 21 (by decide) (by decide))
theorem hA_13_24 {A : Nat → Nat} (hA : inj40 A) : (A 13 = A 24) = ((13 : Nat) = 24) := propext (hA 13 24 (by decide) (by decide))
theorem hA_13_27 {A : Nat → Nat} (hA : inj40 A) : (A 13 = A 27) = ((13 : Nat) = 27) := propext (hA 13 27 (by decide) (by decide))
theorem hA_13_28 {A : Nat → Nat} (hA : inj40 A) : (A 13 = A 28) = ((13 : Nat) = 28) := propext (hA 13 28 (by decide) (by decide))
theorem hA_13_33 {A : Nat → Nat} (hA : inj40 A) : (A 13 = A 33) = ((13 : Nat) = 33) := propext (hA 13 33 (by decide) (by decide))
theorem hA_13_36 {A : Nat → Nat} (hA : inj40 A) : (A 13 = A 36) = ((13 : Nat) = 36) := propext (hA 13 36 (by decide) (by decide))
theorem hA_14_20 {A : Nat → Nat} (hA : inj40 A) : (A 14 = A 20) = ((14 : Nat) = 20) := propext (hA 14 20 (by decide) (by decide))
theorem hA_14_21 {A : Nat → Nat} (hA : inj40 A) : (A 14 = A 21) = ((14 : Nat) = 21) := propext (hA 14 21 (by decide) (by decide))
theorem hA_14_24 {A : Nat → Nat} (hA : inj40 A) : (A 14 = A 24) = ((14 : Nat) = 24) := propext (hA 14 24 (by decide) (by decide))
theorem hA_14_28 {A : Nat → Nat} (hA : inj40 A) : (A 14 = A 28) = ((14 : Nat) = 28) := propext (hA 14 28 (by decide) (by decide))
theorem hA_14_33 {A : Nat → Nat} (hA : inj40 A) : (A 14 = A 33) = ((14 : Nat) = 33) := propext (hA 14 33 (by decide) (by decide))
theorem hA_14_36 {A : Nat → Nat} (hA : inj40 A) : (A 14 = A 36) = ((14 : Nat) = 36) := propext (hA 14 36 (by decide) (by decide))
theorem hA_15_24 {A : Nat → Nat} (hA : inj40 A) : (A 15 = A 24) = ((15 : Nat) = 24) := propext (hA 15 24 (by decide) (by decide))
theorem hA_16_24 {A : Nat → Nat} (hA : inj40 A) : (A 16 = A 24) = ((16 : Nat) = 24) := propext (hA 16 24 (by decide) (by decide))
theorem hA_20_24 {A : Nat → Nat} (hA : inj40 A) : (A 20 = A 24) = ((20 : Nat) = 24) := propext (hA 20 24 (by decide) (by decide))
theorem hA_20_39 {A : Nat → Nat} (hA : inj40 A) : (A 20 = A 39) = ((20 : Nat) = 39) := propext (hA 20 39 (by decide) (by decide))
theorem hA_22_24 {A : Nat → Nat} (hA : inj40 A) : (A 22 = A 24) = ((22 : Nat) = 24) := propext (hA 22 24 (by decide) (by decide))
theorem hA_23_4 {A : Nat → Nat} (hA : inj40 A) : (A 23 = A 4) = ((23 : Nat) = 4) := propext (hA 23 4 (by decide) (by decide))
theorem hA_27_24 {A : Nat → Nat} (hA : inj40 A) : (A 27 = A 24) = ((27 : Nat) = 24) := propext (hA 27 24 (by decide) (by decide))
theorem hA_27_31 {A : Nat → Nat} (hA : inj40 A) : (A 27 = A 31) = ((27 : Nat) = 31) := propext (hA 27 31 (by decide) (by decide))
theorem hA_27_32 {A : Nat → Nat} (hA : inj40 A) : (A 27 = A 32) = ((27 : Nat) = 32) := propext (hA 27 32 (by decide) (by decide))
theorem hA_27_33 {A : Nat → Nat} (hA : inj40 A) : (A 27 = A 33) = ((27 : Nat) = 33) := propext (hA 27 33 (by decide) (by decide))
theorem hA_27_34 {A : Nat → Nat} (hA : inj40 A) : (A 27 = A 34) = ((27 : Nat) = 34) := propext (hA 27 34 (by decide) (by decide))
theorem hA_27_35 {A : Nat → Nat} (hA : inj40 A) : (A 27 = A 35) = ((27 : Nat) = 35) := propext (hA 27 35 (by decide) (by decide))
theorem hA_27_36 {A : Nat → Nat} (hA : inj40 A) : (A 27 = A 36) = ((27 : Nat) = 36) := propext (hA 27 36 (by decide) (by decide))
theorem hA_28_14 {A : Nat → Nat} (hA : inj40 A) : (A 28 = A 14) = ((28 : Nat) = 14) := propext (hA 28 14 (by decide) (by decide))
theorem hA_28_24 {A : Nat → Nat} (hA : inj40 A) : (A 28 = A 24) = ((28 : Nat) = 24) := propext (hA 28 24 (by decide) (by decide))
theorem hA_28_33 {A : Nat → Nat} (hA : inj40 A) : (A 28 = A 33) = ((28 : Nat) = 33) := propext (hA 28 33 (by decide) (by decide))
theorem hA_28_36 {A : Nat → Nat} (hA : inj40 A) : (A 28 = A 36) = ((28 : Nat) = 36) := propext (hA 28 36 (by decide) (by decide))
theorem hA_31_14 {A : Nat → Nat} (hA : inj40 A) : (A 31 = A 14) = ((31 : Nat) = 14) := propext (hA 31 14 (by decide) (by decide))
theorem hA_31_24 {A : Nat → Nat} (hA : inj40 A) : (A 31 = A 24) = ((31 : Nat) = 24) := propext (hA 31 24 (by decide) (by decide))
theorem hA_31_27 {A : Nat → Nat} (hA : inj40 A) : (A 31 = A 27) = ((31 : Nat) = 27) := propext (hA 31 27 (by decide) (by decide))
theorem hA_31_28 {A : Nat → Nat} (hA : inj40 A) : (A 31 = A 28) = ((31 : Nat) = 28) := propext (hA 31 28 (by decide) (by decide))
theorem hA_31_32 {A : Nat → Nat} (hA : inj40 A) : (A 31 = A 32) = ((31 : Nat) = 32) := propext (hA 31 32 (by decide) (by decide))
theorem hA_31_33 {A : Nat → Nat} (hA : inj40 A) : (A 31 = A 33) = ((31 : Nat) = 33) := propext (hA 31 33 (by decide) (by decide))
theorem hA_31_34 {A : Nat → Nat} (hA : inj40 A) : (A 31 = A 34) = ((31 : Nat) = 34) := propext (hA 31 34 (by decide) (by decide))
theorem hA_31_35 {A : Nat → Nat} (hA : inj40 A) : (A 31 = A 35) = ((31 : Nat) = 35) := propext (hA 31 35 (by decide) (by decide))
theorem hA_31_36 {A : Nat → Nat} (hA : inj40 A) : (A 31 = A 36) = ((31 : Nat) = 36) := propext (hA 31 36 (by decide) (by decide))
theorem hA_32_14 {A : Nat → Nat} (hA : inj40 A) : (A 32 = A 14) = ((32 : Nat) = 14) := propext (hA 32 14 (by decide) (by decide))
theorem hA_32_24 {A : Nat → Nat} (hA : inj40 A) : (A 32 = A 24) = ((32 : Nat) = 24) := propext (hA 32 24 (by decide) (by decide))
theorem hA_32_27 {A : Nat → Nat} (hA : inj40 A) : (A 32 = A 27) = ((32 : Nat) = 27) := propext (hA 32 27 (by decide) (by decide))
theorem hA_32_28 {A : Nat → Nat} (hA : inj40 A) : (A 32 = A 28) = ((32 : Nat) = 28) := propext (hA 32 28 (by decide) (by decide))
theorem hA_32_31 {A : Nat → Nat} (hA : inj40 A) : (A 32 = A 31) = ((32 : Nat) = 31) := propext (hA 32 31 (by decide) (by decide))
theorem hA_32_33 {A : Nat → Nat} (hA : inj40 A) : (A 32 = A 33) = ((32 : Nat) = 33) := propext (hA 32 33 (by decide) (by decide))
theorem hA_32_34 {A : Nat → Nat} (hA : inj40 A) : (A 32 = A 34) = ((32 : Nat) = 34) := propext (hA 32 34 (by decide) (by decide))
theorem hA_32_35 {A : Nat → Nat} (hA : inj40 A) : (A 32 = A 35) = ((32 : Nat) = 35) := propext (hA 32 35 (by decide) (by decide))
theorem hA_32_36 {A : Nat → Nat} (hA : inj40 A) : (A 32 = A 36) = ((32 : Nat) = 36) := propext (hA 32 36 (by decide) (by decide))
theorem hA_33_14 {A : Nat → Nat} (hA : inj40 A) : (A 33 = A 14) = ((33 : Nat) = 14) := propext (hA 33 14 (by decide) (by decide))
theorem hA_33_24 {A : Nat → Nat} (hA : inj40 A) : (A 33 = A 24) = ((33 : Nat) = 24) := propext (hA 33 24 (by decide) (by decide))
theorem hA_33_27 {A : Nat → Nat} (hA : inj40 A) : (A 33 = A 27) = ((33 : Nat) = 27) := propext (hA 33 27 (by decide) (by decide))
theorem hA_33_28 {A : Nat → Nat} (hA : inj40 A) : (A 33 = A 28) = ((33 : Nat) = 28) := propext (hA 33 28 (by decide) (by decide))
theorem hA_33_31 {A : Nat → Nat} (hA : inj40 A) : (A 33 = A 31) = ((33 : Nat) = 31) := propext (hA 33 31 (by decide) (by decide))
theorem hA_33_32 {A : Nat → Nat} (hA : inj40 A) : (A 33 = A 32) = ((33 : Nat) = 32) := propext (hA 33 32 (by decide) (by decide))
theorem hA_33_34 {A : Nat → Nat} (hA : inj40 A) : (A 33 = A 34) = ((33 : Nat) = 34) := propext (hA 33 34 (by decide) (by decide))
theorem hA_33_35 {A : Nat → Nat} (hA : inj40 A) : (A 33 = A 35) = ((33 : Nat) = 35) := propext (hA 33 35 (by decide) (by decide))
theorem hA_33_36 {A : Nat → Nat} (hA : inj40 A) : (A 33 = A 36) = ((33 : Nat) = 36) := propext (hA 33 36 (by decide) (by decide))
theorem hA_34_14 {A : Nat → Nat} (hA : inj40 A) : (A 34 = A 14) = ((34 : Nat) = 14) := propext (hA 34 14 (by decide) (by decide))
theorem hA_34_24 {A : Nat → Nat} (hA : inj40 A) : (A 34 = A 24) = ((34 : Nat) = 24) := propext (hA 34 24 (by decide) (by decide))
theorem hA_34_27 {A : Nat → Nat} (hA : inj40 A) : (A 34 = A 27) = ((34 : Nat) = 27) := propext (hA 34 27 (by decide) (by decide))
theorem hA_34_28 {A : Nat → Nat} (hA : inj40 A) : (A 34 = A 28) = ((34 : Nat) = 28) := propext (hA 34 28 (by decide) (by decide))
theorem hA_34_31 {A : Nat → Nat} (hA : inj40 A) : (A 34 = A 31) = ((34 : Nat) = 31) := propext (hA 34 31 (by decide) (by decide))
theorem hA_34_32 {A : Nat → Nat} (hA : inj40 A) : (A 34 = A 32) = ((34 : Nat) = 32) := propext (hA 34 32 (by decide) (by decide))
theorem hA_34_33 {A : Nat → Nat} (hA : inj40 A) : (A 34 = A 33) = ((34 : Nat) = 33) := propext (hA 34 33 (by decide) (by decide))
theorem hA_34_35 {A : Nat → Nat} (hA : inj40 A) : (A 34 = A 35) = ((34 : Nat) = 35) := propext (hA 34 35 (by decide) (by decide))
theorem hA_34_36 {A : Nat → Nat} (hA : inj40 A) : (A 34 = A 36) = ((34 : Nat) = 36) := propext (hA 34 36 (by decide) (by decide))
theorem hA_35_14 {A : Nat → Nat} (hA : inj40 A) : (A 35 = A 14) = ((35 : Nat) = 14) := propext (hA 35 14 (by decide) (by decide))
theorem hA_35_24 {A : Nat → Nat} (hA : inj40 A) : (A 35 = A 24) = ((35 : Nat) = 24) := propext (hA 35 24 (by decide) (by decide))
theorem hA_35_27 {A : Nat → Nat} (hA : inj40 A) : (A 35 = A 27) = ((35 : Nat) = 27) := propext (hA 35 27 (by decide) (by decide))
theorem hA_35_28 {A : Nat → Nat} (hA : inj40 A) : (A 35 = A 28) = ((35 : Nat) = 28) := propext (hA 35 28 (by decide) (by decide))
theorem hA_35_31 {A : Nat → Nat} (hA : inj40 A) : (A 35 = A 31) = ((35 : Nat) = 31) := propext (hA 35 31 (by decide) (by decide))
theorem hA_35_32 {A : Nat → Nat} (hA : inj40 A) : (A 35 = A 32) = ((35 : Nat) = 32) := propext (hA 35 32 (by decide) (by decide))
theorem hA_35_33 {A : Nat → Nat} (hA : inj40 A) : (A 35 = A 33) = ((35 : Nat) = 33) := propext (hA 35 33 (by decide) (by decide))
theorem hA_35_34 {A : Nat → Nat} (hA : inj40 A) : (A 35 = A 34) = ((35 : Nat) = 34) := propext (hA 35 34 (by decide) (by decide))
theorem hA_35_36 {A : Nat → Nat} (hA : inj40 A) : (A 35 = A 36) = ((35 : Nat) = 36) := propext (hA 35 36 (by decide) (by decide))
theorem hA_36_14 {A : Nat → Nat} (hA : inj40 A) : (A 36 = A 14) = ((36 : Nat) = 14) := propext (hA 36 14 (by decide) (by decide))
theorem hA_36_24 {A : Nat → Nat} (hA : inj40 A) : (A 36 = A 24) = ((36 : Nat) = 24) := propext (hA 36 24 (by decide) (by decide))
theorem hA_36_27 {A : Nat → Nat} (hA : inj40 A) : (A 36 = A 27) = ((36 : Nat) = 27) := propext (hA 36 27 (by decide) (by decide))
theorem hA_36_28 {A : Nat → Nat} (hA : inj40 A) : (A 36 = A 28) = ((36 : Nat) = 28) := propext (hA 36 28 (by decide) (by decide))
theorem hA_36_31 {A : Nat → Nat} (hA : inj40 A) : (A 36 = A 31) = ((36 : Nat) = 31) := propext (hA 36 31 (by decide) (by decide))
theorem hA_36_32 {A : Nat → Nat} (hA : inj40 A) : (A 36 = A 32) = ((36 : Nat) = 32) := propext (hA 36 32 (by decide) (by decide))
theorem hA_36_33 {A : Nat → Nat} (hA : inj40 A) : (A 36 = A 33) = ((36 : Nat) = 33) := propext (hA 36 33 (by decide) (by decide))
theorem hA_36_34 {A : Nat → Nat} (hA : inj40 A) : (A 36 = A 34) = ((36 : Nat) = 34) := propext (hA 36 34 (by decide) (by decide))
theorem hA_36_35 {A : Nat → Nat} (hA : inj40 A) : (A 36 = A 35) = ((36 : Nat) = 35) := propext (hA 36 35 (by decide) (by decide))
theorem hA_37_24 {A : Nat → Nat} (hA : inj40 A) : (A 37 = A 24) = ((37 : Nat) = 24) := propext (hA 37 24 (by decide) (by decide))
theorem hA_38_24 {A : Nat → Nat} (hA : inj40 A) : (A 38 = A 24) = ((38 : Nat) = 24) := propext (hA 38 24 (by decide) (by decide))
end

section
/-! PURE FACTS: numbers -/
theorem bv_oradd {x y : BitVec 64} {k : Nat} (hy : y.toNat < 2 ^ k) : x <<< k ||| y = x <<< k + y := by
  refine (BitVec.add_eq_or_of_and_eq_zero _ _ ?_).symm
  apply BitVec.eq_of_getLsbD_eq
  intro i hi
  rw [BitVec.getLsbD_and, BitVec.getLsbD_shiftLeft, BitVec.getLsbD_zero]
  by_cases h : i < k
  · simp [h]
  · have : y.getLsbD i = false := by
      rw [BitVec.getLsbD, Nat.testBit_lt_two_pow (Nat.lt_of_lt_of_le hy (Nat.pow_le_pow_right (by decide) (by omega)))]
    simp [this]
theorem bv_shlmul {x : BitVec 64} {k : Nat} : x <<< k = x * BitVec.ofNat 64 (2 ^ k) := by
  apply BitVec.eq_of_toNat_eq
  rw [BitVec.toNat_shiftLeft, BitVec.toNat_mul, BitVec.toNat_ofNat, Nat.shiftLeft_eq, Nat.mul_mod_mod]
theorem i64_small {y : Int64} (h : y.toBitVec.toNat < 2 ^ 63) : y.toInt = (y.toBitVec.toNat : Int) := by
  have : y.toInt = y.toBitVec.toInt := rfl
  rw [this, BitVec.toInt_eq_toNat_cond, if_pos (by omega)]
theorem i32_mask (c : Int32) : (c &&& 65535).toInt = ((c.toBitVec.toNat % 65536 : Nat) : Int) := by
  have e : (c &&& 65535).toInt = (c &&& 65535).toBitVec.toInt := rfl
  have e2 : (c &&& 65535).toBitVec.toNat = c.toBitVec.toNat % 65536 := by
    rw [Int32.toBitVec_and, BitVec.toNat_and]
    exact Nat.and_two_pow_sub_one_eq_mod _ 16
  rw [e, BitVec.toInt_eq_toNat_cond, if_pos (by omega), e2]
theorem i64_ofi (c : Int32) (h : 0 ≤ c.toInt) : c.toInt64.toBitVec.toNat = c.toInt.toNat := by
  have e : c.toInt64.toInt = c.toInt := Int32.toInt_toInt64 c
  have e1 : c.toInt64.toInt = c.toInt64.toBitVec.toInt := rfl
  have h2 := c.toInt_lt
  rw [e1, BitVec.toInt_eq_toNat_cond] at e
  split at e <;> omega
theorem sh16 (x : Int64) (c : Int32) : (x <<< ((16 : Int32).toInt64 &&& 63) ||| (c &&& 65535).toInt64) = x * 65536 + (c &&& 65535).toInt64 := by
  apply Int64.toBitVec_inj.mp
  rw [Int64.toBitVec_or, Int64.toBitVec_add, Int64.toBitVec_mul, Int64.toBitVec_shiftLeft]
  have e1 : ((16 : Int32).toInt64 &&& 63).toBitVec.smod 64 = 16#64 := by decide
  have hm := i32_mask c
  have hz := i64_ofi (c &&& 65535) (by rw [hm]; omega)
  rw [e1]
  show x.toBitVec <<< 16 ||| _ = _
  rw [bv_oradd (by rw [hz, hm]; omega), bv_shlmul]
  rfl
theorem nm_eq (a b c d : Int32) : nmC a b c d = nmM a b c d := by
  unfold nmC nmM
  rw [sh16, sh16, sh16, sh16]
theorem jo_eq (a b : Int32) : (a.toInt64 <<< ((32 : Int32).toInt64 &&& 63) ||| (b.toInt64 &&& 4294967295)) = a.toInt64 * 4294967296 + (if b < 0 then b.toInt64 + 4294967296 else b.toInt64) := by
  have hb : (b.toInt64 &&& 4294967295).toBitVec.toNat = b.toBitVec.toNat := by
    rw [Int64.toBitVec_and, BitVec.toNat_and]
    have e : (4294967295 : Int64).toBitVec.toNat = 2 ^ 32 - 1 := by decide
    rw [e, Nat.and_two_pow_sub_one_eq_mod]
    have e2 : b.toInt64.toInt = b.toInt := Int32.toInt_toInt64 b
    have e3 : b.toInt64.toInt = b.toInt64.toBitVec.toInt := rfl
    have e4 : b.toInt = b.toBitVec.toInt := rfl
    rw [e3, BitVec.toInt_eq_toNat_cond, e4, BitVec.toInt_eq_toNat_cond] at e2
    have := b.toBitVec.isLt
    have := b.toInt64.toBitVec.isLt
    split at e2 <;> split at e2 <;> omega
  have hlt := b.toBitVec.isLt
  have hy : (b.toInt64 &&& 4294967295) = (if b < 0 then b.toInt64 + 4294967296 else b.toInt64) := by
    apply Int64.toInt_inj.mp
    rw [i64_small (by omega), hb]
    have e4 : b.toInt = b.toBitVec.toInt := rfl
    have e5 := BitVec.toInt_eq_toNat_cond b.toBitVec
    have e6 : b < 0 ↔ b.toInt < 0 := by rw [Int32.lt_iff_toInt_lt]; rfl
    by_cases h : b < 0
    · rw [if_pos h, Int64.toInt_add, Int32.toInt_toInt64]
      have e7 : (4294967296 : Int64).toInt = 4294967296 := by decide
      have := e6.mp h
      rw [e7, Int.bmod_eq_of_le (by omega) (by omega)]
      split at e5 <;> omega
    · rw [if_neg h, Int32.toInt_toInt64]
      have : ¬ b.toInt < 0 := fun z => h (e6.mpr z)
      split at e5 <;> omega
  rw [← hy]
  apply Int64.toBitVec_inj.mp
  rw [Int64.toBitVec_or, Int64.toBitVec_add, Int64.toBitVec_mul, Int64.toBitVec_shiftLeft]
  have e1 : ((32 : Int32).toInt64 &&& 63).toBitVec.smod 64 = 32#64 := by decide
  rw [e1]
  show a.toInt64.toBitVec <<< 32 ||| _ = _
  rw [bv_oradd (by rw [hb]; omega), bv_shlmul]
  rfl
theorem fo_eq0 (b : Int64) : b.toInt32.toInt16.toInt32 = (if 32767 < (b &&& 65535).toInt32 then (b &&& 65535).toInt32 - 65536 else (b &&& 65535).toInt32) := by
  have hm : (b &&& 65535).toBitVec.toNat = b.toBitVec.toNat % 65536 := by
    rw [Int64.toBitVec_and, BitVec.toNat_and]
    exact Nat.and_two_pow_sub_one_eq_mod _ 16
  have hz : (b &&& 65535).toInt32.toInt = ((b.toBitVec.toNat % 65536 : Nat) : Int) := by
    rw [Int64.toInt_toInt32, i64_small (by omega), hm, Int.bmod_eq_of_le (by omega) (by omega)]
  have hl : b.toInt32.toInt16.toInt32.toInt = b.toInt.bmod 65536 := by
    rw [Int16.toInt_toInt32, Int32.toInt_toInt16, Int64.toInt_toInt32, Int.bmod_bmod_of_dvd (by decide)]
  have hn : b.toInt.bmod 65536 = ((b.toBitVec.toNat : Int)).bmod 65536 := by
    have e : b.toInt = b.toBitVec.toInt := rfl
    rw [e, BitVec.toInt_eq_toNat_cond]
    split
    · rfl
    · have h9 : ((b.toBitVec.toNat : Int) - ((2 ^ 64 : Nat) : Int)) % ((65536 : Nat) : Int) = (b.toBitVec.toNat : Int) % ((65536 : Nat) : Int) := by omega
      simp only [Int.bmod, h9]
  apply Int32.toInt_inj.mp
  rw [hl, hn]
  have e32 : (32767 : Int32).toInt = 32767 := rfl
  have e65 : (65536 : Int32).toInt = 65536 := rfl
  by_cases h : 32767 < (b &&& 65535).toInt32
  · have h2 := Int32.lt_iff_toInt_lt.mp h
    rw [if_pos h, Int32.toInt_sub, hz, e65, Int.bmod_eq_of_le (n := _ - _) (by omega) (by omega)]
    rw [hz, e32] at h2
    simp only [Int.bmod]
    split <;> omega
  · have h2 : ¬ (32767 : Int) < (b &&& 65535).toInt32.toInt := fun z => h (Int32.lt_iff_toInt_lt.mpr z)
    rw [if_neg h, hz]
    rw [hz] at h2
    simp only [Int.bmod]
    split <;> omega
theorem fo_eq (a : Int64) : foC a 0 = foM a 0 ∧ foC a 1 = foM a 1 ∧ foC a 2 = foM a 2 ∧ foC a 3 = foM a 3 := by
  unfold foC foM
  have e0 : ((16 * (3 - 0) : Int32).toInt64 &&& 63) = ((48 - 16 * 0 : Int32).toInt64 &&& 63) := by decide
  have e1 : ((16 * (3 - 1) : Int32).toInt64 &&& 63) = ((48 - 16 * 1 : Int32).toInt64 &&& 63) := by decide
  have e2 : ((16 * (3 - 2) : Int32).toInt64 &&& 63) = ((48 - 16 * 2 : Int32).toInt64 &&& 63) := by decide
  have e3 : ((16 * (3 - 3) : Int32).toInt64 &&& 63) = ((48 - 16 * 3 : Int32).toInt64 &&& 63) := by decide
  rw [e0, e1, e2, e3]
  exact ⟨fo_eq0 _, fo_eq0 _, fo_eq0 _, fo_eq0 _⟩
theorem fo_16 (a : Int64) (k : Int32) : (foC a k).toInt16.toInt32 = foC a k := by
  unfold foC
  simp
theorem i64_inj {a b : Int32} : (a.toInt64 = b.toInt64) = (a = b) := by
  apply propext
  constructor
  · intro h
    have := congrArg Int64.toInt32 h
    simpa using this
  · rintro rfl; rfl
theorem i64_back (a : Int32) : a.toInt64.toInt32 = a := by simp
theorem fo0 (a : Int64) : foC a 0 = foM a 0 := (fo_eq a).1
theorem fo1 (a : Int64) : foC a 1 = foM a 1 := (fo_eq a).2.1
theorem fo2 (a : Int64) : foC a 2 = foM a 2 := (fo_eq a).2.2.1
theorem fo3 (a : Int64) : foC a 3 = foM a 3 := (fo_eq a).2.2.2
theorem fom0 (a : Int64) : (foM a 0).toInt16.toInt32 = foM a 0 := by rw [← fo0, fo_16]
theorem fom1 (a : Int64) : (foM a 1).toInt16.toInt32 = foM a 1 := by rw [← fo1, fo_16]
theorem fom2 (a : Int64) : (foM a 2).toInt16.toInt32 = foM a 2 := by rw [← fo2, fo_16]
theorem fom3 (a : Int64) : (foM a 3).toInt16.toInt32 = foM a 3 := by rw [← fo3, fo_16]
theorem ix_lt {s : Int32} (h : ixOk s) : (11 + 4 * s + 0).toNatClampNeg < 36 ∧ (11 + 4 * s + 1).toNatClampNeg < 36 ∧ (11 + 4 * s + 2).toNatClampNeg < 36 ∧ (11 + 4 * s + 3).toNatClampNeg < 36 := by
  obtain ⟨⟨⟨-, -, j0⟩, ⟨-, -, j1⟩, ⟨-, -, j2⟩, ⟨-, -, j3⟩⟩, -⟩ := h
  unfold vp_in at j0 j1 j2 j3
  omega
end

section
/-! PURE FACTS: the states of the queues and of the pipe, by going through them all -/
set_option maxRecDepth 100000 in
theorem qI_0 : ∀ t ∈ QS0, (t.2.1 - t.1 = 0 ∨ (¬ t.1 < 0 ∧ t.1 < 5 ∧ rdy 16 (1 + t.1) ∧ seF 1 5 (ciF t) ∈ QS0)) := by
  (try unfold rdy vp_in)
  decide +kernel
set_option maxRecDepth 100000 in
theorem qO_0 : ∀ t ∈ QS0, (t.2.2.2.2.1 - t.2.2.2.1 = 0 ∨ (¬ t.2.2.2.1 < 0 ∧ t.2.2.2.1 < 5 ∧ rdy 16 (1 + t.2.2.2.1) ∧ seF 1 5 (goF t) ∈ QS0)) := by
  (try unfold rdy vp_in)
  decide +kernel
set_option maxRecDepth 100000 in
theorem qMm_0 : ∀ t ∈ QS0, seF 1 5 (mkF t) ∈ QS0 := by
  (try unfold rdy vp_in)
  decide +kernel
set_option maxRecDepth 100000 in
theorem qMb_0 : ∀ t ∈ QS0, seF 1 5 (bkF t) ∈ QS0 := by
  (try unfold rdy vp_in)
  decide +kernel
set_option maxRecDepth 100000 in
theorem qMl_0 : ∀ t ∈ QS0, seF 1 5 (lmF t) ∈ QS0 := by
  (try unfold rdy vp_in)
  decide +kernel
theorem qMc_0 : clF 5 ∈ QS0 := by decide +kernel
set_option maxRecDepth 100000 in
theorem qA_0 : ∀ t ∈ QS0, ((t.2.2.2.2.2.1 < 0 ∧ t.2.2.2.2.2.1 = -1) ∨ (¬ t.2.2.2.2.2.1 < 0 ∧ ¬ t.2.2.2.2.2.1 = -1)) ∧ (t.2.2.2.2.2.2 = 0 ∨ t.2.2.2.2.2.2 = 1) ∧ ¬ lyF t < 0 ∧ lyF t < 10 := by
  (try unfold rdy vp_in)
  decide +kernel
set_option maxRecDepth 100000 in
theorem qX_0 : ∀ t ∈ QS0, ∀ x ∈ (List.range 10).map Int32.ofNat, (¬ x < lyF t ∨ (¬ ceF t x < 0 ∧ ceF t x < 5 ∧ rdy 16 (1 + ceF t x))) := by
  (try unfold rdy vp_in)
  decide +kernel
set_option maxRecDepth 100000 in
theorem qI_1 : ∀ t ∈ QS1, (t.2.1 - t.1 = 0 ∨ (¬ t.1 < 0 ∧ t.1 < 3 ∧ rdy 16 (6 + t.1) ∧ seF 1 3 (ciF t) ∈ QS1)) := by
  (try unfold rdy vp_in)
  decide +kernel
set_option maxRecDepth 100000 in
theorem qO_1 : ∀ t ∈ QS1, (t.2.2.2.2.1 - t.2.2.2.1 = 0 ∨ (¬ t.2.2.2.1 < 0 ∧ t.2.2.2.1 < 3 ∧ rdy 16 (6 + t.2.2.2.1) ∧ seF 1 3 (goF t) ∈ QS1)) := by
  (try unfold rdy vp_in)
  decide +kernel
set_option maxRecDepth 100000 in
theorem qMm_1 : ∀ t ∈ QS1, seF 1 3 (mkF t) ∈ QS1 := by
  (try unfold rdy vp_in)
  decide +kernel
set_option maxRecDepth 100000 in
theorem qMb_1 : ∀ t ∈ QS1, seF 1 3 (bkF t) ∈ QS1 := by
  (try unfold rdy vp_in)
  decide +kernel
set_option maxRecDepth 100000 in
theorem qMl_1 : ∀ t ∈ QS1, seF 1 3 (lmF t) ∈ QS1 := by
  (try unfold rdy vp_in)
  decide +kernel
theorem qMc_1 : clF 3 ∈ QS1 := by decide +kernel
set_option maxRecDepth 100000 in
theorem qA_1 : ∀ t ∈ QS1, ((t.2.2.2.2.2.1 < 0 ∧ t.2.2.2.2.2.1 = -1) ∨ (¬ t.2.2.2.2.2.1 < 0 ∧ ¬ t.2.2.2.2.2.1 = -1)) ∧ (t.2.2.2.2.2.2 = 0 ∨ t.2.2.2.2.2.2 = 1) ∧ ¬ lyF t < 0 ∧ lyF t < 10 := by
  (try unfold rdy vp_in)
  decide +kernel
set_option maxRecDepth 100000 in
theorem qX_1 : ∀ t ∈ QS1, ∀ x ∈ (List.range 10).map Int32.ofNat, (¬ x < lyF t ∨ (¬ ceF t x < 0 ∧ ceF t x < 3 ∧ rdy 16 (6 + ceF t x))) := by
  (try unfold rdy vp_in)
  decide +kernel
set_option maxRecDepth 100000 in
theorem qI_2 : ∀ t ∈ QS2, (t.2.1 - t.1 = 0 ∨ (¬ t.1 < 0 ∧ t.1 < 6 ∧ rdy 16 (9 + t.1) ∧ seF 0 6 (ciF t) ∈ QS2)) := by
  (try unfold rdy vp_in)
  decide +kernel
set_option maxRecDepth 100000 in
theorem qO_2 : ∀ t ∈ QS2, (t.2.2.2.2.1 - t.2.2.2.1 = 0 ∨ (¬ t.2.2.2.1 < 0 ∧ t.2.2.2.1 < 6 ∧ rdy 16 (9 + t.2.2.2.1) ∧ seF 0 6 (goF t) ∈ QS2)) := by
  (try unfold rdy vp_in)
  decide +kernel
set_option maxRecDepth 100000 in
theorem qMm_2 : ∀ t ∈ QS2, seF 0 6 (mkF t) ∈ QS2 := by
  (try unfold rdy vp_in)
  decide +kernel
set_option maxRecDepth 100000 in
theorem qMb_2 : ∀ t ∈ QS2, seF 0 6 (bkF t) ∈ QS2 := by
  (try unfold rdy vp_in)
  decide +kernel
set_option maxRecDepth 100000 in
theorem qMl_2 : ∀ t ∈ QS2, seF 0 6 (lmF t) ∈ QS2 := by
  (try unfold rdy vp_in)
  decide +kernel
theorem qMc_2 : clF 6 ∈ QS2 := by decide +kernel
set_option maxRecDepth 100000 in
theorem qA_2 : ∀ t ∈ QS2, ((t.2.2.2.2.2.1 < 0 ∧ t.2.2.2.2.2.1 = -1) ∨ (¬ t.2.2.2.2.2.1 < 0 ∧ ¬ t.2.2.2.2.2.1 = -1)) ∧ (t.2.2.2.2.2.2 = 0) ∧ ¬ lyF t < 0 ∧ lyF t < 10 := by
  (try unfold rdy vp_in)
  decide +kernel
set_option maxRecDepth 100000 in
theorem qX_2 : ∀ t ∈ QS2, ∀ x ∈ (List.range 10).map Int32.ofNat, (¬ x < lyF t ∨ (¬ ceF t x < 0 ∧ ceF t x < 6 ∧ rdy 16 (9 + ceF t x))) := by
  (try unfold rdy vp_in)
  decide +kernel
end

section
/-! THE OPS: class and reference side by side -/
theorem v18 : vp_in 1 8 = True ∧ vp_in 2 8 = True ∧ vp_in 3 8 = True ∧ vp_in 4 8 = True ∧ vp_in 5 8 = True ∧ vp_in 6 8 = True := by unfold vp_in; decide
theorem i20 : ((2 : Int32) = 0) = False := by decide
theorem i30 : ((3 : Int32) = 0) = False := by decide
theorem Vsr_of {A : Nat → Nat} {h h2 : MH} {i0 i1 i2 i3 : Nat} {x0 x1 x2 x3 : Int32} (v : Vsr A h) (y0 : x0.toInt16.toInt32 = x0) (y1 : x1.toInt16.toInt32 = x1) (y2 : x2.toInt16.toInt32 = x2) (y3 : x3.toInt16.toInt32 = x3)
    (e1 : ∀ k, g_l h2 (A 4) k = if k = i3 then x3.toInt64 else if k = i2 then x2.toInt64 else if k = i1 then x1.toInt64 else if k = i0 then x0.toInt64 else g_l h (A 4) k)
    (e2 : ∀ k, g_i h2 (A 24) k = if k = i3 then x3 else if k = i2 then x2 else if k = i1 then x1 else if k = i0 then x0 else g_i h (A 24) k) : Vsr A h2 := by
  intro k hk
  rw [e1, e2]
  by_cases c3 : k = i3
  · simp only [if_pos c3]; exact ⟨trivial, y3⟩
  simp only [if_neg c3]
  by_cases c2 : k = i2
  · simp only [if_pos c2]; exact ⟨trivial, y2⟩
  simp only [if_neg c2]
  by_cases c1 : k = i1
  · simp only [if_pos c1]; exact ⟨trivial, y1⟩
  simp only [if_neg c1]
  by_cases c0 : k = i0
  · simp only [if_pos c0]; exact ⟨trivial, y0⟩
  simp only [if_neg c0]
  exact v k hk
theorem Vsr_nest {A : Nat → Nat} {h m : MH} {V : Int64} {i0 i1 i2 i3 : Nat} (v : Vsr A h)
    (e1 : ∀ k, g_l m (A 4) k = if k = i3 then (foM V 3).toInt64 else if k = i2 then (foM V 2).toInt64 else if k = i1 then (foM V 1).toInt64 else if k = i0 then (foM V 0).toInt64 else g_l h (A 4) k)
    (e2 : ∀ k, g_i m (A 24) k = g_i h (A 24) k) : Vsr A (p_i (p_i (p_i (p_i m (A 24) i0 (foM V 0)) (A 24) i1 (foM V 1)) (A 24) i2 (foM V 2)) (A 24) i3 (foM V 3)) :=
  Vsr_of (i0 := i0) (i1 := i1) (i2 := i2) (i3 := i3) v (fom0 V) (fom1 V) (fom2 V) (fom3 V) (fun k => by simp only [ml_pi]; exact e1 k) (fun k => by simp only [mi_pi, e2, true_and])
theorem Vc_of {A : Nat → Nat} {h h2 : MH} {c : Nat} (v : Vc A h) (hc : c < 8) (e1 : ∀ k, g_i h2 (A 18) k = if k = c then g_i h (A 18) c + 1 else g_i h (A 18) k) (e2 : ∀ k, g_i h2 (A 30) k = if k = c then g_i h (A 30) c + 1 else g_i h (A 30) k) : Vc A h2 := by
  intro k hk
  rw [e1, e2]
  by_cases c3 : k = c
  · simp only [if_pos c3]
    rw [v c hc]
  · simp only [if_neg c3]
    exact v k hk
theorem hx_289_1 {l rest : List Value} {bc bs : Nat} {Q : MR → MH → Prop} {h : MH} : Kc Ok 289 6 9 l rest bc bs Q (.inr 1) h ↔ ∀ q : Nat, Ok 289 16 l [.ref q] h bc bs Q := Kc_x (by decide +kernel) (by decide +kernel)
theorem op_lay {A : Nat → Nat} {h : MH} (R : Rl A h) {s u l : Int32} : Ok 289 0 [.ref (A 0), .int s, .int u, .int l, .ref (A 39), mk0] [] h 1 6 (fun r h1 => ∃ k : Int32, r = .inl (some (.int k)) ∧ g_c h1 (A 22) = 9 ∧ Ok 175 0 [.ref (A 22), .int s, .int u, .int l] [] h1 0 0 (fun r2 h2 => ∃ b : Int32, r2 = .inl (some (.int b)) ∧ Rl A h2 ∧ g_i h2 (A 22) 9 = k ∧ (k = 0 → g_l h2 (A 39) 0 = b.toInt64))) := by
  obtain ⟨vk, vcn, v0, v1, v2, vp, vl0, vl1, vlr, vsr, vc, tx⟩ := R
  have vk0 := vk
  (refine K_el vk0 ?_; intros hA kc0 kc1 kc2 kc3 kc4 kc5 kc6 kc7 kc8 kc9 kc10 kc11 kc12 kc13 kc14 kc15 kc16 kc17 kc18 kc19 kc20 kc21 kc22 kc23 kc24 kc25 kc26 kc27 kc28 kc29 kc30 kc31 kc32 kc33 kc34 kc35 kc36 kc37 kc38 kc39 kz kt kn3 kn4 kn18 kn21 kn23 kn24 kn25 kn26 kn27 kn29 kn30 kr0_0 kr0_1 kr0_2 kr0_3 kr0_4 kr0_5 kr0_7 kr0_8 kr0_9 kr0_10 kr1_0 kr2_0 kr5_0 kr5_1 kr6_0 kr6_1 kr7_0 kr7_1 kr8_0 kr9_0 kr10_0 kr11_0 kr12_0 kr13_0 kr14_0 kr15_0 kr16_0 kr17_0 kr19_0 kr19_1 kr22_0 kr22_1 kr22_2 kr22_3 kr22_4 kr22_5 kr22_7 kr22_8 kr25_0 kr25_1 kr25_2 kr26_0 kr26_1 kr26_2 kr29_0 kr29_1)
  have hAe : ∀ i j, i < 40 → j < 40 → (A i = A j ↔ i = j) := hA
  by_cases bs : s < 0 ∨ ¬ s < 6
  · have bs2 : (¬ s < 0 ∧ s < 6) = False := by
      apply propext
      constructor
      · rintro ⟨z1, z2⟩
        rcases bs with z | z
        · exact z1 z
        · exact z z2
      · exact False.elim
    simp only [o289_0, o289_2, o289_3, o289_4, o289_5, o289_6, o289_16, o289_18, o289_19, o58_0, o58_1, o58_4, o58_5, o58_8, o58_9, o58_10, o58_11, o58_12, o175_0, o175_1, o175_2, o175_5, o175_8, o175_9, o175_12, o175_13, o175_16, o175_19, o175_20, o175_21, o175_22, o175_23, o175_24, o175_25, o175_26, o175_29, o175_30, o175_31, o175_34, o175_35, o175_36, o175_39, o175_40, o175_43, o175_44, o175_45, o175_46, c_X5_checkSlot, c_X8_isSlot, c_X8_isThrown__, hx_289_1, mc_pi, mc_pT, mi_pi, mi_pT, ml_pi, ml_pT, mz_pT, mcs_0, mcs_i, mcs_r, Kn_v, Kn_0, Kn_x, mrf_some, true_and, and_true, not_true_eq_false, not_false_eq_true, false_implies, forall_const, if_true, if_false, and_self, Nat.reduceLeDiff, Nat.reduceSub, Nat.reduceAdd, Nat.zero_le, Nat.le_refl, i10, lt_le, Classical.not_not, Sum.inl.injEq, Option.some.injEq, Value.int.injEq, exists_eq_left', Nat.reduceLT, kc0, kc22, kr0_9, kz, bs, bs2]
    intro t ht
    first | refine ⟨⟨?_, ?_, ?_, ?_, ?_, ?_, ?_, ?_, ?_, ?_, ?_, ?_⟩, rfl⟩ | refine ⟨?_, ?_, ?_, ?_, ?_, ?_, ?_, ?_, ?_, ?_, ?_, ?_⟩
    · simp only [K_pi]
      exact K_pT ht vk
    · simp only [Cn_pi_j22 hA, Cn_pT]
      exact vcn
    · simp only [Vq0_pi_j22 hA, Vq0_pT]
      exact v0
    · simp only [Vq1_pi_j22 hA, Vq1_pT]
      exact v1
    · simp only [Vq2_pi_j22 hA, Vq2_pT]
      exact v2
    · simp only [Vp_thr hA, Vp_pT]
      exact vp
    · simp only [Vl0_pi_j22 hA, Vl0_pT]
      exact vl0
    · simp only [Vl1_pi_j22 hA, Vl1_pT]
      exact vl1
    · simp only [Vlr_pi_j22 hA, Vlr_pT]
      exact vlr
    · simp only [Vsr_pi_j22 hA, Vsr_pT]
      exact vsr
    · simp only [Vc_pi_j22 hA, Vc_pT]
      exact vc
    · simp only [Tx_pi_j22 hA]
      exact Tx_pT ht tx
  · have s1 : ¬ s < 0 := fun z => bs (Or.inl z)
    have s2 : s < 6 := Classical.byContradiction fun z => bs (Or.inr z)
    have hs := ix_ok s1 s2
    have hs2 := hs
    obtain ⟨⟨j0, j1, j2, j3⟩, d01, d02, d03, d10, d12, d13, d20, d21, d23, d30, d31, d32⟩ := hs2
    obtain ⟨l0, l1, l2, l3⟩ := ix_lt hs
    have vs0 := (vsr _ l0).1
    have vs1 := (vsr _ l1).1
    have vs2 := (vsr _ l2).1
    have vs3 := (vsr _ l3).1
    have bs2 : (¬ s < 0 ∧ s < 6) = True := eq_true ⟨s1, s2⟩
    by_cases bl : l < 0
    all_goals
      simp only [o289_0, o289_2, o289_3, o289_4, o289_5, o289_6, o289_9, o289_10, o289_13, o289_16, o289_18, o289_19, o289_20, o289_21, o58_0, o58_1, o58_4, o58_5, o58_8, o58_9, o58_10, o58_11, o58_12, o58_15, o58_18, o58_21, o175_0, o175_1, o175_2, o175_5, o175_8, o175_9, o175_12, o175_13, o175_16, o175_19, o175_20, o175_21, o175_22, o175_23, o175_24, o175_25, o175_26, o175_29, o175_30, o175_31, o175_34, o175_35, o175_36, o175_39, o175_40, o175_43, o175_44, o175_45, o175_46, o175_49, o175_52, c_X5_checkSlot, c_X5_joined, c_X5_layNumber (rw := A 2) (cs := A 4), c_X0_done (cs := A 18), c_X8_isSlot, c_X8_isThrown__, c_X8_laid (sr := A 24), c_X8_done (cs := A 30), hx_289_1, mc_pi, mc_pl, mc_pT, mn_pi, mn_pl, mn_pT, mi_pi, mi_pl, mi_pT, ml_pi, ml_pl, ml_pT, mr_pi, mr_pl, mr_pT, mz_pi, mz_pl, mz_pT, mcs_0, mcs_i, mcs_r, Kn_v, Kn_0, Kn_x, mrf_some, true_and, and_true, false_and, and_false, or_false, not_true_eq_false, not_false_eq_true, false_implies, implies_true, forall_const, if_true, if_false, and_self, Nat.reduceEqDiff, Nat.reduceLeDiff, Nat.reduceSub, Nat.reduceAdd, Nat.zero_le, Nat.le_refl, i10, i01, lt_le, Kc_v, Sum.inl.injEq, Option.some.injEq, Value.int.injEq, exists_eq_left', Nat.reduceLT, hAe, kc0, kc2, kc4, kc17, kc18, kc22, kc24, kc30, kc39, kn4, kn18, kn24, kn30, kr0_1, kr0_9, kr2_0, kr17_0, kr22_1, kr22_8, kz, s1, s2, bl, hs, vs0, vs1, vs2, vs3, i64_inj, jo_eq, fo0, fo1, fo2, fo3]
      first | refine ⟨⟨?_, ?_, ?_, ?_, ?_, ?_, ?_, ?_, ?_, ?_, ?_, ?_⟩, rfl⟩ | refine ⟨?_, ?_, ?_, ?_, ?_, ?_, ?_, ?_, ?_, ?_, ?_, ?_⟩
      · simp only [K_pi, K_pl]
        exact vk
      · simp only [Cn_pi_j18 hA, Cn_pi_j22 hA, Cn_pi_j30 hA, Cn_pi_j24 hA, Cn_pl]
        exact vcn
      · simp only [Vq0_pi_j18 hA, Vq0_pi_j22 hA, Vq0_pi_j30 hA, Vq0_pi_j24 hA, Vq0_pl]
        exact v0
      · simp only [Vq1_pi_j18 hA, Vq1_pi_j22 hA, Vq1_pi_j30 hA, Vq1_pi_j24 hA, Vq1_pl]
        exact v1
      · simp only [Vq2_pi_j18 hA, Vq2_pi_j22 hA, Vq2_pi_j30 hA, Vq2_pi_j24 hA, Vq2_pl]
        exact v2
      · simp only [Vp_pi_j18 hA, Vp_pi_j30 hA, Vp_pi_j24 hA, Vp_thr hA, Vp_pl]
        exact vp
      · simp only [Vl0_pi_j18 hA, Vl0_pi_j22 hA, Vl0_pi_j30 hA, Vl0_pi_j24 hA, Vl0_pl]
        exact vl0
      · simp only [Vl1_pi_j18 hA, Vl1_pi_j22 hA, Vl1_pi_j30 hA, Vl1_pi_j24 hA, Vl1_pl]
        exact vl1
      · simp only [Vlr_pi_j18 hA, Vlr_pi_j22 hA, Vlr_pi_j30 hA, Vlr_pi_j24 hA, Vlr_pl_j39 hA, Vlr_pl_j4 hA]
        exact vlr
      · simp only [Vsr_pi_j30 hA]
        refine Vsr_nest vsr (fun k => ?_) (fun k => ?_) <;> simp only [mi_pi, mi_pl, ml_pi, ml_pl, hAe, Nat.reduceLT, Nat.reduceEqDiff, false_and, true_and, if_false]
      · refine Vc_of (c := 0) vc (by decide) (fun k => ?_) (fun k => ?_) <;> simp only [mi_pi, mi_pl, hAe, Nat.reduceLT, Nat.reduceEqDiff, false_and, true_and, if_false]
      · simp only [Tx_pi_j18 hA, Tx_pi_j22 hA, Tx_pi_j30 hA, Tx_pi_j24 hA, Tx_pl]
        exact tx
end

section
theorem nrng {v lo hi : Int32} (h : v < lo ∨ ¬ v < hi) : (¬ v < lo ∧ v < hi) = False := by
  apply propext
  constructor
  · rintro ⟨z1, z2⟩
    rcases h with z | z
    · exact z1 z
    · exact z z2
  · exact False.elim
theorem hx_291_1 {l rest : List Value} {bc bs : Nat} {Q : MR → MH → Prop} {h : MH} : Kc Ok 291 3 6 l rest bc bs Q (.inr 1) h ↔ ∀ q : Nat, Ok 291 13 l [.ref q] h bc bs Q := Kc_x (by decide +kernel) (by decide +kernel)
theorem op_upper {A : Nat → Nat} {h : MH} (R : Rl A h) {s : Int32} : Ok 291 0 [.ref (A 0), .int s, .ref (A 39), mk0] [] h 1 6 (fun r h1 => ∃ k : Int32, r = .inl (some (.int k)) ∧ g_c h1 (A 22) = 9 ∧ Ok 177 0 [.ref (A 22), .int s] [] h1 0 0 (fun r2 h2 => ∃ b : Int32, r2 = .inl (some (.int b)) ∧ Rl A h2 ∧ g_i h2 (A 22) 9 = k ∧ (k = 0 → g_l h2 (A 39) 0 = b.toInt64))) := by
  obtain ⟨vk, vcn, v0, v1, v2, vp, vl0, vl1, vlr, vsr, vc, tx⟩ := R
  have vk0 := vk
  have vcn0 := vcn
  (refine K_el vk0 ?_; intros hA kc0 kc1 kc2 kc3 kc4 kc5 kc6 kc7 kc8 kc9 kc10 kc11 kc12 kc13 kc14 kc15 kc16 kc17 kc18 kc19 kc20 kc21 kc22 kc23 kc24 kc25 kc26 kc27 kc28 kc29 kc30 kc31 kc32 kc33 kc34 kc35 kc36 kc37 kc38 kc39 kz kt kn3 kn4 kn18 kn21 kn23 kn24 kn25 kn26 kn27 kn29 kn30 kr0_0 kr0_1 kr0_2 kr0_3 kr0_4 kr0_5 kr0_7 kr0_8 kr0_9 kr0_10 kr1_0 kr2_0 kr5_0 kr5_1 kr6_0 kr6_1 kr7_0 kr7_1 kr8_0 kr9_0 kr10_0 kr11_0 kr12_0 kr13_0 kr14_0 kr15_0 kr16_0 kr17_0 kr19_0 kr19_1 kr22_0 kr22_1 kr22_2 kr22_3 kr22_4 kr22_5 kr22_7 kr22_8 kr25_0 kr25_1 kr25_2 kr26_0 kr26_1 kr26_2 kr29_0 kr29_1)
  (refine Cn_el vcn0 ?_; intros ki5_2 ki6_2 ki7_2 ki8_1 ki8_2 ki8_3 ki9_1 ki9_2 ki9_3 ki10_1 ki10_2 ki10_3 ki11_1 ki11_2 ki11_3 ki12_1 ki12_2 ki12_3 ki13_1 ki13_2 ki13_3 ki14_1 ki14_2 ki14_3 ki28_0 ki28_1 ki31_0 ki31_1 ki32_0 ki32_1 ki33_0 ki33_1 ki34_0 ki34_1 ki35_0 ki35_1 ki36_0 ki36_1)
  have hAe : ∀ i j, i < 40 → j < 40 → (A i = A j ↔ i = j) := hA
  by_cases bs : s < 0 ∨ ¬ s < 6
  · have bs2 : (¬ s < 0 ∧ s < 6) = False := nrng bs
    simp only [o291_0, o291_1, o291_2, o291_3, o291_13, o291_14, o291_15, o60_0, o60_1, o60_4, o60_5, o60_6, o177_0, o177_1, o177_2, o177_5, o177_8, o177_9, o177_12, o177_13, o177_16, o177_19, o177_20, o177_23, o177_24, o177_25, o177_32, hx_291_1, c_X5_checkSlot, c_X8_isSlot, c_X8_isThrown__, mc_pi, mc_pT, mi_pi, mi_pT, ml_pi, ml_pT, mz_pT, mcs_0, mcs_r, Kn_v, Kn_0, Kn_x, true_and, and_true, not_true_eq_false, not_false_eq_true, false_implies, forall_const, if_true, if_false, and_self, Nat.reduceLeDiff, Nat.reduceSub, Nat.reduceAdd, Nat.zero_le, Nat.le_refl, i10, Sum.inl.injEq, Option.some.injEq, Value.int.injEq, exists_eq_left', Nat.reduceLT, kc0, kc22, kz, bs, bs2]
    intro t ht
    first | refine ⟨⟨?_, ?_, ?_, ?_, ?_, ?_, ?_, ?_, ?_, ?_, ?_, ?_⟩, rfl⟩ | refine ⟨?_, ?_, ?_, ?_, ?_, ?_, ?_, ?_, ?_, ?_, ?_, ?_⟩
    · (try simp only [K_pi])
      exact K_pT ht vk
    · (try simp only [Cn_pi_j22 hA, Cn_pT])
      exact vcn
    · (try simp only [Vq0_pi_j22 hA, Vq0_pT])
      exact v0
    · (try simp only [Vq1_pi_j22 hA, Vq1_pT])
      exact v1
    · (try simp only [Vq2_pi_j22 hA, Vq2_pT])
      exact v2
    · (try simp only [Vp_thr hA, Vp_pT])
      exact vp
    · (try simp only [Vl0_pi_j22 hA, Vl0_pT])
      exact vl0
    · (try simp only [Vl1_pi_j22 hA, Vl1_pT])
      exact vl1
    · (try simp only [Vlr_pi_j22 hA, Vlr_pT])
      exact vlr
    · (try simp only [Vsr_pi_j22 hA, Vsr_pT])
      exact vsr
    · (try simp only [Vc_pi_j22 hA, Vc_pT])
      exact vc
    · (try simp only [Tx_pi_j22 hA])
      exact Tx_pT ht tx
  · have s1 : ¬ s < 0 := fun z => bs (Or.inl z)
    have s2 : s < 6 := Classical.byContradiction fun z => bs (Or.inr z)
    have hs := ix_ok s1 s2
    have hs2 := hs
    obtain ⟨⟨j0, j1, j2, j3⟩, d01, d02, d03, d10, d12, d13, d20, d21, d23, d30, d31, d32⟩ := hs2
    obtain ⟨l0, l1, l2, l3⟩ := ix_lt hs
    have vs0 := (vsr _ l0).1
    have vs1 := (vsr _ l1).1
    have vs2 := (vsr _ l2).1
    have vs3 := (vsr _ l3).1
    have bs2 : (¬ s < 0 ∧ s < 6) = True := eq_true ⟨s1, s2⟩
    simp only [o291_0, o291_1, o291_2, o291_3, o291_6, o291_7, o291_10, o291_13, o291_14, o291_15, o291_16, o291_17, o60_0, o60_1, o60_4, o60_5, o60_6, o60_9, o60_12, o177_0, o177_1, o177_2, o177_5, o177_8, o177_9, o177_12, o177_13, o177_16, o177_19, o177_20, o177_23, o177_24, o177_25, o177_28, o177_30, o177_31, o177_32, hx_291_1, c_X5_checkSlot, c_X8_isSlot, c_X8_isThrown__, c_X5_numberIn (rw := A 2) (cs := A 4), c_X8_numberOf (sr := A 24), c_X5_upperOf, mc_pi, mc_pl, mc_pT, mn_pi, mn_pl, mn_pT, mi_pi, mi_pl, mi_pT, ml_pi, ml_pl, ml_pT, mr_pi, mr_pl, mr_pT, mz_pl, mz_pT, mcs_0, mcs_r, Kn_v, Kn_0, Kn_x, true_and, and_true, false_and, and_false, or_false, not_true_eq_false, not_false_eq_true, false_implies, implies_true, forall_const, if_true, if_false, and_self, Nat.reduceEqDiff, Nat.reduceLeDiff, Nat.reduceSub, Nat.reduceAdd, Nat.zero_le, Nat.le_refl, i10, i01, Kc_v, Sum.inl.injEq, Option.some.injEq, Value.int.injEq, exists_eq_left', Nat.reduceLT, hAe, kc0, kc2, kc4, kc22, kc24, kc39, kn4, kn24, kr0_1, kr2_0, kr22_1, kz, s1, s2, hs, vs0, vs1, vs2, vs3, i64_inj, i64_back, nm_eq]
    first | refine ⟨⟨?_, ?_, ?_, ?_, ?_, ?_, ?_, ?_, ?_, ?_, ?_, ?_⟩, rfl⟩ | refine ⟨?_, ?_, ?_, ?_, ?_, ?_, ?_, ?_, ?_, ?_, ?_, ?_⟩
    · (try simp only [K_pi, K_pl])
      exact vk
    · (try simp only [Cn_pi_j22 hA, Cn_pl])
      exact vcn
    · (try simp only [Vq0_pi_j22 hA, Vq0_pl])
      exact v0
    · (try simp only [Vq1_pi_j22 hA, Vq1_pl])
      exact v1
    · (try simp only [Vq2_pi_j22 hA, Vq2_pl])
      exact v2
    · (try simp only [Vp_thr hA, Vp_pl])
      exact vp
    · (try simp only [Vl0_pi_j22 hA, Vl0_pl])
      exact vl0
    · (try simp only [Vl1_pi_j22 hA, Vl1_pl])
      exact vl1
    · (try simp only [Vlr_pi_j22 hA, Vlr_pl_j39 hA])
      exact vlr
    · (try simp only [Vsr_pi_j22 hA, Vsr_pl_j39 hA])
      exact vsr
    · (try simp only [Vc_pi_j22 hA, Vc_pl])
      exact vc
    · (try simp only [Tx_pi_j22 hA, Tx_pl])
      exact tx

theorem hx_292_1 {l rest : List Value} {bc bs : Nat} {Q : MR → MH → Prop} {h : MH} : Kc Ok 292 3 6 l rest bc bs Q (.inr 1) h ↔ ∀ q : Nat, Ok 292 13 l [.ref q] h bc bs Q := Kc_x (by decide +kernel) (by decide +kernel)
theorem op_lower {A : Nat → Nat} {h : MH} (R : Rl A h) {s : Int32} : Ok 292 0 [.ref (A 0), .int s, .ref (A 39), mk0] [] h 1 6 (fun r h1 => ∃ k : Int32, r = .inl (some (.int k)) ∧ g_c h1 (A 22) = 9 ∧ Ok 178 0 [.ref (A 22), .int s] [] h1 0 0 (fun r2 h2 => ∃ b : Int32, r2 = .inl (some (.int b)) ∧ Rl A h2 ∧ g_i h2 (A 22) 9 = k ∧ (k = 0 → g_l h2 (A 39) 0 = b.toInt64))) := by
  obtain ⟨vk, vcn, v0, v1, v2, vp, vl0, vl1, vlr, vsr, vc, tx⟩ := R
  have vk0 := vk
  have vcn0 := vcn
  (refine K_el vk0 ?_; intros hA kc0 kc1 kc2 kc3 kc4 kc5 kc6 kc7 kc8 kc9 kc10 kc11 kc12 kc13 kc14 kc15 kc16 kc17 kc18 kc19 kc20 kc21 kc22 kc23 kc24 kc25 kc26 kc27 kc28 kc29 kc30 kc31 kc32 kc33 kc34 kc35 kc36 kc37 kc38 kc39 kz kt kn3 kn4 kn18 kn21 kn23 kn24 kn25 kn26 kn27 kn29 kn30 kr0_0 kr0_1 kr0_2 kr0_3 kr0_4 kr0_5 kr0_7 kr0_8 kr0_9 kr0_10 kr1_0 kr2_0 kr5_0 kr5_1 kr6_0 kr6_1 kr7_0 kr7_1 kr8_0 kr9_0 kr10_0 kr11_0 kr12_0 kr13_0 kr14_0 kr15_0 kr16_0 kr17_0 kr19_0 kr19_1 kr22_0 kr22_1 kr22_2 kr22_3 kr22_4 kr22_5 kr22_7 kr22_8 kr25_0 kr25_1 kr25_2 kr26_0 kr26_1 kr26_2 kr29_0 kr29_1)
  (refine Cn_el vcn0 ?_; intros ki5_2 ki6_2 ki7_2 ki8_1 ki8_2 ki8_3 ki9_1 ki9_2 ki9_3 ki10_1 ki10_2 ki10_3 ki11_1 ki11_2 ki11_3 ki12_1 ki12_2 ki12_3 ki13_1 ki13_2 ki13_3 ki14_1 ki14_2 ki14_3 ki28_0 ki28_1 ki31_0 ki31_1 ki32_0 ki32_1 ki33_0 ki33_1 ki34_0 ki34_1 ki35_0 ki35_1 ki36_0 ki36_1)
  have hAe : ∀ i j, i < 40 → j < 40 → (A i = A j ↔ i = j) := hA
  by_cases bs : s < 0 ∨ ¬ s < 6
  · have bs2 : (¬ s < 0 ∧ s < 6) = False := nrng bs
    simp only [o292_0, o292_1, o292_2, o292_3, o292_13, o292_14, o292_15, o61_0, o61_1, o61_4, o61_5, o61_6, o178_0, o178_1, o178_2, o178_5, o178_8, o178_9, o178_12, o178_13, o178_16, o178_19, o178_20, o178_23, o178_24, o178_25, o178_29, hx_292_1, c_X5_checkSlot, c_X8_isSlot, c_X8_isThrown__, mc_pi, mc_pT, mi_pi, mi_pT, ml_pi, ml_pT, mz_pT, mcs_0, mcs_r, Kn_v, Kn_0, Kn_x, true_and, and_true, not_true_eq_false, not_false_eq_true, false_implies, forall_const, if_true, if_false, and_self, Nat.reduceLeDiff, Nat.reduceSub, Nat.reduceAdd, Nat.zero_le, Nat.le_refl, i10, Sum.inl.injEq, Option.some.injEq, Value.int.injEq, exists_eq_left', Nat.reduceLT, kc0, kc22, kz, bs, bs2]
    intro t ht
    first | refine ⟨⟨?_, ?_, ?_, ?_, ?_, ?_, ?_, ?_, ?_, ?_, ?_, ?_⟩, rfl⟩ | refine ⟨?_, ?_, ?_, ?_, ?_, ?_, ?_, ?_, ?_, ?_, ?_, ?_⟩
    · (try simp only [K_pi])
      exact K_pT ht vk
    · (try simp only [Cn_pi_j22 hA, Cn_pT])
      exact vcn
    · (try simp only [Vq0_pi_j22 hA, Vq0_pT])
      exact v0
    · (try simp only [Vq1_pi_j22 hA, Vq1_pT])
      exact v1
    · (try simp only [Vq2_pi_j22 hA, Vq2_pT])
      exact v2
    · (try simp only [Vp_thr hA, Vp_pT])
      exact vp
    · (try simp only [Vl0_pi_j22 hA, Vl0_pT])
      exact vl0
    · (try simp only [Vl1_pi_j22 hA, Vl1_pT])
      exact vl1
    · (try simp only [Vlr_pi_j22 hA, Vlr_pT])
      exact vlr
    · (try simp only [Vsr_pi_j22 hA, Vsr_pT])
      exact vsr
    · (try simp only [Vc_pi_j22 hA, Vc_pT])
      exact vc
    · (try simp only [Tx_pi_j22 hA])
      exact Tx_pT ht tx
  · have s1 : ¬ s < 0 := fun z => bs (Or.inl z)
    have s2 : s < 6 := Classical.byContradiction fun z => bs (Or.inr z)
    have hs := ix_ok s1 s2
    have hs2 := hs
    obtain ⟨⟨j0, j1, j2, j3⟩, d01, d02, d03, d10, d12, d13, d20, d21, d23, d30, d31, d32⟩ := hs2
    obtain ⟨l0, l1, l2, l3⟩ := ix_lt hs
    have vs0 := (vsr _ l0).1
    have vs1 := (vsr _ l1).1
    have vs2 := (vsr _ l2).1
    have vs3 := (vsr _ l3).1
    have bs2 : (¬ s < 0 ∧ s < 6) = True := eq_true ⟨s1, s2⟩
    simp only [o292_0, o292_1, o292_2, o292_3, o292_6, o292_7, o292_10, o292_13, o292_14, o292_15, o292_16, o292_17, o61_0, o61_1, o61_4, o61_5, o61_6, o61_9, o61_12, o178_0, o178_1, o178_2, o178_5, o178_8, o178_9, o178_12, o178_13, o178_16, o178_19, o178_20, o178_23, o178_24, o178_25, o178_28, o178_29, hx_292_1, c_X5_checkSlot, c_X8_isSlot, c_X8_isThrown__, c_X5_numberIn (rw := A 2) (cs := A 4), c_X8_numberOf (sr := A 24), c_X5_lowerOf, mc_pi, mc_pl, mc_pT, mn_pi, mn_pl, mn_pT, mi_pi, mi_pl, mi_pT, ml_pi, ml_pl, ml_pT, mr_pi, mr_pl, mr_pT, mz_pl, mz_pT, mcs_0, mcs_r, Kn_v, Kn_0, Kn_x, true_and, and_true, false_and, and_false, or_false, not_true_eq_false, not_false_eq_true, false_implies, implies_true, forall_const, if_true, if_false, and_self, Nat.reduceEqDiff, Nat.reduceLeDiff, Nat.reduceSub, Nat.reduceAdd, Nat.zero_le, Nat.le_refl, i10, i01, Kc_v, Sum.inl.injEq, Option.some.injEq, Value.int.injEq, exists_eq_left', Nat.reduceLT, hAe, kc0, kc2, kc4, kc22, kc24, kc39, kn4, kn24, kr0_1, kr2_0, kr22_1, kz, s1, s2, hs, vs0, vs1, vs2, vs3, i64_inj, i64_back, nm_eq]
    first | refine ⟨⟨?_, ?_, ?_, ?_, ?_, ?_, ?_, ?_, ?_, ?_, ?_, ?_⟩, rfl⟩ | refine ⟨?_, ?_, ?_, ?_, ?_, ?_, ?_, ?_, ?_, ?_, ?_, ?_⟩
    · (try simp only [K_pi, K_pl])
      exact vk
    · (try simp only [Cn_pi_j22 hA, Cn_pl])
      exact vcn
    · (try simp only [Vq0_pi_j22 hA, Vq0_pl])
      exact v0
    · (try simp only [Vq1_pi_j22 hA, Vq1_pl])
      exact v1
    · (try simp only [Vq2_pi_j22 hA, Vq2_pl])
      exact v2
    · (try simp only [Vp_thr hA, Vp_pl])
      exact vp
    · (try simp only [Vl0_pi_j22 hA, Vl0_pl])
      exact vl0
    · (try simp only [Vl1_pi_j22 hA, Vl1_pl])
      exact vl1
    · (try simp only [Vlr_pi_j22 hA, Vlr_pl_j39 hA])
      exact vlr
    · (try simp only [Vsr_pi_j22 hA, Vsr_pl_j39 hA])
      exact vsr
    · (try simp only [Vc_pi_j22 hA, Vc_pl])
      exact vc
    · (try simp only [Tx_pi_j22 hA, Tx_pl])
      exact tx

theorem f_cases {f : Int32} (h1 : ¬ f < 0) (h2 : f < 4) : f = 0 ∨ f = 1 ∨ f = 2 ∨ f = 3 := by
  have h3 : f < 6 := by
    rw [Int32.lt_iff_toInt_lt] at h2 ⊢
    have e1 : (4 : Int32).toInt = 4 := rfl
    have e2 : (6 : Int32).toInt = 6 := rfl
    omega
  rcases s_cases h1 h3 with rfl | rfl | rfl | rfl | rfl | rfl
  · exact Or.inl rfl
  · exact Or.inr (Or.inl rfl)
  · exact Or.inr (Or.inr (Or.inl rfl))
  · exact Or.inr (Or.inr (Or.inr rfl))
  · exact absurd h2 (by decide)
  · exact absurd h2 (by decide)
theorem ixf_ok {s f : Int32} (h1 : ¬ s < 0) (h2 : s < 6) (h3 : ¬ f < 0) (h4 : f < 4) : rdy 36 (11 + 4 * s + f) := by
  rcases s_cases h1 h2 with rfl | rfl | rfl | rfl | rfl | rfl <;> rcases f_cases h3 h4 with rfl | rfl | rfl | rfl <;> (unfold rdy vp_in; decide)
theorem rdy_lt {n : Nat} {j : Int32} (h : rdy n j) : j.toNatClampNeg < n := by
  obtain ⟨-, -, h⟩ := h
  unfold vp_in at h
  omega
theorem sh_rng {v : Int32} (h1 : ¬ v < -32768) (h2 : ¬ 32767 < v) : v < 32768 ∧ v.toInt16.toInt32 = v := by
  rw [Int32.lt_iff_toInt_lt] at h1 h2
  have e1 : (-32768 : Int32).toInt = -32768 := rfl
  have e2 : (32767 : Int32).toInt = 32767 := rfl
  have e3 : (32768 : Int32).toInt = 32768 := rfl
  refine ⟨by rw [Int32.lt_iff_toInt_lt]; omega, lg_i2s_small (by omega) (by omega)⟩
theorem sh_bad {v : Int32} (h : v < -32768 ∨ 32767 < v) : (¬ v < -32768 ∧ v < 32768) = False := by
  apply nrng
  rcases h with h | h
  · exact Or.inl h
  · refine Or.inr ?_
    rw [Int32.lt_iff_toInt_lt] at h ⊢
    have e2 : (32767 : Int32).toInt = 32767 := rfl
    have e3 : (32768 : Int32).toInt = 32768 := rfl
    omega
theorem Vsr_1 {A : Nat → Nat} {h h2 : MH} {i0 : Nat} {x0 : Int32} (v : Vsr A h) (y0 : x0.toInt16.toInt32 = x0)
    (e1 : ∀ k, g_l h2 (A 4) k = if k = i0 then x0.toInt64 else g_l h (A 4) k) (e2 : ∀ k, g_i h2 (A 24) k = if k = i0 then x0 else g_i h (A 24) k) : Vsr A h2 := by
  intro k hk
  rw [e1, e2]
  by_cases c0 : k = i0
  · simp only [if_pos c0]; exact ⟨trivial, y0⟩
  simp only [if_neg c0]
  exact v k hk
theorem Vlr_1 {A : Nat → Nat} {h h2 : MH} {i0 : Nat} {x0 : Int64} (v : Vlr A h) (e1 : ∀ k, g_l h2 (A 3) k = if k = i0 then x0 else g_l h (A 3) k) (e2 : ∀ k, g_l h2 (A 23) k = if k = i0 then x0 else g_l h (A 23) k) : Vlr A h2 := by
  intro k hk
  rw [e1, e2]
  by_cases c0 : k = i0
  · simp only [if_pos c0]
  simp only [if_neg c0]
  exact v k hk
theorem hx_293_1 {l rest : List Value} {bc bs : Nat} {Q : MR → MH → Prop} {h : MH} : Kc Ok 293 4 7 l rest bc bs Q (.inr 1) h ↔ ∀ q : Nat, Ok 293 14 l [.ref q] h bc bs Q := Kc_x (by decide +kernel) (by decide +kernel)
theorem hx_293_2 {l rest : List Value} {bc bs : Nat} {Q : MR → MH → Prop} {h : MH} : Kc Ok 293 4 7 l rest bc bs Q (.inr 2) h ↔ ∀ q : Nat, Ok 293 18 l [.ref q] h bc bs Q := Kc_x (by decide +kernel) (by decide +kernel)
theorem op_fourth {A : Nat → Nat} {h : MH} (R : Rl A h) {s f : Int32} : Ok 293 0 [.ref (A 0), .int s, .int f, .ref (A 39), mk0] [] h 2 12 (fun r h1 => ∃ k : Int32, r = .inl (some (.int k)) ∧ g_c h1 (A 22) = 9 ∧ Ok 179 0 [.ref (A 22), .int s, .int f] [] h1 0 0 (fun r2 h2 => ∃ b : Int32, r2 = .inl (some (.int b)) ∧ Rl A h2 ∧ g_i h2 (A 22) 9 = k ∧ (k = 0 → g_l h2 (A 39) 0 = b.toInt64))) := by
  obtain ⟨vk, vcn, v0, v1, v2, vp, vl0, vl1, vlr, vsr, vc, tx⟩ := R
  have vk0 := vk
  have vcn0 := vcn
  (refine K_el vk0 ?_; intros hA kc0 kc1 kc2 kc3 kc4 kc5 kc6 kc7 kc8 kc9 kc10 kc11 kc12 kc13 kc14 kc15 kc16 kc17 kc18 kc19 kc20 kc21 kc22 kc23 kc24 kc25 kc26 kc27 kc28 kc29 kc30 kc31 kc32 kc33 kc34 kc35 kc36 kc37 kc38 kc39 kz kt kn3 kn4 kn18 kn21 kn23 kn24 kn25 kn26 kn27 kn29 kn30 kr0_0 kr0_1 kr0_2 kr0_3 kr0_4 kr0_5 kr0_7 kr0_8 kr0_9 kr0_10 kr1_0 kr2_0 kr5_0 kr5_1 kr6_0 kr6_1 kr7_0 kr7_1 kr8_0 kr9_0 kr10_0 kr11_0 kr12_0 kr13_0 kr14_0 kr15_0 kr16_0 kr17_0 kr19_0 kr19_1 kr22_0 kr22_1 kr22_2 kr22_3 kr22_4 kr22_5 kr22_7 kr22_8 kr25_0 kr25_1 kr25_2 kr26_0 kr26_1 kr26_2 kr29_0 kr29_1)
  (refine Cn_el vcn0 ?_; intros ki5_2 ki6_2 ki7_2 ki8_1 ki8_2 ki8_3 ki9_1 ki9_2 ki9_3 ki10_1 ki10_2 ki10_3 ki11_1 ki11_2 ki11_3 ki12_1 ki12_2 ki12_3 ki13_1 ki13_2 ki13_3 ki14_1 ki14_2 ki14_3 ki28_0 ki28_1 ki31_0 ki31_1 ki32_0 ki32_1 ki33_0 ki33_1 ki34_0 ki34_1 ki35_0 ki35_1 ki36_0 ki36_1)
  have hAe : ∀ i j, i < 40 → j < 40 → (A i = A j ↔ i = j) := hA
  by_cases bs : s < 0 ∨ ¬ s < 6
  · have bs2 : (¬ s < 0 ∧ s < 6) = False := nrng bs
    by_cases bf : (¬ f < 0 ∧ f < 4)
    all_goals
      simp only [o293_0, o293_1, o293_2, o293_3, o293_4, o293_14, o293_16, o293_17, o293_18, o293_20, o293_21, o62_0, o62_1, o62_4, o62_5, o62_8, o62_9, o62_10, o62_11, o179_0, o179_1, o179_2, o179_5, o179_8, o179_9, o179_12, o179_13, o179_14, o179_17, o179_20, o179_21, o179_24, o179_25, o179_28, o179_31, o179_32, o179_35, o179_36, o179_39, o179_41, o179_42, o179_43, o179_44, o179_45, o179_46, o179_47, o179_48, hx_293_1, hx_293_2, c_X5_checkSlot, c_X8_isSlot, c_X8_isThrown_, c_X5_checkFourth, c_X8_isFourth, mc_pi, mc_pT, mn_pi, mn_pT, mi_pi, mi_pT, ml_pi, ml_pT, mr_pi, mr_pT, mz_pT, mcs_0, mcs_i, mcs_r, Kn_v, Kn_0, Kn_x, mrf_some, true_and, and_true, false_and, or_false, not_true_eq_false, not_false_eq_true, false_implies, forall_const, if_true, if_false, and_self, Nat.reduceEqDiff, Nat.reduceLeDiff, Nat.reduceSub, Nat.reduceAdd, Nat.zero_le, Nat.le_refl, i10, Sum.inl.injEq, Option.some.injEq, Value.int.injEq, exists_eq_left', Nat.reduceLT, hAe, i20, kc0, kc22, kc24, kn24, kr22_1, kz, bs, bs2, bf]
      intro t ht
      first | refine ⟨⟨?_, ?_, ?_, ?_, ?_, ?_, ?_, ?_, ?_, ?_, ?_, ?_⟩, rfl⟩ | refine ⟨?_, ?_, ?_, ?_, ?_, ?_, ?_, ?_, ?_, ?_, ?_, ?_⟩
      · (try simp only [K_pi])
        exact K_pT ht vk
      · (try simp only [Cn_pi_j22 hA, Cn_pT])
        exact vcn
      · (try simp only [Vq0_pi_j22 hA, Vq0_pT])
        exact v0
      · (try simp only [Vq1_pi_j22 hA, Vq1_pT])
        exact v1
      · (try simp only [Vq2_pi_j22 hA, Vq2_pT])
        exact v2
      · (try simp only [Vp_thr hA, Vp_pT])
        exact vp
      · (try simp only [Vl0_pi_j22 hA, Vl0_pT])
        exact vl0
      · (try simp only [Vl1_pi_j22 hA, Vl1_pT])
        exact vl1
      · (try simp only [Vlr_pi_j22 hA, Vlr_pT])
        exact vlr
      · (try simp only [Vsr_pi_j22 hA, Vsr_pT])
        exact vsr
      · (try simp only [Vc_pi_j22 hA, Vc_pT])
        exact vc
      · (try simp only [Tx_pi_j22 hA])
        exact Tx_pT ht tx
  · have s1 : ¬ s < 0 := fun z => bs (Or.inl z)
    have s2 : s < 6 := Classical.byContradiction fun z => bs (Or.inr z)
    have hs := ix_ok s1 s2
    have hs2 := hs
    obtain ⟨⟨j0, j1, j2, j3⟩, d01, d02, d03, d10, d12, d13, d20, d21, d23, d30, d31, d32⟩ := hs2
    obtain ⟨l0, l1, l2, l3⟩ := ix_lt hs
    have vs0 := (vsr _ l0).1
    have vs1 := (vsr _ l1).1
    have vs2 := (vsr _ l2).1
    have vs3 := (vsr _ l3).1
    have bs2 : (¬ s < 0 ∧ s < 6) = True := eq_true ⟨s1, s2⟩
    by_cases bf : f < 0 ∨ ¬ f < 4
    · have bf2 : (¬ f < 0 ∧ f < 4) = False := nrng bf
      simp only [o293_0, o293_1, o293_2, o293_3, o293_4, o293_14, o293_16, o293_17, o293_18, o293_20, o293_21, o62_0, o62_1, o62_4, o62_5, o62_8, o62_9, o62_10, o62_11, o179_0, o179_1, o179_2, o179_5, o179_8, o179_9, o179_12, o179_13, o179_14, o179_17, o179_20, o179_21, o179_24, o179_25, o179_28, o179_31, o179_32, o179_35, o179_36, o179_39, o179_41, o179_42, o179_43, o179_44, o179_45, o179_46, o179_47, o179_48, hx_293_1, hx_293_2, c_X5_checkSlot, c_X8_isSlot, c_X8_isThrown_, c_X5_checkFourth, c_X8_isFourth, mc_pi, mc_pT, mn_pi, mn_pT, mi_pi, mi_pT, ml_pi, ml_pT, mr_pi, mr_pT, mz_pT, mcs_0, mcs_i, mcs_r, Kn_v, Kn_0, Kn_x, mrf_some, true_and, and_true, false_and, and_false, or_false, not_true_eq_false, not_false_eq_true, false_implies, forall_const, if_true, if_false, and_self, Nat.reduceEqDiff, Nat.reduceLeDiff, Nat.reduceSub, Nat.reduceAdd, Nat.zero_le, Nat.le_refl, i10, Sum.inl.injEq, Option.some.injEq, Value.int.injEq, exists_eq_left', Nat.reduceLT, hAe, i20, kc0, kc22, kc24, kn24, kr22_1, kz, bf, bf2, s1, s2]
      intro t ht
      first | refine ⟨⟨?_, ?_, ?_, ?_, ?_, ?_, ?_, ?_, ?_, ?_, ?_, ?_⟩, rfl⟩ | refine ⟨?_, ?_, ?_, ?_, ?_, ?_, ?_, ?_, ?_, ?_, ?_, ?_⟩
      · (try simp only [K_pi])
        exact K_pT ht vk
      · (try simp only [Cn_pi_j22 hA, Cn_pT])
        exact vcn
      · (try simp only [Vq0_pi_j22 hA, Vq0_pT])
        exact v0
      · (try simp only [Vq1_pi_j22 hA, Vq1_pT])
        exact v1
      · (try simp only [Vq2_pi_j22 hA, Vq2_pT])
        exact v2
      · (try simp only [Vp_thr hA, Vp_pT])
        exact vp
      · (try simp only [Vl0_pi_j22 hA, Vl0_pT])
        exact vl0
      · (try simp only [Vl1_pi_j22 hA, Vl1_pT])
        exact vl1
      · (try simp only [Vlr_pi_j22 hA, Vlr_pT])
        exact vlr
      · (try simp only [Vsr_pi_j22 hA, Vsr_pT])
        exact vsr
      · (try simp only [Vc_pi_j22 hA, Vc_pT])
        exact vc
      · (try simp only [Tx_pi_j22 hA])
        exact Tx_pT ht tx
    · have f1 : ¬ f < 0 := fun z => bf (Or.inl z)
      have f2 : f < 4 := Classical.byContradiction fun z => bf (Or.inr z)
      have bf2 : (¬ f < 0 ∧ f < 4) = True := eq_true ⟨f1, f2⟩
      have hj := ixf_ok s1 s2 f1 f2
      have hv := hj.2.2
      have vsf := (vsr _ (rdy_lt hj)).1
      simp only [o293_0, o293_1, o293_2, o293_3, o293_4, o293_7, o293_8, o293_11, o293_14, o293_16, o293_17, o293_18, o293_20, o293_21, o293_22, o293_23, o62_0, o62_1, o62_4, o62_5, o62_8, o62_9, o62_10, o62_11, o62_14, o179_0, o179_1, o179_2, o179_5, o179_8, o179_9, o179_12, o179_13, o179_14, o179_17, o179_20, o179_21, o179_24, o179_25, o179_28, o179_31, o179_32, o179_35, o179_36, o179_39, o179_41, o179_42, o179_43, o179_44, o179_45, o179_46, o179_47, o179_48, hx_293_1, hx_293_2, c_X5_checkSlot, c_X8_isSlot, c_X8_isThrown_, c_X5_checkFourth, c_X8_isFourth, c_X5_fourthIn (rw := A 2) (cs := A 4), mc_pi, mc_pl, mc_pT, mn_pi, mn_pl, mn_pT, mi_pi, mi_pl, mi_pT, ml_pi, ml_pl, ml_pT, mr_pi, mr_pl, mr_pT, mz_pl, mz_pT, mcs_0, mcs_i, mcs_r, Kn_v, Kn_0, Kn_x, mrf_some, true_and, and_true, false_and, and_false, or_false, not_true_eq_false, not_false_eq_true, false_implies, implies_true, forall_const, if_true, if_false, and_self, Nat.reduceEqDiff, Nat.reduceLeDiff, Nat.reduceSub, Nat.reduceAdd, Nat.zero_le, Nat.le_refl, i10, i01, Kc_v, Sum.inl.injEq, Option.some.injEq, Value.int.injEq, exists_eq_left', Nat.reduceLT, hAe, i20, kc0, kc2, kc4, kc22, kc24, kc39, kn4, kn24, kr0_1, kr2_0, kr22_1, kz, f1, f2, hj, hv, vsf, s1, s2, i64_inj, i64_back]
      first | refine ⟨⟨?_, ?_, ?_, ?_, ?_, ?_, ?_, ?_, ?_, ?_, ?_, ?_⟩, rfl⟩ | refine ⟨?_, ?_, ?_, ?_, ?_, ?_, ?_, ?_, ?_, ?_, ?_, ?_⟩
      · (try simp only [K_pi, K_pl])
        exact vk
      · (try simp only [Cn_pi_j22 hA, Cn_pl])
        exact vcn
      · (try simp only [Vq0_pi_j22 hA, Vq0_pl])
        exact v0
      · (try simp only [Vq1_pi_j22 hA, Vq1_pl])
        exact v1
      · (try simp only [Vq2_pi_j22 hA, Vq2_pl])
        exact v2
      · (try simp only [Vp_thr hA, Vp_pl])
        exact vp
      · (try simp only [Vl0_pi_j22 hA, Vl0_pl])
        exact vl0
      · (try simp only [Vl1_pi_j22 hA, Vl1_pl])
        exact vl1
      · (try simp only [Vlr_pi_j22 hA, Vlr_pl_j39 hA])
        exact vlr
      · (try simp only [Vsr_pi_j22 hA, Vsr_pl_j39 hA])
        exact vsr
      · (try simp only [Vc_pi_j22 hA, Vc_pl])
        exact vc
      · (try simp only [Tx_pi_j22 hA, Tx_pl])
        exact tx

theorem hx_290_1 {l rest : List Value} {bc bs : Nat} {Q : MR → MH → Prop} {h : MH} : Kc Ok 290 6 9 l rest bc bs Q (.inr 1) h ↔ ∀ q : Nat, Ok 290 16 l [.ref q] h bc bs Q := Kc_x (by decide +kernel) (by decide +kernel)
theorem hx_290_2 {l rest : List Value} {bc bs : Nat} {Q : MR → MH → Prop} {h : MH} : Kc Ok 290 6 9 l rest bc bs Q (.inr 2) h ↔ ∀ q : Nat, Ok 290 20 l [.ref q] h bc bs Q := Kc_x (by decide +kernel) (by decide +kernel)
theorem op_layFourth {A : Nat → Nat} {h : MH} (R : Rl A h) {s f v : Int32} : Ok 290 0 [.ref (A 0), .int s, .int f, .int v, .ref (A 39), mk0] [] h 3 18 (fun r h1 => ∃ k : Int32, r = .inl (some (.int k)) ∧ g_c h1 (A 22) = 9 ∧ Ok 176 0 [.ref (A 22), .int s, .int f, .int v] [] h1 0 0 (fun r2 h2 => ∃ b : Int32, r2 = .inl (some (.int b)) ∧ Rl A h2 ∧ g_i h2 (A 22) 9 = k ∧ (k = 0 → g_l h2 (A 39) 0 = b.toInt64))) := by
  obtain ⟨vk, vcn, v0, v1, v2, vp, vl0, vl1, vlr, vsr, vc, tx⟩ := R
  have vk0 := vk
  have vcn0 := vcn
  (refine K_el vk0 ?_; intros hA kc0 kc1 kc2 kc3 kc4 kc5 kc6 kc7 kc8 kc9 kc10 kc11 kc12 kc13 kc14 kc15 kc16 kc17 kc18 kc19 kc20 kc21 kc22 kc23 kc24 kc25 kc26 kc27 kc28 kc29 kc30 kc31 kc32 kc33 kc34 kc35 kc36 kc37 kc38 kc39 kz kt kn3 kn4 kn18 kn21 kn23 kn24 kn25 kn26 kn27 kn29 kn30 kr0_0 kr0_1 kr0_2 kr0_3 kr0_4 kr0_5 kr0_7 kr0_8 kr0_9 kr0_10 kr1_0 kr2_0 kr5_0 kr5_1 kr6_0 kr6_1 kr7_0 kr7_1 kr8_0 kr9_0 kr10_0 kr11_0 kr12_0 kr13_0 kr14_0 kr15_0 kr16_0 kr17_0 kr19_0 kr19_1 kr22_0 kr22_1 kr22_2 kr22_3 kr22_4 kr22_5 kr22_7 kr22_8 kr25_0 kr25_1 kr25_2 kr26_0 kr26_1 kr26_2 kr29_0 kr29_1)
  (refine Cn_el vcn0 ?_; intros ki5_2 ki6_2 ki7_2 ki8_1 ki8_2 ki8_3 ki9_1 ki9_2 ki9_3 ki10_1 ki10_2 ki10_3 ki11_1 ki11_2 ki11_3 ki12_1 ki12_2 ki12_3 ki13_1 ki13_2 ki13_3 ki14_1 ki14_2 ki14_3 ki28_0 ki28_1 ki31_0 ki31_1 ki32_0 ki32_1 ki33_0 ki33_1 ki34_0 ki34_1 ki35_0 ki35_1 ki36_0 ki36_1)
  have hAe : ∀ i j, i < 40 → j < 40 → (A i = A j ↔ i = j) := hA
  by_cases bs : s < 0 ∨ ¬ s < 6
  · have bs2 : (¬ s < 0 ∧ s < 6) = False := nrng bs
    by_cases bf : (¬ f < 0 ∧ f < 4) <;> by_cases bv : (¬ v < -32768 ∧ v < 32768)
    all_goals
      simp only [o290_0, o290_2, o290_3, o290_4, o290_5, o290_6, o290_16, o290_18, o290_19, o290_20, o290_22, o290_23, o59_0, o59_1, o59_4, o59_5, o59_8, o59_9, o59_12, o59_13, o59_16, o59_17, o59_18, o59_19, o59_20, o59_21, o176_0, o176_1, o176_2, o176_5, o176_8, o176_9, o176_12, o176_13, o176_14, o176_17, o176_20, o176_21, o176_24, o176_27, o176_28, o176_31, o176_32, o176_35, o176_38, o176_39, o176_40, o176_41, o176_42, o176_44, o176_45, o176_46, o176_47, o176_48, o176_49, o176_50, o176_51, hx_290_1, hx_290_2, c_X5_checkSlot, c_X8_isSlot, c_X8_isThrown_, c_X5_checkFourth, c_X8_isFourth, c_X5_checkValue, c_X8_isShort, mc_pi, mc_pT, mi_pi, mi_pT, ml_pi, ml_pT, mz_pT, mcs_0, mcs_i, mcs_r, Kn_v, Kn_0, Kn_x, mrf_some, true_and, and_true, or_false, false_or, not_true_eq_false, not_false_eq_true, false_implies, forall_const, if_true, if_false, and_self, Nat.reduceLeDiff, Nat.reduceSub, Nat.reduceAdd, Nat.zero_le, Nat.le_refl, i10, Sum.inl.injEq, Option.some.injEq, Value.int.injEq, exists_eq_left', Nat.reduceLT, i20, kc0, kc22, kr0_9, kz, bs, bs2, bf, bv]
      intro t ht
      first | refine ⟨⟨?_, ?_, ?_, ?_, ?_, ?_, ?_, ?_, ?_, ?_, ?_, ?_⟩, rfl⟩ | refine ⟨?_, ?_, ?_, ?_, ?_, ?_, ?_, ?_, ?_, ?_, ?_, ?_⟩
      · (try simp only [K_pi])
        exact K_pT ht vk
      · (try simp only [Cn_pi_j22 hA, Cn_pT])
        exact vcn
      · (try simp only [Vq0_pi_j22 hA, Vq0_pT])
        exact v0
      · (try simp only [Vq1_pi_j22 hA, Vq1_pT])
        exact v1
      · (try simp only [Vq2_pi_j22 hA, Vq2_pT])
        exact v2
      · (try simp only [Vp_thr hA, Vp_pT])
        exact vp
      · (try simp only [Vl0_pi_j22 hA, Vl0_pT])
        exact vl0
      · (try simp only [Vl1_pi_j22 hA, Vl1_pT])
        exact vl1
      · (try simp only [Vlr_pi_j22 hA, Vlr_pT])
        exact vlr
      · (try simp only [Vsr_pi_j22 hA, Vsr_pT])
        exact vsr
      · (try simp only [Vc_pi_j22 hA, Vc_pT])
        exact vc
      · (try simp only [Tx_pi_j22 hA])
        exact Tx_pT ht tx
  · have s1 : ¬ s < 0 := fun z => bs (Or.inl z)
    have s2 : s < 6 := Classical.byContradiction fun z => bs (Or.inr z)
    have hs := ix_ok s1 s2
    have hs2 := hs
    obtain ⟨⟨j0, j1, j2, j3⟩, d01, d02, d03, d10, d12, d13, d20, d21, d23, d30, d31, d32⟩ := hs2
    obtain ⟨l0, l1, l2, l3⟩ := ix_lt hs
    have vs0 := (vsr _ l0).1
    have vs1 := (vsr _ l1).1
    have vs2 := (vsr _ l2).1
    have vs3 := (vsr _ l3).1
    have bs2 : (¬ s < 0 ∧ s < 6) = True := eq_true ⟨s1, s2⟩
    by_cases bf : f < 0 ∨ ¬ f < 4
    · have bf2 : (¬ f < 0 ∧ f < 4) = False := nrng bf
      by_cases bv : (¬ v < -32768 ∧ v < 32768)
      all_goals
        simp only [o290_0, o290_2, o290_3, o290_4, o290_5, o290_6, o290_16, o290_18, o290_19, o290_20, o290_22, o290_23, o59_0, o59_1, o59_4, o59_5, o59_8, o59_9, o59_12, o59_13, o59_16, o59_17, o59_18, o59_19, o59_20, o59_21, o176_0, o176_1, o176_2, o176_5, o176_8, o176_9, o176_12, o176_13, o176_14, o176_17, o176_20, o176_21, o176_24, o176_27, o176_28, o176_31, o176_32, o176_35, o176_38, o176_39, o176_40, o176_41, o176_42, o176_44, o176_45, o176_46, o176_47, o176_48, o176_49, o176_50, o176_51, hx_290_1, hx_290_2, c_X5_checkSlot, c_X8_isSlot, c_X8_isThrown_, c_X5_checkFourth, c_X8_isFourth, c_X5_checkValue, c_X8_isShort, mc_pi, mc_pT, mi_pi, mi_pT, ml_pi, ml_pT, mz_pT, mcs_0, mcs_i, mcs_r, Kn_v, Kn_0, Kn_x, mrf_some, true_and, and_true, and_false, or_false, false_or, not_true_eq_false, not_false_eq_true, false_implies, forall_const, if_true, if_false, and_self, Nat.reduceLeDiff, Nat.reduceSub, Nat.reduceAdd, Nat.zero_le, Nat.le_refl, i10, Sum.inl.injEq, Option.some.injEq, Value.int.injEq, exists_eq_left', Nat.reduceLT, i20, kc0, kc22, kr0_9, kz, bf, bf2, bv, s1, s2]
        intro t ht
        first | refine ⟨⟨?_, ?_, ?_, ?_, ?_, ?_, ?_, ?_, ?_, ?_, ?_, ?_⟩, rfl⟩ | refine ⟨?_, ?_, ?_, ?_, ?_, ?_, ?_, ?_, ?_, ?_, ?_, ?_⟩
        · (try simp only [K_pi])
          exact K_pT ht vk
        · (try simp only [Cn_pi_j22 hA, Cn_pT])
          exact vcn
        · (try simp only [Vq0_pi_j22 hA, Vq0_pT])
          exact v0
        · (try simp only [Vq1_pi_j22 hA, Vq1_pT])
          exact v1
        · (try simp only [Vq2_pi_j22 hA, Vq2_pT])
          exact v2
        · (try simp only [Vp_thr hA, Vp_pT])
          exact vp
        · (try simp only [Vl0_pi_j22 hA, Vl0_pT])
          exact vl0
        · (try simp only [Vl1_pi_j22 hA, Vl1_pT])
          exact vl1
        · (try simp only [Vlr_pi_j22 hA, Vlr_pT])
          exact vlr
        · (try simp only [Vsr_pi_j22 hA, Vsr_pT])
          exact vsr
        · (try simp only [Vc_pi_j22 hA, Vc_pT])
          exact vc
        · (try simp only [Tx_pi_j22 hA])
          exact Tx_pT ht tx
    · have f1 : ¬ f < 0 := fun z => bf (Or.inl z)
      have f2 : f < 4 := Classical.byContradiction fun z => bf (Or.inr z)
      have bf2 : (¬ f < 0 ∧ f < 4) = True := eq_true ⟨f1, f2⟩
      have hj := ixf_ok s1 s2 f1 f2
      have hv := hj.2.2
      have vsf := (vsr _ (rdy_lt hj)).1
      by_cases bv : v < -32768 ∨ 32767 < v
      · have bv2 := sh_bad bv
        simp only [o290_0, o290_2, o290_3, o290_4, o290_5, o290_6, o290_16, o290_18, o290_19, o290_20, o290_22, o290_23, o59_0, o59_1, o59_4, o59_5, o59_8, o59_9, o59_12, o59_13, o59_16, o59_17, o59_18, o59_19, o59_20, o59_21, o176_0, o176_1, o176_2, o176_5, o176_8, o176_9, o176_12, o176_13, o176_14, o176_17, o176_20, o176_21, o176_24, o176_27, o176_28, o176_31, o176_32, o176_35, o176_38, o176_39, o176_40, o176_41, o176_42, o176_44, o176_45, o176_46, o176_47, o176_48, o176_49, o176_50, o176_51, hx_290_1, hx_290_2, c_X5_checkSlot, c_X8_isSlot, c_X8_isThrown_, c_X5_checkFourth, c_X8_isFourth, c_X5_checkValue, c_X8_isShort, mc_pi, mc_pT, mi_pi, mi_pT, ml_pi, ml_pT, mz_pT, mcs_0, mcs_i, mcs_r, Kn_v, Kn_0, Kn_x, mrf_some, true_and, and_true, and_false, or_false, not_true_eq_false, not_false_eq_true, false_implies, forall_const, if_true, if_false, and_self, Nat.reduceLeDiff, Nat.reduceSub, Nat.reduceAdd, Nat.zero_le, Nat.le_refl, i10, Sum.inl.injEq, Option.some.injEq, Value.int.injEq, exists_eq_left', Nat.reduceLT, i20, kc0, kc22, kr0_9, kz, f1, f2, bv, bv2, s1, s2]
        intro t ht
        first | refine ⟨⟨?_, ?_, ?_, ?_, ?_, ?_, ?_, ?_, ?_, ?_, ?_, ?_⟩, rfl⟩ | refine ⟨?_, ?_, ?_, ?_, ?_, ?_, ?_, ?_, ?_, ?_, ?_, ?_⟩
        · (try simp only [K_pi])
          exact K_pT ht vk
        · (try simp only [Cn_pi_j22 hA, Cn_pT])
          exact vcn
        · (try simp only [Vq0_pi_j22 hA, Vq0_pT])
          exact v0
        · (try simp only [Vq1_pi_j22 hA, Vq1_pT])
          exact v1
        · (try simp only [Vq2_pi_j22 hA, Vq2_pT])
          exact v2
        · (try simp only [Vp_thr hA, Vp_pT])
          exact vp
        · (try simp only [Vl0_pi_j22 hA, Vl0_pT])
          exact vl0
        · (try simp only [Vl1_pi_j22 hA, Vl1_pT])
          exact vl1
        · (try simp only [Vlr_pi_j22 hA, Vlr_pT])
          exact vlr
        · (try simp only [Vsr_pi_j22 hA, Vsr_pT])
          exact vsr
        · (try simp only [Vc_pi_j22 hA, Vc_pT])
          exact vc
        · (try simp only [Tx_pi_j22 hA])
          exact Tx_pT ht tx
      · have v3 : ¬ v < -32768 := fun z => bv (Or.inl z)
        have v4 : ¬ 32767 < v := fun z => bv (Or.inr z)
        obtain ⟨v5, v6⟩ := sh_rng v3 v4
        have bv2 : (¬ v < -32768 ∧ v < 32768) = True := eq_true ⟨v3, v5⟩
        by_cases be : g_i h (A 24) (11 + 4 * s + f).toNatClampNeg = v
        all_goals
          simp only [o290_0, o290_2, o290_3, o290_4, o290_5, o290_6, o290_9, o290_10, o290_13, o290_16, o290_18, o290_19, o290_20, o290_22, o290_23, o290_24, o290_25, o59_0, o59_1, o59_4, o59_5, o59_8, o59_9, o59_12, o59_13, o59_16, o59_17, o59_18, o59_19, o59_20, o59_21, o59_24, o59_27, o59_28, o59_31, o59_32, o59_35, o176_0, o176_1, o176_2, o176_5, o176_8, o176_9, o176_12, o176_13, o176_14, o176_17, o176_20, o176_21, o176_24, o176_27, o176_28, o176_31, o176_32, o176_35, o176_38, o176_39, o176_40, o176_41, o176_42, o176_44, o176_45, o176_46, o176_47, o176_48, o176_49, o176_50, o176_51, o176_54, o176_57, hx_290_1, hx_290_2, c_X5_checkSlot, c_X8_isSlot, c_X8_isThrown_, c_X5_checkFourth, c_X8_isFourth, c_X5_checkValue, c_X8_isShort, c_X5_changeFourth (rw := A 2) (cs := A 4), c_X8_writeShort (sr := A 24), c_X0_done (cs := A 18), c_X8_done (cs := A 30), mc_pi, mc_pl, mc_pT, mn_pi, mn_pl, mn_pT, mi_pi, mi_pl, mi_pT, ml_pi, ml_pl, ml_pT, mr_pi, mr_pl, mr_pT, mz_pi, mz_pl, mz_pT, mcs_0, mcs_i, mcs_r, Kn_v, Kn_0, Kn_x, mrf_some, true_and, and_true, false_and, and_false, or_false, not_true_eq_false, not_false_eq_true, false_implies, implies_true, forall_const, if_true, if_false, and_self, Nat.reduceEqDiff, Nat.reduceLeDiff, Nat.reduceSub, Nat.reduceAdd, Nat.zero_le, Nat.le_refl, i10, i01, Kc_v, Sum.inl.injEq, Option.some.injEq, Value.int.injEq, exists_eq_left', Nat.reduceLT, hAe, i20, kc0, kc2, kc4, kc17, kc18, kc22, kc24, kc30, kc39, kn4, kn18, kn24, kn30, kr0_1, kr0_9, kr2_0, kr17_0, kr22_1, kr22_8, kz, f1, f2, v3, v4, v5, be, hj, hv, vsf, s1, s2, i64_inj]
          first | refine ⟨⟨?_, ?_, ?_, ?_, ?_, ?_, ?_, ?_, ?_, ?_, ?_, ?_⟩, rfl⟩ | refine ⟨?_, ?_, ?_, ?_, ?_, ?_, ?_, ?_, ?_, ?_, ?_, ?_⟩
          · (try simp only [K_pi, K_pl])
            exact vk
          · (try simp only [Cn_pi_j18 hA, Cn_pi_j22 hA, Cn_pi_j30 hA, Cn_pi_j24 hA, Cn_pl])
            exact vcn
          · (try simp only [Vq0_pi_j18 hA, Vq0_pi_j22 hA, Vq0_pi_j30 hA, Vq0_pi_j24 hA, Vq0_pl])
            exact v0
          · (try simp only [Vq1_pi_j18 hA, Vq1_pi_j22 hA, Vq1_pi_j30 hA, Vq1_pi_j24 hA, Vq1_pl])
            exact v1
          · (try simp only [Vq2_pi_j18 hA, Vq2_pi_j22 hA, Vq2_pi_j30 hA, Vq2_pi_j24 hA, Vq2_pl])
            exact v2
          · (try simp only [Vp_pi_j18 hA, Vp_pi_j30 hA, Vp_pi_j24 hA, Vp_thr hA, Vp_pl])
            exact vp
          · (try simp only [Vl0_pi_j18 hA, Vl0_pi_j22 hA, Vl0_pi_j30 hA, Vl0_pi_j24 hA, Vl0_pl])
            exact vl0
          · (try simp only [Vl1_pi_j18 hA, Vl1_pi_j22 hA, Vl1_pi_j30 hA, Vl1_pi_j24 hA, Vl1_pl])
            exact vl1
          · (try simp only [Vlr_pi_j18 hA, Vlr_pi_j22 hA, Vlr_pi_j30 hA, Vlr_pi_j24 hA, Vlr_pl_j39 hA, Vlr_pl_j4 hA])
            exact vlr
          · refine Vsr_1 (i0 := (11 + 4 * s + f).toNatClampNeg) vsr v6 (fun k => ?_) (fun k => ?_) <;> simp only [mi_pi, mi_pl, ml_pi, ml_pl, hAe, Nat.reduceLT, Nat.reduceEqDiff, false_and, true_and, if_false]
          · refine Vc_of (c := 0) vc (by decide) (fun k => ?_) (fun k => ?_) <;> simp only [mi_pi, mi_pl, hAe, Nat.reduceLT, Nat.reduceEqDiff, false_and, true_and, if_false]
          · (try simp only [Tx_pi_j18 hA, Tx_pi_j22 hA, Tx_pi_j30 hA, Tx_pi_j24 hA, Tx_pl])
            exact tx
end
