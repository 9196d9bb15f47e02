theorem nx_SIGN_KIND : ((1783636000 : Int32) = 1718909296) = False := eq_false (by decide)
theorem nx_SIGN_HEAD : ((1783636000 : Int32) = 1785737832) = False := eq_false (by decide)
theorem nx_SIGN_STREAM : ((1783636000 : Int32) = 1785737827) = False := eq_false (by decide)
theorem nx_SIGN_SIZE : ((1783636000 : Int32) = 1768449138) = False := eq_false (by decide)
theorem nx_SIGN_BITS : ((1783636000 : Int32) = 1651532643) = False := eq_false (by decide)
theorem nx_SIGN_COLOUR : ((1783636000 : Int32) = 1668246642) = False := eq_false (by decide)
theorem nx_SIGN_PALETTE : ((1783636000 : Int32) = 1885564018) = False := eq_false (by decide)
theorem nx_SIGN_MAP : ((1783636000 : Int32) = 1668112752) = False := eq_false (by decide)
theorem nx_SIGN_CHANNELS : ((1783636000 : Int32) = 1667523942) = False := eq_false (by decide)
theorem nx_SIGN_RESOLUTION : ((1783636000 : Int32) = 1919251232) = False := eq_false (by decide)
theorem nx_SIGN_CAPTURE : ((1783636000 : Int32) = 1919251299) = False := eq_false (by decide)
theorem nx_SIGN_DISPLAY : ((1783636000 : Int32) = 1919251300) = False := eq_false (by decide)
theorem nx_KIND_SIGN : ((1718909296 : Int32) = 1783636000) = False := eq_false (by decide)
theorem nx_KIND_HEAD : ((1718909296 : Int32) = 1785737832) = False := eq_false (by decide)
theorem nx_KIND_STREAM : ((1718909296 : Int32) = 1785737827) = False := eq_false (by decide)
theorem nx_KIND_SIZE : ((1718909296 : Int32) = 1768449138) = False := eq_false (by decide)
theorem nx_KIND_BITS : ((1718909296 : Int32) = 1651532643) = False := eq_false (by decide)
theorem nx_KIND_COLOUR : ((1718909296 : Int32) = 1668246642) = False := eq_false (by decide)
theorem nx_KIND_PALETTE : ((1718909296 : Int32) = 1885564018) = False := eq_false (by decide)
theorem nx_KIND_MAP : ((1718909296 : Int32) = 1668112752) = False := eq_false (by decide)
theorem nx_KIND_CHANNELS : ((1718909296 : Int32) = 1667523942) = False := eq_false (by decide)
theorem nx_KIND_RESOLUTION : ((1718909296 : Int32) = 1919251232) = False := eq_false (by decide)
theorem nx_KIND_CAPTURE : ((1718909296 : Int32) = 1919251299) = False := eq_false (by decide)
theorem nx_KIND_DISPLAY : ((1718909296 : Int32) = 1919251300) = False := eq_false (by decide)
theorem nx_HEAD_SIGN : ((1785737832 : Int32) = 1783636000) = False := eq_false (by decide)
theorem nx_HEAD_KIND : ((1785737832 : Int32) = 1718909296) = False := eq_false (by decide)
theorem nx_HEAD_STREAM : ((1785737832 : Int32) = 1785737827) = False := eq_false (by decide)
theorem nx_HEAD_SIZE : ((1785737832 : Int32) = 1768449138) = False := eq_false (by decide)
theorem nx_HEAD_BITS : ((1785737832 : Int32) = 1651532643) = False := eq_false (by decide)
theorem nx_HEAD_COLOUR : ((1785737832 : Int32) = 1668246642) = False := eq_false (by decide)
theorem nx_HEAD_PALETTE : ((1785737832 : Int32) = 1885564018) = False := eq_false (by decide)
theorem nx_HEAD_MAP : ((1785737832 : Int32) = 1668112752) = False := eq_false (by decide)
theorem nx_HEAD_CHANNELS : ((1785737832 : Int32) = 1667523942) = False := eq_false (by decide)
theorem nx_HEAD_RESOLUTION : ((1785737832 : Int32) = 1919251232) = False := eq_false (by decide)
theorem nx_HEAD_CAPTURE : ((1785737832 : Int32) = 1919251299) = False := eq_false (by decide)
theorem nx_HEAD_DISPLAY : ((1785737832 : Int32) = 1919251300) = False := eq_false (by decide)
theorem nx_STREAM_SIGN : ((1785737827 : Int32) = 1783636000) = False := eq_false (by decide)
theorem nx_STREAM_KIND : ((1785737827 : Int32) = 1718909296) = False := eq_false (by decide)
theorem nx_STREAM_HEAD : ((1785737827 : Int32) = 1785737832) = False := eq_false (by decide)
theorem nx_STREAM_SIZE : ((1785737827 : Int32) = 1768449138) = False := eq_false (by decide)
theorem nx_STREAM_BITS : ((1785737827 : Int32) = 1651532643) = False := eq_false (by decide)
theorem nx_STREAM_COLOUR : ((1785737827 : Int32) = 1668246642) = False := eq_false (by decide)
theorem nx_STREAM_PALETTE : ((1785737827 : Int32) = 1885564018) = False := eq_false (by decide)
theorem nx_STREAM_MAP : ((1785737827 : Int32) = 1668112752) = False := eq_false (by decide)
theorem nx_STREAM_CHANNELS : ((1785737827 : Int32) = 1667523942) = False := eq_false (by decide)
theorem nx_STREAM_RESOLUTION : ((1785737827 : Int32) = 1919251232) = False := eq_false (by decide)
theorem nx_STREAM_CAPTURE : ((1785737827 : Int32) = 1919251299) = False := eq_false (by decide)
theorem nx_STREAM_DISPLAY : ((1785737827 : Int32) = 1919251300) = False := eq_false (by decide)
theorem nx_SIZE_SIGN : ((1768449138 : Int32) = 1783636000) = False := eq_false (by decide)
theorem nx_SIZE_KIND : ((1768449138 : Int32) = 1718909296) = False := eq_false (by decide)
theorem nx_SIZE_HEAD : ((1768449138 : Int32) = 1785737832) = False := eq_false (by decide)
theorem nx_SIZE_STREAM : ((1768449138 : Int32) = 1785737827) = False := eq_false (by decide)
theorem nx_SIZE_BITS : ((1768449138 : Int32) = 1651532643) = False := eq_false (by decide)
theorem nx_SIZE_COLOUR : ((1768449138 : Int32) = 1668246642) = False := eq_false (by decide)
theorem nx_SIZE_PALETTE : ((1768449138 : Int32) = 1885564018) = False := eq_false (by decide)
theorem nx_SIZE_MAP : ((1768449138 : Int32) = 1668112752) = False := eq_false (by decide)
theorem nx_SIZE_CHANNELS : ((1768449138 : Int32) = 1667523942) = False := eq_false (by decide)
theorem nx_SIZE_RESOLUTION : ((1768449138 : Int32) = 1919251232) = False := eq_false (by decide)
theorem nx_SIZE_CAPTURE : ((1768449138 : Int32) = 1919251299) = False := eq_false (by decide)
theorem nx_SIZE_DISPLAY : ((1768449138 : Int32) = 1919251300) = False := eq_false (by decide)
theorem nx_BITS_SIGN : ((1651532643 : Int32) = 1783636000) = False := eq_false (by decide)
theorem nx_BITS_KIND : ((1651532643 : Int32) = 1718909296) = False := eq_false (by decide)
theorem nx_BITS_HEAD : ((1651532643 : Int32) = 1785737832) = False := eq_false (by decide)
theorem nx_BITS_STREAM : ((1651532643 : Int32) = 1785737827) = False := eq_false (by decide)
theorem nx_BITS_SIZE : ((1651532643 : Int32) = 1768449138) = False := eq_false (by decide)
theorem nx_BITS_COLOUR : ((1651532643 : Int32) = 1668246642) = False := eq_false (by decide)
theorem nx_BITS_PALETTE : ((1651532643 : Int32) = 1885564018) = False := eq_false (by decide)
theorem nx_BITS_MAP : ((1651532643 : Int32) = 1668112752) = False := eq_false (by decide)
theorem nx_BITS_CHANNELS : ((1651532643 : Int32) = 1667523942) = False := eq_false (by decide)
theorem nx_BITS_RESOLUTION : ((1651532643 : Int32) = 1919251232) = False := eq_false (by decide)
theorem nx_BITS_CAPTURE : ((1651532643 : Int32) = 1919251299) = False := eq_false (by decide)
theorem nx_BITS_DISPLAY : ((1651532643 : Int32) = 1919251300) = False := eq_false (by decide)
theorem nx_COLOUR_SIGN : ((1668246642 : Int32) = 1783636000) = False := eq_false (by decide)
theorem nx_COLOUR_KIND : ((1668246642 : Int32) = 1718909296) = False := eq_false (by decide)
theorem nx_COLOUR_HEAD : ((1668246642 : Int32) = 1785737832) = False := eq_false (by decide)
theorem nx_COLOUR_STREAM : ((1668246642 : Int32) = 1785737827) = False := eq_false (by decide)
theorem nx_COLOUR_SIZE : ((1668246642 : Int32) = 1768449138) = False := eq_false (by decide)
theorem nx_COLOUR_BITS : ((1668246642 : Int32) = 1651532643) = False := eq_false (by decide)
theorem nx_COLOUR_PALETTE : ((1668246642 : Int32) = 1885564018) = False := eq_false (by decide)
theorem nx_COLOUR_MAP : ((1668246642 : Int32) = 1668112752) = False := eq_false (by decide)
theorem nx_COLOUR_CHANNELS : ((1668246642 : Int32) = 1667523942) = False := eq_false (by decide)
theorem nx_COLOUR_RESOLUTION : ((1668246642 : Int32) = 1919251232) = False := eq_false (by decide)
theorem nx_COLOUR_CAPTURE : ((1668246642 : Int32) = 1919251299) = False := eq_false (by decide)
theorem nx_COLOUR_DISPLAY : ((1668246642 : Int32) = 1919251300) = False := eq_false (by decide)
theorem nx_PALETTE_SIGN : ((1885564018 : Int32) = 1783636000) = False := eq_false (by decide)
theorem nx_PALETTE_KIND : ((1885564018 : Int32) = 1718909296) = False := eq_false (by decide)
theorem nx_PALETTE_HEAD : ((1885564018 : Int32) = 1785737832) = False := eq_false (by decide)
theorem nx_PALETTE_STREAM : ((1885564018 : Int32) = 1785737827) = False := eq_false (by decide)
theorem nx_PALETTE_SIZE : ((1885564018 : Int32) = 1768449138) = False := eq_false (by decide)
theorem nx_PALETTE_BITS : ((1885564018 : Int32) = 1651532643) = False := eq_false (by decide)
theorem nx_PALETTE_COLOUR : ((1885564018 : Int32) = 1668246642) = False := eq_false (by decide)
theorem nx_PALETTE_MAP : ((1885564018 : Int32) = 1668112752) = False := eq_false (by decide)
theorem nx_PALETTE_CHANNELS : ((1885564018 : Int32) = 1667523942) = False := eq_false (by decide)
theorem nx_PALETTE_RESOLUTION : ((1885564018 : Int32) = 1919251232) = False := eq_false (by decide)
theorem nx_PALETTE_CAPTURE : ((1885564018 : Int32) = 1919251299) = False := eq_false (by decide)
theorem nx_PALETTE_DISPLAY : ((1885564018 : Int32) = 1919251300) = False := eq_false (by decide)
theorem nx_MAP_SIGN : ((1668112752 : Int32) = 1783636000) = False := eq_false (by decide)
theorem nx_MAP_KIND : ((1668112752 : Int32) = 1718909296) = False := eq_false (by decide)
theorem nx_MAP_HEAD : ((1668112752 : Int32) = 1785737832) = False := eq_false (by decide)
theorem nx_MAP_STREAM : ((1668112752 : Int32) = 1785737827) = False := eq_false (by decide)
theorem nx_MAP_SIZE : ((1668112752 : Int32) = 1768449138) = False := eq_false (by decide)
theorem nx_MAP_BITS : ((1668112752 : Int32) = 1651532643) = False := eq_false (by decide)
theorem nx_MAP_COLOUR : ((1668112752 : Int32) = 1668246642) = False := eq_false (by decide)
theorem nx_MAP_PALETTE : ((1668112752 : Int32) = 1885564018) = False := eq_false (by decide)
theorem nx_MAP_CHANNELS : ((1668112752 : Int32) = 1667523942) = False := eq_false (by decide)
theorem nx_MAP_RESOLUTION : ((1668112752 : Int32) = 1919251232) = False := eq_false (by decide)
theorem nx_MAP_CAPTURE : ((1668112752 : Int32) = 1919251299) = False := eq_false (by decide)
theorem nx_MAP_DISPLAY : ((1668112752 : Int32) = 1919251300) = False := eq_false (by decide)
theorem nx_CHANNELS_SIGN : ((1667523942 : Int32) = 1783636000) = False := eq_false (by decide)
theorem nx_CHANNELS_KIND : ((1667523942 : Int32) = 1718909296) = False := eq_false (by decide)
theorem nx_CHANNELS_HEAD : ((1667523942 : Int32) = 1785737832) = False := eq_false (by decide)
theorem nx_CHANNELS_STREAM : ((1667523942 : Int32) = 1785737827) = False := eq_false (by decide)
theorem nx_CHANNELS_SIZE : ((1667523942 : Int32) = 1768449138) = False := eq_false (by decide)
theorem nx_CHANNELS_BITS : ((1667523942 : Int32) = 1651532643) = False := eq_false (by decide)
theorem nx_CHANNELS_COLOUR : ((1667523942 : Int32) = 1668246642) = False := eq_false (by decide)
theorem nx_CHANNELS_PALETTE : ((1667523942 : Int32) = 1885564018) = False := eq_false (by decide)
theorem nx_CHANNELS_MAP : ((1667523942 : Int32) = 1668112752) = False := eq_false (by decide)
theorem nx_CHANNELS_RESOLUTION : ((1667523942 : Int32) = 1919251232) = False := eq_false (by decide)
theorem nx_CHANNELS_CAPTURE : ((1667523942 : Int32) = 1919251299) = False := eq_false (by decide)
theorem nx_CHANNELS_DISPLAY : ((1667523942 : Int32) = 1919251300) = False := eq_false (by decide)
theorem nx_RESOLUTION_SIGN : ((1919251232 : Int32) = 1783636000) = False := eq_false (by decide)
theorem nx_RESOLUTION_KIND : ((1919251232 : Int32) = 1718909296) = False := eq_false (by decide)
theorem nx_RESOLUTION_HEAD : ((1919251232 : Int32) = 1785737832) = False := eq_false (by decide)
theorem nx_RESOLUTION_STREAM : ((1919251232 : Int32) = 1785737827) = False := eq_false (by decide)
theorem nx_RESOLUTION_SIZE : ((1919251232 : Int32) = 1768449138) = False := eq_false (by decide)
theorem nx_RESOLUTION_BITS : ((1919251232 : Int32) = 1651532643) = False := eq_false (by decide)
theorem nx_RESOLUTION_COLOUR : ((1919251232 : Int32) = 1668246642) = False := eq_false (by decide)
theorem nx_RESOLUTION_PALETTE : ((1919251232 : Int32) = 1885564018) = False := eq_false (by decide)
theorem nx_RESOLUTION_MAP : ((1919251232 : Int32) = 1668112752) = False := eq_false (by decide)
theorem nx_RESOLUTION_CHANNELS : ((1919251232 : Int32) = 1667523942) = False := eq_false (by decide)
theorem nx_RESOLUTION_CAPTURE : ((1919251232 : Int32) = 1919251299) = False := eq_false (by decide)
theorem nx_RESOLUTION_DISPLAY : ((1919251232 : Int32) = 1919251300) = False := eq_false (by decide)
theorem nx_CAPTURE_SIGN : ((1919251299 : Int32) = 1783636000) = False := eq_false (by decide)
theorem nx_CAPTURE_KIND : ((1919251299 : Int32) = 1718909296) = False := eq_false (by decide)
theorem nx_CAPTURE_HEAD : ((1919251299 : Int32) = 1785737832) = False := eq_false (by decide)
theorem nx_CAPTURE_STREAM : ((1919251299 : Int32) = 1785737827) = False := eq_false (by decide)
theorem nx_CAPTURE_SIZE : ((1919251299 : Int32) = 1768449138) = False := eq_false (by decide)
theorem nx_CAPTURE_BITS : ((1919251299 : Int32) = 1651532643) = False := eq_false (by decide)
theorem nx_CAPTURE_COLOUR : ((1919251299 : Int32) = 1668246642) = False := eq_false (by decide)
theorem nx_CAPTURE_PALETTE : ((1919251299 : Int32) = 1885564018) = False := eq_false (by decide)
theorem nx_CAPTURE_MAP : ((1919251299 : Int32) = 1668112752) = False := eq_false (by decide)
theorem nx_CAPTURE_CHANNELS : ((1919251299 : Int32) = 1667523942) = False := eq_false (by decide)
theorem nx_CAPTURE_RESOLUTION : ((1919251299 : Int32) = 1919251232) = False := eq_false (by decide)
theorem nx_CAPTURE_DISPLAY : ((1919251299 : Int32) = 1919251300) = False := eq_false (by decide)
theorem nx_DISPLAY_SIGN : ((1919251300 : Int32) = 1783636000) = False := eq_false (by decide)
theorem nx_DISPLAY_KIND : ((1919251300 : Int32) = 1718909296) = False := eq_false (by decide)
theorem nx_DISPLAY_HEAD : ((1919251300 : Int32) = 1785737832) = False := eq_false (by decide)
theorem nx_DISPLAY_STREAM : ((1919251300 : Int32) = 1785737827) = False := eq_false (by decide)
theorem nx_DISPLAY_SIZE : ((1919251300 : Int32) = 1768449138) = False := eq_false (by decide)
theorem nx_DISPLAY_BITS : ((1919251300 : Int32) = 1651532643) = False := eq_false (by decide)
theorem nx_DISPLAY_COLOUR : ((1919251300 : Int32) = 1668246642) = False := eq_false (by decide)
theorem nx_DISPLAY_PALETTE : ((1919251300 : Int32) = 1885564018) = False := eq_false (by decide)
theorem nx_DISPLAY_MAP : ((1919251300 : Int32) = 1668112752) = False := eq_false (by decide)
theorem nx_DISPLAY_CHANNELS : ((1919251300 : Int32) = 1667523942) = False := eq_false (by decide)
theorem nx_DISPLAY_RESOLUTION : ((1919251300 : Int32) = 1919251232) = False := eq_false (by decide)
theorem nx_DISPLAY_CAPTURE : ((1919251300 : Int32) = 1919251299) = False := eq_false (by decide)
def sN (h z b p m c r k d : Bool) : Nat := (bif h then 1 else 0) + (bif z then 2 else 0) + (bif b then 4 else 0) + (bif p then 8 else 0) + (bif m then 16 else 0) + (bif c then 32 else 0) + (bif r then 64 else 0) + (bif k then 128 else 0) + (bif d then 256 else 0)
theorem fl_w1 : ∀ h z b p m c r k d : Bool, m_Sc_was (nI (sN h z b p m c r k d)) 1 = (bif h then 1 else 0) := by decide +kernel
theorem fl_s1 : ∀ h z b p m c r k d : Bool, nI (sN h z b p m c r k d) ||| 1 = nI (sN true z b p m c r k d) := by decide +kernel
theorem fl_w2 : ∀ h z b p m c r k d : Bool, m_Sc_was (nI (sN h z b p m c r k d)) 2 = (bif z then 1 else 0) := by decide +kernel
theorem fl_s2 : ∀ h z b p m c r k d : Bool, nI (sN h z b p m c r k d) ||| 2 = nI (sN h true b p m c r k d) := by decide +kernel
theorem fl_w4 : ∀ h z b p m c r k d : Bool, m_Sc_was (nI (sN h z b p m c r k d)) 4 = (bif b then 1 else 0) := by decide +kernel
theorem fl_s4 : ∀ h z b p m c r k d : Bool, nI (sN h z b p m c r k d) ||| 4 = nI (sN h z true p m c r k d) := by decide +kernel
theorem fl_w8 : ∀ h z b p m c r k d : Bool, m_Sc_was (nI (sN h z b p m c r k d)) 8 = (bif p then 1 else 0) := by decide +kernel
theorem fl_s8 : ∀ h z b p m c r k d : Bool, nI (sN h z b p m c r k d) ||| 8 = nI (sN h z b true m c r k d) := by decide +kernel
theorem fl_w16 : ∀ h z b p m c r k d : Bool, m_Sc_was (nI (sN h z b p m c r k d)) 16 = (bif m then 1 else 0) := by decide +kernel
theorem fl_s16 : ∀ h z b p m c r k d : Bool, nI (sN h z b p m c r k d) ||| 16 = nI (sN h z b p true c r k d) := by decide +kernel
theorem fl_w32 : ∀ h z b p m c r k d : Bool, m_Sc_was (nI (sN h z b p m c r k d)) 32 = (bif c then 1 else 0) := by decide +kernel
theorem fl_s32 : ∀ h z b p m c r k d : Bool, nI (sN h z b p m c r k d) ||| 32 = nI (sN h z b p m true r k d) := by decide +kernel
theorem fl_w64 : ∀ h z b p m c r k d : Bool, m_Sc_was (nI (sN h z b p m c r k d)) 64 = (bif r then 1 else 0) := by decide +kernel
theorem fl_s64 : ∀ h z b p m c r k d : Bool, nI (sN h z b p m c r k d) ||| 64 = nI (sN h z b p m c true k d) := by decide +kernel
theorem fl_w128 : ∀ h z b p m c r k d : Bool, m_Sc_was (nI (sN h z b p m c r k d)) 128 = (bif k then 1 else 0) := by decide +kernel
theorem fl_s128 : ∀ h z b p m c r k d : Bool, nI (sN h z b p m c r k d) ||| 128 = nI (sN h z b p m c r true d) := by decide +kernel
theorem fl_w256 : ∀ h z b p m c r k d : Bool, m_Sc_was (nI (sN h z b p m c r k d)) 256 = (bif d then 1 else 0) := by decide +kernel
theorem fl_s256 : ∀ h z b p m c r k d : Bool, nI (sN h z b p m c r k d) ||| 256 = nI (sN h z b p m c r k true) := by decide +kernel
/-- the reference's tests of a box of HEAD, in their order -/
def hdWhy (w fi tw gr va : Int32) : Int32 := if w = 0 then (if fi = 0 then 3 else (if tw = 0 then (if gr = 0 then (if va = 0 then 5 else 0) else 7) else 4)) else 2
def hdOk (gf : Nat → Int32) (first zA bA cA pA mA hA rsv nm f e : Int32) : Prop :=
  om_Mo_isWrong nm zA pA gf first ∧ (m_Mo_isWrong nm zA pA gf first = 0 → om_Mo_fitsHead nm f e zA gf ∧ (¬ m_Mo_fitsHead nm f e zA gf = 0 → om_Mo_isTwice nm bA pA mA hA rsv ∧ (m_Mo_isTwice nm bA pA mA hA rsv = 0 → om_Mo_isGreat nm f e cA gf ∧ (m_Mo_isGreat nm f e cA gf = 0 → om_Mo_isValue nm f e zA pA gf))))
set_option maxHeartbeats 400000 in
theorem h_k22 (gf : Nat → Int32) (kk : Int32 → Int32 → Int32 → Int32 → Int32 → Int32 → Int32 → Int32 → Int32 → Int32 → Int32 → Int32 → Int32 → Int32 → Int32 → Int32 → Int32 → Int32 × Int32 × Int32 × Int32 × Int32 × Int32 × Int32 × Int32 × Int32 × Int32 × Int32 × Int32 × Int32 × Int32 × Int32 × Int32) (okk : Int32 → Int32 → Int32 → Int32 → Int32 → Int32 → Int32 → Int32 → Int32 → Int32 → Int32 → Int32 → Int32 → Int32 → Int32 → Int32 → Int32 → Prop) (first p ra zA bA cA cE pA mA mE hA kA dA rsv nm f e : Int32) :
    k_Mo_inHead_22 gf kk first p ra zA bA cA cE pA mA mE hA kA dA rsv ((0 : Int32), nm, f, e) = j_Mo_inHead_93 gf kk p ra zA bA cA cE pA mA mE hA kA dA rsv ((0 : Int32), nm, f, e) (hdWhy (m_Mo_isWrong nm zA pA gf first) (m_Mo_fitsHead nm f e zA gf) (m_Mo_isTwice nm bA pA mA hA rsv) (m_Mo_isGreat nm f e cA gf) (m_Mo_isValue nm f e zA pA gf)) ∧ (hdOk gf first zA bA cA pA mA hA rsv nm f e → oj_Mo_inHead_93 gf okk ra zA bA cA cE pA mA mE hA kA dA rsv ((0 : Int32), nm, f, e) (hdWhy (m_Mo_isWrong nm zA pA gf first) (m_Mo_fitsHead nm f e zA gf) (m_Mo_isTwice nm bA pA mA hA rsv) (m_Mo_isGreat nm f e cA gf) (m_Mo_isValue nm f e zA pA gf)) → ok_Mo_inHead_22 gf okk first ra zA bA cA cE pA mA mE hA kA dA rsv ((0 : Int32), nm, f, e)) := by
  have z : ((0 : Int32), nm, f, e).1 = 0 := rfl
  unfold k_Mo_inHead_22 ok_Mo_inHead_22 k_Mo_inHead_35 ok_Mo_inHead_35 hdOk hdWhy
  rw [if_pos z, if_pos z]
  by_cases w : m_Mo_isWrong nm zA pA gf first = 0
  · rw [if_pos w, if_pos w, if_pos w]
    unfold k_Mo_inHead_46 ok_Mo_inHead_46
    by_cases fi : m_Mo_fitsHead nm f e zA gf = 0
    · rw [if_pos fi, if_pos fi, if_pos fi]
      exact ⟨rfl, fun h1 h2 => ⟨h1.1, (h1.2 w).1, h2⟩⟩
    · rw [if_neg fi, if_neg fi, if_neg fi]
      unfold k_Mo_inHead_57 ok_Mo_inHead_57
      by_cases tw : m_Mo_isTwice nm bA pA mA hA rsv = 0
      · rw [if_pos tw, if_pos tw, if_pos tw]
        unfold k_Mo_inHead_68 ok_Mo_inHead_68
        by_cases gr : m_Mo_isGreat nm f e cA gf = 0
        · rw [if_pos gr, if_pos gr, if_pos gr]
          unfold k_Mo_inHead_80 ok_Mo_inHead_80
          by_cases va : m_Mo_isValue nm f e zA pA gf = 0
          · rw [if_pos va, if_pos va, if_pos va]
            exact ⟨rfl, fun h1 h2 => ⟨h1.1, (h1.2 w).1, ((h1.2 w).2 fi).1, (((h1.2 w).2 fi).2 tw).1, (((h1.2 w).2 fi).2 tw).2 gr, h2⟩⟩
          · rw [if_neg va, if_neg va, if_neg va]
            exact ⟨rfl, fun h1 h2 => ⟨h1.1, (h1.2 w).1, ((h1.2 w).2 fi).1, (((h1.2 w).2 fi).2 tw).1, (((h1.2 w).2 fi).2 tw).2 gr, h2⟩⟩
        · rw [if_neg gr, if_neg gr, if_neg gr]
          exact ⟨rfl, fun h1 h2 => ⟨h1.1, (h1.2 w).1, ((h1.2 w).2 fi).1, (((h1.2 w).2 fi).2 tw).1, h2⟩⟩
      · rw [if_neg tw, if_neg tw, if_neg tw]
        exact ⟨rfl, fun h1 h2 => ⟨h1.1, (h1.2 w).1, ((h1.2 w).2 fi).1, h2⟩⟩
  · rw [if_neg w, if_neg w, if_neg w]
    exact ⟨rfl, fun h1 h2 => ⟨h1.1, h2⟩⟩
