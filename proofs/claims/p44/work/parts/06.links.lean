theorem tin1 {w : Cond} (h : w ∈ tables_1_1) : w ∈ lw_tbl := List.mem_append_right _ (show w ∈ tables_1 from List.mem_append_left _ h)
theorem tin2 {w : Cond} (h : w ∈ tables_1_2) : w ∈ lw_tbl := List.mem_append_right _ (show w ∈ tables_1 from List.mem_append_right _ (List.mem_append_left _ h))
theorem tin3 {w : Cond} (h : w ∈ tables_1_3) : w ∈ lw_tbl := List.mem_append_right _ (show w ∈ tables_1 from List.mem_append_right _ (List.mem_append_right _ (h)))
abbrev rmX0_init : Room := { frames := 1, cells := 0, slots := 0, locals := 12 }
abbrev gX0_init (l : Launch) (D : va_G) (ck : Nat → ClassId) (ad : Nat → Nat) (sh : List Shp) := Go l D ck ad sh RX0 cX0_init 3 rmX0_init 0 (VW D ck ad sh)
abbrev eX0_init (l : Launch) (D : va_G) (ck : Nat → ClassId) (ad : Nat → Nat) (sh : List Shp) := Ev l D ck ad sh yX0_init cX0_init 3 none rmX0_init
abbrev rmX0_tally : Room := { frames := 4, cells := 0, slots := 0, locals := 88 }
abbrev gX0_tally (l : Launch) (D : va_G) (ck : Nat → ClassId) (ad : Nat → Nat) (sh : List Shp) := Go l D ck ad sh RX0 cX0_tally 2 rmX0_tally 0 (VW D ck ad sh)
abbrev eX0_tally (l : Launch) (D : va_G) (ck : Nat → ClassId) (ad : Nat → Nat) (sh : List Shp) := Ev l D ck ad sh yX0_tally cX0_tally 2 (some .int) rmX0_tally
abbrev rmX0_talliedUsing : Room := { frames := 0, cells := 0, slots := 0, locals := 0 }
abbrev gX0_talliedUsing (l : Launch) (D : va_G) (ck : Nat → ClassId) (ad : Nat → Nat) (sh : List Shp) := Go l D ck ad sh RX0 cX0_talliedUsing 2 rmX0_talliedUsing 0 (VW D ck ad sh)
abbrev eX0_talliedUsing (l : Launch) (D : va_G) (ck : Nat → ClassId) (ad : Nat → Nat) (sh : List Shp) := Ev l D ck ad sh yX0_talliedUsing cX0_talliedUsing 2 (some .int) rmX0_talliedUsing
abbrev rmX0_coloursUsed : Room := { frames := 1, cells := 0, slots := 0, locals := 20 }
abbrev gX0_coloursUsed (l : Launch) (D : va_G) (ck : Nat → ClassId) (ad : Nat → Nat) (sh : List Shp) := Go l D ck ad sh RX0 cX0_coloursUsed 3 rmX0_coloursUsed 0 (VW D ck ad sh)
abbrev eX0_coloursUsed (l : Launch) (D : va_G) (ck : Nat → ClassId) (ad : Nat → Nat) (sh : List Shp) := Ev l D ck ad sh yX0_coloursUsed cX0_coloursUsed 3 (some .int) rmX0_coloursUsed
abbrev rmX0_countWith : Room := { frames := 4, cells := 0, slots := 0, locals := 88 }
abbrev gX0_countWith (l : Launch) (D : va_G) (ck : Nat → ClassId) (ad : Nat → Nat) (sh : List Shp) := Go l D ck ad sh RX0 cX0_countWith 5 rmX0_countWith 0 (VW D ck ad sh)
abbrev eX0_countWith (l : Launch) (D : va_G) (ck : Nat → ClassId) (ad : Nat → Nat) (sh : List Shp) := Ev l D ck ad sh yX0_countWith cX0_countWith 5 (some .int) rmX0_countWith
abbrev rmX0_countAlike : Room := { frames := 4, cells := 0, slots := 0, locals := 88 }
abbrev gX0_countAlike (l : Launch) (D : va_G) (ck : Nat → ClassId) (ad : Nat → Nat) (sh : List Shp) := Go l D ck ad sh RX0 cX0_countAlike 5 rmX0_countAlike 0 (VW D ck ad sh)
abbrev eX0_countAlike (l : Launch) (D : va_G) (ck : Nat → ClassId) (ad : Nat → Nat) (sh : List Shp) := Ev l D ck ad sh yX0_countAlike cX0_countAlike 5 (some .int) rmX0_countAlike
abbrev rmX0_colourAt : Room := { frames := 4, cells := 0, slots := 0, locals := 88 }
abbrev gX0_colourAt (l : Launch) (D : va_G) (ck : Nat → ClassId) (ad : Nat → Nat) (sh : List Shp) := Go l D ck ad sh RX0 cX0_colourAt 4 rmX0_colourAt 0 (VW D ck ad sh)
abbrev eX0_colourAt (l : Launch) (D : va_G) (ck : Nat → ClassId) (ad : Nat → Nat) (sh : List Shp) := Ev l D ck ad sh yX0_colourAt cX0_colourAt 4 (some .int) rmX0_colourAt
abbrev rmX0_start : Room := { frames := 1, cells := 0, slots := 0, locals := 22 }
abbrev gX0_start (l : Launch) (D : va_G) (ck : Nat → ClassId) (ad : Nat → Nat) (sh : List Shp) := Go l D ck ad sh RX0 cX0_start 3 rmX0_start 0 (VW D ck ad sh)
abbrev eX0_start (l : Launch) (D : va_G) (ck : Nat → ClassId) (ad : Nat → Nat) (sh : List Shp) := Ev l D ck ad sh yX0_start cX0_start 3 none rmX0_start
abbrev rmX0_advance : Room := { frames := 3, cells := 0, slots := 0, locals := 67 }
abbrev gX0_advance (l : Launch) (D : va_G) (ck : Nat → ClassId) (ad : Nat → Nat) (sh : List Shp) := Go l D ck ad sh RX0 cX0_advance 2 rmX0_advance 0 (VW D ck ad sh)
abbrev eX0_advance (l : Launch) (D : va_G) (ck : Nat → ClassId) (ad : Nat → Nat) (sh : List Shp) := Ev l D ck ad sh yX0_advance cX0_advance 2 (some .boolean) rmX0_advance
abbrev rmX0_fits : Room := { frames := 2, cells := 0, slots := 0, locals := 46 }
abbrev gX0_fits (l : Launch) (D : va_G) (ck : Nat → ClassId) (ad : Nat → Nat) (sh : List Shp) := Go l D ck ad sh RX0 cX0_fits 2 rmX0_fits 0 (VW D ck ad sh)
abbrev eX0_fits (l : Launch) (D : va_G) (ck : Nat → ClassId) (ad : Nat → Nat) (sh : List Shp) := Ev l D ck ad sh yX0_fits cX0_fits 2 (some .boolean) rmX0_fits
abbrev rmX0_isMet : Room := { frames := 1, cells := 0, slots := 0, locals := 22 }
abbrev gX0_isMet (l : Launch) (D : va_G) (ck : Nat → ClassId) (ad : Nat → Nat) (sh : List Shp) := Go l D ck ad sh RX0 cX0_isMet 5 rmX0_isMet 0 (VW D ck ad sh)
abbrev eX0_isMet (l : Launch) (D : va_G) (ck : Nat → ClassId) (ad : Nat → Nat) (sh : List Shp) := Ev l D ck ad sh yX0_isMet cX0_isMet 5 (some .boolean) rmX0_isMet
abbrev rmX1_init : Room := { frames := 1, cells := 0, slots := 0, locals := 12 }
abbrev gX1_init (l : Launch) (D : va_G) (ck : Nat → ClassId) (ad : Nat → Nat) (sh : List Shp) := Go l D ck ad sh RX1 cX1_init 1 rmX1_init 0 (VW D ck ad sh)
abbrev eX1_init (l : Launch) (D : va_G) (ck : Nat → ClassId) (ad : Nat → Nat) (sh : List Shp) := Ev l D ck ad sh yX1_init cX1_init 1 none rmX1_init
abbrev rmX1_hasArc : Room := { frames := 0, cells := 0, slots := 0, locals := 0 }
abbrev gX1_hasArc (l : Launch) (D : va_G) (ck : Nat → ClassId) (ad : Nat → Nat) (sh : List Shp) := Go l D ck ad sh RX1 cX1_hasArc 2 rmX1_hasArc 0 (VW D ck ad sh)
abbrev eX1_hasArc (l : Launch) (D : va_G) (ck : Nat → ClassId) (ad : Nat → Nat) (sh : List Shp) := Ev l D ck ad sh yX1_hasArc cX1_hasArc 2 (some .boolean) rmX1_hasArc
abbrev rmX1_hasCrossing : Room := { frames := 0, cells := 0, slots := 0, locals := 0 }
abbrev gX1_hasCrossing (l : Launch) (D : va_G) (ck : Nat → ClassId) (ad : Nat → Nat) (sh : List Shp) := Go l D ck ad sh RX1 cX1_hasCrossing 2 rmX1_hasCrossing 0 (VW D ck ad sh)
abbrev eX1_hasCrossing (l : Launch) (D : va_G) (ck : Nat → ClassId) (ad : Nat → Nat) (sh : List Shp) := Ev l D ck ad sh yX1_hasCrossing cX1_hasCrossing 2 (some .boolean) rmX1_hasCrossing
abbrev rmX1_hasRoom : Room := { frames := 0, cells := 0, slots := 0, locals := 0 }
abbrev gX1_hasRoom (l : Launch) (D : va_G) (ck : Nat → ClassId) (ad : Nat → Nat) (sh : List Shp) := Go l D ck ad sh RX1 cX1_hasRoom 3 rmX1_hasRoom 0 (VW D ck ad sh)
abbrev eX1_hasRoom (l : Launch) (D : va_G) (ck : Nat → ClassId) (ad : Nat → Nat) (sh : List Shp) := Ev l D ck ad sh yX1_hasRoom cX1_hasRoom 3 (some .boolean) rmX1_hasRoom
abbrev rmX1_part : Room := { frames := 0, cells := 0, slots := 0, locals := 0 }
abbrev gX1_part (l : Launch) (D : va_G) (ck : Nat → ClassId) (ad : Nat → Nat) (sh : List Shp) := Go l D ck ad sh RX1 cX1_part 3 rmX1_part 0 (VW D ck ad sh)
abbrev eX1_part (l : Launch) (D : va_G) (ck : Nat → ClassId) (ad : Nat → Nat) (sh : List Shp) := Ev l D ck ad sh yX1_part cX1_part 3 (some .int) rmX1_part
abbrev rmX1_copyFrom : Room := { frames := 1, cells := 0, slots := 0, locals := 26 }
abbrev gX1_copyFrom (l : Launch) (D : va_G) (ck : Nat → ClassId) (ad : Nat → Nat) (sh : List Shp) := Go l D ck ad sh RX1 cX1_copyFrom 2 rmX1_copyFrom 0 (VW D ck ad sh)
abbrev eX1_copyFrom (l : Launch) (D : va_G) (ck : Nat → ClassId) (ad : Nat → Nat) (sh : List Shp) := Ev l D ck ad sh yX1_copyFrom cX1_copyFrom 2 none rmX1_copyFrom
abbrev rmX1_clear : Room := { frames := 0, cells := 0, slots := 0, locals := 0 }
abbrev gX1_clear (l : Launch) (D : va_G) (ck : Nat → ClassId) (ad : Nat → Nat) (sh : List Shp) := Go l D ck ad sh RX1 cX1_clear 2 rmX1_clear 0 (VW D ck ad sh)
abbrev eX1_clear (l : Launch) (D : va_G) (ck : Nat → ClassId) (ad : Nat → Nat) (sh : List Shp) := Ev l D ck ad sh yX1_clear cX1_clear 2 none rmX1_clear
abbrev rmX1_addArc : Room := { frames := 0, cells := 0, slots := 0, locals := 0 }
abbrev gX1_addArc (l : Launch) (D : va_G) (ck : Nat → ClassId) (ad : Nat → Nat) (sh : List Shp) := Go l D ck ad sh RX1 cX1_addArc 1 rmX1_addArc 0 (VW D ck ad sh)
abbrev eX1_addArc (l : Launch) (D : va_G) (ck : Nat → ClassId) (ad : Nat → Nat) (sh : List Shp) := Ev l D ck ad sh yX1_addArc cX1_addArc 1 (some .int) rmX1_addArc
abbrev rmX1_append : Room := { frames := 0, cells := 0, slots := 0, locals := 0 }
abbrev gX1_append (l : Launch) (D : va_G) (ck : Nat → ClassId) (ad : Nat → Nat) (sh : List Shp) := Go l D ck ad sh RX1 cX1_append 6 rmX1_append 0 (VW D ck ad sh)
abbrev eX1_append (l : Launch) (D : va_G) (ck : Nat → ClassId) (ad : Nat → Nat) (sh : List Shp) := Ev l D ck ad sh yX1_append cX1_append 6 none rmX1_append
abbrev rmX1_remove : Room := { frames := 1, cells := 0, slots := 0, locals := 26 }
abbrev gX1_remove (l : Launch) (D : va_G) (ck : Nat → ClassId) (ad : Nat → Nat) (sh : List Shp) := Go l D ck ad sh RX1 cX1_remove 3 rmX1_remove 0 (VW D ck ad sh)
abbrev eX1_remove (l : Launch) (D : va_G) (ck : Nat → ClassId) (ad : Nat → Nat) (sh : List Shp) := Ev l D ck ad sh yX1_remove cX1_remove 3 none rmX1_remove
abbrev rmX1_moveIn : Room := { frames := 1, cells := 0, slots := 0, locals := 22 }
abbrev gX1_moveIn (l : Launch) (D : va_G) (ck : Nat → ClassId) (ad : Nat → Nat) (sh : List Shp) := Go l D ck ad sh RX1 cX1_moveIn 4 rmX1_moveIn 0 (VW D ck ad sh)
abbrev eX1_moveIn (l : Launch) (D : va_G) (ck : Nat → ClassId) (ad : Nat → Nat) (sh : List Shp) := Ev l D ck ad sh yX1_moveIn cX1_moveIn 4 none rmX1_moveIn
abbrev rmX1_isClosed : Room := { frames := 2, cells := 0, slots := 0, locals := 46 }
abbrev gX1_isClosed (l : Launch) (D : va_G) (ck : Nat → ClassId) (ad : Nat → Nat) (sh : List Shp) := Go l D ck ad sh RX1 cX1_isClosed 3 rmX1_isClosed 0 (VW D ck ad sh)
abbrev eX1_isClosed (l : Launch) (D : va_G) (ck : Nat → ClassId) (ad : Nat → Nat) (sh : List Shp) := Ev l D ck ad sh yX1_isClosed cX1_isClosed 3 (some .boolean) rmX1_isClosed
abbrev rmX1_countAs : Room := { frames := 1, cells := 0, slots := 0, locals := 22 }
abbrev gX1_countAs (l : Launch) (D : va_G) (ck : Nat → ClassId) (ad : Nat → Nat) (sh : List Shp) := Go l D ck ad sh RX1 cX1_countAs 5 rmX1_countAs 0 (VW D ck ad sh)
abbrev eX1_countAs (l : Launch) (D : va_G) (ck : Nat → ClassId) (ad : Nat → Nat) (sh : List Shp) := Ev l D ck ad sh yX1_countAs cX1_countAs 5 (some .int) rmX1_countAs
abbrev rmX1_countComponents : Room := { frames := 2, cells := 0, slots := 0, locals := 47 }
abbrev gX1_countComponents (l : Launch) (D : va_G) (ck : Nat → ClassId) (ad : Nat → Nat) (sh : List Shp) := Go l D ck ad sh RX1 cX1_countComponents 4 rmX1_countComponents 0 (VW D ck ad sh)
abbrev eX1_countComponents (l : Launch) (D : va_G) (ck : Nat → ClassId) (ad : Nat → Nat) (sh : List Shp) := Ev l D ck ad sh yX1_countComponents cX1_countComponents 4 (some .int) rmX1_countComponents
abbrev rmX1_componentOf : Room := { frames := 1, cells := 0, slots := 0, locals := 22 }
abbrev gX1_componentOf (l : Launch) (D : va_G) (ck : Nat → ClassId) (ad : Nat → Nat) (sh : List Shp) := Go l D ck ad sh RX1 cX1_componentOf 6 rmX1_componentOf 0 (VW D ck ad sh)
abbrev eX1_componentOf (l : Launch) (D : va_G) (ck : Nat → ClassId) (ad : Nat → Nat) (sh : List Shp) := Ev l D ck ad sh yX1_componentOf cX1_componentOf 6 (some .int) rmX1_componentOf
abbrev rmX1_signSum : Room := { frames := 1, cells := 0, slots := 0, locals := 22 }
abbrev gX1_signSum (l : Launch) (D : va_G) (ck : Nat → ClassId) (ad : Nat → Nat) (sh : List Shp) := Go l D ck ad sh RX1 cX1_signSum 3 rmX1_signSum 0 (VW D ck ad sh)
abbrev eX1_signSum (l : Launch) (D : va_G) (ck : Nat → ClassId) (ad : Nat → Nat) (sh : List Shp) := Ev l D ck ad sh yX1_signSum cX1_signSum 3 (some .int) rmX1_signSum
abbrev rmX1_linkingSum : Room := { frames := 2, cells := 0, slots := 0, locals := 47 }
abbrev gX1_linkingSum (l : Launch) (D : va_G) (ck : Nat → ClassId) (ad : Nat → Nat) (sh : List Shp) := Go l D ck ad sh RX1 cX1_linkingSum 7 rmX1_linkingSum 0 (VW D ck ad sh)
abbrev eX1_linkingSum (l : Launch) (D : va_G) (ck : Nat → ClassId) (ad : Nat → Nat) (sh : List Shp) := Ev l D ck ad sh yX1_linkingSum cX1_linkingSum 7 (some .int) rmX1_linkingSum
abbrev rmX2_init : Room := { frames := 1, cells := 0, slots := 0, locals := 12 }
abbrev gX2_init (l : Launch) (D : va_G) (ck : Nat → ClassId) (ad : Nat → Nat) (sh : List Shp) := Go l D ck ad sh RX2 cX2_init 1 rmX2_init 0 (VW D ck ad sh)
abbrev eX2_init (l : Launch) (D : va_G) (ck : Nat → ClassId) (ad : Nat → Nat) (sh : List Shp) := Ev l D ck ad sh yX2_init cX2_init 1 none rmX2_init
abbrev rmX3_init : Room := { frames := 2, cells := 0, slots := 0, locals := 32 }
abbrev gX3_init (l : Launch) (D : va_G) (ck : Nat → ClassId) (ad : Nat → Nat) (sh : List Shp) := Go l D ck ad sh RX3 cX3_init 2 rmX3_init 0 (VW D ck ad sh)
abbrev eX3_init (l : Launch) (D : va_G) (ck : Nat → ClassId) (ad : Nat → Nat) (sh : List Shp) := Ev l D ck ad sh yX3_init cX3_init 2 none rmX3_init
abbrev rmX3_save : Room := { frames := 2, cells := 0, slots := 0, locals := 47 }
abbrev gX3_save (l : Launch) (D : va_G) (ck : Nat → ClassId) (ad : Nat → Nat) (sh : List Shp) := Go l D ck ad sh RX3 cX3_save 3 rmX3_save 0 (VW D ck ad sh)
abbrev eX3_save (l : Launch) (D : va_G) (ck : Nat → ClassId) (ad : Nat → Nat) (sh : List Shp) := Ev l D ck ad sh yX3_save cX3_save 3 none rmX3_save
abbrev rmX4_init : Room := { frames := 1, cells := 0, slots := 0, locals := 12 }
abbrev gX4_init (l : Launch) (D : va_G) (ck : Nat → ClassId) (ad : Nat → Nat) (sh : List Shp) := Go l D ck ad sh RX4 cX4_init 1 rmX4_init 0 (VW D ck ad sh)
abbrev eX4_init (l : Launch) (D : va_G) (ck : Nat → ClassId) (ad : Nat → Nat) (sh : List Shp) := Ev l D ck ad sh yX4_init cX4_init 1 none rmX4_init
abbrev rmX4_countCompositions : Room := { frames := 2, cells := 0, slots := 0, locals := 48 }
abbrev gX4_countCompositions (l : Launch) (D : va_G) (ck : Nat → ClassId) (ad : Nat → Nat) (sh : List Shp) := Go l D ck ad sh RX4 cX4_countCompositions 6 rmX4_countCompositions 0 (VW D ck ad sh)
abbrev eX4_countCompositions (l : Launch) (D : va_G) (ck : Nat → ClassId) (ad : Nat → Nat) (sh : List Shp) := Ev l D ck ad sh yX4_countCompositions cX4_countCompositions 6 (some .int) rmX4_countCompositions
abbrev rmX4_startAtIdentity : Room := { frames := 0, cells := 0, slots := 0, locals := 0 }
abbrev gX4_startAtIdentity (l : Launch) (D : va_G) (ck : Nat → ClassId) (ad : Nat → Nat) (sh : List Shp) := Go l D ck ad sh RX4 cX4_startAtIdentity 2 rmX4_startAtIdentity 0 (VW D ck ad sh)
abbrev eX4_startAtIdentity (l : Launch) (D : va_G) (ck : Nat → ClassId) (ad : Nat → Nat) (sh : List Shp) := Ev l D ck ad sh yX4_startAtIdentity cX4_startAtIdentity 2 none rmX4_startAtIdentity
abbrev rmX4_rankBehind : Room := { frames := 1, cells := 0, slots := 0, locals := 22 }
abbrev gX4_rankBehind (l : Launch) (D : va_G) (ck : Nat → ClassId) (ad : Nat → Nat) (sh : List Shp) := Go l D ck ad sh RX4 cX4_rankBehind 7 rmX4_rankBehind 0 (VW D ck ad sh)
abbrev eX4_rankBehind (l : Launch) (D : va_G) (ck : Nat → ClassId) (ad : Nat → Nat) (sh : List Shp) := Ev l D ck ad sh yX4_rankBehind cX4_rankBehind 7 (some .int) rmX4_rankBehind
abbrev rmX4_unrank : Room := { frames := 0, cells := 0, slots := 0, locals := 0 }
abbrev gX4_unrank (l : Launch) (D : va_G) (ck : Nat → ClassId) (ad : Nat → Nat) (sh : List Shp) := Go l D ck ad sh RX4 cX4_unrank 8 rmX4_unrank 0 (VW D ck ad sh)
abbrev eX4_unrank (l : Launch) (D : va_G) (ck : Nat → ClassId) (ad : Nat → Nat) (sh : List Shp) := Ev l D ck ad sh yX4_unrank cX4_unrank 8 none rmX4_unrank
abbrev rmX4_countAutomorphisms : Room := { frames := 2, cells := 0, slots := 0, locals := 45 }
abbrev gX4_countAutomorphisms (l : Launch) (D : va_G) (ck : Nat → ClassId) (ad : Nat → Nat) (sh : List Shp) := Go l D ck ad sh RX4 cX4_countAutomorphisms 5 rmX4_countAutomorphisms 0 (VW D ck ad sh)
abbrev eX4_countAutomorphisms (l : Launch) (D : va_G) (ck : Nat → ClassId) (ad : Nat → Nat) (sh : List Shp) := Ev l D ck ad sh yX4_countAutomorphisms cX4_countAutomorphisms 5 (some .int) rmX4_countAutomorphisms
abbrev rmX4_keepsProducts : Room := { frames := 1, cells := 0, slots := 0, locals := 22 }
abbrev gX4_keepsProducts (l : Launch) (D : va_G) (ck : Nat → ClassId) (ad : Nat → Nat) (sh : List Shp) := Go l D ck ad sh RX4 cX4_keepsProducts 4 rmX4_keepsProducts 0 (VW D ck ad sh)
abbrev eX4_keepsProducts (l : Launch) (D : va_G) (ck : Nat → ClassId) (ad : Nat → Nat) (sh : List Shp) := Ev l D ck ad sh yX4_keepsProducts cX4_keepsProducts 4 (some .boolean) rmX4_keepsProducts
abbrev rmX5_init : Room := { frames := 1, cells := 0, slots := 0, locals := 12 }
abbrev gX5_init (l : Launch) (D : va_G) (ck : Nat → ClassId) (ad : Nat → Nat) (sh : List Shp) := Go l D ck ad sh RX5 cX5_init 1 rmX5_init 0 (VW D ck ad sh)
abbrev eX5_init (l : Launch) (D : va_G) (ck : Nat → ClassId) (ad : Nat → Nat) (sh : List Shp) := Ev l D ck ad sh yX5_init cX5_init 1 none rmX5_init
abbrev rmX5_has : Room := { frames := 0, cells := 0, slots := 0, locals := 0 }
abbrev gX5_has (l : Launch) (D : va_G) (ck : Nat → ClassId) (ad : Nat → Nat) (sh : List Shp) := Go l D ck ad sh RX5 cX5_has 2 rmX5_has 0 (VW D ck ad sh)
abbrev eX5_has (l : Launch) (D : va_G) (ck : Nat → ClassId) (ad : Nat → Nat) (sh : List Shp) := Ev l D ck ad sh yX5_has cX5_has 2 (some .boolean) rmX5_has
abbrev rmX5_times : Room := { frames := 0, cells := 0, slots := 0, locals := 0 }
abbrev gX5_times (l : Launch) (D : va_G) (ck : Nat → ClassId) (ad : Nat → Nat) (sh : List Shp) := Go l D ck ad sh RX5 cX5_times 3 rmX5_times 0 (VW D ck ad sh)
abbrev eX5_times (l : Launch) (D : va_G) (ck : Nat → ClassId) (ad : Nat → Nat) (sh : List Shp) := Ev l D ck ad sh yX5_times cX5_times 3 (some .int) rmX5_times
abbrev rmX5_put : Room := { frames := 0, cells := 0, slots := 0, locals := 0 }
abbrev gX5_put (l : Launch) (D : va_G) (ck : Nat → ClassId) (ad : Nat → Nat) (sh : List Shp) := Go l D ck ad sh RX5 cX5_put 4 rmX5_put 0 (VW D ck ad sh)
abbrev eX5_put (l : Launch) (D : va_G) (ck : Nat → ClassId) (ad : Nat → Nat) (sh : List Shp) := Ev l D ck ad sh yX5_put cX5_put 4 none rmX5_put
abbrev rmX5_copyFrom : Room := { frames := 1, cells := 0, slots := 0, locals := 26 }
abbrev gX5_copyFrom (l : Launch) (D : va_G) (ck : Nat → ClassId) (ad : Nat → Nat) (sh : List Shp) := Go l D ck ad sh RX5 cX5_copyFrom 2 rmX5_copyFrom 0 (VW D ck ad sh)
abbrev eX5_copyFrom (l : Launch) (D : va_G) (ck : Nat → ClassId) (ad : Nat → Nat) (sh : List Shp) := Ev l D ck ad sh yX5_copyFrom cX5_copyFrom 2 none rmX5_copyFrom
abbrev rmX5_fillLinear : Room := { frames := 1, cells := 0, slots := 0, locals := 23 }
abbrev gX5_fillLinear (l : Launch) (D : va_G) (ck : Nat → ClassId) (ad : Nat → Nat) (sh : List Shp) := Go l D ck ad sh RX5 cX5_fillLinear 5 rmX5_fillLinear 0 (VW D ck ad sh)
abbrev eX5_fillLinear (l : Launch) (D : va_G) (ck : Nat → ClassId) (ad : Nat → Nat) (sh : List Shp) := Ev l D ck ad sh yX5_fillLinear cX5_fillLinear 5 none rmX5_fillLinear
abbrev rmX5_fillTranspositions : Room := { frames := 2, cells := 0, slots := 0, locals := 51 }
abbrev gX5_fillTranspositions (l : Launch) (D : va_G) (ck : Nat → ClassId) (ad : Nat → Nat) (sh : List Shp) := Go l D ck ad sh RX5 cX5_fillTranspositions 4 rmX5_fillTranspositions 0 (VW D ck ad sh)
abbrev eX5_fillTranspositions (l : Launch) (D : va_G) (ck : Nat → ClassId) (ad : Nat → Nat) (sh : List Shp) := Ev l D ck ad sh yX5_fillTranspositions cX5_fillTranspositions 4 none rmX5_fillTranspositions
abbrev rmX5_fillTranslation : Room := { frames := 1, cells := 0, slots := 0, locals := 23 }
abbrev gX5_fillTranslation (l : Launch) (D : va_G) (ck : Nat → ClassId) (ad : Nat → Nat) (sh : List Shp) := Go l D ck ad sh RX5 cX5_fillTranslation 9 rmX5_fillTranslation 0 (VW D ck ad sh)
abbrev eX5_fillTranslation (l : Launch) (D : va_G) (ck : Nat → ClassId) (ad : Nat → Nat) (sh : List Shp) := Ev l D ck ad sh yX5_fillTranslation cX5_fillTranslation 9 none rmX5_fillTranslation
abbrev rmX5_pairNumber : Room := { frames := 0, cells := 0, slots := 0, locals := 0 }
abbrev gX5_pairNumber (l : Launch) (D : va_G) (ck : Nat → ClassId) (ad : Nat → Nat) (sh : List Shp) := Go l D ck ad sh RX5 cX5_pairNumber 3 rmX5_pairNumber 0 (VW D ck ad sh)
abbrev eX5_pairNumber (l : Launch) (D : va_G) (ck : Nat → ClassId) (ad : Nat → Nat) (sh : List Shp) := Ev l D ck ad sh yX5_pairNumber cX5_pairNumber 3 (some .int) rmX5_pairNumber
abbrev rmX5_swapped : Room := { frames := 0, cells := 0, slots := 0, locals := 0 }
abbrev gX5_swapped (l : Launch) (D : va_G) (ck : Nat → ClassId) (ad : Nat → Nat) (sh : List Shp) := Go l D ck ad sh RX5 cX5_swapped 3 rmX5_swapped 0 (VW D ck ad sh)
abbrev eX5_swapped (l : Launch) (D : va_G) (ck : Nat → ClassId) (ad : Nat → Nat) (sh : List Shp) := Ev l D ck ad sh yX5_swapped cX5_swapped 3 (some .int) rmX5_swapped
abbrev rmX5_fillInverse : Room := { frames := 2, cells := 0, slots := 0, locals := 45 }
abbrev gX5_fillInverse (l : Launch) (D : va_G) (ck : Nat → ClassId) (ad : Nat → Nat) (sh : List Shp) := Go l D ck ad sh RX5 cX5_fillInverse 6 rmX5_fillInverse 0 (VW D ck ad sh)
abbrev eX5_fillInverse (l : Launch) (D : va_G) (ck : Nat → ClassId) (ad : Nat → Nat) (sh : List Shp) := Ev l D ck ad sh yX5_fillInverse cX5_fillInverse 6 (some .int) rmX5_fillInverse
abbrev rmX5_lowestFactor : Room := { frames := 1, cells := 0, slots := 0, locals := 22 }
abbrev gX5_lowestFactor (l : Launch) (D : va_G) (ck : Nat → ClassId) (ad : Nat → Nat) (sh : List Shp) := Go l D ck ad sh RX5 cX5_lowestFactor 4 rmX5_lowestFactor 0 (VW D ck ad sh)
abbrev eX5_lowestFactor (l : Launch) (D : va_G) (ck : Nat → ClassId) (ad : Nat → Nat) (sh : List Shp) := Ev l D ck ad sh yX5_lowestFactor cX5_lowestFactor 4 (some .int) rmX5_lowestFactor
abbrev rmX5_firstNotIdempotent : Room := { frames := 1, cells := 0, slots := 0, locals := 22 }
abbrev gX5_firstNotIdempotent (l : Launch) (D : va_G) (ck : Nat → ClassId) (ad : Nat → Nat) (sh : List Shp) := Go l D ck ad sh RX5 cX5_firstNotIdempotent 2 rmX5_firstNotIdempotent 0 (VW D ck ad sh)
abbrev eX5_firstNotIdempotent (l : Launch) (D : va_G) (ck : Nat → ClassId) (ad : Nat → Nat) (sh : List Shp) := Ev l D ck ad sh yX5_firstNotIdempotent cX5_firstNotIdempotent 2 (some .int) rmX5_firstNotIdempotent
abbrev rmX5_firstNoPermutation : Room := { frames := 2, cells := 0, slots := 0, locals := 45 }
abbrev gX5_firstNoPermutation (l : Launch) (D : va_G) (ck : Nat → ClassId) (ad : Nat → Nat) (sh : List Shp) := Go l D ck ad sh RX5 cX5_firstNoPermutation 2 rmX5_firstNoPermutation 0 (VW D ck ad sh)
abbrev eX5_firstNoPermutation (l : Launch) (D : va_G) (ck : Nat → ClassId) (ad : Nat → Nat) (sh : List Shp) := Ev l D ck ad sh yX5_firstNoPermutation cX5_firstNoPermutation 2 (some .int) rmX5_firstNoPermutation
abbrev rmX5_isPermutation : Room := { frames := 1, cells := 0, slots := 0, locals := 22 }
abbrev gX5_isPermutation (l : Launch) (D : va_G) (ck : Nat → ClassId) (ad : Nat → Nat) (sh : List Shp) := Go l D ck ad sh RX5 cX5_isPermutation 4 rmX5_isPermutation 0 (VW D ck ad sh)
abbrev eX5_isPermutation (l : Launch) (D : va_G) (ck : Nat → ClassId) (ad : Nat → Nat) (sh : List Shp) := Ev l D ck ad sh yX5_isPermutation cX5_isPermutation 4 (some .boolean) rmX5_isPermutation
abbrev rmX5_firstNotDistributive : Room := { frames := 1, cells := 0, slots := 0, locals := 22 }
abbrev gX5_firstNotDistributive (l : Launch) (D : va_G) (ck : Nat → ClassId) (ad : Nat → Nat) (sh : List Shp) := Go l D ck ad sh RX5 cX5_firstNotDistributive 4 rmX5_firstNotDistributive 0 (VW D ck ad sh)
abbrev eX5_firstNotDistributive (l : Launch) (D : va_G) (ck : Nat → ClassId) (ad : Nat → Nat) (sh : List Shp) := Ev l D ck ad sh yX5_firstNotDistributive cX5_firstNotDistributive 4 (some .int) rmX5_firstNotDistributive
abbrev rmX5_allElements : Room := { frames := 0, cells := 0, slots := 0, locals := 0 }
abbrev gX5_allElements (l : Launch) (D : va_G) (ck : Nat → ClassId) (ad : Nat → Nat) (sh : List Shp) := Go l D ck ad sh RX5 cX5_allElements 1 rmX5_allElements 0 (VW D ck ad sh)
abbrev eX5_allElements (l : Launch) (D : va_G) (ck : Nat → ClassId) (ad : Nat → Nat) (sh : List Shp) := Ev l D ck ad sh yX5_allElements cX5_allElements 1 (some .int) rmX5_allElements
abbrev rmX5_reachedFrom : Room := { frames := 1, cells := 0, slots := 0, locals := 22 }
abbrev gX5_reachedFrom (l : Launch) (D : va_G) (ck : Nat → ClassId) (ad : Nat → Nat) (sh : List Shp) := Go l D ck ad sh RX5 cX5_reachedFrom 6 rmX5_reachedFrom 0 (VW D ck ad sh)
abbrev eX5_reachedFrom (l : Launch) (D : va_G) (ck : Nat → ClassId) (ad : Nat → Nat) (sh : List Shp) := Ev l D ck ad sh yX5_reachedFrom cX5_reachedFrom 6 (some .int) rmX5_reachedFrom
abbrev rmX5_countComponents : Room := { frames := 2, cells := 0, slots := 0, locals := 48 }
abbrev gX5_countComponents (l : Launch) (D : va_G) (ck : Nat → ClassId) (ad : Nat → Nat) (sh : List Shp) := Go l D ck ad sh RX5 cX5_countComponents 4 rmX5_countComponents 0 (VW D ck ad sh)
abbrev eX5_countComponents (l : Launch) (D : va_G) (ck : Nat → ClassId) (ad : Nat → Nat) (sh : List Shp) := Ev l D ck ad sh yX5_countComponents cX5_countComponents 4 (some .int) rmX5_countComponents
abbrev rmX5_componentOf : Room := { frames := 1, cells := 0, slots := 0, locals := 22 }
abbrev gX5_componentOf (l : Launch) (D : va_G) (ck : Nat → ClassId) (ad : Nat → Nat) (sh : List Shp) := Go l D ck ad sh RX5 cX5_componentOf 7 rmX5_componentOf 0 (VW D ck ad sh)
abbrev eX5_componentOf (l : Launch) (D : va_G) (ck : Nat → ClassId) (ad : Nat → Nat) (sh : List Shp) := Ev l D ck ad sh yX5_componentOf cX5_componentOf 7 (some .int) rmX5_componentOf
abbrev rmX5_closureOf : Room := { frames := 1, cells := 0, slots := 0, locals := 22 }
abbrev gX5_closureOf (l : Launch) (D : va_G) (ck : Nat → ClassId) (ad : Nat → Nat) (sh : List Shp) := Go l D ck ad sh RX5 cX5_closureOf 6 rmX5_closureOf 0 (VW D ck ad sh)
abbrev eX5_closureOf (l : Launch) (D : va_G) (ck : Nat → ClassId) (ad : Nat → Nat) (sh : List Shp) := Ev l D ck ad sh yX5_closureOf cX5_closureOf 6 (some .int) rmX5_closureOf
abbrev rmX5_leastGenerators : Room := { frames := 2, cells := 0, slots := 0, locals := 47 }
abbrev gX5_leastGenerators (l : Launch) (D : va_G) (ck : Nat → ClassId) (ad : Nat → Nat) (sh : List Shp) := Go l D ck ad sh RX5 cX5_leastGenerators 3 rmX5_leastGenerators 0 (VW D ck ad sh)
abbrev eX5_leastGenerators (l : Launch) (D : va_G) (ck : Nat → ClassId) (ad : Nat → Nat) (sh : List Shp) := Ev l D ck ad sh yX5_leastGenerators cX5_leastGenerators 3 (some .int) rmX5_leastGenerators
abbrev rmX5_orderOfTranslation : Room := { frames := 2, cells := 0, slots := 0, locals := 47 }
abbrev gX5_orderOfTranslation (l : Launch) (D : va_G) (ck : Nat → ClassId) (ad : Nat → Nat) (sh : List Shp) := Go l D ck ad sh RX5 cX5_orderOfTranslation 3 rmX5_orderOfTranslation 0 (VW D ck ad sh)
abbrev eX5_orderOfTranslation (l : Launch) (D : va_G) (ck : Nat → ClassId) (ad : Nat → Nat) (sh : List Shp) := Ev l D ck ad sh yX5_orderOfTranslation cX5_orderOfTranslation 3 (some .int) rmX5_orderOfTranslation
abbrev rmX5_isIdentityAfter : Room := { frames := 1, cells := 0, slots := 0, locals := 22 }
abbrev gX5_isIdentityAfter (l : Launch) (D : va_G) (ck : Nat → ClassId) (ad : Nat → Nat) (sh : List Shp) := Go l D ck ad sh RX5 cX5_isIdentityAfter 6 rmX5_isIdentityAfter 0 (VW D ck ad sh)
abbrev eX5_isIdentityAfter (l : Launch) (D : va_G) (ck : Nat → ClassId) (ad : Nat → Nat) (sh : List Shp) := Ev l D ck ad sh yX5_isIdentityAfter cX5_isIdentityAfter 6 (some .boolean) rmX5_isIdentityAfter
abbrev rmX5_countTranslations : Room := { frames := 3, cells := 0, slots := 0, locals := 67 }
abbrev gX5_countTranslations (l : Launch) (D : va_G) (ck : Nat → ClassId) (ad : Nat → Nat) (sh : List Shp) := Go l D ck ad sh RX5 cX5_countTranslations 3 rmX5_countTranslations 0 (VW D ck ad sh)
abbrev eX5_countTranslations (l : Launch) (D : va_G) (ck : Nat → ClassId) (ad : Nat → Nat) (sh : List Shp) := Ev l D ck ad sh yX5_countTranslations cX5_countTranslations 3 (some .int) rmX5_countTranslations
abbrev rmX5_isNewTranslation : Room := { frames := 2, cells := 0, slots := 0, locals := 45 }
abbrev gX5_isNewTranslation (l : Launch) (D : va_G) (ck : Nat → ClassId) (ad : Nat → Nat) (sh : List Shp) := Go l D ck ad sh RX5 cX5_isNewTranslation 3 rmX5_isNewTranslation 0 (VW D ck ad sh)
abbrev eX5_isNewTranslation (l : Launch) (D : va_G) (ck : Nat → ClassId) (ad : Nat → Nat) (sh : List Shp) := Ev l D ck ad sh yX5_isNewTranslation cX5_isNewTranslation 3 (some .boolean) rmX5_isNewTranslation
abbrev rmX5_sameTranslation : Room := { frames := 1, cells := 0, slots := 0, locals := 22 }
abbrev gX5_sameTranslation (l : Launch) (D : va_G) (ck : Nat → ClassId) (ad : Nat → Nat) (sh : List Shp) := Go l D ck ad sh RX5 cX5_sameTranslation 4 rmX5_sameTranslation 0 (VW D ck ad sh)
abbrev eX5_sameTranslation (l : Launch) (D : va_G) (ck : Nat → ClassId) (ad : Nat → Nat) (sh : List Shp) := Ev l D ck ad sh yX5_sameTranslation cX5_sameTranslation 4 (some .boolean) rmX5_sameTranslation
abbrev rmX6_init : Room := { frames := 3, cells := 0, slots := 0, locals := 53 }
abbrev gX6_init (l : Launch) (D : va_G) (ck : Nat → ClassId) (ad : Nat → Nat) (sh : List Shp) := Go l D ck ad sh RX6 cX6_init 1 rmX6_init 0 (VW D ck ad sh)
abbrev eX6_init (l : Launch) (D : va_G) (ck : Nat → ClassId) (ad : Nat → Nat) (sh : List Shp) := Ev l D ck ad sh yX6_init cX6_init 1 none rmX6_init
abbrev rmX6_trivial : Room := { frames := 5, cells := 0, slots := 0, locals := 112 }
abbrev gX6_trivial (l : Launch) (D : va_G) (ck : Nat → ClassId) (ad : Nat → Nat) (sh : List Shp) := Go l D ck ad sh RX6 cX6_trivial 2 rmX6_trivial 0 (VW D ck ad sh)
abbrev eX6_trivial (l : Launch) (D : va_G) (ck : Nat → ClassId) (ad : Nat → Nat) (sh : List Shp) := Ev l D ck ad sh yX6_trivial cX6_trivial 2 (some .int) rmX6_trivial
abbrev rmX6_dihedral : Room := { frames := 5, cells := 0, slots := 0, locals := 112 }
abbrev gX6_dihedral (l : Launch) (D : va_G) (ck : Nat → ClassId) (ad : Nat → Nat) (sh : List Shp) := Go l D ck ad sh RX6 cX6_dihedral 2 rmX6_dihedral 0 (VW D ck ad sh)
abbrev eX6_dihedral (l : Launch) (D : va_G) (ck : Nat → ClassId) (ad : Nat → Nat) (sh : List Shp) := Ev l D ck ad sh yX6_dihedral cX6_dihedral 2 (some .int) rmX6_dihedral
abbrev rmX6_linear : Room := { frames := 5, cells := 0, slots := 0, locals := 112 }
abbrev gX6_linear (l : Launch) (D : va_G) (ck : Nat → ClassId) (ad : Nat → Nat) (sh : List Shp) := Go l D ck ad sh RX6 cX6_linear 3 rmX6_linear 0 (VW D ck ad sh)
abbrev eX6_linear (l : Launch) (D : va_G) (ck : Nat → ClassId) (ad : Nat → Nat) (sh : List Shp) := Ev l D ck ad sh yX6_linear cX6_linear 3 (some .int) rmX6_linear
abbrev rmX6_transpositions : Room := { frames := 4, cells := 0, slots := 0, locals := 89 }
abbrev gX6_transpositions (l : Launch) (D : va_G) (ck : Nat → ClassId) (ad : Nat → Nat) (sh : List Shp) := Go l D ck ad sh RX6 cX6_transpositions 2 rmX6_transpositions 0 (VW D ck ad sh)
abbrev eX6_transpositions (l : Launch) (D : va_G) (ck : Nat → ClassId) (ad : Nat → Nat) (sh : List Shp) := Ev l D ck ad sh yX6_transpositions cX6_transpositions 2 (some .int) rmX6_transpositions
abbrev rmX6_setProduct : Room := { frames := 4, cells := 0, slots := 0, locals := 89 }
abbrev gX6_setProduct (l : Launch) (D : va_G) (ck : Nat → ClassId) (ad : Nat → Nat) (sh : List Shp) := Go l D ck ad sh RX6 cX6_setProduct 5 rmX6_setProduct 0 (VW D ck ad sh)
abbrev eX6_setProduct (l : Launch) (D : va_G) (ck : Nat → ClassId) (ad : Nat → Nat) (sh : List Shp) := Ev l D ck ad sh yX6_setProduct cX6_setProduct 5 (some .int) rmX6_setProduct
abbrev rmX6_invert : Room := { frames := 4, cells := 0, slots := 0, locals := 89 }
abbrev gX6_invert (l : Launch) (D : va_G) (ck : Nat → ClassId) (ad : Nat → Nat) (sh : List Shp) := Go l D ck ad sh RX6 cX6_invert 1 rmX6_invert 0 (VW D ck ad sh)
abbrev eX6_invert (l : Launch) (D : va_G) (ck : Nat → ClassId) (ad : Nat → Nat) (sh : List Shp) := Ev l D ck ad sh yX6_invert cX6_invert 1 (some .int) rmX6_invert
abbrev rmX6_size : Room := { frames := 0, cells := 0, slots := 0, locals := 0 }
abbrev gX6_size (l : Launch) (D : va_G) (ck : Nat → ClassId) (ad : Nat → Nat) (sh : List Shp) := Go l D ck ad sh RX6 cX6_size 1 rmX6_size 0 (VW D ck ad sh)
abbrev eX6_size (l : Launch) (D : va_G) (ck : Nat → ClassId) (ad : Nat → Nat) (sh : List Shp) := Ev l D ck ad sh yX6_size cX6_size 1 (some .int) rmX6_size
abbrev rmX6_product : Room := { frames := 1, cells := 0, slots := 0, locals := 22 }
abbrev gX6_product (l : Launch) (D : va_G) (ck : Nat → ClassId) (ad : Nat → Nat) (sh : List Shp) := Go l D ck ad sh RX6 cX6_product 3 rmX6_product 0 (VW D ck ad sh)
abbrev eX6_product (l : Launch) (D : va_G) (ck : Nat → ClassId) (ad : Nat → Nat) (sh : List Shp) := Ev l D ck ad sh yX6_product cX6_product 3 (some .int) rmX6_product
abbrev rmX6_quotient : Room := { frames := 2, cells := 0, slots := 0, locals := 45 }
abbrev gX6_quotient (l : Launch) (D : va_G) (ck : Nat → ClassId) (ad : Nat → Nat) (sh : List Shp) := Go l D ck ad sh RX6 cX6_quotient 3 rmX6_quotient 0 (VW D ck ad sh)
abbrev eX6_quotient (l : Launch) (D : va_G) (ck : Nat → ClassId) (ad : Nat → Nat) (sh : List Shp) := Ev l D ck ad sh yX6_quotient cX6_quotient 3 (some .int) rmX6_quotient
abbrev rmX6_violation : Room := { frames := 3, cells := 0, slots := 0, locals := 66 }
abbrev gX6_violation (l : Launch) (D : va_G) (ck : Nat → ClassId) (ad : Nat → Nat) (sh : List Shp) := Go l D ck ad sh RX6 cX6_violation 2 rmX6_violation 0 (VW D ck ad sh)
abbrev eX6_violation (l : Launch) (D : va_G) (ck : Nat → ClassId) (ad : Nat → Nat) (sh : List Shp) := Ev l D ck ad sh yX6_violation cX6_violation 2 (some .int) rmX6_violation
abbrev rmX6_reach : Room := { frames := 2, cells := 0, slots := 0, locals := 47 }
abbrev gX6_reach (l : Launch) (D : va_G) (ck : Nat → ClassId) (ad : Nat → Nat) (sh : List Shp) := Go l D ck ad sh RX6 cX6_reach 2 rmX6_reach 0 (VW D ck ad sh)
abbrev eX6_reach (l : Launch) (D : va_G) (ck : Nat → ClassId) (ad : Nat → Nat) (sh : List Shp) := Ev l D ck ad sh yX6_reach cX6_reach 2 (some .int) rmX6_reach
abbrev rmX6_tableComponents : Room := { frames := 3, cells := 0, slots := 0, locals := 71 }
abbrev gX6_tableComponents (l : Launch) (D : va_G) (ck : Nat → ClassId) (ad : Nat → Nat) (sh : List Shp) := Go l D ck ad sh RX6 cX6_tableComponents 1 rmX6_tableComponents 0 (VW D ck ad sh)
abbrev eX6_tableComponents (l : Launch) (D : va_G) (ck : Nat → ClassId) (ad : Nat → Nat) (sh : List Shp) := Ev l D ck ad sh yX6_tableComponents cX6_tableComponents 1 (some .int) rmX6_tableComponents
abbrev rmX6_closure : Room := { frames := 2, cells := 0, slots := 0, locals := 47 }
abbrev gX6_closure (l : Launch) (D : va_G) (ck : Nat → ClassId) (ad : Nat → Nat) (sh : List Shp) := Go l D ck ad sh RX6 cX6_closure 2 rmX6_closure 0 (VW D ck ad sh)
abbrev eX6_closure (l : Launch) (D : va_G) (ck : Nat → ClassId) (ad : Nat → Nat) (sh : List Shp) := Ev l D ck ad sh yX6_closure cX6_closure 2 (some .int) rmX6_closure
abbrev rmX6_generators : Room := { frames := 3, cells := 0, slots := 0, locals := 69 }
abbrev gX6_generators (l : Launch) (D : va_G) (ck : Nat → ClassId) (ad : Nat → Nat) (sh : List Shp) := Go l D ck ad sh RX6 cX6_generators 1 rmX6_generators 0 (VW D ck ad sh)
abbrev eX6_generators (l : Launch) (D : va_G) (ck : Nat → ClassId) (ad : Nat → Nat) (sh : List Shp) := Ev l D ck ad sh yX6_generators cX6_generators 1 (some .int) rmX6_generators
abbrev rmX6_translationOrder : Room := { frames := 3, cells := 0, slots := 0, locals := 69 }
abbrev gX6_translationOrder (l : Launch) (D : va_G) (ck : Nat → ClassId) (ad : Nat → Nat) (sh : List Shp) := Go l D ck ad sh RX6 cX6_translationOrder 2 rmX6_translationOrder 0 (VW D ck ad sh)
abbrev eX6_translationOrder (l : Launch) (D : va_G) (ck : Nat → ClassId) (ad : Nat → Nat) (sh : List Shp) := Ev l D ck ad sh yX6_translationOrder cX6_translationOrder 2 (some .int) rmX6_translationOrder
abbrev rmX6_translations : Room := { frames := 4, cells := 0, slots := 0, locals := 89 }
abbrev gX6_translations (l : Launch) (D : va_G) (ck : Nat → ClassId) (ad : Nat → Nat) (sh : List Shp) := Go l D ck ad sh RX6 cX6_translations 1 rmX6_translations 0 (VW D ck ad sh)
abbrev eX6_translations (l : Launch) (D : va_G) (ck : Nat → ClassId) (ad : Nat → Nat) (sh : List Shp) := Ev l D ck ad sh yX6_translations cX6_translations 1 (some .int) rmX6_translations
abbrev rmX6_innerGroup : Room := { frames := 3, cells := 0, slots := 0, locals := 73 }
abbrev gX6_innerGroup (l : Launch) (D : va_G) (ck : Nat → ClassId) (ad : Nat → Nat) (sh : List Shp) := Go l D ck ad sh RX6 cX6_innerGroup 1 rmX6_innerGroup 0 (VW D ck ad sh)
abbrev eX6_innerGroup (l : Launch) (D : va_G) (ck : Nat → ClassId) (ad : Nat → Nat) (sh : List Shp) := Ev l D ck ad sh yX6_innerGroup cX6_innerGroup 1 (some .int) rmX6_innerGroup
abbrev rmX6_automorphisms : Room := { frames := 3, cells := 0, slots := 0, locals := 69 }
abbrev gX6_automorphisms (l : Launch) (D : va_G) (ck : Nat → ClassId) (ad : Nat → Nat) (sh : List Shp) := Go l D ck ad sh RX6 cX6_automorphisms 1 rmX6_automorphisms 0 (VW D ck ad sh)
abbrev eX6_automorphisms (l : Launch) (D : va_G) (ck : Nat → ClassId) (ad : Nat → Nat) (sh : List Shp) := Ev l D ck ad sh yX6_automorphisms cX6_automorphisms 1 (some .int) rmX6_automorphisms
abbrev rmX6_newDiagram : Room := { frames := 4, cells := 0, slots := 0, locals := 89 }
abbrev gX6_newDiagram (l : Launch) (D : va_G) (ck : Nat → ClassId) (ad : Nat → Nat) (sh : List Shp) := Go l D ck ad sh RX6 cX6_newDiagram 3 rmX6_newDiagram 0 (VW D ck ad sh)
abbrev eX6_newDiagram (l : Launch) (D : va_G) (ck : Nat → ClassId) (ad : Nat → Nat) (sh : List Shp) := Ev l D ck ad sh yX6_newDiagram cX6_newDiagram 3 (some .int) rmX6_newDiagram
abbrev rmX6_standard : Room := { frames := 4, cells := 0, slots := 0, locals := 89 }
abbrev gX6_standard (l : Launch) (D : va_G) (ck : Nat → ClassId) (ad : Nat → Nat) (sh : List Shp) := Go l D ck ad sh RX6 cX6_standard 4 rmX6_standard 0 (VW D ck ad sh)
abbrev eX6_standard (l : Launch) (D : va_G) (ck : Nat → ClassId) (ad : Nat → Nat) (sh : List Shp) := Ev l D ck ad sh yX6_standard cX6_standard 4 (some .int) rmX6_standard
abbrev rmX6_addCrossing : Room := { frames := 4, cells := 0, slots := 0, locals := 89 }
abbrev gX6_addCrossing (l : Launch) (D : va_G) (ck : Nat → ClassId) (ad : Nat → Nat) (sh : List Shp) := Go l D ck ad sh RX6 cX6_addCrossing 5 rmX6_addCrossing 0 (VW D ck ad sh)
abbrev eX6_addCrossing (l : Launch) (D : va_G) (ck : Nat → ClassId) (ad : Nat → Nat) (sh : List Shp) := Ev l D ck ad sh yX6_addCrossing cX6_addCrossing 5 (some .int) rmX6_addCrossing
abbrev rmX6_removeCrossing : Room := { frames := 4, cells := 0, slots := 0, locals := 89 }
abbrev gX6_removeCrossing (l : Launch) (D : va_G) (ck : Nat → ClassId) (ad : Nat → Nat) (sh : List Shp) := Go l D ck ad sh RX6 cX6_removeCrossing 2 rmX6_removeCrossing 0 (VW D ck ad sh)
abbrev eX6_removeCrossing (l : Launch) (D : va_G) (ck : Nat → ClassId) (ad : Nat → Nat) (sh : List Shp) := Ev l D ck ad sh yX6_removeCrossing cX6_removeCrossing 2 (some .int) rmX6_removeCrossing
abbrev rmX6_kink : Room := { frames := 4, cells := 0, slots := 0, locals := 89 }
abbrev gX6_kink (l : Launch) (D : va_G) (ck : Nat → ClassId) (ad : Nat → Nat) (sh : List Shp) := Go l D ck ad sh RX6 cX6_kink 4 rmX6_kink 0 (VW D ck ad sh)
abbrev eX6_kink (l : Launch) (D : va_G) (ck : Nat → ClassId) (ad : Nat → Nat) (sh : List Shp) := Ev l D ck ad sh yX6_kink cX6_kink 4 (some .int) rmX6_kink
abbrev rmX6_poke : Room := { frames := 4, cells := 0, slots := 0, locals := 89 }
abbrev gX6_poke (l : Launch) (D : va_G) (ck : Nat → ClassId) (ad : Nat → Nat) (sh : List Shp) := Go l D ck ad sh RX6 cX6_poke 5 rmX6_poke 0 (VW D ck ad sh)
abbrev eX6_poke (l : Launch) (D : va_G) (ck : Nat → ClassId) (ad : Nat → Nat) (sh : List Shp) := Ev l D ck ad sh yX6_poke cX6_poke 5 (some .int) rmX6_poke
abbrev rmX6_arcs : Room := { frames := 0, cells := 0, slots := 0, locals := 0 }
abbrev gX6_arcs (l : Launch) (D : va_G) (ck : Nat → ClassId) (ad : Nat → Nat) (sh : List Shp) := Go l D ck ad sh RX6 cX6_arcs 1 rmX6_arcs 0 (VW D ck ad sh)
abbrev eX6_arcs (l : Launch) (D : va_G) (ck : Nat → ClassId) (ad : Nat → Nat) (sh : List Shp) := Ev l D ck ad sh yX6_arcs cX6_arcs 1 (some .int) rmX6_arcs
abbrev rmX6_crossings : Room := { frames := 0, cells := 0, slots := 0, locals := 0 }
abbrev gX6_crossings (l : Launch) (D : va_G) (ck : Nat → ClassId) (ad : Nat → Nat) (sh : List Shp) := Go l D ck ad sh RX6 cX6_crossings 1 rmX6_crossings 0 (VW D ck ad sh)
abbrev eX6_crossings (l : Launch) (D : va_G) (ck : Nat → ClassId) (ad : Nat → Nat) (sh : List Shp) := Ev l D ck ad sh yX6_crossings cX6_crossings 1 (some .int) rmX6_crossings
abbrev rmX6_crossing : Room := { frames := 1, cells := 0, slots := 0, locals := 22 }
abbrev gX6_crossing (l : Launch) (D : va_G) (ck : Nat → ClassId) (ad : Nat → Nat) (sh : List Shp) := Go l D ck ad sh RX6 cX6_crossing 3 rmX6_crossing 0 (VW D ck ad sh)
abbrev eX6_crossing (l : Launch) (D : va_G) (ck : Nat → ClassId) (ad : Nat → Nat) (sh : List Shp) := Ev l D ck ad sh yX6_crossing cX6_crossing 3 (some .int) rmX6_crossing
abbrev rmX6_components : Room := { frames := 3, cells := 0, slots := 0, locals := 70 }
abbrev gX6_components (l : Launch) (D : va_G) (ck : Nat → ClassId) (ad : Nat → Nat) (sh : List Shp) := Go l D ck ad sh RX6 cX6_components 1 rmX6_components 0 (VW D ck ad sh)
abbrev eX6_components (l : Launch) (D : va_G) (ck : Nat → ClassId) (ad : Nat → Nat) (sh : List Shp) := Ev l D ck ad sh yX6_components cX6_components 1 (some .int) rmX6_components
abbrev rmX6_writhe : Room := { frames := 2, cells := 0, slots := 0, locals := 44 }
abbrev gX6_writhe (l : Launch) (D : va_G) (ck : Nat → ClassId) (ad : Nat → Nat) (sh : List Shp) := Go l D ck ad sh RX6 cX6_writhe 1 rmX6_writhe 0 (VW D ck ad sh)
abbrev eX6_writhe (l : Launch) (D : va_G) (ck : Nat → ClassId) (ad : Nat → Nat) (sh : List Shp) := Ev l D ck ad sh yX6_writhe cX6_writhe 1 (some .int) rmX6_writhe
abbrev rmX6_linking : Room := { frames := 3, cells := 0, slots := 0, locals := 73 }
abbrev gX6_linking (l : Launch) (D : va_G) (ck : Nat → ClassId) (ad : Nat → Nat) (sh : List Shp) := Go l D ck ad sh RX6 cX6_linking 3 rmX6_linking 0 (VW D ck ad sh)
abbrev eX6_linking (l : Launch) (D : va_G) (ck : Nat → ClassId) (ad : Nat → Nat) (sh : List Shp) := Ev l D ck ad sh yX6_linking cX6_linking 3 (some .int) rmX6_linking
abbrev rmX6_colourings : Room := { frames := 5, cells := 0, slots := 0, locals := 109 }
abbrev gX6_colourings (l : Launch) (D : va_G) (ck : Nat → ClassId) (ad : Nat → Nat) (sh : List Shp) := Go l D ck ad sh RX6 cX6_colourings 1 rmX6_colourings 0 (VW D ck ad sh)
abbrev eX6_colourings (l : Launch) (D : va_G) (ck : Nat → ClassId) (ad : Nat → Nat) (sh : List Shp) := Ev l D ck ad sh yX6_colourings cX6_colourings 1 (some .int) rmX6_colourings
abbrev rmX6_colouringsWith : Room := { frames := 5, cells := 0, slots := 0, locals := 112 }
abbrev gX6_colouringsWith (l : Launch) (D : va_G) (ck : Nat → ClassId) (ad : Nat → Nat) (sh : List Shp) := Go l D ck ad sh RX6 cX6_colouringsWith 3 rmX6_colouringsWith 0 (VW D ck ad sh)
abbrev eX6_colouringsWith (l : Launch) (D : va_G) (ck : Nat → ClassId) (ad : Nat → Nat) (sh : List Shp) := Ev l D ck ad sh yX6_colouringsWith cX6_colouringsWith 3 (some .int) rmX6_colouringsWith
abbrev rmX6_colouringsAlike : Room := { frames := 5, cells := 0, slots := 0, locals := 112 }
abbrev gX6_colouringsAlike (l : Launch) (D : va_G) (ck : Nat → ClassId) (ad : Nat → Nat) (sh : List Shp) := Go l D ck ad sh RX6 cX6_colouringsAlike 3 rmX6_colouringsAlike 0 (VW D ck ad sh)
abbrev eX6_colouringsAlike (l : Launch) (D : va_G) (ck : Nat → ClassId) (ad : Nat → Nat) (sh : List Shp) := Ev l D ck ad sh yX6_colouringsAlike cX6_colouringsAlike 3 (some .int) rmX6_colouringsAlike
abbrev rmX6_colouringsUsing : Room := { frames := 5, cells := 0, slots := 0, locals := 109 }
abbrev gX6_colouringsUsing (l : Launch) (D : va_G) (ck : Nat → ClassId) (ad : Nat → Nat) (sh : List Shp) := Go l D ck ad sh RX6 cX6_colouringsUsing 2 rmX6_colouringsUsing 0 (VW D ck ad sh)
abbrev eX6_colouringsUsing (l : Launch) (D : va_G) (ck : Nat → ClassId) (ad : Nat → Nat) (sh : List Shp) := Ev l D ck ad sh yX6_colouringsUsing cX6_colouringsUsing 2 (some .int) rmX6_colouringsUsing
abbrev rmX6_colour : Room := { frames := 5, cells := 0, slots := 0, locals := 111 }
abbrev gX6_colour (l : Launch) (D : va_G) (ck : Nat → ClassId) (ad : Nat → Nat) (sh : List Shp) := Go l D ck ad sh RX6 cX6_colour 3 rmX6_colour 0 (VW D ck ad sh)
abbrev eX6_colour (l : Launch) (D : va_G) (ck : Nat → ClassId) (ad : Nat → Nat) (sh : List Shp) := Ev l D ck ad sh yX6_colour cX6_colour 3 (some .int) rmX6_colour
abbrev rmX6_isSize : Room := { frames := 0, cells := 0, slots := 0, locals := 0 }
abbrev gX6_isSize (l : Launch) (D : va_G) (ck : Nat → ClassId) (ad : Nat → Nat) (sh : List Shp) := Go l D ck ad sh RX6 cX6_isSize 1 rmX6_isSize 0 (VW D ck ad sh)
abbrev eX6_isSize (l : Launch) (D : va_G) (ck : Nat → ClassId) (ad : Nat → Nat) (sh : List Shp) := Ev l D ck ad sh yX6_isSize cX6_isSize 1 (some .boolean) rmX6_isSize
abbrev rmX6_makeLinear : Room := { frames := 4, cells := 0, slots := 0, locals := 89 }
abbrev gX6_makeLinear (l : Launch) (D : va_G) (ck : Nat → ClassId) (ad : Nat → Nat) (sh : List Shp) := Go l D ck ad sh RX6 cX6_makeLinear 4 rmX6_makeLinear 0 (VW D ck ad sh)
abbrev eX6_makeLinear (l : Launch) (D : va_G) (ck : Nat → ClassId) (ad : Nat → Nat) (sh : List Shp) := Ev l D ck ad sh yX6_makeLinear cX6_makeLinear 4 (some .int) rmX6_makeLinear
abbrev rmX6_saveState : Room := { frames := 3, cells := 0, slots := 0, locals := 69 }
abbrev gX6_saveState (l : Launch) (D : va_G) (ck : Nat → ClassId) (ad : Nat → Nat) (sh : List Shp) := Go l D ck ad sh RX6 cX6_saveState 1 rmX6_saveState 0 (VW D ck ad sh)
abbrev eX6_saveState (l : Launch) (D : va_G) (ck : Nat → ClassId) (ad : Nat → Nat) (sh : List Shp) := Ev l D ck ad sh yX6_saveState cX6_saveState 1 none rmX6_saveState
abbrev rmJ6_bitCount_0f7a4 : Room := { frames := 0, cells := 0, slots := 0, locals := 0 }
abbrev gJ6_bitCount_0f7a4 (l : Launch) (D : va_G) (ck : Nat → ClassId) (ad : Nat → Nat) (sh : List Shp) := Go l D ck ad sh RJ6 cJ6_bitCount_0f7a4 1 rmJ6_bitCount_0f7a4 0 (VW D ck ad sh)
abbrev eJ6_bitCount_0f7a4 (l : Launch) (D : va_G) (ck : Nat → ClassId) (ad : Nat → Nat) (sh : List Shp) := Ev l D ck ad sh yJ6_bitCount_0f7a4 cJ6_bitCount_0f7a4 1 (some .int) rmJ6_bitCount_0f7a4
abbrev rmJ9_floorMod_7cf53 : Room := { frames := 0, cells := 0, slots := 0, locals := 0 }
abbrev gJ9_floorMod_7cf53 (l : Launch) (D : va_G) (ck : Nat → ClassId) (ad : Nat → Nat) (sh : List Shp) := Go l D ck ad sh RJ9 cJ9_floorMod_7cf53 3 rmJ9_floorMod_7cf53 0 (VW D ck ad sh)
abbrev eJ9_floorMod_7cf53 (l : Launch) (D : va_G) (ck : Nat → ClassId) (ad : Nat → Nat) (sh : List Shp) := Ev l D ck ad sh yJ9_floorMod_7cf53 cJ9_floorMod_7cf53 3 (some .int) rmJ9_floorMod_7cf53
abbrev rmJ9_max_7cf53 : Room := { frames := 0, cells := 0, slots := 0, locals := 0 }
abbrev gJ9_max_7cf53 (l : Launch) (D : va_G) (ck : Nat → ClassId) (ad : Nat → Nat) (sh : List Shp) := Go l D ck ad sh RJ9 cJ9_max_7cf53 2 rmJ9_max_7cf53 0 (VW D ck ad sh)
abbrev eJ9_max_7cf53 (l : Launch) (D : va_G) (ck : Nat → ClassId) (ad : Nat → Nat) (sh : List Shp) := Ev l D ck ad sh yJ9_max_7cf53 cJ9_max_7cf53 2 (some .int) rmJ9_max_7cf53
abbrev rmJ9_min_7cf53 : Room := { frames := 0, cells := 0, slots := 0, locals := 0 }
abbrev gJ9_min_7cf53 (l : Launch) (D : va_G) (ck : Nat → ClassId) (ad : Nat → Nat) (sh : List Shp) := Go l D ck ad sh RJ9 cJ9_min_7cf53 2 rmJ9_min_7cf53 0 (VW D ck ad sh)
abbrev eJ9_min_7cf53 (l : Launch) (D : va_G) (ck : Nat → ClassId) (ad : Nat → Nat) (sh : List Shp) := Ev l D ck ad sh yJ9_min_7cf53 cJ9_min_7cf53 2 (some .int) rmJ9_min_7cf53
abbrev rmL_cell : Room := { frames := 0, cells := 0, slots := 0, locals := 0 }
abbrev gL_cell (l : Launch) (D : va_G) (ck : Nat → ClassId) (ad : Nat → Nat) (sh : List Shp) := Go l D ck ad sh RL cL_cell 2 rmL_cell 0 (VW D ck ad sh)
abbrev eL_cell (l : Launch) (D : va_G) (ck : Nat → ClassId) (ad : Nat → Nat) (sh : List Shp) := Ev l D ck ad sh yL_cell cL_cell 2 (some .int) rmL_cell
abbrev rmL_low : Room := { frames := 0, cells := 0, slots := 0, locals := 0 }
abbrev gL_low (l : Launch) (D : va_G) (ck : Nat → ClassId) (ad : Nat → Nat) (sh : List Shp) := Go l D ck ad sh RL cL_low 2 rmL_low 0 (VW D ck ad sh)
abbrev eL_low (l : Launch) (D : va_G) (ck : Nat → ClassId) (ad : Nat → Nat) (sh : List Shp) := Ev l D ck ad sh yL_low cL_low 2 (some .int) rmL_low
abbrev rmL_ones : Room := { frames := 0, cells := 0, slots := 0, locals := 0 }
abbrev gL_ones (l : Launch) (D : va_G) (ck : Nat → ClassId) (ad : Nat → Nat) (sh : List Shp) := Go l D ck ad sh RL cL_ones 3 rmL_ones 0 (VW D ck ad sh)
abbrev eL_ones (l : Launch) (D : va_G) (ck : Nat → ClassId) (ad : Nat → Nat) (sh : List Shp) := Ev l D ck ad sh yL_ones cL_ones 3 (some .int) rmL_ones
abbrev rmL_column : Room := { frames := 0, cells := 0, slots := 0, locals := 0 }
abbrev gL_column (l : Launch) (D : va_G) (ck : Nat → ClassId) (ad : Nat → Nat) (sh : List Shp) := Go l D ck ad sh RL cL_column 5 rmL_column 0 (VW D ck ad sh)
abbrev eL_column (l : Launch) (D : va_G) (ck : Nat → ClassId) (ad : Nat → Nat) (sh : List Shp) := Ev l D ck ad sh yL_column cL_column 5 (some .int) rmL_column
abbrev rmL_violation : Room := { frames := 1, cells := 0, slots := 0, locals := 24 }
abbrev gL_violation (l : Launch) (D : va_G) (ck : Nat → ClassId) (ad : Nat → Nat) (sh : List Shp) := Go l D ck ad sh RL cL_violation 8 rmL_violation 0 (VW D ck ad sh)
abbrev eL_violation (l : Launch) (D : va_G) (ck : Nat → ClassId) (ad : Nat → Nat) (sh : List Shp) := Ev l D ck ad sh yL_violation cL_violation 8 (some .int) rmL_violation
abbrev rmL_closure : Room := { frames := 0, cells := 0, slots := 0, locals := 0 }
abbrev gL_closure (l : Launch) (D : va_G) (ck : Nat → ClassId) (ad : Nat → Nat) (sh : List Shp) := Go l D ck ad sh RL cL_closure 6 rmL_closure 0 (VW D ck ad sh)
abbrev eL_closure (l : Launch) (D : va_G) (ck : Nat → ClassId) (ad : Nat → Nat) (sh : List Shp) := Ev l D ck ad sh yL_closure cL_closure 6 (some .int) rmL_closure
abbrev rmL_reach : Room := { frames := 0, cells := 0, slots := 0, locals := 0 }
abbrev gL_reach (l : Launch) (D : va_G) (ck : Nat → ClassId) (ad : Nat → Nat) (sh : List Shp) := Go l D ck ad sh RL cL_reach 8 rmL_reach 0 (VW D ck ad sh)
abbrev eL_reach (l : Launch) (D : va_G) (ck : Nat → ClassId) (ad : Nat → Nat) (sh : List Shp) := Ev l D ck ad sh yL_reach cL_reach 8 (some .int) rmL_reach
abbrev rmL_order : Room := { frames := 1, cells := 0, slots := 0, locals := 24 }
abbrev gL_order (l : Launch) (D : va_G) (ck : Nat → ClassId) (ad : Nat → Nat) (sh : List Shp) := Go l D ck ad sh RL cL_order 8 rmL_order 0 (VW D ck ad sh)
abbrev eL_order (l : Launch) (D : va_G) (ck : Nat → ClassId) (ad : Nat → Nat) (sh : List Shp) := Ev l D ck ad sh yL_order cL_order 8 (some .int) rmL_order
abbrev rmL_different : Room := { frames := 0, cells := 0, slots := 0, locals := 0 }
abbrev gL_different (l : Launch) (D : va_G) (ck : Nat → ClassId) (ad : Nat → Nat) (sh : List Shp) := Go l D ck ad sh RL cL_different 8 rmL_different 0 (VW D ck ad sh)
abbrev eL_different (l : Launch) (D : va_G) (ck : Nat → ClassId) (ad : Nat → Nat) (sh : List Shp) := Ev l D ck ad sh yL_different cL_different 8 (some .int) rmL_different
abbrev rmL_group : Room := { frames := 2, cells := 1, slots := 64, locals := 51 }
abbrev gL_group (l : Launch) (D : va_G) (ck : Nat → ClassId) (ad : Nat → Nat) (sh : List Shp) := Go l D ck ad sh RL cL_group 9 rmL_group
abbrev eL_group (l : Launch) (D : va_G) (ck : Nat → ClassId) (ad : Nat → Nat) (sh : List Shp) := Ev l D ck ad sh yL_group cL_group 9 (some .int) rmL_group
abbrev rmL_automorphisms : Room := { frames := 0, cells := 1, slots := 64, locals := 0 }
abbrev gL_automorphisms (l : Launch) (D : va_G) (ck : Nat → ClassId) (ad : Nat → Nat) (sh : List Shp) := Go l D ck ad sh RL cL_automorphisms 10 rmL_automorphisms
abbrev eL_automorphisms (l : Launch) (D : va_G) (ck : Nat → ClassId) (ad : Nat → Nat) (sh : List Shp) := Ev l D ck ad sh yL_automorphisms cL_automorphisms 10 (some .int) rmL_automorphisms
abbrev rmL_closed : Room := { frames := 0, cells := 0, slots := 0, locals := 0 }
abbrev gL_closed (l : Launch) (D : va_G) (ck : Nat → ClassId) (ad : Nat → Nat) (sh : List Shp) := Go l D ck ad sh RL cL_closed 5 rmL_closed 0 (VW D ck ad sh)
abbrev eL_closed (l : Launch) (D : va_G) (ck : Nat → ClassId) (ad : Nat → Nat) (sh : List Shp) := Ev l D ck ad sh yL_closed cL_closed 5 (some .boolean) rmL_closed
abbrev rmL_component : Room := { frames := 0, cells := 0, slots := 0, locals := 0 }
abbrev gL_component (l : Launch) (D : va_G) (ck : Nat → ClassId) (ad : Nat → Nat) (sh : List Shp) := Go l D ck ad sh RL cL_component 6 rmL_component 0 (VW D ck ad sh)
abbrev eL_component (l : Launch) (D : va_G) (ck : Nat → ClassId) (ad : Nat → Nat) (sh : List Shp) := Ev l D ck ad sh yL_component cL_component 6 (some .int) rmL_component
abbrev rmL_digit : Room := { frames := 0, cells := 0, slots := 0, locals := 0 }
abbrev gL_digit (l : Launch) (D : va_G) (ck : Nat → ClassId) (ad : Nat → Nat) (sh : List Shp) := Go l D ck ad sh RL cL_digit 5 rmL_digit 0 (VW D ck ad sh)
abbrev eL_digit (l : Launch) (D : va_G) (ck : Nat → ClassId) (ad : Nat → Nat) (sh : List Shp) := Ev l D ck ad sh yL_digit cL_digit 5 (some .int) rmL_digit
abbrev rmL_good : Room := { frames := 1, cells := 0, slots := 0, locals := 24 }
abbrev gL_good (l : Launch) (D : va_G) (ck : Nat → ClassId) (ad : Nat → Nat) (sh : List Shp) := Go l D ck ad sh RL cL_good 8 rmL_good 0 (VW D ck ad sh)
abbrev eL_good (l : Launch) (D : va_G) (ck : Nat → ClassId) (ad : Nat → Nat) (sh : List Shp) := Ev l D ck ad sh yL_good cL_good 8 (some .boolean) rmL_good
abbrev rmL_colourings : Room := { frames := 6, cells := 1, slots := 64, locals := 134 }
abbrev gL_colourings (l : Launch) (D : va_G) (ck : Nat → ClassId) (ad : Nat → Nat) (sh : List Shp) := Go l D ck ad sh RL cL_colourings 17 rmL_colourings
abbrev eL_colourings (l : Launch) (D : va_G) (ck : Nat → ClassId) (ad : Nat → Nat) (sh : List Shp) := Ev l D ck ad sh yL_colourings cL_colourings 17 (some .boolean) rmL_colourings
abbrev rmL_same : Room := { frames := 5, cells := 2, slots := 128, locals := 109 }
abbrev gL_same (l : Launch) (D : va_G) (ck : Nat → ClassId) (ad : Nat → Nat) (sh : List Shp) := Go l D ck ad sh RL cL_same 18 rmL_same
abbrev eL_same (l : Launch) (D : va_G) (ck : Nat → ClassId) (ad : Nat → Nat) (sh : List Shp) := Ev l D ck ad sh yL_same cL_same 18 (some .boolean) rmL_same
abbrev rmL_add : Room := { frames := 0, cells := 0, slots := 0, locals := 0 }
abbrev gL_add (l : Launch) (D : va_G) (ck : Nat → ClassId) (ad : Nat → Nat) (sh : List Shp) := Go l D ck ad sh RL cL_add 6 rmL_add 0 (VW D ck ad sh)
abbrev eL_add (l : Launch) (D : va_G) (ck : Nat → ClassId) (ad : Nat → Nat) (sh : List Shp) := Ev l D ck ad sh yL_add cL_add 6 none rmL_add
abbrev rmL_moved : Room := { frames := 0, cells := 0, slots := 0, locals := 0 }
abbrev gL_moved (l : Launch) (D : va_G) (ck : Nat → ClassId) (ad : Nat → Nat) (sh : List Shp) := Go l D ck ad sh RL cL_moved 5 rmL_moved 0 (VW D ck ad sh)
abbrev eL_moved (l : Launch) (D : va_G) (ck : Nat → ClassId) (ad : Nat → Nat) (sh : List Shp) := Ev l D ck ad sh yL_moved cL_moved 5 none rmL_moved
abbrev gL_law (l : Launch) (D : va_G) (ck : Nat → ClassId) (ad : Nat → Nat) (sh : List Shp) := Go l D ck ad sh RL cL_law 21 room_1
theorem fl_X0_9 : Cond.fieldLink RX0 9 "KnotColours$ColouringWalk" "colours" "[I" ∈ lw_gw := gw (tin1 (List.mem_of_getElem? (i := 84) (by decide +kernel))) rfl
theorem fl_X0_15 : Cond.fieldLink RX0 15 "KnotColours$ColouringWalk" "lastArcs" "[I" ∈ lw_gw := gw (tin1 (List.mem_of_getElem? (i := 85) (by decide +kernel))) rfl
theorem fl_X0_18 : Cond.fieldLink RX0 18 "KnotColours$ColouringWalk" "tallies" "[I" ∈ lw_gw := gw (tin1 (List.mem_of_getElem? (i := 86) (by decide +kernel))) rfl
theorem fl_X0_21 : Cond.fieldLink RX0 21 "KnotColours$ColouringWalk" "table" "LKnotColours$Table;" ∈ lw_gw := gw (tin1 (List.mem_of_getElem? (i := 82) (by decide +kernel))) rfl
theorem fl_X0_25 : Cond.fieldLink RX0 25 "KnotColours$ColouringWalk" "diagram" "LKnotColours$Diagram;" ∈ lw_gw := gw (tin1 (List.mem_of_getElem? (i := 83) (by decide +kernel))) rfl
theorem lk_X0_29 : LkV RX0 29 yX0_start cX0_start 3 none RX0 := ⟨⟨gw (tin2 (List.mem_of_getElem? (i := 138) (by decide +kernel))) rfl, gw (tin2 (List.mem_of_getElem? (i := 140) (by decide +kernel))) rfl, gw (List.mem_append_left _ (by decide +kernel)) rfl, gw (tin1 (List.mem_of_getElem? (i := 5) (by decide +kernel))) rfl, gw (tin2 (List.mem_of_getElem? (i := 141) (by decide +kernel))) rfl⟩, rfl, by decide +kernel, by decide +kernel⟩
theorem cn_X0_32 : Cond.constant RX0 32 279936 ∈ lw_gw := gw (tin2 (List.mem_of_getElem? (i := 144) (by decide +kernel))) rfl
theorem lk_X0_33 : LkV RX0 33 yX0_advance cX0_advance 2 (some .boolean) RX0 := ⟨⟨gw (tin2 (List.mem_of_getElem? (i := 145) (by decide +kernel))) rfl, gw (tin2 (List.mem_of_getElem? (i := 147) (by decide +kernel))) rfl, gw (List.mem_append_left _ (by decide +kernel)) rfl, gw (tin1 (List.mem_of_getElem? (i := 5) (by decide +kernel))) rfl, gw (tin2 (List.mem_of_getElem? (i := 148) (by decide +kernel))) rfl⟩, rfl, by decide +kernel, by decide +kernel⟩
theorem lk_X0_37 : LkV RX0 37 yX0_coloursUsed cX0_coloursUsed 3 (some .int) RX0 := ⟨⟨gw (tin2 (List.mem_of_getElem? (i := 167) (by decide +kernel))) rfl, gw (tin2 (List.mem_of_getElem? (i := 169) (by decide +kernel))) rfl, gw (List.mem_append_left _ (by decide +kernel)) rfl, gw (tin1 (List.mem_of_getElem? (i := 5) (by decide +kernel))) rfl, gw (tin2 (List.mem_of_getElem? (i := 170) (by decide +kernel))) rfl⟩, rfl, by decide +kernel, by decide +kernel⟩
theorem fl_X0_41 : Cond.fieldLink RX0 41 "KnotColours$Diagram" "arcCount" "I" ∈ lw_gw := gw (tin1 (List.mem_of_getElem? (i := 63) (by decide +kernel))) rfl
theorem lk_X0_47 : LkS RX0 47 yJ6_bitCount_0f7a4 cJ6_bitCount_0f7a4 1 (some .int) := ⟨⟨gw (tin2 (List.mem_of_getElem? (i := 171) (by decide +kernel))) rfl, gw (tin2 (List.mem_of_getElem? (i := 172) (by decide +kernel))) rfl, gw (tin1 (List.mem_of_getElem? (i := 10) (by decide +kernel))) rfl, gw (tin2 (List.mem_of_getElem? (i := 173) (by decide +kernel))) rfl⟩, by decide +kernel, by decide +kernel⟩
theorem fl_X0_53 : Cond.fieldLink RX0 53 "KnotColours$Diagram" "crossingCount" "I" ∈ lw_gw := gw (tin1 (List.mem_of_getElem? (i := 66) (by decide +kernel))) rfl
theorem lk_X0_56 : LkV RX0 56 yX1_part cX1_part 3 (some .int) RX1 := ⟨⟨gw (tin2 (List.mem_of_getElem? (i := 142) (by decide +kernel))) rfl, gw (tin2 (List.mem_of_getElem? (i := 95) (by decide +kernel))) rfl, gw (tin2 (List.mem_of_getElem? (i := 96) (by decide +kernel))) rfl, gw (tin1 (List.mem_of_getElem? (i := 4) (by decide +kernel))) rfl, gw (tin2 (List.mem_of_getElem? (i := 97) (by decide +kernel))) rfl⟩, rfl, by decide +kernel, by decide +kernel⟩
theorem lk_X0_60 : LkS RX0 60 yJ9_max_7cf53 cJ9_max_7cf53 2 (some .int) := ⟨⟨gw (tin2 (List.mem_of_getElem? (i := 143) (by decide +kernel))) rfl, gw (tin1 (List.mem_of_getElem? (i := 235) (by decide +kernel))) rfl, gw (tin1 (List.mem_of_getElem? (i := 9) (by decide +kernel))) rfl, gw (tin1 (List.mem_of_getElem? (i := 236) (by decide +kernel))) rfl⟩, by decide +kernel, by decide +kernel⟩
theorem fl_X0_65 : Cond.fieldLink RX0 65 "KnotColours$ColouringWalk" "arc" "I" ∈ lw_gw := gw (tin1 (List.mem_of_getElem? (i := 87) (by decide +kernel))) rfl
theorem cn_X0_68 : Cond.constant RX0 68 1000000 ∈ lw_gw := gw (tin2 (List.mem_of_getElem? (i := 149) (by decide +kernel))) rfl
theorem fl_X0_69 : Cond.fieldLink RX0 69 "KnotColours$Table" "count" "I" ∈ lw_gw := gw (tin1 (List.mem_of_getElem? (i := 28) (by decide +kernel))) rfl
theorem lk_X0_74 : LkV RX0 74 yX0_fits cX0_fits 2 (some .boolean) RX0 := ⟨⟨gw (tin2 (List.mem_of_getElem? (i := 150) (by decide +kernel))) rfl, gw (tin2 (List.mem_of_getElem? (i := 152) (by decide +kernel))) rfl, gw (List.mem_append_left _ (by decide +kernel)) rfl, gw (tin1 (List.mem_of_getElem? (i := 5) (by decide +kernel))) rfl, gw (tin2 (List.mem_of_getElem? (i := 153) (by decide +kernel))) rfl⟩, rfl, by decide +kernel, by decide +kernel⟩
theorem lk_X0_77 : LkV RX0 77 yX0_isMet cX0_isMet 5 (some .boolean) RX0 := ⟨⟨gw (tin2 (List.mem_of_getElem? (i := 154) (by decide +kernel))) rfl, gw (tin2 (List.mem_of_getElem? (i := 156) (by decide +kernel))) rfl, gw (List.mem_append_left _ (by decide +kernel)) rfl, gw (tin1 (List.mem_of_getElem? (i := 5) (by decide +kernel))) rfl, gw (tin2 (List.mem_of_getElem? (i := 157) (by decide +kernel))) rfl⟩, rfl, by decide +kernel, by decide +kernel⟩
theorem lk_X0_81 : LkV RX0 81 yX5_times cX5_times 3 (some .int) RX5 := ⟨⟨gw (tin2 (List.mem_of_getElem? (i := 158) (by decide +kernel))) rfl, gw (tin2 (List.mem_of_getElem? (i := 6) (by decide +kernel))) rfl, gw (tin2 (List.mem_of_getElem? (i := 7) (by decide +kernel))) rfl, gw (tin1 (List.mem_of_getElem? (i := 2) (by decide +kernel))) rfl, gw (tin2 (List.mem_of_getElem? (i := 8) (by decide +kernel))) rfl⟩, rfl, by decide +kernel, by decide +kernel⟩
theorem fl_X1_9 : Cond.fieldLink RX1 9 "KnotColours$Diagram" "arcCount" "I" ∈ lw_gw := gw (tin1 (List.mem_of_getElem? (i := 62) (by decide +kernel))) rfl
theorem fl_X1_15 : Cond.fieldLink RX1 15 "KnotColours$Diagram" "crossingCount" "I" ∈ lw_gw := gw (tin1 (List.mem_of_getElem? (i := 65) (by decide +kernel))) rfl
theorem fl_X1_18 : Cond.fieldLink RX1 18 "KnotColours$Diagram" "parts" "[I" ∈ lw_gw := gw (tin1 (List.mem_of_getElem? (i := 68) (by decide +kernel))) rfl
theorem lk_X1_22 : (Cond.methodLink RX1 22 arraycopyName ∈ lw_gw ∧ Cond.native arraycopyName ∈ lw_gw) ∧ Cond.static arraycopyName ∈ lw_gw ∧ Cond.initialized "java/lang/System" ∈ lw_gw := ⟨⟨gw (tin1 (List.mem_of_getElem? (i := 192) (by decide +kernel))) rfl, gw (tin1 (List.mem_of_getElem? (i := 187) (by decide +kernel))) rfl⟩, gw (tin1 (List.mem_of_getElem? (i := 186) (by decide +kernel))) rfl, gw (tin1 (List.mem_of_getElem? (i := 8) (by decide +kernel))) rfl⟩
theorem lk_X1_28 : LkV RX1 28 yX1_part cX1_part 3 (some .int) RX1 := ⟨⟨gw (tin2 (List.mem_of_getElem? (i := 94) (by decide +kernel))) rfl, gw (tin2 (List.mem_of_getElem? (i := 95) (by decide +kernel))) rfl, gw (tin2 (List.mem_of_getElem? (i := 96) (by decide +kernel))) rfl, gw (tin1 (List.mem_of_getElem? (i := 4) (by decide +kernel))) rfl, gw (tin2 (List.mem_of_getElem? (i := 97) (by decide +kernel))) rfl⟩, rfl, by decide +kernel, by decide +kernel⟩
theorem lk_X1_32 : LkV RX1 32 yX1_countAs cX1_countAs 5 (some .int) RX1 := ⟨⟨gw (tin3 (List.mem_of_getElem? (i := 142) (by decide +kernel))) rfl, gw (tin3 (List.mem_of_getElem? (i := 144) (by decide +kernel))) rfl, gw (List.mem_append_left _ (by decide +kernel)) rfl, gw (tin1 (List.mem_of_getElem? (i := 4) (by decide +kernel))) rfl, gw (tin3 (List.mem_of_getElem? (i := 145) (by decide +kernel))) rfl⟩, rfl, by decide +kernel, by decide +kernel⟩
theorem lk_X1_35 : LkV RX1 35 yX1_componentOf cX1_componentOf 6 (some .int) RX1 := ⟨⟨gw (tin3 (List.mem_of_getElem? (i := 150) (by decide +kernel))) rfl, gw (tin3 (List.mem_of_getElem? (i := 152) (by decide +kernel))) rfl, gw (List.mem_append_left _ (by decide +kernel)) rfl, gw (tin1 (List.mem_of_getElem? (i := 4) (by decide +kernel))) rfl, gw (tin3 (List.mem_of_getElem? (i := 153) (by decide +kernel))) rfl⟩, rfl, by decide +kernel, by decide +kernel⟩
theorem fl_X2_11 : Cond.fieldLink RX2 11 "KnotColours$DiagramText" "length" "I" ∈ lw_gw := gw (tin1 (List.mem_of_getElem? (i := 107) (by decide +kernel))) rfl
theorem fl_X2_15 : Cond.fieldLink RX2 15 "KnotColours$DiagramText" "characters" "[C" ∈ lw_gw := gw (tin1 (List.mem_of_getElem? (i := 108) (by decide +kernel))) rfl
theorem fl_X3_9 : Cond.fieldLink RX3 9 "KnotColours$History" "saved" "I" ∈ lw_gw := gw (tin1 (List.mem_of_getElem? (i := 127) (by decide +kernel))) rfl
theorem fl_X3_15 : Cond.fieldLink RX3 15 "KnotColours$History" "next" "I" ∈ lw_gw := gw (tin1 (List.mem_of_getElem? (i := 128) (by decide +kernel))) rfl
theorem fl_X3_20 : Cond.fieldLink RX3 20 "KnotColours$History" "tables" "[LKnotColours$Table;" ∈ lw_gw := gw (tin1 (List.mem_of_getElem? (i := 129) (by decide +kernel))) rfl
theorem fl_X3_26 : Cond.fieldLink RX3 26 "KnotColours$History" "diagrams" "[LKnotColours$Diagram;" ∈ lw_gw := gw (tin1 (List.mem_of_getElem? (i := 130) (by decide +kernel))) rfl
theorem lk_X3_32 : LkV RX3 32 yX5_copyFrom cX5_copyFrom 2 none RX5 := ⟨⟨gw (tin1 (List.mem_of_getElem? (i := 181) (by decide +kernel))) rfl, gw (tin1 (List.mem_of_getElem? (i := 182) (by decide +kernel))) rfl, gw (tin1 (List.mem_of_getElem? (i := 183) (by decide +kernel))) rfl, gw (tin1 (List.mem_of_getElem? (i := 2) (by decide +kernel))) rfl, gw (tin1 (List.mem_of_getElem? (i := 184) (by decide +kernel))) rfl⟩, rfl, by decide +kernel, by decide +kernel⟩
theorem lk_X3_36 : LkV RX3 36 yX1_copyFrom cX1_copyFrom 2 none RX1 := ⟨⟨gw (tin1 (List.mem_of_getElem? (i := 188) (by decide +kernel))) rfl, gw (tin1 (List.mem_of_getElem? (i := 189) (by decide +kernel))) rfl, gw (tin1 (List.mem_of_getElem? (i := 190) (by decide +kernel))) rfl, gw (tin1 (List.mem_of_getElem? (i := 4) (by decide +kernel))) rfl, gw (tin1 (List.mem_of_getElem? (i := 191) (by decide +kernel))) rfl⟩, rfl, by decide +kernel, by decide +kernel⟩
theorem lk_X3_39 : LkS RX3 39 yJ9_min_7cf53 cJ9_min_7cf53 2 (some .int) := ⟨⟨gw (tin1 (List.mem_of_getElem? (i := 193) (by decide +kernel))) rfl, gw (tin1 (List.mem_of_getElem? (i := 194) (by decide +kernel))) rfl, gw (tin1 (List.mem_of_getElem? (i := 9) (by decide +kernel))) rfl, gw (tin1 (List.mem_of_getElem? (i := 195) (by decide +kernel))) rfl⟩, by decide +kernel, by decide +kernel⟩
theorem fl_X4_9 : Cond.fieldLink RX4 9 "KnotColours$Permutations" "image" "[I" ∈ lw_gw := gw (tin1 (List.mem_of_getElem? (i := 42) (by decide +kernel))) rfl
theorem fl_X4_15 : Cond.fieldLink RX4 15 "KnotColours$Permutations" "composed" "[I" ∈ lw_gw := gw (tin1 (List.mem_of_getElem? (i := 43) (by decide +kernel))) rfl
theorem fl_X4_18 : Cond.fieldLink RX4 18 "KnotColours$Permutations" "queue" "[I" ∈ lw_gw := gw (tin1 (List.mem_of_getElem? (i := 44) (by decide +kernel))) rfl
theorem fl_X4_21 : Cond.fieldLink RX4 21 "KnotColours$Permutations" "seen" "[Z" ∈ lw_gw := gw (tin1 (List.mem_of_getElem? (i := 45) (by decide +kernel))) rfl
theorem lk_X4_25 : LkV RX4 25 yX4_startAtIdentity cX4_startAtIdentity 2 none RX4 := ⟨⟨gw (tin3 (List.mem_of_getElem? (i := 79) (by decide +kernel))) rfl, gw (tin3 (List.mem_of_getElem? (i := 81) (by decide +kernel))) rfl, gw (List.mem_append_left _ (by decide +kernel)) rfl, gw (tin1 (List.mem_of_getElem? (i := 3) (by decide +kernel))) rfl, gw (tin3 (List.mem_of_getElem? (i := 82) (by decide +kernel))) rfl⟩, rfl, by decide +kernel, by decide +kernel⟩
theorem fl_X4_28 : Cond.fieldLink RX4 28 "KnotColours$Table" "count" "I" ∈ lw_gw := gw (tin1 (List.mem_of_getElem? (i := 26) (by decide +kernel))) rfl
theorem lk_X4_34 : LkV RX4 34 yX4_unrank cX4_unrank 8 none RX4 := ⟨⟨gw (tin3 (List.mem_of_getElem? (i := 83) (by decide +kernel))) rfl, gw (tin3 (List.mem_of_getElem? (i := 85) (by decide +kernel))) rfl, gw (List.mem_append_left _ (by decide +kernel)) rfl, gw (tin1 (List.mem_of_getElem? (i := 3) (by decide +kernel))) rfl, gw (tin3 (List.mem_of_getElem? (i := 86) (by decide +kernel))) rfl⟩, rfl, by decide +kernel, by decide +kernel⟩
theorem lk_X4_38 : LkV RX4 38 yX4_rankBehind cX4_rankBehind 7 (some .int) RX4 := ⟨⟨gw (tin3 (List.mem_of_getElem? (i := 87) (by decide +kernel))) rfl, gw (tin3 (List.mem_of_getElem? (i := 89) (by decide +kernel))) rfl, gw (List.mem_append_left _ (by decide +kernel)) rfl, gw (tin1 (List.mem_of_getElem? (i := 3) (by decide +kernel))) rfl, gw (tin3 (List.mem_of_getElem? (i := 90) (by decide +kernel))) rfl⟩, rfl, by decide +kernel, by decide +kernel⟩
theorem lk_X4_42 : LkV RX4 42 yX5_times cX5_times 3 (some .int) RX5 := ⟨⟨gw (tin3 (List.mem_of_getElem? (i := 91) (by decide +kernel))) rfl, gw (tin2 (List.mem_of_getElem? (i := 6) (by decide +kernel))) rfl, gw (tin2 (List.mem_of_getElem? (i := 7) (by decide +kernel))) rfl, gw (tin1 (List.mem_of_getElem? (i := 2) (by decide +kernel))) rfl, gw (tin2 (List.mem_of_getElem? (i := 8) (by decide +kernel))) rfl⟩, rfl, by decide +kernel, by decide +kernel⟩
theorem lk_X4_46 : LkV RX4 46 yX4_keepsProducts cX4_keepsProducts 4 (some .boolean) RX4 := ⟨⟨gw (tin3 (List.mem_of_getElem? (i := 100) (by decide +kernel))) rfl, gw (tin3 (List.mem_of_getElem? (i := 102) (by decide +kernel))) rfl, gw (List.mem_append_left _ (by decide +kernel)) rfl, gw (tin1 (List.mem_of_getElem? (i := 3) (by decide +kernel))) rfl, gw (tin3 (List.mem_of_getElem? (i := 103) (by decide +kernel))) rfl⟩, rfl, by decide +kernel, by decide +kernel⟩
theorem fl_X5_9 : Cond.fieldLink RX5 9 "KnotColours$Table" "count" "I" ∈ lw_gw := gw (tin1 (List.mem_of_getElem? (i := 25) (by decide +kernel))) rfl
theorem fl_X5_15 : Cond.fieldLink RX5 15 "KnotColours$Table" "products" "[I" ∈ lw_gw := gw (tin1 (List.mem_of_getElem? (i := 29) (by decide +kernel))) rfl
theorem lk_X5_19 : (Cond.methodLink RX5 19 arraycopyName ∈ lw_gw ∧ Cond.native arraycopyName ∈ lw_gw) ∧ Cond.static arraycopyName ∈ lw_gw ∧ Cond.initialized "java/lang/System" ∈ lw_gw := ⟨⟨gw (tin1 (List.mem_of_getElem? (i := 185) (by decide +kernel))) rfl, gw (tin1 (List.mem_of_getElem? (i := 187) (by decide +kernel))) rfl⟩, gw (tin1 (List.mem_of_getElem? (i := 186) (by decide +kernel))) rfl, gw (tin1 (List.mem_of_getElem? (i := 8) (by decide +kernel))) rfl⟩
theorem lk_X5_25 : LkS RX5 25 yJ9_floorMod_7cf53 cJ9_floorMod_7cf53 3 (some .int) := ⟨⟨gw (tin1 (List.mem_of_getElem? (i := 200) (by decide +kernel))) rfl, gw (tin1 (List.mem_of_getElem? (i := 201) (by decide +kernel))) rfl, gw (tin1 (List.mem_of_getElem? (i := 9) (by decide +kernel))) rfl, gw (tin1 (List.mem_of_getElem? (i := 202) (by decide +kernel))) rfl⟩, by decide +kernel, by decide +kernel⟩
theorem lk_X5_31 : LkV RX5 31 yX5_put cX5_put 4 none RX5 := ⟨⟨gw (tin1 (List.mem_of_getElem? (i := 203) (by decide +kernel))) rfl, gw (tin1 (List.mem_of_getElem? (i := 204) (by decide +kernel))) rfl, gw (tin1 (List.mem_of_getElem? (i := 205) (by decide +kernel))) rfl, gw (tin1 (List.mem_of_getElem? (i := 2) (by decide +kernel))) rfl, gw (tin1 (List.mem_of_getElem? (i := 206) (by decide +kernel))) rfl⟩, rfl, by decide +kernel, by decide +kernel⟩
theorem lk_X5_35 : LkV RX5 35 yX5_fillTranslation cX5_fillTranslation 9 none RX5 := ⟨⟨gw (tin1 (List.mem_of_getElem? (i := 223) (by decide +kernel))) rfl, gw (tin1 (List.mem_of_getElem? (i := 225) (by decide +kernel))) rfl, gw (List.mem_append_left _ (by decide +kernel)) rfl, gw (tin1 (List.mem_of_getElem? (i := 2) (by decide +kernel))) rfl, gw (tin1 (List.mem_of_getElem? (i := 226) (by decide +kernel))) rfl⟩, rfl, by decide +kernel, by decide +kernel⟩
theorem lk_X5_38 : LkS RX5 38 yX5_pairNumber cX5_pairNumber 3 (some .int) := ⟨⟨gw (tin1 (List.mem_of_getElem? (i := 227) (by decide +kernel))) rfl, gw (tin1 (List.mem_of_getElem? (i := 228) (by decide +kernel))) rfl, gw (tin1 (List.mem_of_getElem? (i := 2) (by decide +kernel))) rfl, gw (tin1 (List.mem_of_getElem? (i := 229) (by decide +kernel))) rfl⟩, by decide +kernel, by decide +kernel⟩
theorem lk_X5_42 : LkS RX5 42 yX5_swapped cX5_swapped 3 (some .int) := ⟨⟨gw (tin1 (List.mem_of_getElem? (i := 230) (by decide +kernel))) rfl, gw (tin1 (List.mem_of_getElem? (i := 231) (by decide +kernel))) rfl, gw (tin1 (List.mem_of_getElem? (i := 2) (by decide +kernel))) rfl, gw (tin1 (List.mem_of_getElem? (i := 232) (by decide +kernel))) rfl⟩, by decide +kernel, by decide +kernel⟩
theorem lk_X5_45 : LkS RX5 45 yJ9_min_7cf53 cJ9_min_7cf53 2 (some .int) := ⟨⟨gw (tin1 (List.mem_of_getElem? (i := 233) (by decide +kernel))) rfl, gw (tin1 (List.mem_of_getElem? (i := 194) (by decide +kernel))) rfl, gw (tin1 (List.mem_of_getElem? (i := 9) (by decide +kernel))) rfl, gw (tin1 (List.mem_of_getElem? (i := 195) (by decide +kernel))) rfl⟩, by decide +kernel, by decide +kernel⟩
theorem lk_X5_48 : LkS RX5 48 yJ9_max_7cf53 cJ9_max_7cf53 2 (some .int) := ⟨⟨gw (tin1 (List.mem_of_getElem? (i := 234) (by decide +kernel))) rfl, gw (tin1 (List.mem_of_getElem? (i := 235) (by decide +kernel))) rfl, gw (tin1 (List.mem_of_getElem? (i := 9) (by decide +kernel))) rfl, gw (tin1 (List.mem_of_getElem? (i := 236) (by decide +kernel))) rfl⟩, by decide +kernel, by decide +kernel⟩
theorem lk_X5_51 : LkV RX5 51 yX5_lowestFactor cX5_lowestFactor 4 (some .int) RX5 := ⟨⟨gw (tin2 (List.mem_of_getElem? (i := 32) (by decide +kernel))) rfl, gw (tin2 (List.mem_of_getElem? (i := 33) (by decide +kernel))) rfl, gw (tin2 (List.mem_of_getElem? (i := 34) (by decide +kernel))) rfl, gw (tin1 (List.mem_of_getElem? (i := 2) (by decide +kernel))) rfl, gw (tin2 (List.mem_of_getElem? (i := 35) (by decide +kernel))) rfl⟩, rfl, by decide +kernel, by decide +kernel⟩
theorem lk_X5_54 : LkV RX5 54 yX5_times cX5_times 3 (some .int) RX5 := ⟨⟨gw (tin2 (List.mem_of_getElem? (i := 22) (by decide +kernel))) rfl, gw (tin2 (List.mem_of_getElem? (i := 6) (by decide +kernel))) rfl, gw (tin2 (List.mem_of_getElem? (i := 7) (by decide +kernel))) rfl, gw (tin1 (List.mem_of_getElem? (i := 2) (by decide +kernel))) rfl, gw (tin2 (List.mem_of_getElem? (i := 8) (by decide +kernel))) rfl⟩, rfl, by decide +kernel, by decide +kernel⟩
theorem lk_X5_57 : LkV RX5 57 yX5_isPermutation cX5_isPermutation 4 (some .boolean) RX5 := ⟨⟨gw (tin2 (List.mem_of_getElem? (i := 18) (by decide +kernel))) rfl, gw (tin2 (List.mem_of_getElem? (i := 20) (by decide +kernel))) rfl, gw (List.mem_append_left _ (by decide +kernel)) rfl, gw (tin1 (List.mem_of_getElem? (i := 2) (by decide +kernel))) rfl, gw (tin2 (List.mem_of_getElem? (i := 21) (by decide +kernel))) rfl⟩, rfl, by decide +kernel, by decide +kernel⟩
theorem lk_X5_61 : LkV RX5 61 yX5_allElements cX5_allElements 1 (some .int) RX5 := ⟨⟨gw (tin2 (List.mem_of_getElem? (i := 23) (by decide +kernel))) rfl, gw (tin2 (List.mem_of_getElem? (i := 24) (by decide +kernel))) rfl, gw (tin2 (List.mem_of_getElem? (i := 25) (by decide +kernel))) rfl, gw (tin1 (List.mem_of_getElem? (i := 2) (by decide +kernel))) rfl, gw (tin2 (List.mem_of_getElem? (i := 26) (by decide +kernel))) rfl⟩, rfl, by decide +kernel, by decide +kernel⟩
theorem lk_X5_65 : LkV RX5 65 yX5_componentOf cX5_componentOf 7 (some .int) RX5 := ⟨⟨gw (tin3 (List.mem_of_getElem? (i := 29) (by decide +kernel))) rfl, gw (tin3 (List.mem_of_getElem? (i := 31) (by decide +kernel))) rfl, gw (List.mem_append_left _ (by decide +kernel)) rfl, gw (tin1 (List.mem_of_getElem? (i := 2) (by decide +kernel))) rfl, gw (tin3 (List.mem_of_getElem? (i := 32) (by decide +kernel))) rfl⟩, rfl, by decide +kernel, by decide +kernel⟩
theorem lk_X5_69 : LkV RX5 69 yX5_closureOf cX5_closureOf 6 (some .int) RX5 := ⟨⟨gw (tin3 (List.mem_of_getElem? (i := 50) (by decide +kernel))) rfl, gw (tin3 (List.mem_of_getElem? (i := 39) (by decide +kernel))) rfl, gw (tin3 (List.mem_of_getElem? (i := 40) (by decide +kernel))) rfl, gw (tin1 (List.mem_of_getElem? (i := 2) (by decide +kernel))) rfl, gw (tin3 (List.mem_of_getElem? (i := 41) (by decide +kernel))) rfl⟩, rfl, by decide +kernel, by decide +kernel⟩
theorem lk_X5_72 : LkS RX5 72 yJ6_bitCount_0f7a4 cJ6_bitCount_0f7a4 1 (some .int) := ⟨⟨gw (tin3 (List.mem_of_getElem? (i := 51) (by decide +kernel))) rfl, gw (tin2 (List.mem_of_getElem? (i := 172) (by decide +kernel))) rfl, gw (tin1 (List.mem_of_getElem? (i := 10) (by decide +kernel))) rfl, gw (tin2 (List.mem_of_getElem? (i := 173) (by decide +kernel))) rfl⟩, by decide +kernel, by decide +kernel⟩
theorem lk_X5_77 : LkV RX5 77 yX5_isIdentityAfter cX5_isIdentityAfter 6 (some .boolean) RX5 := ⟨⟨gw (tin2 (List.mem_of_getElem? (i := 232) (by decide +kernel))) rfl, gw (tin2 (List.mem_of_getElem? (i := 234) (by decide +kernel))) rfl, gw (List.mem_append_left _ (by decide +kernel)) rfl, gw (tin1 (List.mem_of_getElem? (i := 2) (by decide +kernel))) rfl, gw (tin2 (List.mem_of_getElem? (i := 235) (by decide +kernel))) rfl⟩, rfl, by decide +kernel, by decide +kernel⟩
theorem lk_X5_81 : LkV RX5 81 yX5_isNewTranslation cX5_isNewTranslation 3 (some .boolean) RX5 := ⟨⟨gw (tin3 (List.mem_of_getElem? (i := 60) (by decide +kernel))) rfl, gw (tin3 (List.mem_of_getElem? (i := 62) (by decide +kernel))) rfl, gw (List.mem_append_left _ (by decide +kernel)) rfl, gw (tin1 (List.mem_of_getElem? (i := 2) (by decide +kernel))) rfl, gw (tin3 (List.mem_of_getElem? (i := 63) (by decide +kernel))) rfl⟩, rfl, by decide +kernel, by decide +kernel⟩
theorem lk_X5_84 : LkV RX5 84 yX5_sameTranslation cX5_sameTranslation 4 (some .boolean) RX5 := ⟨⟨gw (tin3 (List.mem_of_getElem? (i := 64) (by decide +kernel))) rfl, gw (tin3 (List.mem_of_getElem? (i := 66) (by decide +kernel))) rfl, gw (List.mem_append_left _ (by decide +kernel)) rfl, gw (tin1 (List.mem_of_getElem? (i := 2) (by decide +kernel))) rfl, gw (tin3 (List.mem_of_getElem? (i := 67) (by decide +kernel))) rfl⟩, rfl, by decide +kernel, by decide +kernel⟩
theorem fl_X6_10 : Cond.fieldLink RX6 10 "KnotColours" "table" "LKnotColours$Table;" ∈ lw_gw := gw (tin1 (List.mem_of_getElem? (i := 140) (by decide +kernel))) rfl
theorem fl_X6_16 : Cond.fieldLink RX6 16 "KnotColours" "spare" "LKnotColours$Table;" ∈ lw_gw := gw (tin1 (List.mem_of_getElem? (i := 141) (by decide +kernel))) rfl
theorem fl_X6_22 : Cond.fieldLink RX6 22 "KnotColours" "permutations" "LKnotColours$Permutations;" ∈ lw_gw := gw (tin1 (List.mem_of_getElem? (i := 142) (by decide +kernel))) rfl
theorem fl_X6_29 : Cond.fieldLink RX6 29 "KnotColours" "diagram" "LKnotColours$Diagram;" ∈ lw_gw := gw (tin1 (List.mem_of_getElem? (i := 143) (by decide +kernel))) rfl
theorem fl_X6_38 : Cond.fieldLink RX6 38 "KnotColours" "walk" "LKnotColours$ColouringWalk;" ∈ lw_gw := gw (tin1 (List.mem_of_getElem? (i := 144) (by decide +kernel))) rfl
theorem fl_X6_45 : Cond.fieldLink RX6 45 "KnotColours" "text" "LKnotColours$DiagramText;" ∈ lw_gw := gw (tin1 (List.mem_of_getElem? (i := 145) (by decide +kernel))) rfl
theorem fl_X6_52 : Cond.fieldLink RX6 52 "KnotColours" "history" "LKnotColours$History;" ∈ lw_gw := gw (tin1 (List.mem_of_getElem? (i := 146) (by decide +kernel))) rfl
theorem lk_X6_56 : LkS RX6 56 yX6_isSize cX6_isSize 1 (some .boolean) := ⟨⟨gw (tin1 (List.mem_of_getElem? (i := 166) (by decide +kernel))) rfl, gw (tin1 (List.mem_of_getElem? (i := 167) (by decide +kernel))) rfl, gw (tin1 (List.mem_of_getElem? (i := 1) (by decide +kernel))) rfl, gw (tin1 (List.mem_of_getElem? (i := 168) (by decide +kernel))) rfl⟩, by decide +kernel, by decide +kernel⟩
theorem lk_X6_60 : LkV RX6 60 yX6_makeLinear cX6_makeLinear 4 (some .int) RX6 := ⟨⟨gw (tin1 (List.mem_of_getElem? (i := 169) (by decide +kernel))) rfl, gw (tin1 (List.mem_of_getElem? (i := 171) (by decide +kernel))) rfl, gw (List.mem_append_left _ (by decide +kernel)) rfl, gw (tin1 (List.mem_of_getElem? (i := 1) (by decide +kernel))) rfl, gw (tin1 (List.mem_of_getElem? (i := 172) (by decide +kernel))) rfl⟩, rfl, by decide +kernel, by decide +kernel⟩
theorem lk_X6_64 : LkV RX6 64 yX6_saveState cX6_saveState 1 none RX6 := ⟨⟨gw (tin1 (List.mem_of_getElem? (i := 173) (by decide +kernel))) rfl, gw (tin1 (List.mem_of_getElem? (i := 175) (by decide +kernel))) rfl, gw (List.mem_append_left _ (by decide +kernel)) rfl, gw (tin1 (List.mem_of_getElem? (i := 1) (by decide +kernel))) rfl, gw (tin1 (List.mem_of_getElem? (i := 176) (by decide +kernel))) rfl⟩, rfl, by decide +kernel, by decide +kernel⟩
theorem lk_X6_67 : LkV RX6 67 yX5_fillTranspositions cX5_fillTranspositions 4 none RX5 := ⟨⟨gw (tin1 (List.mem_of_getElem? (i := 219) (by decide +kernel))) rfl, gw (tin1 (List.mem_of_getElem? (i := 220) (by decide +kernel))) rfl, gw (tin1 (List.mem_of_getElem? (i := 221) (by decide +kernel))) rfl, gw (tin1 (List.mem_of_getElem? (i := 2) (by decide +kernel))) rfl, gw (tin1 (List.mem_of_getElem? (i := 222) (by decide +kernel))) rfl⟩, rfl, by decide +kernel, by decide +kernel⟩
theorem fl_X6_71 : Cond.fieldLink RX6 71 "KnotColours$Table" "count" "I" ∈ lw_gw := gw (tin1 (List.mem_of_getElem? (i := 27) (by decide +kernel))) rfl
theorem lk_X6_75 : LkV RX6 75 yX5_has cX5_has 2 (some .boolean) RX5 := ⟨⟨gw (tin2 (List.mem_of_getElem? (i := 1) (by decide +kernel))) rfl, gw (tin2 (List.mem_of_getElem? (i := 2) (by decide +kernel))) rfl, gw (tin2 (List.mem_of_getElem? (i := 3) (by decide +kernel))) rfl, gw (tin1 (List.mem_of_getElem? (i := 2) (by decide +kernel))) rfl, gw (tin2 (List.mem_of_getElem? (i := 4) (by decide +kernel))) rfl⟩, rfl, by decide +kernel, by decide +kernel⟩
theorem lk_X6_78 : LkV RX6 78 yX5_times cX5_times 3 (some .int) RX5 := ⟨⟨gw (tin2 (List.mem_of_getElem? (i := 5) (by decide +kernel))) rfl, gw (tin2 (List.mem_of_getElem? (i := 6) (by decide +kernel))) rfl, gw (tin2 (List.mem_of_getElem? (i := 7) (by decide +kernel))) rfl, gw (tin1 (List.mem_of_getElem? (i := 2) (by decide +kernel))) rfl, gw (tin2 (List.mem_of_getElem? (i := 8) (by decide +kernel))) rfl⟩, rfl, by decide +kernel, by decide +kernel⟩
theorem lk_X6_81 : LkV RX6 81 yX5_put cX5_put 4 none RX5 := ⟨⟨gw (tin2 (List.mem_of_getElem? (i := 9) (by decide +kernel))) rfl, gw (tin1 (List.mem_of_getElem? (i := 204) (by decide +kernel))) rfl, gw (tin1 (List.mem_of_getElem? (i := 205) (by decide +kernel))) rfl, gw (tin1 (List.mem_of_getElem? (i := 2) (by decide +kernel))) rfl, gw (tin1 (List.mem_of_getElem? (i := 206) (by decide +kernel))) rfl⟩, rfl, by decide +kernel, by decide +kernel⟩
theorem lk_X6_85 : LkV RX6 85 yX5_firstNoPermutation cX5_firstNoPermutation 2 (some .int) RX5 := ⟨⟨gw (tin2 (List.mem_of_getElem? (i := 14) (by decide +kernel))) rfl, gw (tin2 (List.mem_of_getElem? (i := 15) (by decide +kernel))) rfl, gw (tin2 (List.mem_of_getElem? (i := 16) (by decide +kernel))) rfl, gw (tin1 (List.mem_of_getElem? (i := 2) (by decide +kernel))) rfl, gw (tin2 (List.mem_of_getElem? (i := 17) (by decide +kernel))) rfl⟩, rfl, by decide +kernel, by decide +kernel⟩
theorem lk_X6_89 : LkV RX6 89 yX5_copyFrom cX5_copyFrom 2 none RX5 := ⟨⟨gw (tin2 (List.mem_of_getElem? (i := 27) (by decide +kernel))) rfl, gw (tin1 (List.mem_of_getElem? (i := 182) (by decide +kernel))) rfl, gw (tin1 (List.mem_of_getElem? (i := 183) (by decide +kernel))) rfl, gw (tin1 (List.mem_of_getElem? (i := 2) (by decide +kernel))) rfl, gw (tin1 (List.mem_of_getElem? (i := 184) (by decide +kernel))) rfl⟩, rfl, by decide +kernel, by decide +kernel⟩
theorem lk_X6_93 : LkV RX6 93 yX5_fillInverse cX5_fillInverse 6 (some .int) RX5 := ⟨⟨gw (tin2 (List.mem_of_getElem? (i := 28) (by decide +kernel))) rfl, gw (tin2 (List.mem_of_getElem? (i := 29) (by decide +kernel))) rfl, gw (tin2 (List.mem_of_getElem? (i := 30) (by decide +kernel))) rfl, gw (tin1 (List.mem_of_getElem? (i := 2) (by decide +kernel))) rfl, gw (tin2 (List.mem_of_getElem? (i := 31) (by decide +kernel))) rfl⟩, rfl, by decide +kernel, by decide +kernel⟩
theorem lk_X6_97 : LkV RX6 97 yX5_lowestFactor cX5_lowestFactor 4 (some .int) RX5 := ⟨⟨gw (tin2 (List.mem_of_getElem? (i := 215) (by decide +kernel))) rfl, gw (tin2 (List.mem_of_getElem? (i := 33) (by decide +kernel))) rfl, gw (tin2 (List.mem_of_getElem? (i := 34) (by decide +kernel))) rfl, gw (tin1 (List.mem_of_getElem? (i := 2) (by decide +kernel))) rfl, gw (tin2 (List.mem_of_getElem? (i := 35) (by decide +kernel))) rfl⟩, rfl, by decide +kernel, by decide +kernel⟩
theorem lk_X6_100 : LkV RX6 100 yX5_firstNotIdempotent cX5_firstNotIdempotent 2 (some .int) RX5 := ⟨⟨gw (tin3 (List.mem_of_getElem? (i := 13) (by decide +kernel))) rfl, gw (tin3 (List.mem_of_getElem? (i := 14) (by decide +kernel))) rfl, gw (tin3 (List.mem_of_getElem? (i := 15) (by decide +kernel))) rfl, gw (tin1 (List.mem_of_getElem? (i := 2) (by decide +kernel))) rfl, gw (tin3 (List.mem_of_getElem? (i := 16) (by decide +kernel))) rfl⟩, rfl, by decide +kernel, by decide +kernel⟩
theorem lk_X6_103 : LkV RX6 103 yX5_firstNotDistributive cX5_firstNotDistributive 4 (some .int) RX5 := ⟨⟨gw (tin3 (List.mem_of_getElem? (i := 17) (by decide +kernel))) rfl, gw (tin3 (List.mem_of_getElem? (i := 18) (by decide +kernel))) rfl, gw (tin3 (List.mem_of_getElem? (i := 19) (by decide +kernel))) rfl, gw (tin1 (List.mem_of_getElem? (i := 2) (by decide +kernel))) rfl, gw (tin3 (List.mem_of_getElem? (i := 20) (by decide +kernel))) rfl⟩, rfl, by decide +kernel, by decide +kernel⟩
theorem lk_X6_106 : LkV RX6 106 yX5_reachedFrom cX5_reachedFrom 6 (some .int) RX5 := ⟨⟨gw (tin2 (List.mem_of_getElem? (i := 220) (by decide +kernel))) rfl, gw (tin2 (List.mem_of_getElem? (i := 221) (by decide +kernel))) rfl, gw (tin2 (List.mem_of_getElem? (i := 222) (by decide +kernel))) rfl, gw (tin1 (List.mem_of_getElem? (i := 2) (by decide +kernel))) rfl, gw (tin2 (List.mem_of_getElem? (i := 223) (by decide +kernel))) rfl⟩, rfl, by decide +kernel, by decide +kernel⟩
theorem lk_X6_110 : LkV RX6 110 yX5_countComponents cX5_countComponents 4 (some .int) RX5 := ⟨⟨gw (tin3 (List.mem_of_getElem? (i := 25) (by decide +kernel))) rfl, gw (tin3 (List.mem_of_getElem? (i := 26) (by decide +kernel))) rfl, gw (tin3 (List.mem_of_getElem? (i := 27) (by decide +kernel))) rfl, gw (tin1 (List.mem_of_getElem? (i := 2) (by decide +kernel))) rfl, gw (tin3 (List.mem_of_getElem? (i := 28) (by decide +kernel))) rfl⟩, rfl, by decide +kernel, by decide +kernel⟩
theorem lk_X6_113 : LkV RX6 113 yX5_allElements cX5_allElements 1 (some .int) RX5 := ⟨⟨gw (tin3 (List.mem_of_getElem? (i := 37) (by decide +kernel))) rfl, gw (tin2 (List.mem_of_getElem? (i := 24) (by decide +kernel))) rfl, gw (tin2 (List.mem_of_getElem? (i := 25) (by decide +kernel))) rfl, gw (tin1 (List.mem_of_getElem? (i := 2) (by decide +kernel))) rfl, gw (tin2 (List.mem_of_getElem? (i := 26) (by decide +kernel))) rfl⟩, rfl, by decide +kernel, by decide +kernel⟩
theorem lk_X6_116 : LkV RX6 116 yX5_closureOf cX5_closureOf 6 (some .int) RX5 := ⟨⟨gw (tin3 (List.mem_of_getElem? (i := 38) (by decide +kernel))) rfl, gw (tin3 (List.mem_of_getElem? (i := 39) (by decide +kernel))) rfl, gw (tin3 (List.mem_of_getElem? (i := 40) (by decide +kernel))) rfl, gw (tin1 (List.mem_of_getElem? (i := 2) (by decide +kernel))) rfl, gw (tin3 (List.mem_of_getElem? (i := 41) (by decide +kernel))) rfl⟩, rfl, by decide +kernel, by decide +kernel⟩
theorem lk_X6_119 : LkV RX6 119 yX5_leastGenerators cX5_leastGenerators 3 (some .int) RX5 := ⟨⟨gw (tin3 (List.mem_of_getElem? (i := 46) (by decide +kernel))) rfl, gw (tin3 (List.mem_of_getElem? (i := 47) (by decide +kernel))) rfl, gw (tin3 (List.mem_of_getElem? (i := 48) (by decide +kernel))) rfl, gw (tin1 (List.mem_of_getElem? (i := 2) (by decide +kernel))) rfl, gw (tin3 (List.mem_of_getElem? (i := 49) (by decide +kernel))) rfl⟩, rfl, by decide +kernel, by decide +kernel⟩
theorem lk_X6_122 : LkV RX6 122 yX5_orderOfTranslation cX5_orderOfTranslation 3 (some .int) RX5 := ⟨⟨gw (tin2 (List.mem_of_getElem? (i := 228) (by decide +kernel))) rfl, gw (tin2 (List.mem_of_getElem? (i := 229) (by decide +kernel))) rfl, gw (tin2 (List.mem_of_getElem? (i := 230) (by decide +kernel))) rfl, gw (tin1 (List.mem_of_getElem? (i := 2) (by decide +kernel))) rfl, gw (tin2 (List.mem_of_getElem? (i := 231) (by decide +kernel))) rfl⟩, rfl, by decide +kernel, by decide +kernel⟩
theorem lk_X6_125 : LkV RX6 125 yX5_countTranslations cX5_countTranslations 3 (some .int) RX5 := ⟨⟨gw (tin3 (List.mem_of_getElem? (i := 56) (by decide +kernel))) rfl, gw (tin3 (List.mem_of_getElem? (i := 57) (by decide +kernel))) rfl, gw (tin3 (List.mem_of_getElem? (i := 58) (by decide +kernel))) rfl, gw (tin1 (List.mem_of_getElem? (i := 2) (by decide +kernel))) rfl, gw (tin3 (List.mem_of_getElem? (i := 59) (by decide +kernel))) rfl⟩, rfl, by decide +kernel, by decide +kernel⟩
theorem lk_X6_128 : LkV RX6 128 yX4_countCompositions cX4_countCompositions 6 (some .int) RX4 := ⟨⟨gw (tin3 (List.mem_of_getElem? (i := 75) (by decide +kernel))) rfl, gw (tin3 (List.mem_of_getElem? (i := 76) (by decide +kernel))) rfl, gw (tin3 (List.mem_of_getElem? (i := 77) (by decide +kernel))) rfl, gw (tin1 (List.mem_of_getElem? (i := 3) (by decide +kernel))) rfl, gw (tin3 (List.mem_of_getElem? (i := 78) (by decide +kernel))) rfl⟩, rfl, by decide +kernel, by decide +kernel⟩
theorem lk_X6_131 : LkV RX6 131 yX4_countAutomorphisms cX4_countAutomorphisms 5 (some .int) RX4 := ⟨⟨gw (tin3 (List.mem_of_getElem? (i := 96) (by decide +kernel))) rfl, gw (tin3 (List.mem_of_getElem? (i := 97) (by decide +kernel))) rfl, gw (tin3 (List.mem_of_getElem? (i := 98) (by decide +kernel))) rfl, gw (tin1 (List.mem_of_getElem? (i := 3) (by decide +kernel))) rfl, gw (tin3 (List.mem_of_getElem? (i := 99) (by decide +kernel))) rfl⟩, rfl, by decide +kernel, by decide +kernel⟩
theorem fl_X6_134 : Cond.fieldLink RX6 134 "KnotColours$Diagram" "arcCount" "I" ∈ lw_gw := gw (tin1 (List.mem_of_getElem? (i := 64) (by decide +kernel))) rfl
theorem lk_X6_137 : LkV RX6 137 yX1_clear cX1_clear 2 none RX1 := ⟨⟨gw (tin2 (List.mem_of_getElem? (i := 40) (by decide +kernel))) rfl, gw (tin2 (List.mem_of_getElem? (i := 41) (by decide +kernel))) rfl, gw (tin2 (List.mem_of_getElem? (i := 42) (by decide +kernel))) rfl, gw (tin1 (List.mem_of_getElem? (i := 4) (by decide +kernel))) rfl, gw (tin2 (List.mem_of_getElem? (i := 43) (by decide +kernel))) rfl⟩, rfl, by decide +kernel, by decide +kernel⟩
theorem fl_X6_140 : Cond.fieldLink RX6 140 "KnotColours" "STANDARD_ARCS" "[I" ∈ lw_gw := gw (tin2 (List.mem_of_getElem? (i := 48) (by decide +kernel))) rfl
theorem fl_X6_144 : Cond.fieldLink RX6 144 "KnotColours" "STANDARD_STARTS" "[I" ∈ lw_gw := gw (tin2 (List.mem_of_getElem? (i := 50) (by decide +kernel))) rfl
theorem fl_X6_147 : Cond.fieldLink RX6 147 "KnotColours" "STANDARD_CROSSINGS" "[I" ∈ lw_gw := gw (tin2 (List.mem_of_getElem? (i := 52) (by decide +kernel))) rfl
theorem lk_X6_150 : LkV RX6 150 yX1_append cX1_append 6 none RX1 := ⟨⟨gw (tin2 (List.mem_of_getElem? (i := 54) (by decide +kernel))) rfl, gw (tin2 (List.mem_of_getElem? (i := 55) (by decide +kernel))) rfl, gw (tin2 (List.mem_of_getElem? (i := 56) (by decide +kernel))) rfl, gw (tin1 (List.mem_of_getElem? (i := 4) (by decide +kernel))) rfl, gw (tin2 (List.mem_of_getElem? (i := 57) (by decide +kernel))) rfl⟩, rfl, by decide +kernel, by decide +kernel⟩
theorem fl_X6_154 : Cond.fieldLink RX6 154 "KnotColours$Diagram" "crossingCount" "I" ∈ lw_gw := gw (tin1 (List.mem_of_getElem? (i := 67) (by decide +kernel))) rfl
theorem lk_X6_157 : LkV RX6 157 yX1_hasArc cX1_hasArc 2 (some .boolean) RX1 := ⟨⟨gw (tin2 (List.mem_of_getElem? (i := 62) (by decide +kernel))) rfl, gw (tin2 (List.mem_of_getElem? (i := 63) (by decide +kernel))) rfl, gw (tin2 (List.mem_of_getElem? (i := 64) (by decide +kernel))) rfl, gw (tin1 (List.mem_of_getElem? (i := 4) (by decide +kernel))) rfl, gw (tin2 (List.mem_of_getElem? (i := 65) (by decide +kernel))) rfl⟩, rfl, by decide +kernel, by decide +kernel⟩
theorem lk_X6_160 : LkV RX6 160 yX1_hasRoom cX1_hasRoom 3 (some .boolean) RX1 := ⟨⟨gw (tin2 (List.mem_of_getElem? (i := 66) (by decide +kernel))) rfl, gw (tin2 (List.mem_of_getElem? (i := 67) (by decide +kernel))) rfl, gw (tin2 (List.mem_of_getElem? (i := 68) (by decide +kernel))) rfl, gw (tin1 (List.mem_of_getElem? (i := 4) (by decide +kernel))) rfl, gw (tin2 (List.mem_of_getElem? (i := 69) (by decide +kernel))) rfl⟩, rfl, by decide +kernel, by decide +kernel⟩
theorem lk_X6_164 : LkV RX6 164 yX1_hasCrossing cX1_hasCrossing 2 (some .boolean) RX1 := ⟨⟨gw (tin2 (List.mem_of_getElem? (i := 74) (by decide +kernel))) rfl, gw (tin2 (List.mem_of_getElem? (i := 75) (by decide +kernel))) rfl, gw (tin2 (List.mem_of_getElem? (i := 76) (by decide +kernel))) rfl, gw (tin1 (List.mem_of_getElem? (i := 4) (by decide +kernel))) rfl, gw (tin2 (List.mem_of_getElem? (i := 77) (by decide +kernel))) rfl⟩, rfl, by decide +kernel, by decide +kernel⟩
theorem lk_X6_167 : LkV RX6 167 yX1_remove cX1_remove 3 none RX1 := ⟨⟨gw (tin2 (List.mem_of_getElem? (i := 78) (by decide +kernel))) rfl, gw (tin2 (List.mem_of_getElem? (i := 79) (by decide +kernel))) rfl, gw (tin2 (List.mem_of_getElem? (i := 80) (by decide +kernel))) rfl, gw (tin1 (List.mem_of_getElem? (i := 4) (by decide +kernel))) rfl, gw (tin2 (List.mem_of_getElem? (i := 81) (by decide +kernel))) rfl⟩, rfl, by decide +kernel, by decide +kernel⟩
theorem lk_X6_170 : LkV RX6 170 yX1_addArc cX1_addArc 1 (some .int) RX1 := ⟨⟨gw (tin2 (List.mem_of_getElem? (i := 86) (by decide +kernel))) rfl, gw (tin2 (List.mem_of_getElem? (i := 87) (by decide +kernel))) rfl, gw (tin2 (List.mem_of_getElem? (i := 88) (by decide +kernel))) rfl, gw (tin1 (List.mem_of_getElem? (i := 4) (by decide +kernel))) rfl, gw (tin2 (List.mem_of_getElem? (i := 89) (by decide +kernel))) rfl⟩, rfl, by decide +kernel, by decide +kernel⟩
theorem lk_X6_173 : LkV RX6 173 yX1_moveIn cX1_moveIn 4 none RX1 := ⟨⟨gw (tin2 (List.mem_of_getElem? (i := 90) (by decide +kernel))) rfl, gw (tin2 (List.mem_of_getElem? (i := 91) (by decide +kernel))) rfl, gw (tin2 (List.mem_of_getElem? (i := 92) (by decide +kernel))) rfl, gw (tin1 (List.mem_of_getElem? (i := 4) (by decide +kernel))) rfl, gw (tin2 (List.mem_of_getElem? (i := 93) (by decide +kernel))) rfl⟩, rfl, by decide +kernel, by decide +kernel⟩
theorem lk_X6_177 : LkV RX6 177 yX1_part cX1_part 3 (some .int) RX1 := ⟨⟨gw (tin3 (List.mem_of_getElem? (i := 111) (by decide +kernel))) rfl, gw (tin2 (List.mem_of_getElem? (i := 95) (by decide +kernel))) rfl, gw (tin2 (List.mem_of_getElem? (i := 96) (by decide +kernel))) rfl, gw (tin1 (List.mem_of_getElem? (i := 4) (by decide +kernel))) rfl, gw (tin2 (List.mem_of_getElem? (i := 97) (by decide +kernel))) rfl⟩, rfl, by decide +kernel, by decide +kernel⟩
theorem lk_X6_180 : LkV RX6 180 yX1_isClosed cX1_isClosed 3 (some .boolean) RX1 := ⟨⟨gw (tin3 (List.mem_of_getElem? (i := 138) (by decide +kernel))) rfl, gw (tin3 (List.mem_of_getElem? (i := 139) (by decide +kernel))) rfl, gw (tin3 (List.mem_of_getElem? (i := 140) (by decide +kernel))) rfl, gw (tin1 (List.mem_of_getElem? (i := 4) (by decide +kernel))) rfl, gw (tin3 (List.mem_of_getElem? (i := 141) (by decide +kernel))) rfl⟩, rfl, by decide +kernel, by decide +kernel⟩
theorem lk_X6_184 : LkV RX6 184 yX1_countComponents cX1_countComponents 4 (some .int) RX1 := ⟨⟨gw (tin3 (List.mem_of_getElem? (i := 146) (by decide +kernel))) rfl, gw (tin3 (List.mem_of_getElem? (i := 147) (by decide +kernel))) rfl, gw (tin3 (List.mem_of_getElem? (i := 148) (by decide +kernel))) rfl, gw (tin1 (List.mem_of_getElem? (i := 4) (by decide +kernel))) rfl, gw (tin3 (List.mem_of_getElem? (i := 149) (by decide +kernel))) rfl⟩, rfl, by decide +kernel, by decide +kernel⟩
theorem lk_X6_185 : LkV RX6 185 yX1_signSum cX1_signSum 3 (some .int) RX1 := ⟨⟨gw (tin3 (List.mem_of_getElem? (i := 130) (by decide +kernel))) rfl, gw (tin3 (List.mem_of_getElem? (i := 131) (by decide +kernel))) rfl, gw (tin3 (List.mem_of_getElem? (i := 132) (by decide +kernel))) rfl, gw (tin1 (List.mem_of_getElem? (i := 4) (by decide +kernel))) rfl, gw (tin3 (List.mem_of_getElem? (i := 133) (by decide +kernel))) rfl⟩, rfl, by decide +kernel, by decide +kernel⟩
theorem lk_X6_188 : LkV RX6 188 yX1_linkingSum cX1_linkingSum 7 (some .int) RX1 := ⟨⟨gw (tin3 (List.mem_of_getElem? (i := 158) (by decide +kernel))) rfl, gw (tin3 (List.mem_of_getElem? (i := 159) (by decide +kernel))) rfl, gw (tin3 (List.mem_of_getElem? (i := 160) (by decide +kernel))) rfl, gw (tin1 (List.mem_of_getElem? (i := 4) (by decide +kernel))) rfl, gw (tin3 (List.mem_of_getElem? (i := 161) (by decide +kernel))) rfl⟩, rfl, by decide +kernel, by decide +kernel⟩
theorem lk_X6_191 : LkV RX6 191 yX0_tally cX0_tally 2 (some .int) RX0 := ⟨⟨gw (tin2 (List.mem_of_getElem? (i := 163) (by decide +kernel))) rfl, gw (tin2 (List.mem_of_getElem? (i := 164) (by decide +kernel))) rfl, gw (tin2 (List.mem_of_getElem? (i := 165) (by decide +kernel))) rfl, gw (tin1 (List.mem_of_getElem? (i := 5) (by decide +kernel))) rfl, gw (tin2 (List.mem_of_getElem? (i := 166) (by decide +kernel))) rfl⟩, rfl, by decide +kernel, by decide +kernel⟩
theorem lk_X6_194 : LkV RX6 194 yX0_countWith cX0_countWith 5 (some .int) RX0 := ⟨⟨gw (tin2 (List.mem_of_getElem? (i := 189) (by decide +kernel))) rfl, gw (tin2 (List.mem_of_getElem? (i := 190) (by decide +kernel))) rfl, gw (tin2 (List.mem_of_getElem? (i := 191) (by decide +kernel))) rfl, gw (tin1 (List.mem_of_getElem? (i := 5) (by decide +kernel))) rfl, gw (tin2 (List.mem_of_getElem? (i := 192) (by decide +kernel))) rfl⟩, rfl, by decide +kernel, by decide +kernel⟩
theorem lk_X6_197 : LkV RX6 197 yX0_countAlike cX0_countAlike 5 (some .int) RX0 := ⟨⟨gw (tin2 (List.mem_of_getElem? (i := 197) (by decide +kernel))) rfl, gw (tin2 (List.mem_of_getElem? (i := 198) (by decide +kernel))) rfl, gw (tin2 (List.mem_of_getElem? (i := 199) (by decide +kernel))) rfl, gw (tin1 (List.mem_of_getElem? (i := 5) (by decide +kernel))) rfl, gw (tin2 (List.mem_of_getElem? (i := 200) (by decide +kernel))) rfl⟩, rfl, by decide +kernel, by decide +kernel⟩
theorem lk_X6_200 : LkV RX6 200 yX0_talliedUsing cX0_talliedUsing 2 (some .int) RX0 := ⟨⟨gw (tin2 (List.mem_of_getElem? (i := 177) (by decide +kernel))) rfl, gw (tin2 (List.mem_of_getElem? (i := 178) (by decide +kernel))) rfl, gw (tin2 (List.mem_of_getElem? (i := 179) (by decide +kernel))) rfl, gw (tin1 (List.mem_of_getElem? (i := 5) (by decide +kernel))) rfl, gw (tin2 (List.mem_of_getElem? (i := 180) (by decide +kernel))) rfl⟩, rfl, by decide +kernel, by decide +kernel⟩
theorem cn_X6_203 : Cond.constant RX6 203 279936 ∈ lw_gw := gw (tin2 (List.mem_of_getElem? (i := 133) (by decide +kernel))) rfl
theorem lk_X6_204 : LkV RX6 204 yX0_colourAt cX0_colourAt 4 (some .int) RX0 := ⟨⟨gw (tin2 (List.mem_of_getElem? (i := 134) (by decide +kernel))) rfl, gw (tin2 (List.mem_of_getElem? (i := 135) (by decide +kernel))) rfl, gw (tin2 (List.mem_of_getElem? (i := 136) (by decide +kernel))) rfl, gw (tin1 (List.mem_of_getElem? (i := 5) (by decide +kernel))) rfl, gw (tin2 (List.mem_of_getElem? (i := 137) (by decide +kernel))) rfl⟩, rfl, by decide +kernel, by decide +kernel⟩
theorem lk_X6_240 : LkV RX6 240 yX5_fillLinear cX5_fillLinear 5 none RX5 := ⟨⟨gw (tin1 (List.mem_of_getElem? (i := 196) (by decide +kernel))) rfl, gw (tin1 (List.mem_of_getElem? (i := 197) (by decide +kernel))) rfl, gw (tin1 (List.mem_of_getElem? (i := 198) (by decide +kernel))) rfl, gw (tin1 (List.mem_of_getElem? (i := 2) (by decide +kernel))) rfl, gw (tin1 (List.mem_of_getElem? (i := 199) (by decide +kernel))) rfl⟩, rfl, by decide +kernel, by decide +kernel⟩
theorem lk_X6_243 : LkV RX6 243 yX3_save cX3_save 3 none RX3 := ⟨⟨gw (tin1 (List.mem_of_getElem? (i := 177) (by decide +kernel))) rfl, gw (tin1 (List.mem_of_getElem? (i := 178) (by decide +kernel))) rfl, gw (tin1 (List.mem_of_getElem? (i := 179) (by decide +kernel))) rfl, gw (tin1 (List.mem_of_getElem? (i := 7) (by decide +kernel))) rfl, gw (tin1 (List.mem_of_getElem? (i := 180) (by decide +kernel))) rfl⟩, rfl, by decide +kernel, by decide +kernel⟩
theorem cn_J6_265 : Cond.constant RJ6 265 1431655765 ∈ lw_gw := gw (tin2 (List.mem_of_getElem? (i := 174) (by decide +kernel))) rfl
theorem cn_J6_266 : Cond.constant RJ6 266 858993459 ∈ lw_gw := gw (tin2 (List.mem_of_getElem? (i := 175) (by decide +kernel))) rfl
theorem cn_J6_267 : Cond.constant RJ6 267 252645135 ∈ lw_gw := gw (tin2 (List.mem_of_getElem? (i := 176) (by decide +kernel))) rfl

