import java.util.ArrayList;
import java.util.List;

/** All that the calls tell of an object, and what only shows when it goes on: some 105 and 130 calls. */
final class Look {
    private final DyeLots x;
    private final List<String> told = new ArrayList<>();

    private Look(DyeLots x) {
        this.x = x;
    }

    /** By calls that change nothing. */
    static List<String> at(DyeLots x) {
        Look look = new Look(x);
        for (int part = 0; part < 5; part++) {
            look.atPart(part);
        }
        for (int lot = 0; lot < 3; lot++) {
            look.atLot(lot);
        }
        for (int what = 0; what <= 10; what++) {
            look.tell("count(" + what + ")", x.count(what));
        }
        look.tell("fault()", x.fault());
        look.tell("fits()", x.fits());
        look.tell("years(3, 77, 0)", x.years(3, 77, 0));
        look.tell("digest()", x.digest());
        return look.told;
    }

    /** By calls that change the object: what gauge told, what is planned, and what an image keeps. */
    static List<String> goingOn(DyeLots x) {
        Look look = new Look(x);
        look.tell("least(0)", x.least(0));
        look.tell("wash()", x.wash());
        look.tell("lot(6)", x.lot(6));
        for (int lot = 0; lot < 3; lot++) {
            look.tell("buy(" + lot + ", 9)", x.buy(lot, 9));
        }
        for (int part = 0; part < 5; part++) {
            look.tell("undo(" + part + ")", x.undo(part));
            look.tell("knit(" + part + ", 0, 1)", x.knit(part, 0, 1));
        }
        look.tell("restore()", x.restore());
        look.told.addAll(at(x));
        look.tell("garment()", x.garment());
        return look.told;
    }

    private void tell(String call, long answer) {
        told.add(call + " = " + answer);
    }

    private void atPart(int part) {
        for (int what = 0; what <= 8; what++) {
            tell("about(" + part + ", " + what + ")", x.about(part, what));
        }
        for (int kind = 0; kind <= 4; kind++) {
            tell("as(" + part + ", " + kind + ")", x.as(part, kind));
        }
        tell("sure(" + part + ")", x.sure(part));
    }

    private void atLot(int lot) {
        for (int what = 0; what <= 2; what++) {
            tell("lotOf(" + lot + ", " + what + ")", x.lotOf(lot, what));
        }
        tell("wanted(" + lot + ", 0)", x.wanted(lot, 0));
        tell("wanted(" + lot + ", 1)", x.wanted(lot, 1));
    }
}
