import java.util.function.Consumer;

/** The picture by which the other tests tell that nothing has changed tells apart what has. */
public final class PictureTest {
    public static void main(String[] args) {
        Check.same("the same calls", Picture.of(Dockets.busy()), Picture.of(Dockets.busy()));
        differs("file", docket -> docket.file(false));
        differs("pass", docket -> docket.pass(1));
        differs("pay", docket -> docket.pay(2));
        differs("payAll", FeeDocket::payAll);
        differs("revive", docket -> docket.revive(1));
        differs("use", docket -> docket.use(1, 0));
        differs("setFees", docket -> docket.setFees(101, 21, 33, 251));
        differs("parse", FeeDocket::parse);
        differs("undo", FeeDocket::undo);
        differs("a byte more", docket -> docket.append(';'));
        differs("the text emptied", FeeDocket::clearText);
        differs("another text", docket -> {
            docket.clearText();
            Dockets.write(docket, "1-2-4s;");
        });
        differs("other saved states", docket -> {
            docket.pass(1);
            docket.undo();
        });
        FeeDocket other = new FeeDocket();
        other.holiday(1, 2);
        FeeDocket holiday = new FeeDocket();
        holiday.holiday(1, 3);
        Check.same("another holiday", Picture.of(holiday).equals(Picture.of(other)), false);
        Check.done("PictureTest");
    }

    private static void differs(String call, Consumer<FeeDocket> body) {
        FeeDocket docket = Dockets.busy();
        body.accept(docket);
        Check.same("the picture behind " + call, Picture.of(docket).equals(Picture.of(Dockets.busy())), false);
    }
}
