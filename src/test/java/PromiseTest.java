/** Each promise of the document: ordinary inputs, the edges that it names, and wrong inputs. */
public final class PromiseTest {
    private static final int NONE = CartArguments.NONE;
    private static final int BAD = CartArguments.BAD;
    private static final int REFUSED = CartArguments.REFUSED;
    private static final int NOTHING = CartArguments.NOTHING;
    private static final int[] WILD = {Integer.MIN_VALUE, Integer.MIN_VALUE + 1, -1000000, -13, -4, -3, -2, -1};

    private PromiseTest() {
    }

    public static void main(String[] args) {
        newObject();
        clear();
        append();
        premise();
        conclusion();
        cart();
        road();
        load();
        unload();
        swap();
        trip();
        tripsUntilWornOut();
        wornOutAtOne();
        grease();
        read();
        readEachCommand();
        readRefused();
        fault();
        faultsByPlace();
        reason();
        eachReason();
        thingOf();
        cartOf();
        at();
        roadOf();
        tenths();
        axle();
        wear();
        tolls();
        best();
        could();
        takes();
        cheapest();
        heaviest();
        fullest();
        write();
        writeRoads();
        written();
        isWell();
        meanWeight();
        creakShare();
        account();
        undo();
        undoEachChange();
        save();
        restore();
        wildNumbers();
        Check.end();
    }

    /** Premises 4 and 9 at the ends of a cart of strength 6, a conclusion of 10, and two roads. */
    private static CartArguments weighed() {
        CartArguments x = new CartArguments();
        x.premise(4);
        x.premise(9);
        x.conclusion(10);
        x.cart(6);
        x.road(30, 5, 2);
        x.road(22, 1, 0);
        x.load(0, 0, 0);
        x.load(1, 0, 5);
        x.load(2, 0, 6);
        return x;
    }

    private static void dueReason(CartArguments x, String call, int reason, int detail) {
        Check.due(call + " reason", x.reason(0, false), reason);
        Check.due(call + " detail", x.reason(0, true), detail);
    }

    private static void dueBehind(CartArguments x, String call, int reason, int detail) {
        Check.due(call + " reason behind", x.reason(1, false), reason);
        Check.due(call + " detail behind", x.reason(1, true), detail);
    }

    private static void dueAccounts(CartArguments x, String call, int... due) {
        for (int what = 0; what < due.length; what++) {
            Check.due(call + " account(" + what + ")", x.account(what), due[what]);
        }
    }

    private static void newObject() {
        CartArguments x = new CartArguments();
        dueAccounts(x, "new", 0, 0, 0, 0, 0, 0, 0, 0, 0, 0, 0, 0, 0);
        Check.due("new thingOf", x.thingOf(0, 0), NONE);
        Check.due("new cartOf", x.cartOf(0, 0), NONE);
        Check.due("new roadOf", x.roadOf(0, 0), NONE);
        Check.due("new fault", x.fault(), NOTHING);
        Check.due("new reason", x.reason(0, false), NOTHING);
        Check.due("new detail", x.reason(0, true), NOTHING);
        Check.due("new written", x.written(0), NONE);
        Check.due("new undo", x.undo(), NOTHING);
        Check.due("new restore", x.restore(), NOTHING);
        Check.due("new isWell", x.isWell(), 1);
        Check.due("new writeRoads", x.writeRoads(), 0);
        Check.dueExactly("new tolls", x.tolls(), 0.0f);
        Check.dueExactly("new meanWeight", x.meanWeight(), 0.0);
        Check.dueExactly("new creakShare", x.creakShare(), 0.0f);
        Check.due("the constants", NONE == -1 && BAD == -2 && REFUSED == -3 && NOTHING == -4 ? 1 : 0, 1);
        CartArguments other = new CartArguments();
        x.premise(3);
        Check.due("objects share nothing", other.account(0), 0);
    }

    private static void clear() {
        CartArguments x = weighed();
        x.trip(0, 0);
        x.save();
        x.load(0, 0, 1);
        Check.say(x, "card");
        Check.type(x, "cart 5");
        x.write(0);
        Check.due("clear()", x.clear(), 3);
        dueAccounts(x, "clear", 0, 0, 0, 0, 0, 0, 0, 0, 0, 0, 0, 6, 0);
        Check.dueExactly("clear tolls", x.tolls(), 0.0f);
        Check.due("clear undo", x.undo(), NOTHING);
        Check.due("clear fault", x.fault(), 3);
        dueReason(x, "clear", 2, 0);
        Check.dueText("clear line", Check.line(x), "0[0,.,.,.,.,1]^2");
        Check.due("clear again", x.clear(), 0);
        Check.due("clear read", x.read(), 1);
        Check.due("clear cart of the text", x.cartOf(0, 0), 5);
        Check.dueExactly("clear wear", x.wear(0, false), 0.0f);
        Check.dueExactly("clear wear rear", x.wear(0, true), 0.0f);
        Check.due("clear trips", x.cartOf(0, 5), 0);
        Check.due("clear premise", x.premise(2), 0);
        Check.due("clear premise is on no cart", x.thingOf(0, 2), NOTHING);
        x.road(9, 9, 9);
        Check.due("clear road trips", x.roadOf(0, 3), 0);
        Check.due("clear restore", x.restore(), 3);
        Check.dueExactly("clear restore tolls", x.tolls(), 5.0f);
    }

    private static void append() {
        CartArguments x = new CartArguments();
        Check.due("append(31)", x.append((char) 31), BAD);
        Check.due("append(127)", x.append((char) 127), BAD);
        Check.due("append(0)", x.append((char) 0), BAD);
        Check.due("append(65535)", x.append((char) 65535), BAD);
        Check.due("append(233)", x.append((char) 233), BAD);
        Check.due("append(32)", x.append((char) 32), 1);
        Check.due("append(126)", x.append((char) 126), 2);
        for (int length = 3; length <= 60; length++) {
            Check.due("append of sign " + length, x.append('a'), length);
        }
        Check.due("append of sign 61", x.append('a'), BAD);
        Check.due("append bad of 61", x.append((char) 127), BAD);
        Check.due("append account", x.account(11), 60);
        Check.due("append read", x.read(), BAD);
        Check.due("append after read", x.append('a'), 1);
    }

    private static void premise() {
        CartArguments x = new CartArguments();
        Check.due("premise(0)", x.premise(0), BAD);
        Check.due("premise(10)", x.premise(10), BAD);
        Check.due("premise(-1)", x.premise(-1), BAD);
        Check.due("premise bad gives no reason", x.reason(0, false), NOTHING);
        Check.due("premise bad is no change", x.account(12), 0);
        for (int number = 0; number < 12; number++) {
            Check.due("premise " + number, x.premise(number % 9 + 1), number);
        }
        Check.due("premise weight", x.thingOf(8, 1), 9);
        Check.due("premise kind", x.thingOf(8, 0), 0);
        Check.due("premise 12", x.premise(1), REFUSED);
        dueReason(x, "premise 12", 1, 12);
        dueBehind(x, "premise 12", NOTHING, NOTHING);
        Check.due("premise bad ahead of refused", x.premise(10), BAD);
        Check.due("premise count", x.account(0), 12);
    }

    private static void conclusion() {
        CartArguments x = new CartArguments();
        Check.due("conclusion(0)", x.conclusion(0), BAD);
        Check.due("conclusion(55)", x.conclusion(55), BAD);
        Check.due("conclusion(1)", x.conclusion(1), 0);
        Check.due("conclusion(54)", x.conclusion(54), 1);
        Check.due("conclusion weight", x.thingOf(1, 1), 54);
        Check.due("conclusion kind", x.thingOf(1, 0), 1);
        for (int number = 2; number < 12; number++) {
            Check.due("conclusion " + number, number % 2 == 0 ? x.premise(1) : x.conclusion(10), number);
        }
        Check.due("conclusion 12", x.conclusion(1), REFUSED);
        dueReason(x, "conclusion 12", 1, 12);
        Check.due("conclusion bad ahead of refused", x.conclusion(0), BAD);
        Check.due("conclusion count", x.account(2), 7);
    }

    private static void cart() {
        CartArguments x = new CartArguments();
        Check.due("cart(0)", x.cart(0), BAD);
        Check.due("cart(61)", x.cart(61), BAD);
        Check.due("cart(1)", x.cart(1), 0);
        Check.due("cart(60)", x.cart(60), 1);
        Check.due("cart(7)", x.cart(7), 2);
        Check.due("cart(8)", x.cart(8), 3);
        Check.due("cart 4", x.cart(9), REFUSED);
        dueReason(x, "cart 4", 1, 4);
        Check.due("cart bad ahead of refused", x.cart(0), BAD);
        Check.due("cart strength", x.cartOf(1, 0), 60);
        Check.due("cart count", x.account(4), 4);
    }

    private static void road() {
        CartArguments x = new CartArguments();
        int[][] bad = {{0, 1, 0}, {100, 1, 0}, {1, 0, 0}, {1, 10, 0}, {1, 1, -1}, {1, 1, 10}};
        for (int[] b : bad) {
            Check.due("road bad", x.road(b[0], b[1], b[2]), BAD);
        }
        Check.due("road(1, 1, 0)", x.road(1, 1, 0), 0);
        Check.due("road(99, 9, 9)", x.road(99, 9, 9), 1);
        for (int number = 2; number < 5; number++) {
            Check.due("road " + number, x.road(50, 5, 5), number);
        }
        Check.due("road 5", x.road(50, 5, 5), REFUSED);
        dueReason(x, "road 5", 1, 5);
        Check.due("road bad ahead of refused", x.road(50, 5, 10), BAD);
        Check.due("road limit", x.roadOf(1, 0), 99);
        Check.due("road count", x.account(5), 5);
    }

    private static void load() {
        CartArguments x = new CartArguments();
        x.premise(4);
        x.premise(9);
        x.conclusion(10);
        x.conclusion(13);
        x.cart(6);
        x.cart(60);
        Check.due("load no thing", x.load(4, 0, 0), NONE);
        Check.due("load thing -1", x.load(-1, 0, 0), NONE);
        Check.due("load no cart", x.load(0, 2, 0), NONE);
        Check.due("load cart -1", x.load(0, -1, 0), NONE);
        Check.due("load no thing, bad place", x.load(4, 0, 7), NONE);
        Check.due("load place 7", x.load(0, 0, 7), BAD);
        Check.due("load place -1", x.load(0, 0, -1), BAD);
        Check.due("load premise on the top", x.load(0, 0, 6), REFUSED);
        dueReason(x, "load premise on the top", 3, 6);
        Check.due("load conclusion below", x.load(2, 0, 5), REFUSED);
        dueReason(x, "load conclusion below", 3, 5);
        Check.due("load conclusion without premises", x.load(2, 0, 6), REFUSED);
        dueReason(x, "load conclusion without premises", 5, 10);
        Check.due("load 0", x.load(0, 0, 3), 4);
        Check.due("load 0 again", x.load(0, 1, 7), BAD);
        Check.due("load 0 elsewhere", x.load(0, 1, 6), REFUSED);
        dueReason(x, "load 0 elsewhere", 2, 0);
        Check.due("load 1 there", x.load(1, 0, 3), REFUSED);
        dueReason(x, "load 1 there", 4, 0);
        Check.due("load 1", x.load(1, 0, 0), 13);
        Check.due("load 3, just as heavy", x.load(3, 0, 6), 26);
        Check.due("load 2, place taken ahead of weight", x.load(2, 0, 6), REFUSED);
        dueReason(x, "load 2, place taken", 4, 3);
        Check.due("load 2 elsewhere", x.load(2, 1, 6), REFUSED);
        dueReason(x, "load 2 elsewhere", 5, 10);
        x.premise(1);
        Check.due("load 4 on cart 1", x.load(4, 1, 2), 1);
        Check.due("load 4 again", x.load(4, 0, 0), REFUSED);
        dueReason(x, "load 4 again", 2, 1);
        Check.due("load stands", x.at(1, 2), 4);
    }

    private static void unload() {
        CartArguments x = weighed();
        Check.due("unload no thing", x.unload(3), NONE);
        Check.due("unload -1", x.unload(-1), NONE);
        Check.due("unload premise below a conclusion", x.unload(1), REFUSED);
        dueReason(x, "unload premise below a conclusion", 5, 6);
        Check.due("unload the light one", x.unload(0), REFUSED);
        dueReason(x, "unload the light one", 5, 1);
        x.premise(1);
        x.load(3, 0, 2);
        Check.due("unload, just as heavy", x.unload(0), 0);
        Check.due("unload again", x.unload(0), REFUSED);
        dueReason(x, "unload again", 6, 0);
        Check.due("unload place", x.thingOf(0, 3), NOTHING);
        Check.due("unload conclusion", x.unload(2), 0);
        Check.due("unload premise then", x.unload(1), 0);
        x.cart(3);
        x.load(1, 1, 1);
        Check.due("unload from cart 1", x.unload(1), 1);
        Check.due("unload weight", x.cartOf(1, 4), 0);
    }

    private static void swap() {
        CartArguments x = weighed();
        Check.due("swap no cart", x.swap(1, 0, 3), NONE);
        Check.due("swap no cart, no place", x.swap(-1, 6, 6), NONE);
        Check.due("swap place 6", x.swap(0, 6, 3), BAD);
        Check.due("swap other 6", x.swap(0, 3, 6), BAD);
        Check.due("swap both 6", x.swap(0, 6, 6), BAD);
        Check.due("swap place -1", x.swap(0, -1, 3), BAD);
        Check.due("swap other -1", x.swap(0, 3, -1), BAD);
        Check.due("swap one place", x.swap(0, 3, 3), REFUSED);
        dueReason(x, "swap one place", 7, 3);
        Check.due("swap with an empty place", x.swap(0, 0, 3), 98);
        Check.due("swap moved", x.at(0, 3), 0);
        Check.due("swap left", x.at(0, 0), NOTHING);
        Check.due("swap from an empty place", x.swap(0, 0, 3), 50);
        Check.due("swap two premises", x.swap(0, 5, 0), 50);
        Check.due("swap two premises, one", x.at(0, 0), 1);
        Check.due("swap two premises, other", x.at(0, 5), 0);
        int changes = x.account(12);
        Check.due("swap two empty places", x.swap(0, 2, 3), 50);
        Check.due("swap two empty places is a change", x.account(12), Math.min(8, changes + 1));
        Check.due("swap keeps the top", x.at(0, 6), 2);
        x.cart(9);
        Check.due("swap on an empty cart", x.swap(1, 0, 5), 0);
        Check.due("swap on the other cart moves nothing", x.at(0, 0), 1);
    }

    private static void trip() {
        CartArguments x = weighed();
        Check.due("trip no cart", x.trip(1, 0), NONE);
        Check.due("trip no road", x.trip(0, 2), NONE);
        Check.due("trip cart -1", x.trip(-1, 0), NONE);
        Check.due("trip road -1", x.trip(0, -1), NONE);
        Check.due("trip over the limit", x.trip(0, 1), REFUSED);
        dueReason(x, "trip over the limit", 9, 1);
        Check.due("trip(0, 0)", x.trip(0, 0), 2);
        Check.dueExactly("trip wear front", x.wear(0, false), 9.0f * 5.0f * 0.001f * 2.0f);
        Check.dueExactly("trip wear rear", x.wear(0, true), 14.0f * 5.0f * 0.001f * 2.0f);
        Check.dueExactly("trip tolls", x.tolls(), 5.0f);
        Check.due("trips of the cart", x.cartOf(0, 5), 1);
        Check.due("trips over the road", x.roadOf(0, 3), 1);
        Check.due("trips over the other road", x.roadOf(1, 3), 0);
        Check.due("trips account", x.account(9), 1);
        Check.due("miles account", x.account(10), 5);
        x.unload(2);
        Check.due("trip without a conclusion", x.trip(0, 1), REFUSED);
        dueReason(x, "trip without a conclusion", 8, 2);
        Check.due("trip just within the limit", tripAtLimit(23), 2);
        Check.due("trip just over the limit", tripAtLimit(22), REFUSED);
        x.unload(0);
        x.unload(1);
        Check.due("trip of an empty cart", x.trip(0, 0), REFUSED);
        dueReason(x, "trip of an empty cart", 8, 0);
    }

    private static int tripAtLimit(int limit) {
        CartArguments x = weighed();
        x.road(limit, 1, 1);
        return x.trip(0, 2);
    }

    private static void tripsUntilWornOut() {
        CartArguments x = new CartArguments();
        x.premise(9);
        x.conclusion(9);
        x.cart(10);
        x.road(18, 9, 3);
        x.road(17, 9, 3);
        x.load(0, 0, 0);
        x.load(1, 0, 6);
        float front = 0.0f;
        float rear = 0.0f;
        float tolls = 0.0f;
        int trips = 0;
        while (front < 1.0f) {
            Check.due("trip " + trips, x.trip(0, 0), 1);
            front = front + 13.5f * 9.0f * 0.001f * 2.0f;
            rear = rear + 4.5f * 9.0f * 0.001f;
            tolls = tolls + 9.0f * 3.0f * 0.25f;
            trips++;
            Check.dueExactly("wear front " + trips, x.wear(0, false), front);
            Check.dueExactly("wear rear " + trips, x.wear(0, true), rear);
            Check.dueExactly("tolls " + trips, x.tolls(), tolls);
        }
        Check.due("trip worn out in front", x.trip(0, 0), REFUSED);
        dueReason(x, "trip worn out in front", 10, 0);
        Check.due("trip limit ahead of wear", x.trip(0, 1), REFUSED);
        dueReason(x, "trip limit ahead of wear", 9, 1);
        Check.due("worn out account", x.account(8), 1);
        Check.due("grease of one worn out", x.grease(0), 1);
        x.swap(0, 0, 5);
        while (x.trip(0, 0) >= 0) {
            trips++;
        }
        dueReason(x, "trip worn out behind", 10, 1);
        Check.due("trips so far", x.account(9), trips);
        Check.due("miles so far", x.account(10), 9 * trips);
        x.swap(0, 0, 5);
        Check.due("trip still worn out behind", x.trip(0, 0), REFUSED);
        dueReason(x, "trip still worn out behind", 10, 1);
        Check.due("worn out wears not", x.wear(0, false) < 1.0f ? 1 : 0, 1);
    }

    /** Eight trips of an eighth each make the wear of the front axle just 1, which is worn out. */
    private static void wornOutAtOne() {
        CartArguments x = new CartArguments();
        x.premise(8);
        x.premise(1);
        x.conclusion(9);
        x.cart(6);
        x.road(18, 5, 0);
        x.load(0, 0, 0);
        x.load(1, 0, 5);
        x.load(2, 0, 6);
        for (int left = 8; left > 0; left--) {
            Check.due("could until just 1", x.could(0, 0), left);
            Check.due("worn out before 1", x.account(8), 0);
            Check.due("trip until just 1", x.trip(0, 0), 1);
        }
        Check.dueExactly("wear of just 1", x.wear(0, false), 1.0f);
        Check.due("worn out at 1", x.account(8), 1);
        Check.due("could at 1", x.could(0, 0), 0);
        Check.due("trip at 1", x.trip(0, 0), REFUSED);
        dueReason(x, "trip at 1", 10, 0);
        Check.due("grease at 1", x.grease(0), 1);
    }

    private static void grease() {
        CartArguments x = weighed();
        Check.due("grease no cart", x.grease(1), NONE);
        Check.due("grease cart -1", x.grease(-1), NONE);
        Check.due("grease without wear", x.grease(0), REFUSED);
        dueReason(x, "grease without wear", 11, 0);
        x.trip(0, 0);
        Check.due("grease with wear", x.grease(0), 0);
        Check.dueExactly("grease front", x.wear(0, false), 0.0f);
        Check.dueExactly("grease rear", x.wear(0, true), 0.0f);
        x.trip(0, 0);
        x.unload(2);
        x.unload(1);
        x.unload(0);
        Check.due("grease of an empty cart", x.grease(0), 0);
        Check.due("grease worn out", greaseOfWornOut(), 2);
        x.cart(5);
        Check.due("grease of cart 1", x.grease(1), REFUSED);
        dueReason(x, "grease of cart 1", 11, 1);
    }

    /** Both axles bear the same, so that they are worn out by the same trip. */
    private static int greaseOfWornOut() {
        CartArguments x = new CartArguments();
        x.premise(5);
        x.premise(5);
        x.conclusion(10);
        x.cart(9);
        x.road(20, 9, 0);
        x.load(0, 0, 2);
        x.load(1, 0, 3);
        x.load(2, 0, 6);
        for (int trips = 0; trips < 6; trips++) {
            Check.due("grease worn out yet", x.account(8), 0);
            Check.due("grease trip", x.trip(0, 0), 2);
        }
        Check.due("grease worn out both", x.account(8), 2);
        Check.due("grease no trip", x.trip(0, 0), REFUSED);
        dueReason(x, "grease no trip", 10, 0);
        return x.grease(0);
    }

    private static void read() {
        CartArguments x = new CartArguments();
        Check.due("read of no text", x.read(), BAD);
        Check.due("read of no text, fault", x.fault(), 0);
        Check.due("read is no change when bad", x.account(12), 0);
        Check.due("read one", Check.say(x, "cart 9"), 1);
        Check.due("read one, cart", x.cartOf(0, 0), 9);
        Check.due("read is one change", x.account(12), 1);
        Check.due("read three", Check.say(x, "premise 5;premise 4;load 0 00"), 3);
        Check.due("read three is one change", x.account(12), 2);
        Check.due("read empties", x.account(11), 0);
        Check.due("read keeps the fault", x.fault(), 0);
        Check.due("read undo", x.undo(), 1);
        Check.due("read undone", x.account(0), 0);
        Check.due("read of eight", Check.say(x, "road 1 1 0;cart 1;premise 1;unload 9"), REFUSED);
        Check.due("read none of them", x.account(0) + x.account(5), 0);
        Check.due("read refused empties", x.account(11), 0);
        Check.due("read refused is no change", x.account(12), 1);
        Check.due("read long text", Check.say(x, "cart 9;cart 8;cart 7;premise 1;premise 2;premise 3;premise 4"), 7);
        Check.due("read long text, carts", x.account(4), 4);
        Check.due("read long text, things", x.account(0), 4);
    }

    private static void readEachCommand() {
        CartArguments x = new CartArguments();
        Check.due("read premise", Check.say(x, "premise 9;premise 4"), 2);
        Check.due("read conclusion", Check.say(x, "conclusion 13;conclusion 05"), 2);
        Check.due("read conclusion 05", x.thingOf(3, 1), 5);
        Check.due("read cart", Check.say(x, "cart 60;cart 7"), 2);
        Check.due("read cart 60", x.cartOf(0, 0), 60);
        Check.due("read road", Check.say(x, "road 99 8 7;road 1 2 3"), 2);
        Check.due("read road limit", x.roadOf(0, 0), 99);
        Check.due("read road miles", x.roadOf(0, 1), 8);
        Check.due("read road rate", x.roadOf(0, 2), 7);
        Check.due("read road 1", x.roadOf(1, 2), 3);
        Check.due("read load", Check.say(x, "load 0 14;load 01 15;load 2 16"), 3);
        Check.due("read load 0", x.at(1, 4), 0);
        Check.due("read load 1", x.at(1, 5), 1);
        Check.due("read load 2", x.at(1, 6), 2);
        Check.due("read swap", Check.say(x, "swap 1 40"), 1);
        Check.due("read swap 0", x.at(1, 0), 0);
        Check.due("read trip", Check.say(x, "trip 1 0"), 1);
        Check.due("read trip cart", x.cartOf(1, 5), 1);
        Check.due("read trip road", x.roadOf(0, 3), 1);
        Check.due("read grease", Check.say(x, "grease 1"), 1);
        Check.dueExactly("read grease wear", x.wear(1, false), 0.0f);
        Check.due("read unload", Check.say(x, "unload 02;unload 1"), 2);
        Check.due("read unload 2", x.at(1, 6), NOTHING);
        Check.due("read unload of thing 11", Check.say(x, "unload 11"), REFUSED);
        dueReason(x, "read unload of thing 11", 13, 0);
    }

    private static void readRefused() {
        CartArguments x = weighed();
        Check.due("read 12", Check.say(x, "premise 7;load 3 01;unload 1"), 3);
        x.undo();
        Check.due("read 12 refused", Check.say(x, "premise 7;load 3 01;unload 0;unload 2;load 2 00"), REFUSED);
        dueReason(x, "read 12 refused", 12, 4);
        dueBehind(x, "read 12 refused", 3, 0);
        Check.due("read 12 leaves things", x.account(0), 3);
        Check.due("read 12 leaves places", x.at(0, 0), 0);
        Check.due("read 12 first", Check.say(x, "unload 1;cart 5"), REFUSED);
        dueReason(x, "read 12 first", 12, 0);
        dueBehind(x, "read 12 first", 5, 6);
        Check.due("read 13 bad", Check.say(x, "cart 5;cart 61"), REFUSED);
        dueReason(x, "read 13 bad", 13, 1);
        dueBehind(x, "read 13 bad", NOTHING, NOTHING);
        Check.due("read 13 none", Check.say(x, "trip 0 9;unload 1"), REFUSED);
        dueReason(x, "read 13 none", 13, 0);
        Check.due("read 12 ahead of 13 in the text", Check.say(x, "swap 0 33;premise 0"), REFUSED);
        dueReason(x, "read 12 ahead of 13 in the text", 12, 0);
        dueBehind(x, "read 12 ahead of 13 in the text", 7, 3);
        Check.due("read undoes trips", Check.say(x, "trip 0 0;grease 0;trip 0 0;grease 0;grease 0"), REFUSED);
        dueReason(x, "read undoes trips", 12, 4);
        dueBehind(x, "read undoes trips", 11, 0);
        Check.due("read undoes trips, cart", x.cartOf(0, 5), 0);
        Check.dueExactly("read undoes trips, tolls", x.tolls(), 0.0f);
        int left = x.account(12);
        Check.due("read refused leaves the changes", left, 7);
        Check.due("read refused leaves the latest change", x.undo(), 6);
        Check.due("read refused leaves the change before", x.at(0, 6), NOTHING);
        x.grease(9);
        x.unload(9);
        dueReason(x, "reasons stay for other errors", 12, 4);
    }

    private static void fault() {
        CartArguments x = new CartArguments();
        Check.due("fault at first", x.fault(), NOTHING);
        Check.say(x, "cart 5");
        Check.due("fault without one", x.fault(), NOTHING);
        Check.say(x, "cart 61");
        Check.due("fault of a refused text", x.fault(), NOTHING);
        Check.say(x, "cart 5;carts");
        Check.due("fault kept", x.fault(), 11);
        Check.say(x, "cart 5");
        Check.due("fault stays", x.fault(), 11);
        x.undo();
        Check.due("fault not undone", x.fault(), 11);
        Check.say(x, "");
        Check.due("fault of no text", x.fault(), 0);
    }

    private static void faultsByPlace() {
        String[] texts = {
            "", "x", " cart 5", "c", "cx", "co", "ca", "con", "cor", "cat", "cart", "cart5", "cart ", "cart x",
            "cart 5 ", "cart 55", "cart 555", "cart 5;", "cart 5;;", "cart 5; cart 5", ";", "Cart 5",
            "premise", "premise ", "premise 5", "premise 55", "premise 5x", "premisses 5", "premise  5",
            "conclusion 5", "conclusion 54", "conclusion 541", "conclusion x", "conclusions",
            "road 5", "road 5 ", "road 5 5", "road 5 5 5", "road 5 5 55", "road 55 5 5", "road 55 55 5", "road 555",
            "load 5", "load 5 5", "load 5 55", "load 5 5 5", "load 55 55", "load 55 555", "load 55",
            "unload 5", "unload 55", "unload 555", "unload", "un load 5", "up",
            "swap 5", "swap 5 5", "swap 5 55", "swap 55", "swap 5 555", "sway",
            "trip 5", "trip 5 ", "trip 5 5", "trip 5 55", "trip 55", "tr1p",
            "grease", "grease 5", "grease 55", "great", "cart 5;premise", "cart 5;trip 1 1;u", "lo", "p;", "~",
        };
        int[] faults = {
            0, 0, 0, 1, 1, 2, 2, 3, 2, 2, 4, 4, 5, 5,
            6, -1, 7, 7, 7, 7, 0, 0,
            7, 8, -1, 9, 9, 6, 8,
            -1, -1, 13, 11, 10,
            6, 7, 8, -1, 10, -1, 9, 7,
            6, 8, -1, 8, -1, 10, 7,
            -1, -1, 9, 6, 2, 1,
            6, 8, -1, 6, 9, 3,
            6, 7, -1, 8, 6, 2,
            6, -1, 8, 4, 14, 17, 2, 1, 0,
        };
        Check.due("texts and faults", texts.length, faults.length);
        for (int index = 0; index < texts.length && index < faults.length; index++) {
            CartArguments x = new CartArguments();
            int answer = Check.say(x, texts[index]);
            Check.due("\"" + texts[index] + "\" is bad", answer == BAD ? 1 : 0, faults[index] < 0 ? 0 : 1);
            Check.due("\"" + texts[index] + "\" fault", x.fault(), faults[index] < 0 ? NOTHING : faults[index]);
        }
    }

    private static void reason() {
        CartArguments x = new CartArguments();
        for (int depth : new int[] {-1, 2, Integer.MIN_VALUE, Integer.MAX_VALUE}) {
            Check.due("reason bad depth", x.reason(depth, false), BAD);
            Check.due("detail bad depth", x.reason(depth, true), BAD);
        }
        Check.due("reason of nothing", x.reason(0, false), NOTHING);
        Check.due("detail of nothing", x.reason(0, true), NOTHING);
        dueBehind(x, "reason of nothing", NOTHING, NOTHING);
        x.cart(5);
        x.grease(0);
        dueReason(x, "reason of grease", 11, 0);
        dueBehind(x, "reason of grease", NOTHING, NOTHING);
        Check.say(x, "swap 0 44");
        dueReason(x, "reason of a text", 12, 0);
        dueBehind(x, "reason of a text", 7, 4);
        x.swap(0, 2, 2);
        dueReason(x, "reason of the next", 7, 2);
        dueBehind(x, "reason of the next", NOTHING, NOTHING);
        Check.say(x, "grease 0");
        x.premise(5);
        x.clear();
        dueReason(x, "reason stays", 12, 0);
        dueBehind(x, "reason stays", 11, 0);
        Check.due("reason bad after", x.reason(2, true), BAD);
    }

    private static void eachReason() {
        CartArguments x = weighed();
        x.premise(2);
        x.load(3, 0, 2);
        Check.say(x, "load 3 02");
        dueBehind(x, "reason 2 by text", 2, 0);
        Check.say(x, "unload 0;load 0 05");
        dueReason(x, "reason 4 by text", 12, 1);
        dueBehind(x, "reason 4 by text", 4, 1);
        Check.say(x, "unload 1");
        dueReason(x, "reason 5 by text", 12, 0);
        dueBehind(x, "reason 5 by text", 5, 4);
        Check.say(x, "premise 3;load 4 05");
        dueReason(x, "reason 4", 12, 1);
        dueBehind(x, "reason 4", 4, 1);
        Check.say(x, "premise 3;unload 4");
        dueBehind(x, "reason 6", 6, 4);
        Check.say(x, "trip 0 1");
        dueBehind(x, "reason 9", 9, 3);
        Check.say(x, "cart 5;trip 1 1");
        dueBehind(x, "reason 8", 8, 0);
        Check.say(x, "road 1 1 1;road 1 1 1;road 1 1 1;road 1 1 1");
        dueReason(x, "reason 1", 12, 3);
        dueBehind(x, "reason 1", 1, 5);
    }

    private static void thingOf() {
        CartArguments x = weighed();
        x.premise(3);
        int[][] due = {{0, 4, 0, 0}, {0, 9, 0, 5}, {1, 10, 0, 6}, {0, 3, NOTHING, NOTHING}};
        for (int thing = 0; thing < 4; thing++) {
            for (int what = 0; what < 4; what++) {
                Check.due("thingOf(" + thing + ", " + what + ")", x.thingOf(thing, what), due[thing][what]);
            }
        }
        Check.due("thingOf what 4", x.thingOf(0, 4), BAD);
        Check.due("thingOf what -1", x.thingOf(0, -1), BAD);
        Check.due("thingOf thing 4", x.thingOf(4, 0), NONE);
        Check.due("thingOf thing -1 what 9", x.thingOf(-1, 9), NONE);
    }

    private static void cartOf() {
        CartArguments x = weighed();
        x.cart(17);
        x.trip(0, 0);
        int[][] due = {{6, 2, 13, 2, 23, 1, 50, 2}, {17, 0, 0, NOTHING, 0, 0, 0, 0}};
        for (int cart = 0; cart < 2; cart++) {
            for (int what = 0; what < 8; what++) {
                Check.due("cartOf(" + cart + ", " + what + ")", x.cartOf(cart, what), due[cart][what]);
            }
        }
        Check.due("cartOf what 8", x.cartOf(0, 8), BAD);
        Check.due("cartOf what -1", x.cartOf(0, -1), BAD);
        Check.due("cartOf cart 2", x.cartOf(2, 0), NONE);
        Check.due("cartOf cart -1 what 9", x.cartOf(-1, 9), NONE);
        x.unload(2);
        x.unload(1);
        Check.due("cartOf rear axle alone is quiet", x.cartOf(0, 7), 0);
        Check.due("cartOf premises", x.cartOf(0, 1), 1);
        CartArguments y = new CartArguments();
        y.premise(6);
        y.cart(6);
        y.load(0, 0, 0);
        Check.due("cartOf load just as the strength", y.cartOf(0, 7), 0);
        y.premise(1);
        y.load(1, 0, 4);
        Check.due("cartOf load a bit more", y.cartOf(0, 7), 1);
    }

    private static void at() {
        CartArguments x = weighed();
        int[] due = {0, NOTHING, NOTHING, NOTHING, NOTHING, 1, 2};
        for (int place = 0; place <= 6; place++) {
            Check.due("at(0, " + place + ")", x.at(0, place), due[place]);
        }
        Check.due("at place 7", x.at(0, 7), BAD);
        Check.due("at place -1", x.at(0, -1), BAD);
        Check.due("at cart 1", x.at(1, 0), NONE);
        Check.due("at cart -1 place 9", x.at(-1, 9), NONE);
        x.cart(1);
        Check.due("at the other cart", x.at(1, 0), NOTHING);
    }

    private static void roadOf() {
        CartArguments x = weighed();
        x.trip(0, 0);
        x.trip(0, 0);
        int[][] due = {{30, 5, 2, 2}, {22, 1, 0, 0}};
        for (int road = 0; road < 2; road++) {
            for (int what = 0; what < 4; what++) {
                Check.due("roadOf(" + road + ", " + what + ")", x.roadOf(road, what), due[road][what]);
            }
        }
        Check.due("roadOf what 4", x.roadOf(0, 4), BAD);
        Check.due("roadOf what -1", x.roadOf(0, -1), BAD);
        Check.due("roadOf road 2", x.roadOf(2, 0), NONE);
        Check.due("roadOf road -1 what 9", x.roadOf(-1, 9), NONE);
    }

    private static void tenths() {
        CartArguments x = weighed();
        for (int round = 0; round < 2; round++) {
            boolean isRear = round == 1;
            int due = isRear ? 140 : 90;
            Check.due("tenths " + isRear, x.tenths(0, isRear), due);
            Check.due("tenthsAgain " + isRear, x.tenthsAgain(0, isRear), due);
            Check.due("tenths no cart", x.tenths(1, isRear), NONE);
            Check.due("tenthsAgain no cart", x.tenthsAgain(1, isRear), NONE);
            Check.due("tenths cart -1", x.tenths(-1, isRear), NONE);
            Check.due("tenthsAgain cart -1", x.tenthsAgain(-1, isRear), NONE);
        }
        x.swap(0, 0, 2);
        Check.due("tenths place 2 front", x.tenths(0, false), 4 * 2 * 3 + 50);
        Check.due("tenths place 2 rear", x.tenths(0, true), 4 * 2 * 2 + 90 + 50);
        Check.due("tenthsAgain place 2 front", x.tenthsAgain(0, false), 74);
        x.cart(2);
        Check.due("tenths of an empty cart", x.tenths(1, true), 0);
        Check.due("tenthsAgain of an empty cart", x.tenthsAgain(1, false), 0);
    }

    private static void axle() {
        CartArguments x = weighed();
        x.premise(1);
        x.load(3, 0, 2);
        Check.dueExactly("axle front", x.axle(0, false), 96.0f / 10.0f);
        Check.dueExactly("axle rear", x.axle(0, true), 144.0f / 10.0f);
        Check.dueExactly("axle no cart", x.axle(1, true), -1.0f);
        Check.dueExactly("axle cart -1", x.axle(-1, false), -1.0f);
        x.cart(1);
        Check.dueExactly("axle of an empty cart", x.axle(1, false), 0.0f);
    }

    private static void wear() {
        CartArguments x = weighed();
        x.cart(50);
        Check.dueExactly("wear at first", x.wear(0, false), 0.0f);
        Check.dueExactly("wear no cart", x.wear(2, true), -1.0f);
        Check.dueExactly("wear cart -1", x.wear(-1, false), -1.0f);
        x.premise(7);
        x.conclusion(3);
        x.load(3, 1, 1);
        x.load(4, 1, 6);
        x.trip(1, 0);
        Check.dueExactly("wear front, quiet", x.wear(1, false), 71.0f / 10.0f * 5.0f * 0.001f);
        Check.dueExactly("wear rear, quiet", x.wear(1, true), 29.0f / 10.0f * 5.0f * 0.001f);
        Check.dueExactly("wear of the other cart", x.wear(0, true), 0.0f);
        x.trip(1, 1);
        Check.dueExactly("wear added", x.wear(1, false),
                71.0f / 10.0f * 5.0f * 0.001f + 71.0f / 10.0f * 1.0f * 0.001f);
    }

    private static void tolls() {
        CartArguments x = weighed();
        x.road(99, 1, 7);
        x.unload(2);
        x.conclusion(3);
        x.load(3, 0, 6);
        float due = 0.0f;
        Check.dueExactly("tolls at first", x.tolls(), due);
        for (int trips = 0; trips < 5; trips++) {
            x.trip(0, trips % 3);
            due = due + 3.0f * (float) new int[] {2, 0, 7}[trips % 3] * 0.25f;
            Check.dueExactly("tolls after " + trips, x.tolls(), due);
        }
        x.grease(0);
        Check.dueExactly("tolls after grease", x.tolls(), due);
    }

    private static void best() {
        CartArguments x = weighed();
        Check.due("best(0)", x.best(0), 6);
        Check.due("bestAgain(0)", x.bestAgain(0), 6);
        Check.due("best leaves places", x.at(0, 5), 1);
        Check.due("best no cart", x.best(1), NONE);
        Check.due("bestAgain no cart", x.bestAgain(1), NONE);
        Check.due("best cart -1", x.best(-1), NONE);
        Check.due("bestAgain cart -1", x.bestAgain(-1), NONE);
        x.cart(3);
        Check.due("best of an empty cart", x.best(1), 0);
        Check.due("bestAgain of an empty cart", x.bestAgain(1), 0);
        x.premise(7);
        x.load(3, 1, 0);
        Check.due("best of one", x.best(1), 14);
        Check.due("bestAgain of one", x.bestAgain(1), 14);
        bestOf(new int[] {9, 9}, 0);
        bestOf(new int[] {9, 9, 9}, 18);
        bestOf(new int[] {9, 9, 9, 9, 9, 9}, 0);
        bestOf(new int[] {9, 9, 9, 9, 9, 1}, 16);
        bestOf(new int[] {1, 1, 1, 1, 1, 1}, 0);
        bestOf(new int[] {1, 2, 3, 4, 5, 6}, 2);
        bestOf(new int[] {9, 1, 1, 1, 1}, 6);
    }

    private static void bestOf(int[] weights, int due) {
        CartArguments x = new CartArguments();
        x.cart(20);
        for (int index = 0; index < weights.length; index++) {
            x.premise(weights[index]);
            x.load(index, 0, index);
        }
        String of = java.util.Arrays.toString(weights);
        Check.due("best " + of, x.best(0), due);
        Check.due("bestAgain " + of, x.bestAgain(0), due);
        Check.due("isWell " + of, x.isWell(), 1);
    }

    private static void could() {
        CartArguments x = weighed();
        Check.due("could no cart", x.could(1, 0), NONE);
        Check.due("could no road", x.could(0, 2), NONE);
        Check.due("could cart -1", x.could(-1, 0), NONE);
        Check.due("could road -1", x.could(0, -1), NONE);
        Check.due("could(0, 0)", x.could(0, 0), 8);
        Check.due("could over the limit", x.could(0, 1), 0);
        Check.due("could changes nothing", x.account(9), 0);
        for (int left = 8; left > 0; left--) {
            Check.due("could then", x.could(0, 0), left);
            Check.due("trip then", x.trip(0, 0) >= 0 ? 1 : 0, 1);
        }
        Check.due("could worn out", x.could(0, 0), 0);
        Check.due("trip worn out", x.trip(0, 0), REFUSED);
        x.grease(0);
        x.unload(2);
        Check.due("could without a conclusion", x.could(0, 0), 0);
        CartArguments y = new CartArguments();
        y.cart(60);
        y.premise(1);
        y.conclusion(1);
        y.road(2, 1, 1);
        y.road(2, 9, 1);
        y.load(0, 0, 2);
        y.load(1, 0, 6);
        Check.due("could at most", y.could(0, 0), 99);
        Check.due("could at most, nine miles", y.could(0, 1), 99);
    }

    private static void takes() {
        CartArguments x = weighed();
        Check.due("takes(0)", x.takes(0), 1);
        x.road(23, 1, 1);
        x.road(1, 1, 1);
        x.road(99, 1, 1);
        Check.due("takes of five", x.takes(0), 1 + 4 + 16);
        Check.due("takes no cart", x.takes(1), NONE);
        Check.due("takes cart -1", x.takes(-1), NONE);
        x.cart(4);
        Check.due("takes of an empty cart", x.takes(1), 31);
        Check.due("takes without roads", takesWithoutRoads(), 0);
    }

    private static int takesWithoutRoads() {
        CartArguments x = new CartArguments();
        x.cart(1);
        return x.takes(0);
    }

    private static void cheapest() {
        CartArguments x = weighed();
        Check.due("cheapest(0)", x.cheapest(0), 0);
        x.road(99, 6, 1);
        Check.due("cheapest by rate", x.cheapest(0), 2);
        x.road(99, 5, 1);
        Check.due("cheapest by miles", x.cheapest(0), 3);
        x.road(99, 5, 1);
        Check.due("cheapest, the lowest", x.cheapest(0), 3);
        Check.due("cheapest no cart", x.cheapest(1), NONE);
        Check.due("cheapest cart -1", x.cheapest(-1), NONE);
        while (x.trip(0, 0) >= 0) {
            Check.due("cheapest goes on", x.cheapest(0), 3);
        }
        Check.due("cheapest of a worn out cart", x.cheapest(0), 3);
        x.unload(2);
        Check.due("cheapest without a conclusion", x.cheapest(0), NOTHING);
        CartArguments y = new CartArguments();
        y.premise(5);
        y.conclusion(5);
        y.cart(5);
        y.load(0, 0, 0);
        y.load(1, 0, 6);
        Check.due("cheapest without roads", y.cheapest(0), NOTHING);
        y.road(9, 1, 0);
        Check.due("cheapest over all limits", y.cheapest(0), NOTHING);
        y.road(10, 9, 9);
        Check.due("cheapest at the limit", y.cheapest(0), 1);
    }

    private static void heaviest() {
        CartArguments x = new CartArguments();
        Check.due("heaviest without things", x.heaviest(0), NONE);
        x.conclusion(5);
        x.premise(5);
        x.premise(9);
        x.conclusion(54);
        x.premise(5);
        x.conclusion(5);
        int[] due = {3, 2, 1, 4, 0, 5};
        for (int place = 0; place < due.length; place++) {
            Check.due("heaviest(" + place + ")", x.heaviest(place), due[place]);
        }
        Check.due("heaviest(6)", x.heaviest(6), NONE);
        Check.due("heaviest(-1)", x.heaviest(-1), NONE);
    }

    private static void fullest() {
        CartArguments x = new CartArguments();
        Check.due("fullest without carts", x.fullest(0), NONE);
        for (int cart = 0; cart < 4; cart++) {
            x.cart(9);
        }
        for (int place = 0; place < 4; place++) {
            Check.due("fullest of empty carts", x.fullest(place), place);
        }
        x.premise(5);
        x.premise(5);
        x.premise(6);
        x.load(0, 1, 0);
        x.load(1, 2, 2);
        x.load(2, 3, 5);
        int[] due = {3, 2, 1, 0};
        for (int place = 0; place < 4; place++) {
            Check.due("fullest(" + place + ")", x.fullest(place), due[place]);
        }
        x.swap(2, 2, 5);
        Check.due("fullest, the lowest", x.fullest(1), 1);
        Check.due("fullest(4)", x.fullest(4), NONE);
        Check.due("fullest(-1)", x.fullest(-1), NONE);
    }

    private static void write() {
        CartArguments x = new CartArguments();
        Check.due("write no cart", x.write(0), NONE);
        x.cart(9);
        x.cart(9);
        Check.due("write of an empty cart", x.write(1), 14);
        Check.dueText("write of an empty cart", Check.line(x), "1[.,.,.,.,.,.]");
        Check.due("write cart 2", x.write(2), NONE);
        Check.due("write cart -1", x.write(-1), NONE);
        Check.dueText("write bad keeps the line", Check.line(x), "1[.,.,.,.,.,.]");
        for (int thing = 0; thing < 12; thing++) {
            Check.due("write thing", thing == 1 ? x.conclusion(2) : x.premise(3), thing);
        }
        x.load(2, 0, 0);
        x.load(5, 0, 3);
        x.load(1, 0, 6);
        Check.due("write as in the document", x.write(0), 16);
        Check.dueText("write as in the document", Check.line(x), "0[2,.,.,5,.,.]^1");
        x.load(10, 1, 5);
        x.load(11, 1, 0);
        Check.due("write of long numbers", x.write(1), 16);
        Check.dueText("write of long numbers", Check.line(x), "1[11,.,.,.,.,10]");
    }

    private static void writeRoads() {
        CartArguments x = new CartArguments();
        x.cart(1);
        x.write(0);
        Check.due("writeRoads without roads", x.writeRoads(), 0);
        Check.dueText("writeRoads without roads", Check.line(x), "");
        x.road(30, 5, 2);
        Check.due("writeRoads of one", x.writeRoads(), 6);
        x.road(9, 1, 0);
        Check.due("writeRoads as in the document", x.writeRoads(), 12);
        Check.dueText("writeRoads as in the document", Check.line(x), "30*5:2 9*1:0");
        x.road(99, 9, 9);
        x.road(1, 1, 1);
        x.road(10, 2, 3);
        Check.due("writeRoads of five", x.writeRoads(), 32);
        Check.dueText("writeRoads of five", Check.line(x), "30*5:2 9*1:0 99*9:9 1*1:1 10*2:3");
    }

    private static void written() {
        CartArguments x = weighed();
        Check.due("written at first", x.written(0), NONE);
        x.write(0);
        Check.due("written(0)", x.written(0), '0');
        Check.due("written(1)", x.written(1), '[');
        Check.due("written(15)", x.written(15), '2');
        Check.due("written(16)", x.written(16), NONE);
        Check.due("written(-1)", x.written(-1), NONE);
        x.unload(2);
        x.undo();
        x.clear();
        Check.dueText("written stays", Check.line(x), "0[0,.,.,.,.,1]^2");
        x.writeRoads();
        Check.due("written in its place", x.written(0), NONE);
    }

    private static void isWell() {
        CartArguments x = weighed();
        Check.due("isWell()", x.isWell(), 1);
        x.cart(3);
        x.premise(8);
        x.premise(1);
        x.load(3, 1, 2);
        x.load(4, 1, 3);
        Check.due("isWell of two carts", x.isWell(), 1);
    }

    private static void meanWeight() {
        CartArguments x = new CartArguments();
        Check.dueExactly("meanWeight without things", x.meanWeight(), 0.0);
        x.premise(4);
        x.premise(9);
        x.conclusion(10);
        Check.dueExactly("meanWeight of three", x.meanWeight(), 23.0 / 3.0);
        x.conclusion(54);
        Check.dueExactly("meanWeight of four", x.meanWeight(), 19.25);
    }

    private static void creakShare() {
        CartArguments x = weighed();
        Check.dueExactly("creakShare of one cart", x.creakShare(), 1.0f);
        x.cart(60);
        Check.dueExactly("creakShare of two carts", x.creakShare(), 0.5f);
        x.cart(60);
        Check.dueExactly("creakShare of three carts", x.creakShare(), 2.0f / 6.0f);
        x.unload(2);
        Check.dueExactly("creakShare of one axle", x.creakShare(), 1.0f / 6.0f);
    }

    private static void account() {
        CartArguments x = weighed();
        x.cart(1);
        x.premise(3);
        x.premise(5);
        x.load(3, 1, 0);
        while (x.trip(0, 0) >= 0) {
            Check.due("account goes on", x.account(0), 5);
        }
        Check.type(x, "cart");
        dueAccounts(x, "account", 5, 4, 1, 4, 2, 2, 26, 3, 1, 8, 40, 4, 8);
        Check.due("account(13)", x.account(13), BAD);
        Check.due("account(-1)", x.account(-1), BAD);
    }

    private static void undo() {
        CartArguments x = new CartArguments();
        Check.due("undo of nothing", x.undo(), NOTHING);
        for (int number = 0; number < 10; number++) {
            x.premise(1 + number % 9);
            Check.due("changes", x.account(12), Math.min(8, number + 1));
        }
        for (int left = 7; left >= 0; left--) {
            Check.due("undo", x.undo(), left);
            Check.due("undo things", x.account(0), left + 2);
        }
        Check.due("undo of no more", x.undo(), NOTHING);
        Check.due("undo leaves two", x.account(0), 2);
        x.premise(5);
        Check.due("undo after a change", x.undo(), 0);
        x.cart(5);
        for (int round = 0; round < 20; round++) {
            x.swap(0, 0, 1);
            x.swap(0, 9, 9);
            x.swap(0, 2, 2);
        }
        Check.due("undo after many", x.undo(), 7);
        Check.due("undo of refused ones", x.account(12), 7);
    }

    private static void undoEachChange() {
        CartArguments x = weighed();
        x.trip(0, 0);
        float front = x.wear(0, false);
        x.grease(0);
        Check.due("undo grease", x.undo(), 7);
        Check.dueExactly("undo grease wear", x.wear(0, false), front);
        Check.due("undo trip", x.undo(), 6);
        Check.dueExactly("undo trip wear", x.wear(0, true), 0.0f);
        Check.dueExactly("undo trip tolls", x.tolls(), 0.0f);
        dueAccounts(x, "undo trip", 3, 2, 1, 3, 1, 2, 23, 2, 0, 0, 0, 0, 6);
        Check.due("undo trip of the road", x.roadOf(0, 3), 0);
        Check.due("undo load", x.undo(), 5);
        Check.due("undo load top", x.at(0, 6), NOTHING);
        x.swap(0, 0, 1);
        x.undo();
        Check.due("undo swap", x.at(0, 0), 0);
        x.unload(1);
        x.undo();
        Check.due("undo unload", x.at(0, 5), 1);
        x.undo();
        x.undo();
        x.undo();
        Check.due("undo road", x.account(5), 1);
        x.undo();
        Check.due("undo roads", x.account(5), 0);
        x.undo();
        Check.due("undo cart", x.account(4), 0);
        Check.due("undo no more", x.undo(), NOTHING);
        Check.due("undo things stay", x.account(0), 3);
    }

    private static void save() {
        CartArguments x = weighed();
        Check.due("save()", x.save(), 3);
        Check.due("save keeps the changes", x.account(12), 8);
        x.premise(5);
        Check.due("save again", x.save(), 4);
        x.clear();
        Check.due("save of the second", x.restore(), 4);
        x.clear();
        Check.due("save of nothing", x.save(), 0);
        x.premise(5);
        Check.due("restore of nothing saved in it", x.restore(), 0);
        Check.due("restored empty", x.account(0), 0);
    }

    private static void restore() {
        CartArguments x = weighed();
        x.trip(0, 0);
        Check.due("restore of nothing", x.restore(), NOTHING);
        Check.due("restore of nothing leaves the changes", x.account(12), 8);
        x.save();
        float rear = x.wear(0, true);
        Check.say(x, "oad");
        Check.type(x, "cart");
        x.grease(0);
        x.unload(2);
        x.premise(1);
        x.cart(2);
        x.road(1, 2, 3);
        x.swap(0, 0, 4);
        x.swap(0, 1, 1);
        x.write(0);
        for (int round = 0; round < 2; round++) {
            Check.due("restore()", x.restore(), 3);
            Check.due("restore undo", x.undo(), NOTHING);
            dueAccounts(x, "restore", 3, 2, 1, 3, 1, 2, 23, 2, 0, 1, 5, 4, 0);
            Check.dueExactly("restore wear", x.wear(0, true), rear);
            Check.dueExactly("restore tolls", x.tolls(), 5.0f);
            Check.due("restore place", x.at(0, 0), 0);
            Check.due("restore top", x.at(0, 6), 2);
            Check.due("restore strength", x.cartOf(0, 0), 6);
            Check.due("restore road", x.roadOf(1, 0), 22);
            dueReason(x, "restore", 7, 1);
            Check.due("restore fault", x.fault(), 0);
            Check.dueText("restore line", Check.line(x), "0[.,.,.,.,0,1]");
            x.clear();
            x.premise(9);
        }
    }

    private static void wildNumbers() {
        CartArguments x = weighed();
        for (int wild : WILD) {
            Check.due("wild premise", x.premise(wild), BAD);
            Check.due("wild load", x.load(wild, wild, wild), NONE);
            Check.due("wild place", x.load(0, 0, wild), BAD);
            Check.due("wild at", x.at(0, wild), BAD);
            Check.due("wild heaviest", x.heaviest(wild), NONE);
            Check.due("wild written", x.written(wild), NONE);
            int great = -1 - wild > 12 ? -1 - wild : Integer.MAX_VALUE;
            Check.due("great conclusion", x.conclusion(great), BAD);
            Check.due("great cart", x.cart(great), BAD);
            Check.due("great trip", x.trip(0, great), NONE);
            Check.due("great takes", x.takes(great), NONE);
            Check.due("great fullest", x.fullest(great), NONE);
            Check.due("great account", x.account(great), BAD);
        }
        Check.due("wild numbers change nothing", x.isWell() + x.account(0), 4);
    }
}
