/**
 * A weighbridge for arguments on carts. ../shared/DOC.md says what each call answers; LANGUAGE.md
 * says which part of Java stands here.
 */
public final class CartArguments {
    public static final int NONE = -1;
    public static final int BAD = -2;
    public static final int REFUSED = -3;
    public static final int NOTHING = -4;

    private static final int MOST_THINGS = 12;
    private static final int MOST_CARTS = 4;
    private static final int MOST_ROADS = 5;
    private static final int MOST_INPUT = 60;
    private static final int MOST_UNDO = 8;
    private static final int MOST_TRIPS_TOLD = 99;

    private static final int MOST_PREMISE_WEIGHT = 9;
    private static final int MOST_CONCLUSION_WEIGHT = 54;
    private static final int MOST_STRENGTH = 60;
    private static final int MOST_LIMIT = 99;
    private static final int MOST_MILES = 9;
    private static final int MOST_RATE = 9;

    private static final int PREMISE_KIND = 0;
    private static final int CONCLUSION_KIND = 1;
    private static final int PREMISE_PLACES = 6;
    private static final int LAST_PLACE = 5;
    private static final int TOP = 6;

    private static final int NO_ROOM = 1;
    private static final int ON_A_CART = 2;
    private static final int WRONG_PLACE = 3;
    private static final int PLACE_TAKEN = 4;
    private static final int TOO_HEAVY_CONCLUSION = 5;
    private static final int ON_NO_CART = 6;
    private static final int ONE_PLACE = 7;
    private static final int NO_CONCLUSION = 8;
    private static final int OVER_LIMIT = 9;
    private static final int WORN_OUT = 10;
    private static final int NO_WEAR = 11;
    private static final int COMMAND_REFUSED = 12;
    private static final int COMMAND_FAILED = 13;

    private static final int LEAST_CODE = 32;
    private static final int MOST_CODE = 126;

    private final Yard yard;
    private final Yard saved;
    private boolean isSaved;
    private final History history;
    private final Reasons reasons;
    private final Scale scale;
    private final Works works;
    private final Balance balance;
    private final Orders orders;
    private final Input input;
    private int latestFault;
    private final StringBuilder line;

    public CartArguments() {
        yard = new Yard();
        saved = new Yard();
        isSaved = false;
        history = new History();
        reasons = new Reasons();
        scale = new Scale(yard);
        works = new Works(yard, scale, reasons);
        balance = new Balance(yard);
        orders = new Orders(yard, scale);
        input = new Input();
        latestFault = NOTHING;
        line = new StringBuilder();
    }

    public int clear() {
        int before = yard.things;
        yard.makeEmpty();
        history.forget();
        return before;
    }

    public int append(char character) {
        return input.add(character);
    }

    public int premise(int weight) {
        history.begin(yard);
        return history.settle(works.addThing(PREMISE_KIND, weight, MOST_PREMISE_WEIGHT));
    }

    public int conclusion(int weight) {
        history.begin(yard);
        return history.settle(works.addThing(CONCLUSION_KIND, weight, MOST_CONCLUSION_WEIGHT));
    }

    public int cart(int strength) {
        history.begin(yard);
        return history.settle(works.addCart(strength));
    }

    public int road(int limit, int miles, int rate) {
        history.begin(yard);
        return history.settle(works.addRoad(limit, miles, rate));
    }

    public int load(int thing, int cart, int place) {
        history.begin(yard);
        return history.settle(works.putOn(thing, cart, place));
    }

    public int unload(int thing) {
        history.begin(yard);
        return history.settle(works.takeOff(thing));
    }

    public int swap(int cart, int one, int other) {
        history.begin(yard);
        return history.settle(works.exchange(cart, one, other));
    }

    public int trip(int cart, int road) {
        history.begin(yard);
        return history.settle(works.drive(cart, road));
    }

    public int grease(int cart) {
        history.begin(yard);
        return history.settle(works.greaseAxles(cart));
    }

    public int read() {
        int position = input.findFault();
        int answer = BAD;
        if (position == NONE) {
            answer = carryOutAll();
        } else {
            latestFault = position;
        }
        input.makeEmpty();
        return answer;
    }

    /** Carries out a text without a fault; the yard is as before if a command fails. */
    private int carryOutAll() {
        history.begin(yard);
        int position = 0;
        int number = 0;
        while (number < MOST_INPUT && input.takeCommand(position)) {
            int answer = carryOut(input.command, input.numbers[0], input.numbers[1], input.numbers[2]);
            if (answer < 0) {
                history.takeBack(yard);
                return answer == REFUSED ? reasons.refuseText(number) : reasons.refuse(COMMAND_FAILED, number);
            }
            position = input.stop + 1;
            number++;
        }
        return history.settle(number);
    }

    private int carryOut(Command command, int first, int second, int third) {
        switch (command) {
            case PREMISE:
                return works.addThing(PREMISE_KIND, first, MOST_PREMISE_WEIGHT);
            case CONCLUSION:
                return works.addThing(CONCLUSION_KIND, first, MOST_CONCLUSION_WEIGHT);
            case CART:
                return works.addCart(first);
            case ROAD:
                return works.addRoad(first, second, third);
            case LOAD:
                return works.putOn(first, second, third);
            case UNLOAD:
                return works.takeOff(first);
            case SWAP:
                return works.exchange(first, second, third);
            case TRIP:
                return works.drive(first, second);
            case GREASE:
                return works.greaseAxles(first);
            default:
                return BAD;
        }
    }

    public int fault() {
        return latestFault;
    }

    public int reason(int depth, boolean isDetail) {
        if (depth == 0) {
            return isDetail ? reasons.detail : reasons.reason;
        }
        if (depth == 1) {
            return isDetail ? reasons.detailBehind : reasons.reasonBehind;
        }
        return BAD;
    }

    public int thingOf(int thing, int what) {
        if (!yard.isThing(thing)) {
            return NONE;
        }
        switch (what) {
            case 0:
                return yard.kinds[thing];
            case 1:
                return yard.weights[thing];
            case 2:
                return yard.cartsUnder[thing];
            case 3:
                return yard.places[thing];
            default:
                return BAD;
        }
    }

    public int cartOf(int cart, int what) {
        if (!yard.isCart(cart)) {
            return NONE;
        }
        switch (what) {
            case 0:
                return yard.strengths[cart];
            case 1:
                return yard.premisesOn(cart);
            case 2:
                return yard.weightOn(cart, PREMISE_KIND);
            case 3:
                return yard.thingAt(cart, TOP);
            case 4:
                return yard.weightOfAllOn(cart);
            case 5:
                return yard.cartTrips[cart];
            case 6:
                return scale.imbalance(cart);
            case 7:
                return scale.creakingAxles(cart);
            default:
                return BAD;
        }
    }

    public int at(int cart, int place) {
        if (!yard.isCart(cart)) {
            return NONE;
        }
        if (place < 0 || place > TOP) {
            return BAD;
        }
        return yard.thingAt(cart, place);
    }

    public int roadOf(int road, int what) {
        if (!yard.isRoad(road)) {
            return NONE;
        }
        switch (what) {
            case 0:
                return yard.limits[road];
            case 1:
                return yard.miles[road];
            case 2:
                return yard.rates[road];
            case 3:
                return yard.roadTrips[road];
            default:
                return BAD;
        }
    }

    public int tenths(int cart, boolean isRear) {
        return yard.isCart(cart) ? scale.tenthsByThings(cart, isRear) : NONE;
    }

    public int tenthsAgain(int cart, boolean isRear) {
        return yard.isCart(cart) ? scale.tenthsByOther(cart, isRear) : NONE;
    }

    public float axle(int cart, boolean isRear) {
        return yard.isCart(cart) ? scale.axleLoad(cart, isRear) : -1.0f;
    }

    public float wear(int cart, boolean isRear) {
        return yard.isCart(cart) ? yard.wearOf(cart, isRear) : -1.0f;
    }

    public float tolls() {
        return yard.tollsPaid;
    }

    public int best(int cart) {
        return yard.isCart(cart) ? balance.leastByWays(cart) : NONE;
    }

    public int bestAgain(int cart) {
        return yard.isCart(cart) ? balance.leastBySets(cart) : NONE;
    }

    public int could(int cart, int road) {
        if (!yard.isCart(cart) || !yard.isRoad(road)) {
            return NONE;
        }
        return works.tripsLeft(cart, road);
    }

    public int takes(int cart) {
        if (!yard.isCart(cart)) {
            return NONE;
        }
        int set = 0;
        for (int road = 0; road < yard.roads; road++) {
            if (yard.isWithinLimit(cart, road)) {
                set |= 1 << road;
            }
        }
        return set;
    }

    public int cheapest(int cart) {
        return yard.isCart(cart) ? orders.cheapestRoad(cart) : NONE;
    }

    public int heaviest(int place) {
        return orders.thingInOrder(place);
    }

    public int fullest(int place) {
        return orders.cartInOrder(place);
    }

    public int write(int cart) {
        if (!yard.isCart(cart)) {
            return NONE;
        }
        line.setLength(0);
        line.append(cart).append('[');
        for (int place = 0; place < PREMISE_PLACES; place++) {
            if (place > 0) {
                line.append(',');
            }
            int thing = yard.thingAt(cart, place);
            if (thing == NOTHING) {
                line.append('.');
            } else {
                line.append(thing);
            }
        }
        line.append(']');
        int conclusion = yard.thingAt(cart, TOP);
        if (conclusion != NOTHING) {
            line.append('^').append(conclusion);
        }
        return line.length();
    }

    public int writeRoads() {
        line.setLength(0);
        for (int road = 0; road < yard.roads; road++) {
            if (road > 0) {
                line.append(' ');
            }
            line.append(yard.limits[road]).append('*').append(yard.miles[road]);
            line.append(':').append(yard.rates[road]);
        }
        return line.length();
    }

    public int written(int index) {
        return index >= 0 && index < line.length() ? line.charAt(index) : NONE;
    }

    public int isWell() {
        for (int cart = 0; cart < yard.carts; cart++) {
            if (!isCartWell(cart)) {
                return 0;
            }
        }
        return isAnyThingTwice() ? 0 : 1;
    }

    private boolean isCartWell(int cart) {
        return scale.tenthsByThings(cart, false) == scale.tenthsByOther(cart, false)
                && scale.tenthsByThings(cart, true) == scale.tenthsByOther(cart, true)
                && balance.leastByWays(cart) == balance.leastBySets(cart)
                && yard.weightOn(cart, CONCLUSION_KIND) <= yard.weightOn(cart, PREMISE_KIND);
    }

    private boolean isAnyThingTwice() {
        int seen = 0;
        for (int cart = 0; cart < yard.carts; cart++) {
            for (int place = 0; place <= TOP; place++) {
                int thing = yard.thingAt(cart, place);
                if (thing != NOTHING) {
                    if ((seen >> thing & 1) != 0) {
                        return true;
                    }
                    seen |= 1 << thing;
                }
            }
        }
        return false;
    }

    public double meanWeight() {
        if (yard.things <= 0) {
            return 0.0;
        }
        int sum = 0;
        for (int thing = 0; thing < yard.things; thing++) {
            sum += yard.weights[thing];
        }
        return (double) sum / (double) yard.things;
    }

    public float creakShare() {
        if (yard.carts <= 0) {
            return 0.0f;
        }
        return (float) scale.allCreakingAxles() / (float) (2 * yard.carts);
    }

    public int account(int what) {
        switch (what) {
            case 0:
                return yard.things;
            case 1:
                return yard.thingsOfKind(PREMISE_KIND);
            case 2:
                return yard.thingsOfKind(CONCLUSION_KIND);
            case 3:
                return yard.thingsOnCarts();
            case 4:
                return yard.carts;
            case 5:
                return yard.roads;
            case 6:
                return yard.weightOnCarts();
            case 7:
                return scale.allCreakingAxles();
            case 8:
                return yard.allWornOutAxles();
            case 9:
                return yard.tripsSoFar();
            case 10:
                return yard.milesMade;
            case 11:
                return input.length;
            case 12:
                return history.count;
            default:
                return BAD;
        }
    }

    public int undo() {
        return history.stepBack(yard);
    }

    public int save() {
        saved.copyFrom(yard);
        isSaved = true;
        return yard.things;
    }

    public int restore() {
        if (!isSaved) {
            return NOTHING;
        }
        yard.copyFrom(saved);
        history.forget();
        return yard.things;
    }

    /** All that changes can change, held in rows so that it is copied without making objects. */
    private static final class Yard {
        int things;
        final int[] kinds;
        final int[] weights;
        final int[] cartsUnder;
        final int[] places;
        int carts;
        final int[] strengths;
        final float[] wears;
        final int[] cartTrips;
        int roads;
        final int[] limits;
        final int[] miles;
        final int[] rates;
        final int[] roadTrips;
        float tollsPaid;
        int milesMade;

        Yard() {
            kinds = new int[MOST_THINGS];
            weights = new int[MOST_THINGS];
            cartsUnder = new int[MOST_THINGS];
            places = new int[MOST_THINGS];
            strengths = new int[MOST_CARTS];
            wears = new float[2 * MOST_CARTS];
            cartTrips = new int[MOST_CARTS];
            limits = new int[MOST_ROADS];
            miles = new int[MOST_ROADS];
            rates = new int[MOST_ROADS];
            roadTrips = new int[MOST_ROADS];
        }

        /** The rows need no emptying: who adds a thing, a cart or a road sets all of its numbers. */
        void makeEmpty() {
            things = 0;
            carts = 0;
            roads = 0;
            tollsPaid = 0.0f;
            milesMade = 0;
        }

        void copyFrom(Yard other) {
            things = other.things;
            System.arraycopy(other.kinds, 0, kinds, 0, MOST_THINGS);
            System.arraycopy(other.weights, 0, weights, 0, MOST_THINGS);
            System.arraycopy(other.cartsUnder, 0, cartsUnder, 0, MOST_THINGS);
            System.arraycopy(other.places, 0, places, 0, MOST_THINGS);
            carts = other.carts;
            System.arraycopy(other.strengths, 0, strengths, 0, MOST_CARTS);
            System.arraycopy(other.wears, 0, wears, 0, 2 * MOST_CARTS);
            System.arraycopy(other.cartTrips, 0, cartTrips, 0, MOST_CARTS);
            roads = other.roads;
            System.arraycopy(other.limits, 0, limits, 0, MOST_ROADS);
            System.arraycopy(other.miles, 0, miles, 0, MOST_ROADS);
            System.arraycopy(other.rates, 0, rates, 0, MOST_ROADS);
            System.arraycopy(other.roadTrips, 0, roadTrips, 0, MOST_ROADS);
            tollsPaid = other.tollsPaid;
            milesMade = other.milesMade;
        }

        boolean isThing(int thing) {
            return thing >= 0 && thing < things;
        }

        boolean isCart(int cart) {
            return cart >= 0 && cart < carts;
        }

        boolean isRoad(int road) {
            return road >= 0 && road < roads;
        }

        int thingAt(int cart, int place) {
            for (int thing = 0; thing < things; thing++) {
                if (cartsUnder[thing] == cart && places[thing] == place) {
                    return thing;
                }
            }
            return NOTHING;
        }

        int premisesOn(int cart) {
            int count = 0;
            for (int thing = 0; thing < things; thing++) {
                if (cartsUnder[thing] == cart && kinds[thing] == PREMISE_KIND) {
                    count++;
                }
            }
            return count;
        }

        int weightOn(int cart, int kind) {
            int sum = 0;
            for (int thing = 0; thing < things; thing++) {
                if (cartsUnder[thing] == cart && kinds[thing] == kind) {
                    sum += weights[thing];
                }
            }
            return sum;
        }

        int weightOfAllOn(int cart) {
            return weightOn(cart, PREMISE_KIND) + weightOn(cart, CONCLUSION_KIND);
        }

        int weightOnCarts() {
            int sum = 0;
            for (int cart = 0; cart < carts; cart++) {
                sum += weightOfAllOn(cart);
            }
            return sum;
        }

        int thingsOfKind(int kind) {
            int count = 0;
            for (int thing = 0; thing < things; thing++) {
                if (kinds[thing] == kind) {
                    count++;
                }
            }
            return count;
        }

        int thingsOnCarts() {
            int count = 0;
            for (int thing = 0; thing < things; thing++) {
                if (cartsUnder[thing] != NOTHING) {
                    count++;
                }
            }
            return count;
        }

        boolean isWithinLimit(int cart, int road) {
            return weightOfAllOn(cart) <= limits[road];
        }

        float wearOf(int cart, boolean isRear) {
            return wears[wearIndex(cart, isRear)];
        }

        void setWear(int cart, boolean isRear, float wear) {
            wears[wearIndex(cart, isRear)] = wear;
        }

        private static int wearIndex(int cart, boolean isRear) {
            return isRear ? 2 * cart + 1 : 2 * cart;
        }

        boolean isWornOut(int cart, boolean isRear) {
            return wearOf(cart, isRear) >= 1.0f;
        }

        int wornOutAxles(int cart) {
            return (isWornOut(cart, false) ? 1 : 0) + (isWornOut(cart, true) ? 1 : 0);
        }

        int allWornOutAxles() {
            int count = 0;
            for (int cart = 0; cart < carts; cart++) {
                count += wornOutAxles(cart);
            }
            return count;
        }

        int tripsSoFar() {
            int count = 0;
            for (int cart = 0; cart < carts; cart++) {
                count += cartTrips[cart];
            }
            return count;
        }
    }

    /** What the axles of a cart bear. */
    private static final class Scale {
        private static final int TOP_ARM = 5;

        private final Yard yard;

        Scale(Yard yard) {
            this.yard = yard;
        }

        int tenthsByThings(int cart, boolean isRear) {
            int sum = 0;
            for (int thing = 0; thing < yard.things; thing++) {
                if (yard.cartsUnder[thing] == cart) {
                    int arm = TOP_ARM;
                    if (yard.kinds[thing] == PREMISE_KIND) {
                        arm = 2 * (isRear ? yard.places[thing] : LAST_PLACE - yard.places[thing]);
                    }
                    sum += yard.weights[thing] * arm;
                }
            }
            return sum;
        }

        int tenthsByOther(int cart, boolean isRear) {
            return 10 * yard.weightOfAllOn(cart) - tenthsByThings(cart, !isRear);
        }

        float axleLoad(int cart, boolean isRear) {
            return (float) tenthsByThings(cart, isRear) / 10.0f;
        }

        private boolean isTooMuch(int cart, float load) {
            return load > (float) yard.strengths[cart];
        }

        int creakingAxles(int cart) {
            return (isTooMuch(cart, axleLoad(cart, false)) ? 1 : 0) + (isTooMuch(cart, axleLoad(cart, true)) ? 1 : 0);
        }

        int allCreakingAxles() {
            int count = 0;
            for (int cart = 0; cart < yard.carts; cart++) {
                count += creakingAxles(cart);
            }
            return count;
        }

        int imbalance(int cart) {
            return Math.abs(tenthsByThings(cart, false) - tenthsByThings(cart, true));
        }

        float tollOf(int cart, int road) {
            return (float) yard.weightOn(cart, CONCLUSION_KIND) * (float) yard.rates[road] * 0.25f;
        }

        float wearOfTrip(int cart, int road, boolean isRear) {
            float load = axleLoad(cart, isRear);
            float added = load * (float) yard.miles[road] * 0.001f;
            return isTooMuch(cart, load) ? added * 2.0f : added;
        }
    }

    /** Why something was refused last, and the reason that stands behind that one. */
    private static final class Reasons {
        int reason;
        int detail;
        int reasonBehind;
        int detailBehind;

        Reasons() {
            reason = NOTHING;
            detail = NOTHING;
            reasonBehind = NOTHING;
            detailBehind = NOTHING;
        }

        int refuse(int newReason, int newDetail) {
            reason = newReason;
            detail = newDetail;
            reasonBehind = NOTHING;
            detailBehind = NOTHING;
            return REFUSED;
        }

        /** The command has just been refused, so that its reason is the latest one. */
        int refuseText(int number) {
            int commandReason = reason;
            int commandDetail = detail;
            refuse(COMMAND_REFUSED, number);
            reasonBehind = commandReason;
            detailBehind = commandDetail;
            return REFUSED;
        }
    }

    /** The changes themselves, alike for calls and for commands; who calls keeps what can be undone. */
    private static final class Works {
        private final Yard yard;
        private final Scale scale;
        private final Reasons reasons;

        Works(Yard yard, Scale scale, Reasons reasons) {
            this.yard = yard;
            this.scale = scale;
            this.reasons = reasons;
        }

        int addThing(int kind, int weight, int mostWeight) {
            if (weight < 1 || weight > mostWeight) {
                return BAD;
            }
            int thing = yard.things;
            if (thing >= MOST_THINGS) {
                return reasons.refuse(NO_ROOM, MOST_THINGS);
            }
            yard.kinds[thing] = kind;
            yard.weights[thing] = weight;
            yard.cartsUnder[thing] = NOTHING;
            yard.places[thing] = NOTHING;
            yard.things = thing + 1;
            return thing;
        }

        int addCart(int strength) {
            if (strength < 1 || strength > MOST_STRENGTH) {
                return BAD;
            }
            int cart = yard.carts;
            if (cart >= MOST_CARTS) {
                return reasons.refuse(NO_ROOM, MOST_CARTS);
            }
            yard.strengths[cart] = strength;
            yard.cartTrips[cart] = 0;
            yard.setWear(cart, false, 0.0f);
            yard.setWear(cart, true, 0.0f);
            yard.carts = cart + 1;
            return cart;
        }

        int addRoad(int limit, int miles, int rate) {
            if (limit < 1 || limit > MOST_LIMIT || miles < 1 || miles > MOST_MILES || rate < 0 || rate > MOST_RATE) {
                return BAD;
            }
            int road = yard.roads;
            if (road >= MOST_ROADS) {
                return reasons.refuse(NO_ROOM, MOST_ROADS);
            }
            yard.limits[road] = limit;
            yard.miles[road] = miles;
            yard.rates[road] = rate;
            yard.roadTrips[road] = 0;
            yard.roads = road + 1;
            return road;
        }

        int putOn(int thing, int cart, int place) {
            if (!yard.isThing(thing) || !yard.isCart(cart)) {
                return NONE;
            }
            if (place < 0 || place > TOP) {
                return BAD;
            }
            if (yard.cartsUnder[thing] != NOTHING) {
                return reasons.refuse(ON_A_CART, yard.cartsUnder[thing]);
            }
            boolean isConclusion = yard.kinds[thing] == CONCLUSION_KIND;
            if (isConclusion != (place == TOP)) {
                return reasons.refuse(WRONG_PLACE, place);
            }
            int there = yard.thingAt(cart, place);
            if (there != NOTHING) {
                return reasons.refuse(PLACE_TAKEN, there);
            }
            int excess = yard.weights[thing] - yard.weightOn(cart, PREMISE_KIND);
            if (isConclusion && excess > 0) {
                return reasons.refuse(TOO_HEAVY_CONCLUSION, excess);
            }
            yard.cartsUnder[thing] = cart;
            yard.places[thing] = place;
            return yard.weightOfAllOn(cart);
        }

        int takeOff(int thing) {
            if (!yard.isThing(thing)) {
                return NONE;
            }
            int cart = yard.cartsUnder[thing];
            if (cart == NOTHING) {
                return reasons.refuse(ON_NO_CART, thing);
            }
            int left = yard.weightOn(cart, PREMISE_KIND) - yard.weights[thing];
            int excess = yard.weightOn(cart, CONCLUSION_KIND) - left;
            if (yard.kinds[thing] == PREMISE_KIND && excess > 0) {
                return reasons.refuse(TOO_HEAVY_CONCLUSION, excess);
            }
            yard.cartsUnder[thing] = NOTHING;
            yard.places[thing] = NOTHING;
            return cart;
        }

        int exchange(int cart, int one, int other) {
            if (!yard.isCart(cart)) {
                return NONE;
            }
            if (one < 0 || one > LAST_PLACE || other < 0 || other > LAST_PLACE) {
                return BAD;
            }
            if (one == other) {
                return reasons.refuse(ONE_PLACE, one);
            }
            int thingAtOne = yard.thingAt(cart, one);
            int thingAtOther = yard.thingAt(cart, other);
            if (thingAtOne != NOTHING) {
                yard.places[thingAtOne] = other;
            }
            if (thingAtOther != NOTHING) {
                yard.places[thingAtOther] = one;
            }
            return scale.imbalance(cart);
        }

        int drive(int cart, int road) {
            if (!yard.isCart(cart) || !yard.isRoad(road)) {
                return NONE;
            }
            if (yard.thingAt(cart, TOP) == NOTHING) {
                return reasons.refuse(NO_CONCLUSION, yard.premisesOn(cart));
            }
            if (!yard.isWithinLimit(cart, road)) {
                return reasons.refuse(OVER_LIMIT, yard.weightOfAllOn(cart) - yard.limits[road]);
            }
            if (yard.wornOutAxles(cart) > 0) {
                return reasons.refuse(WORN_OUT, yard.isWornOut(cart, false) ? 0 : 1);
            }
            yard.tollsPaid = yard.tollsPaid + scale.tollOf(cart, road);
            yard.setWear(cart, false, yard.wearOf(cart, false) + scale.wearOfTrip(cart, road, false));
            yard.setWear(cart, true, yard.wearOf(cart, true) + scale.wearOfTrip(cart, road, true));
            yard.cartTrips[cart]++;
            yard.roadTrips[road]++;
            yard.milesMade += yard.miles[road];
            return scale.creakingAxles(cart);
        }

        int greaseAxles(int cart) {
            if (!yard.isCart(cart)) {
                return NONE;
            }
            if (yard.wearOf(cart, false) <= 0.0f && yard.wearOf(cart, true) <= 0.0f) {
                return reasons.refuse(NO_WEAR, cart);
            }
            int wornOut = yard.wornOutAxles(cart);
            yard.setWear(cart, false, 0.0f);
            yard.setWear(cart, true, 0.0f);
            return wornOut;
        }

        /** The wears are added up one trip after the other, as a product would be rounded otherwise. */
        int tripsLeft(int cart, int road) {
            if (yard.thingAt(cart, TOP) == NOTHING || !yard.isWithinLimit(cart, road)) {
                return 0;
            }
            float front = yard.wearOf(cart, false);
            float rear = yard.wearOf(cart, true);
            float frontAdded = scale.wearOfTrip(cart, road, false);
            float rearAdded = scale.wearOfTrip(cart, road, true);
            int trips = 0;
            while (trips < MOST_TRIPS_TOLD && front < 1.0f && rear < 1.0f) {
                front = front + frontAdded;
                rear = rear + rearAdded;
                trips++;
            }
            return trips;
        }
    }

    /** The yards before the latest changes, in a ring with one slot more than can be undone. */
    private static final class History {
        private final Yard[] slots;
        private int next;
        int count;

        History() {
            slots = new Yard[MOST_UNDO + 1];
            for (int slot = 0; slot <= MOST_UNDO; slot++) {
                slots[slot] = new Yard();
            }
        }

        /** The spare slot takes the yard, so that a change that fails costs none of the others. */
        void begin(Yard yard) {
            slots[next].copyFrom(yard);
        }

        int settle(int answer) {
            if (answer >= 0) {
                next = next < MOST_UNDO ? next + 1 : 0;
                count = Math.min(count + 1, MOST_UNDO);
            }
            return answer;
        }

        void takeBack(Yard yard) {
            yard.copyFrom(slots[next]);
        }

        int stepBack(Yard yard) {
            if (count <= 0) {
                return NOTHING;
            }
            next = next > 0 ? next - 1 : MOST_UNDO;
            count--;
            yard.copyFrom(slots[next]);
            return count;
        }

        void forget() {
            count = 0;
        }
    }

    /** The least imbalance of a cart, in two ways that share no more than the weights of its premises. */
    private static final class Balance {
        private static final int SETS = 1 << PREMISE_PLACES;
        private static final int MOST_SUM = MOST_PREMISE_WEIGHT * (5 + 4 + 3 + 2 + 1);
        private static final int NOT_YET = 1000000;

        private final Yard yard;
        private final int[] weights;
        private int count;
        private final long[] low;
        private final long[] middle;
        private final long[] high;

        Balance(Yard yard) {
            this.yard = yard;
            weights = new int[PREMISE_PLACES];
            low = new long[SETS];
            middle = new long[SETS];
            high = new long[SETS];
        }

        private void gather(int cart) {
            count = 0;
            for (int thing = 0; thing < yard.things; thing++) {
                boolean isCounted = yard.cartsUnder[thing] == cart && yard.kinds[thing] == PREMISE_KIND;
                if (isCounted && count < PREMISE_PLACES) {
                    weights[count] = yard.weights[thing];
                    count++;
                }
            }
        }

        int leastByWays(int cart) {
            gather(cart);
            return leastFrom(weights, count, 0, 0, 0);
        }

        /** The lean is the front tenths less the rear ones of the premises that have a place. */
        private static int leastFrom(int[] weights, int count, int premise, int taken, int lean) {
            if (premise >= count || premise >= weights.length) {
                return Math.abs(lean);
            }
            int least = NOT_YET;
            for (int place = 0; place < PREMISE_PLACES; place++) {
                if ((taken >> place & 1) == 0) {
                    int newLean = lean + weights[premise] * 2 * (LAST_PLACE - 2 * place);
                    least = Math.min(least, leastFrom(weights, count, premise + 1, taken | 1 << place, newLean));
                }
            }
            return least;
        }

        /**
         * Bit s of the row of a set tells that its premises, at unlike places so far, can have the sum s
         * of weight times what is left to 5 of the place, which is half of their front tenths.
         */
        int leastBySets(int cart) {
            gather(cart);
            int sets = 1 << count;
            for (int set = 0; set < sets; set++) {
                low[set] = 0L;
                middle[set] = 0L;
                high[set] = 0L;
            }
            low[0] = 1L;
            for (int place = 0; place < PREMISE_PLACES; place++) {
                addPlace(place, sets);
            }
            return leastOfSums(sets - 1);
        }

        /** Greater sets come first, so that none of them finds a smaller one that has used this place. */
        private void addPlace(int place, int sets) {
            for (int set = sets - 1; set > 0; set--) {
                for (int premise = 0; premise < count; premise++) {
                    if ((set >> premise & 1) != 0) {
                        addShifted(set, set ^ 1 << premise, weights[premise] * (LAST_PLACE - place));
                    }
                }
            }
        }

        /** Shifts in two steps, as Java takes a shift by 64 for one by 0. */
        private void addShifted(int set, int from, int shift) {
            int rest = 63 - shift;
            high[set] |= high[from] << shift | middle[from] >>> 1 >>> rest;
            middle[set] |= middle[from] << shift | low[from] >>> 1 >>> rest;
            low[set] |= low[from] << shift;
        }

        private int leastOfSums(int set) {
            int weight = 0;
            for (int premise = 0; premise < count; premise++) {
                weight += weights[premise];
            }
            int least = NOT_YET;
            for (int sum = 0; sum <= MOST_SUM; sum++) {
                if (hasSum(set, sum)) {
                    least = Math.min(least, Math.abs(4 * sum - 10 * weight));
                }
            }
            return least;
        }

        private boolean hasSum(int set, int sum) {
            long word = sum < 64 ? low[set] : sum < 128 ? middle[set] : high[set];
            return (word >>> (sum & 63) & 1L) != 0L;
        }
    }

    /** Things, carts and roads by their ranks: who stands at a place has so many others ahead. */
    private static final class Orders {
        private final Yard yard;
        private final Scale scale;

        Orders(Yard yard, Scale scale) {
            this.yard = yard;
            this.scale = scale;
        }

        int thingInOrder(int place) {
            for (int thing = 0; thing < yard.things; thing++) {
                int ahead = 0;
                for (int other = 0; other < yard.things; other++) {
                    if (isThingAhead(other, thing)) {
                        ahead++;
                    }
                }
                if (ahead == place) {
                    return thing;
                }
            }
            return NONE;
        }

        private boolean isThingAhead(int one, int other) {
            if (yard.weights[one] != yard.weights[other]) {
                return yard.weights[one] > yard.weights[other];
            }
            if (yard.kinds[one] != yard.kinds[other]) {
                return yard.kinds[one] == PREMISE_KIND;
            }
            return one < other;
        }

        int cartInOrder(int place) {
            for (int cart = 0; cart < yard.carts; cart++) {
                int ahead = 0;
                for (int other = 0; other < yard.carts; other++) {
                    if (isCartAhead(other, cart)) {
                        ahead++;
                    }
                }
                if (ahead == place) {
                    return cart;
                }
            }
            return NONE;
        }

        private boolean isCartAhead(int one, int other) {
            int weightOfOne = yard.weightOfAllOn(one);
            int weightOfOther = yard.weightOfAllOn(other);
            if (weightOfOne != weightOfOther) {
                return weightOfOne > weightOfOther;
            }
            int imbalanceOfOne = scale.imbalance(one);
            int imbalanceOfOther = scale.imbalance(other);
            if (imbalanceOfOne != imbalanceOfOther) {
                return imbalanceOfOne < imbalanceOfOther;
            }
            return one < other;
        }

        int cheapestRoad(int cart) {
            if (yard.thingAt(cart, TOP) == NOTHING) {
                return NOTHING;
            }
            int cheapest = NOTHING;
            for (int road = 0; road < yard.roads; road++) {
                if (yard.isWithinLimit(cart, road) && (cheapest == NOTHING || isCheaper(cart, road, cheapest))) {
                    cheapest = road;
                }
            }
            return cheapest;
        }

        /** Alike roads are no cheaper, so that the lowest one stays. */
        private boolean isCheaper(int cart, int road, int other) {
            float toll = scale.tollOf(cart, road);
            float tollOfOther = scale.tollOf(cart, other);
            if (toll != tollOfOther) {
                return toll < tollOfOther;
            }
            return yard.miles[road] < yard.miles[other];
        }
    }

    /** A command by its form, in which '#' stands for a digit and '@' for a number. */
    private enum Command {
        PREMISE("premise #"),
        CONCLUSION("conclusion @"),
        CART("cart @"),
        ROAD("road @ # #"),
        LOAD("load @ ##"),
        UNLOAD("unload @"),
        SWAP("swap # ##"),
        TRIP("trip # #"),
        GREASE("grease #");

        final String form;

        Command(String form) {
            this.form = form;
        }
    }

    /** The input, and the command of it that was looked at last. */
    private static final class Input {
        private static final Command[] COMMANDS = Command.values();

        private final char[] signs;
        int length;
        Command command;
        final int[] numbers;
        int stop;

        Input() {
            signs = new char[MOST_INPUT];
            command = Command.PREMISE;
            numbers = new int[3];
        }

        int add(char sign) {
            if (sign < LEAST_CODE || sign > MOST_CODE || length >= MOST_INPUT) {
                return BAD;
            }
            signs[length] = sign;
            length++;
            return length;
        }

        void makeEmpty() {
            length = 0;
        }

        private int signAt(int index) {
            return index >= 0 && index < length ? signs[index] : NONE;
        }

        /** Tells the fault position of the text, NONE if it has no fault. */
        int findFault() {
            int position = 0;
            for (int commands = 0; commands < MOST_INPUT; commands++) {
                if (!takeCommand(position)) {
                    return stop;
                }
                if (stop >= length) {
                    return NONE;
                }
                if (signAt(stop) != ';') {
                    return stop;
                }
                position = stop + 1;
            }
            return position;
        }

        /** Stops behind the command at a position, or at the first sign that no command can have there. */
        boolean takeCommand(int position) {
            int furthest = position;
            for (Command each : COMMANDS) {
                if (takeForm(each.form, position)) {
                    command = each;
                    return true;
                }
                furthest = Math.max(furthest, stop);
            }
            stop = furthest;
            return false;
        }

        private boolean takeForm(String form, int position) {
            stop = position;
            int filled = 0;
            for (int index = 0; index < form.length(); index++) {
                char mark = form.charAt(index);
                if (mark != '#' && mark != '@') {
                    if (signAt(stop) != mark) {
                        return false;
                    }
                    stop++;
                } else {
                    if (!isDigit(stop)) {
                        return false;
                    }
                    int number = takeNumber(mark == '@');
                    if (filled < numbers.length) {
                        numbers[filled] = number;
                        filled++;
                    }
                }
            }
            return true;
        }

        private boolean isDigit(int index) {
            return signAt(index) >= '0' && signAt(index) <= '9';
        }

        private int takeNumber(boolean canBeLonger) {
            int number = signAt(stop) - '0';
            stop++;
            if (canBeLonger && isDigit(stop)) {
                number = number * 10 + signAt(stop) - '0';
                stop++;
            }
            return number;
        }
    }
}
